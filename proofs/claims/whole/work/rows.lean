section
-- ===== PART A: goes FIRST, ahead of the names: the tables' words, and 'selects' of the private methods out of them =====
/-- a private method of a class that the tables say can be made, by its rows of tables_1 -/
def lw_okq (q : MethodName × Nat) : Prop := (q.1.cls ≠ "java/lang/invoke/MethodHandle" ∧ q.1.cls ≠ "java/lang/invoke/VarHandle") ∧ Cond.instantiable q.1.cls q.2 ∈ tables_1 ∧ Cond.privateMethod q.1 ∈ tables_1 ∧ Cond.instanceMethod q.1 ∈ tables_1
theorem lw_p0 : lw_okq (⟨"TillOptimists$Clerk", "startOver", "()V"⟩, 11) := ⟨⟨by decide +kernel, by decide +kernel⟩, List.mem_of_getElem? (i := 30) (by decide +kernel), List.mem_of_getElem? (i := 36) (by decide +kernel), List.mem_of_getElem? (i := 37) (by decide +kernel)⟩
theorem lw_p1 : lw_okq (⟨"TillOptimists$Shop", "become", "(LTillOptimists$Shop;)V"⟩, 9) := ⟨⟨by decide +kernel, by decide +kernel⟩, List.mem_of_getElem? (i := 23) (by decide +kernel), List.mem_of_getElem? (i := 132) (by decide +kernel), List.mem_of_getElem? (i := 133) (by decide +kernel)⟩
theorem lw_p2 : lw_okq (⟨"TillOptimists$Clerk", "become", "(LTillOptimists$Clerk;)V"⟩, 11) := ⟨⟨by decide +kernel, by decide +kernel⟩, List.mem_of_getElem? (i := 30) (by decide +kernel), List.mem_of_getElem? (i := 136) (by decide +kernel), List.mem_of_getElem? (i := 137) (by decide +kernel)⟩
theorem lw_p3 : lw_okq (⟨"TillOptimists$Shop", "isAnyAtWork", "()Z"⟩, 9) := ⟨⟨by decide +kernel, by decide +kernel⟩, List.mem_of_getElem? (i := 23) (by decide +kernel), List.mem_of_getElem? (i := 140) (by decide +kernel), List.mem_of_getElem? (i := 141) (by decide +kernel)⟩
theorem lw_p4 : lw_okq (⟨"TillOptimists$Clerk", "isAtWork", "()Z"⟩, 11) := ⟨⟨by decide +kernel, by decide +kernel⟩, List.mem_of_getElem? (i := 30) (by decide +kernel), List.mem_of_getElem? (i := 144) (by decide +kernel), List.mem_of_getElem? (i := 145) (by decide +kernel)⟩
theorem lw_p5 : lw_okq (⟨"TillOptimists$Shop", "goRound", "()I"⟩, 9) := ⟨⟨by decide +kernel, by decide +kernel⟩, List.mem_of_getElem? (i := 23) (by decide +kernel), List.mem_of_getElem? (i := 148) (by decide +kernel), List.mem_of_getElem? (i := 149) (by decide +kernel)⟩
theorem lw_p6 : lw_okq (⟨"TillOptimists$Shop", "takeTurn", "(I)I"⟩, 9) := ⟨⟨by decide +kernel, by decide +kernel⟩, List.mem_of_getElem? (i := 23) (by decide +kernel), List.mem_of_getElem? (i := 152) (by decide +kernel), List.mem_of_getElem? (i := 153) (by decide +kernel)⟩
theorem lw_p7 : lw_okq (⟨"TillOptimists$Shop", "doStep", "(LTillOptimists$Clerk;)V"⟩, 9) := ⟨⟨by decide +kernel, by decide +kernel⟩, List.mem_of_getElem? (i := 23) (by decide +kernel), List.mem_of_getElem? (i := 156) (by decide +kernel), List.mem_of_getElem? (i := 157) (by decide +kernel)⟩
theorem lw_p8 : lw_okq (⟨"TillOptimists$Shop", "read", "(LTillOptimists$Clerk;I)I"⟩, 9) := ⟨⟨by decide +kernel, by decide +kernel⟩, List.mem_of_getElem? (i := 23) (by decide +kernel), List.mem_of_getElem? (i := 160) (by decide +kernel), List.mem_of_getElem? (i := 161) (by decide +kernel)⟩
theorem lw_p9 : lw_okq (⟨"TillOptimists$Clerk", "hasWritten", "(I)Z"⟩, 11) := ⟨⟨by decide +kernel, by decide +kernel⟩, List.mem_of_getElem? (i := 30) (by decide +kernel), List.mem_of_getElem? (i := 164) (by decide +kernel), List.mem_of_getElem? (i := 165) (by decide +kernel)⟩
theorem lw_p10 : lw_okq (⟨"TillOptimists$Clerk", "remembers", "(I)Z"⟩, 11) := ⟨⟨by decide +kernel, by decide +kernel⟩, List.mem_of_getElem? (i := 30) (by decide +kernel), List.mem_of_getElem? (i := 168) (by decide +kernel), List.mem_of_getElem? (i := 169) (by decide +kernel)⟩
theorem lw_p11 : lw_okq (⟨"TillOptimists$Shop", "carry", "(LTillOptimists$Clerk;III)V"⟩, 9) := ⟨⟨by decide +kernel, by decide +kernel⟩, List.mem_of_getElem? (i := 23) (by decide +kernel), List.mem_of_getElem? (i := 178) (by decide +kernel), List.mem_of_getElem? (i := 179) (by decide +kernel)⟩
theorem lw_p12 : lw_okq (⟨"TillOptimists$Shop", "isOutdated", "(LTillOptimists$Clerk;)Z"⟩, 9) := ⟨⟨by decide +kernel, by decide +kernel⟩, List.mem_of_getElem? (i := 23) (by decide +kernel), List.mem_of_getElem? (i := 182) (by decide +kernel), List.mem_of_getElem? (i := 183) (by decide +kernel)⟩
theorem lw_p13 : lw_okq (⟨"TillOptimists$Shop", "close", "(I)V"⟩, 9) := ⟨⟨by decide +kernel, by decide +kernel⟩, List.mem_of_getElem? (i := 23) (by decide +kernel), List.mem_of_getElem? (i := 187) (by decide +kernel), List.mem_of_getElem? (i := 188) (by decide +kernel)⟩
theorem lw_p14 : lw_okq (⟨"TillOptimists$Clerk", "countWritten", "()I"⟩, 11) := ⟨⟨by decide +kernel, by decide +kernel⟩, List.mem_of_getElem? (i := 30) (by decide +kernel), List.mem_of_getElem? (i := 191) (by decide +kernel), List.mem_of_getElem? (i := 192) (by decide +kernel)⟩
theorem lw_p15 : lw_okq (⟨"TillOptimists$Shop", "keepClosing", "(II)V"⟩, 9) := ⟨⟨by decide +kernel, by decide +kernel⟩, List.mem_of_getElem? (i := 23) (by decide +kernel), List.mem_of_getElem? (i := 196) (by decide +kernel), List.mem_of_getElem? (i := 197) (by decide +kernel)⟩
def lw_privs_1 : List (MethodName × Nat) := [(⟨"TillOptimists$Clerk", "startOver", "()V"⟩, 11), (⟨"TillOptimists$Shop", "become", "(LTillOptimists$Shop;)V"⟩, 9), (⟨"TillOptimists$Clerk", "become", "(LTillOptimists$Clerk;)V"⟩, 11), (⟨"TillOptimists$Shop", "isAnyAtWork", "()Z"⟩, 9), (⟨"TillOptimists$Clerk", "isAtWork", "()Z"⟩, 11), (⟨"TillOptimists$Shop", "goRound", "()I"⟩, 9), (⟨"TillOptimists$Shop", "takeTurn", "(I)I"⟩, 9), (⟨"TillOptimists$Shop", "doStep", "(LTillOptimists$Clerk;)V"⟩, 9), (⟨"TillOptimists$Shop", "read", "(LTillOptimists$Clerk;I)I"⟩, 9), (⟨"TillOptimists$Clerk", "hasWritten", "(I)Z"⟩, 11), (⟨"TillOptimists$Clerk", "remembers", "(I)Z"⟩, 11), (⟨"TillOptimists$Shop", "carry", "(LTillOptimists$Clerk;III)V"⟩, 9), (⟨"TillOptimists$Shop", "isOutdated", "(LTillOptimists$Clerk;)Z"⟩, 9), (⟨"TillOptimists$Shop", "close", "(I)V"⟩, 9), (⟨"TillOptimists$Clerk", "countWritten", "()I"⟩, 11), (⟨"TillOptimists$Shop", "keepClosing", "(II)V"⟩, 9)]
theorem lw_r1 : ∀ q ∈ lw_privs_1, lw_okq q := List.forall_mem_cons.mpr ⟨lw_p0, List.forall_mem_cons.mpr ⟨lw_p1, List.forall_mem_cons.mpr ⟨lw_p2, List.forall_mem_cons.mpr ⟨lw_p3, List.forall_mem_cons.mpr ⟨lw_p4, List.forall_mem_cons.mpr ⟨lw_p5, List.forall_mem_cons.mpr ⟨lw_p6, List.forall_mem_cons.mpr ⟨lw_p7, List.forall_mem_cons.mpr ⟨lw_p8, List.forall_mem_cons.mpr ⟨lw_p9, List.forall_mem_cons.mpr ⟨lw_p10, List.forall_mem_cons.mpr ⟨lw_p11, List.forall_mem_cons.mpr ⟨lw_p12, List.forall_mem_cons.mpr ⟨lw_p13, List.forall_mem_cons.mpr ⟨lw_p14, List.forall_mem_cons.mpr ⟨lw_p15, fun _ h => absurd h List.not_mem_nil⟩⟩⟩⟩⟩⟩⟩⟩⟩⟩⟩⟩⟩⟩⟩⟩
theorem lw_p16 : lw_okq (⟨"TillOptimists$Shop", "sumAmounts", "()I"⟩, 9) := ⟨⟨by decide +kernel, by decide +kernel⟩, List.mem_of_getElem? (i := 23) (by decide +kernel), List.mem_of_getElem? (i := 200) (by decide +kernel), List.mem_of_getElem? (i := 201) (by decide +kernel)⟩
theorem lw_p17 : lw_okq (⟨"TillOptimists$Shop", "countClashes", "(I)I"⟩, 9) := ⟨⟨by decide +kernel, by decide +kernel⟩, List.mem_of_getElem? (i := 23) (by decide +kernel), List.mem_of_getElem? (i := 209) (by decide +kernel), List.mem_of_getElem? (i := 210) (by decide +kernel)⟩
theorem lw_p18 : lw_okq (⟨"TillOptimists$Shop", "clashes", "(II)Z"⟩, 9) := ⟨⟨by decide +kernel, by decide +kernel⟩, List.mem_of_getElem? (i := 23) (by decide +kernel), List.mem_of_getElem? (i := 213) (by decide +kernel), List.mem_of_getElem? (i := 214) (by decide +kernel)⟩
theorem lw_p19 : lw_okq (⟨"TillOptimists$Shop", "sumLost", "()I"⟩, 9) := ⟨⟨by decide +kernel, by decide +kernel⟩, List.mem_of_getElem? (i := 23) (by decide +kernel), List.mem_of_getElem? (i := 221) (by decide +kernel), List.mem_of_getElem? (i := 222) (by decide +kernel)⟩
theorem lw_p20 : lw_okq (⟨"TillOptimists$Shop", "countFact", "(I)I"⟩, 9) := ⟨⟨by decide +kernel, by decide +kernel⟩, List.mem_of_getElem? (i := 23) (by decide +kernel), List.mem_of_getElem? (i := 231) (by decide +kernel), List.mem_of_getElem? (i := 232) (by decide +kernel)⟩
theorem lw_p21 : lw_okq (⟨"TillOptimists$Shop", "countDone", "()I"⟩, 9) := ⟨⟨by decide +kernel, by decide +kernel⟩, List.mem_of_getElem? (i := 23) (by decide +kernel), List.mem_of_getElem? (i := 235) (by decide +kernel), List.mem_of_getElem? (i := 236) (by decide +kernel)⟩
theorem lw_p22 : lw_okq (⟨"TillOptimists$Shop", "countLosers", "()I"⟩, 9) := ⟨⟨by decide +kernel, by decide +kernel⟩, List.mem_of_getElem? (i := 23) (by decide +kernel), List.mem_of_getElem? (i := 240) (by decide +kernel), List.mem_of_getElem? (i := 241) (by decide +kernel)⟩
theorem lw_p23 : lw_okq (⟨"TillOptimists$Shop", "wouldLose", "(LTillOptimists$Clerk;)Z"⟩, 9) := ⟨⟨by decide +kernel, by decide +kernel⟩, List.mem_of_getElem? (i := 23) (by decide +kernel), List.mem_of_getElem? (i := 244) (by decide +kernel), List.mem_of_getElem? (i := 245) (by decide +kernel)⟩
theorem lw_p24 : lw_okq (⟨"TillOptimists", "digestDrawers", "(J)J"⟩, 2) := ⟨⟨by decide +kernel, by decide +kernel⟩, List.mem_of_getElem? (i := 15) (by decide +kernel), List.mem_of_getElem? (i := 248) (by decide +kernel), List.mem_of_getElem? (i := 249) (by decide +kernel)⟩
theorem lw_p25 : lw_okq (⟨"TillOptimists$Shop", "drawerFact", "(II)I"⟩, 9) := ⟨⟨by decide +kernel, by decide +kernel⟩, List.mem_of_getElem? (i := 23) (by decide +kernel), List.mem_of_getElem? (i := 252) (by decide +kernel), List.mem_of_getElem? (i := 253) (by decide +kernel)⟩
theorem lw_p26 : lw_okq (⟨"TillOptimists$Shop", "countRememberers", "(I)I"⟩, 9) := ⟨⟨by decide +kernel, by decide +kernel⟩, List.mem_of_getElem? (i := 23) (by decide +kernel), List.mem_of_getElem? (i := 256) (by decide +kernel), List.mem_of_getElem? (i := 257) (by decide +kernel)⟩
theorem lw_p27 : lw_okq (⟨"TillOptimists$Shop", "countWriters", "(I)I"⟩, 9) := ⟨⟨by decide +kernel, by decide +kernel⟩, List.mem_of_getElem? (i := 23) (by decide +kernel), List.mem_of_getElem? (i := 260) (by decide +kernel), List.mem_of_getElem? (i := 261) (by decide +kernel)⟩
theorem lw_p28 : lw_okq (⟨"TillOptimists", "digestClerks", "(J)J"⟩, 2) := ⟨⟨by decide +kernel, by decide +kernel⟩, List.mem_of_getElem? (i := 15) (by decide +kernel), List.mem_of_getElem? (i := 264) (by decide +kernel), List.mem_of_getElem? (i := 265) (by decide +kernel)⟩
theorem lw_p29 : lw_okq (⟨"TillOptimists$Shop", "clerkFact", "(II)I"⟩, 9) := ⟨⟨by decide +kernel, by decide +kernel⟩, List.mem_of_getElem? (i := 23) (by decide +kernel), List.mem_of_getElem? (i := 268) (by decide +kernel), List.mem_of_getElem? (i := 269) (by decide +kernel)⟩
theorem lw_p30 : lw_okq (⟨"TillOptimists$Clerk", "countRemembered", "()I"⟩, 11) := ⟨⟨by decide +kernel, by decide +kernel⟩, List.mem_of_getElem? (i := 30) (by decide +kernel), List.mem_of_getElem? (i := 272) (by decide +kernel), List.mem_of_getElem? (i := 273) (by decide +kernel)⟩
theorem lw_p31 : lw_okq (⟨"TillOptimists$Clerk", "slipFact", "(II)I"⟩, 11) := ⟨⟨by decide +kernel, by decide +kernel⟩, List.mem_of_getElem? (i := 30) (by decide +kernel), List.mem_of_getElem? (i := 277) (by decide +kernel), List.mem_of_getElem? (i := 278) (by decide +kernel)⟩
def lw_privs_2 : List (MethodName × Nat) := [(⟨"TillOptimists$Shop", "sumAmounts", "()I"⟩, 9), (⟨"TillOptimists$Shop", "countClashes", "(I)I"⟩, 9), (⟨"TillOptimists$Shop", "clashes", "(II)Z"⟩, 9), (⟨"TillOptimists$Shop", "sumLost", "()I"⟩, 9), (⟨"TillOptimists$Shop", "countFact", "(I)I"⟩, 9), (⟨"TillOptimists$Shop", "countDone", "()I"⟩, 9), (⟨"TillOptimists$Shop", "countLosers", "()I"⟩, 9), (⟨"TillOptimists$Shop", "wouldLose", "(LTillOptimists$Clerk;)Z"⟩, 9), (⟨"TillOptimists", "digestDrawers", "(J)J"⟩, 2), (⟨"TillOptimists$Shop", "drawerFact", "(II)I"⟩, 9), (⟨"TillOptimists$Shop", "countRememberers", "(I)I"⟩, 9), (⟨"TillOptimists$Shop", "countWriters", "(I)I"⟩, 9), (⟨"TillOptimists", "digestClerks", "(J)J"⟩, 2), (⟨"TillOptimists$Shop", "clerkFact", "(II)I"⟩, 9), (⟨"TillOptimists$Clerk", "countRemembered", "()I"⟩, 11), (⟨"TillOptimists$Clerk", "slipFact", "(II)I"⟩, 11)]
theorem lw_r2 : ∀ q ∈ lw_privs_2, lw_okq q := List.forall_mem_cons.mpr ⟨lw_p16, List.forall_mem_cons.mpr ⟨lw_p17, List.forall_mem_cons.mpr ⟨lw_p18, List.forall_mem_cons.mpr ⟨lw_p19, List.forall_mem_cons.mpr ⟨lw_p20, List.forall_mem_cons.mpr ⟨lw_p21, List.forall_mem_cons.mpr ⟨lw_p22, List.forall_mem_cons.mpr ⟨lw_p23, List.forall_mem_cons.mpr ⟨lw_p24, List.forall_mem_cons.mpr ⟨lw_p25, List.forall_mem_cons.mpr ⟨lw_p26, List.forall_mem_cons.mpr ⟨lw_p27, List.forall_mem_cons.mpr ⟨lw_p28, List.forall_mem_cons.mpr ⟨lw_p29, List.forall_mem_cons.mpr ⟨lw_p30, List.forall_mem_cons.mpr ⟨lw_p31, fun _ h => absurd h List.not_mem_nil⟩⟩⟩⟩⟩⟩⟩⟩⟩⟩⟩⟩⟩⟩⟩⟩
theorem lw_p32 : lw_okq (⟨"TillOptimists", "digestClosings", "(J)J"⟩, 2) := ⟨⟨by decide +kernel, by decide +kernel⟩, List.mem_of_getElem? (i := 15) (by decide +kernel), List.mem_of_getElem? (i := 281) (by decide +kernel), List.mem_of_getElem? (i := 282) (by decide +kernel)⟩
theorem lw_p33 : lw_okq (⟨"TillOptimists$Shop", "closingsKept", "()I"⟩, 9) := ⟨⟨by decide +kernel, by decide +kernel⟩, List.mem_of_getElem? (i := 23) (by decide +kernel), List.mem_of_getElem? (i := 285) (by decide +kernel), List.mem_of_getElem? (i := 286) (by decide +kernel)⟩
theorem lw_p34 : lw_okq (⟨"TillOptimists$Shop", "closingFact", "(II)I"⟩, 9) := ⟨⟨by decide +kernel, by decide +kernel⟩, List.mem_of_getElem? (i := 23) (by decide +kernel), List.mem_of_getElem? (i := 289) (by decide +kernel), List.mem_of_getElem? (i := 290) (by decide +kernel)⟩
theorem lw_p35 : lw_okq (⟨"java/lang/Throwable", "fillInStackTrace", "(I)Ljava/lang/Throwable;"⟩, 6) := ⟨⟨by decide +kernel, by decide +kernel⟩, List.mem_of_getElem? (i := 339) (by decide +kernel), List.mem_of_getElem? (i := 337) (by decide +kernel), List.mem_of_getElem? (i := 338) (by decide +kernel)⟩
theorem lw_p36 : lw_okq (⟨"TillOptimists$Shop", "beginAnew", "(I)V"⟩, 9) := ⟨⟨by decide +kernel, by decide +kernel⟩, List.mem_of_getElem? (i := 23) (by decide +kernel), List.mem_of_getElem? (i := 369) (by decide +kernel), List.mem_of_getElem? (i := 370) (by decide +kernel)⟩
theorem lw_p37 : lw_okq (⟨"TillOptimists", "needDrawer", "(I)V"⟩, 2) := ⟨⟨by decide +kernel, by decide +kernel⟩, List.mem_of_getElem? (i := 15) (by decide +kernel), List.mem_of_getElem? (i := 381) (by decide +kernel), List.mem_of_getElem? (i := 382) (by decide +kernel)⟩
theorem lw_p38 : lw_okq (⟨"TillOptimists$Shop", "payByHand", "(II)V"⟩, 9) := ⟨⟨by decide +kernel, by decide +kernel⟩, List.mem_of_getElem? (i := 23) (by decide +kernel), List.mem_of_getElem? (i := 402) (by decide +kernel), List.mem_of_getElem? (i := 403) (by decide +kernel)⟩
theorem lw_p39 : lw_okq (⟨"TillOptimists$Shop", "addClerk", "()I"⟩, 9) := ⟨⟨by decide +kernel, by decide +kernel⟩, List.mem_of_getElem? (i := 23) (by decide +kernel), List.mem_of_getElem? (i := 430) (by decide +kernel), List.mem_of_getElem? (i := 431) (by decide +kernel)⟩
theorem lw_p40 : lw_okq (⟨"TillOptimists$Clerk", "beginAnew", "()V"⟩, 11) := ⟨⟨by decide +kernel, by decide +kernel⟩, List.mem_of_getElem? (i := 30) (by decide +kernel), List.mem_of_getElem? (i := 434) (by decide +kernel), List.mem_of_getElem? (i := 435) (by decide +kernel)⟩
theorem lw_p41 : lw_okq (⟨"TillOptimists", "needClerk", "(I)V"⟩, 2) := ⟨⟨by decide +kernel, by decide +kernel⟩, List.mem_of_getElem? (i := 15) (by decide +kernel), List.mem_of_getElem? (i := 445) (by decide +kernel), List.mem_of_getElem? (i := 446) (by decide +kernel)⟩
theorem lw_p42 : lw_okq (⟨"TillOptimists$Clerk", "addStep", "(IIII)V"⟩, 11) := ⟨⟨by decide +kernel, by decide +kernel⟩, List.mem_of_getElem? (i := 30) (by decide +kernel), List.mem_of_getElem? (i := 459) (by decide +kernel), List.mem_of_getElem? (i := 460) (by decide +kernel)⟩
theorem lw_p43 : lw_okq (⟨"TillOptimists$Shop", "goRounds", "(I)I"⟩, 9) := ⟨⟨by decide +kernel, by decide +kernel⟩, List.mem_of_getElem? (i := 23) (by decide +kernel), List.mem_of_getElem? (i := 491) (by decide +kernel), List.mem_of_getElem? (i := 492) (by decide +kernel)⟩
theorem lw_p44 : lw_okq (⟨"TillOptimists$Clerk", "stepFact", "(II)I"⟩, 11) := ⟨⟨by decide +kernel, by decide +kernel⟩, List.mem_of_getElem? (i := 30) (by decide +kernel), List.mem_of_getElem? (i := 525) (by decide +kernel), List.mem_of_getElem? (i := 526) (by decide +kernel)⟩
theorem lw_p45 : lw_okq (⟨"TillOptimists$Shop", "workAlone", "(I)V"⟩, 9) := ⟨⟨by decide +kernel, by decide +kernel⟩, List.mem_of_getElem? (i := 23) (by decide +kernel), List.mem_of_getElem? (i := 559) (by decide +kernel), List.mem_of_getElem? (i := 560) (by decide +kernel)⟩
theorem lw_p46 : lw_okq (⟨"TillOptimistsModel", "no", "(I)I"⟩, 3) := ⟨⟨by decide +kernel, by decide +kernel⟩, List.mem_of_getElem? (i := 570) (by decide +kernel), List.mem_of_getElem? (i := 668) (by decide +kernel), List.mem_of_getElem? (i := 669) (by decide +kernel)⟩
theorem lw_p47 : lw_okq (⟨"TillOptimistsModel", "isDrawer", "(I)Z"⟩, 3) := ⟨⟨by decide +kernel, by decide +kernel⟩, List.mem_of_getElem? (i := 570) (by decide +kernel), List.mem_of_getElem? (i := 680) (by decide +kernel), List.mem_of_getElem? (i := 681) (by decide +kernel)⟩
def lw_privs_3 : List (MethodName × Nat) := [(⟨"TillOptimists", "digestClosings", "(J)J"⟩, 2), (⟨"TillOptimists$Shop", "closingsKept", "()I"⟩, 9), (⟨"TillOptimists$Shop", "closingFact", "(II)I"⟩, 9), (⟨"java/lang/Throwable", "fillInStackTrace", "(I)Ljava/lang/Throwable;"⟩, 6), (⟨"TillOptimists$Shop", "beginAnew", "(I)V"⟩, 9), (⟨"TillOptimists", "needDrawer", "(I)V"⟩, 2), (⟨"TillOptimists$Shop", "payByHand", "(II)V"⟩, 9), (⟨"TillOptimists$Shop", "addClerk", "()I"⟩, 9), (⟨"TillOptimists$Clerk", "beginAnew", "()V"⟩, 11), (⟨"TillOptimists", "needClerk", "(I)V"⟩, 2), (⟨"TillOptimists$Clerk", "addStep", "(IIII)V"⟩, 11), (⟨"TillOptimists$Shop", "goRounds", "(I)I"⟩, 9), (⟨"TillOptimists$Clerk", "stepFact", "(II)I"⟩, 11), (⟨"TillOptimists$Shop", "workAlone", "(I)V"⟩, 9), (⟨"TillOptimistsModel", "no", "(I)I"⟩, 3), (⟨"TillOptimistsModel", "isDrawer", "(I)Z"⟩, 3)]
theorem lw_r3 : ∀ q ∈ lw_privs_3, lw_okq q := List.forall_mem_cons.mpr ⟨lw_p32, List.forall_mem_cons.mpr ⟨lw_p33, List.forall_mem_cons.mpr ⟨lw_p34, List.forall_mem_cons.mpr ⟨lw_p35, List.forall_mem_cons.mpr ⟨lw_p36, List.forall_mem_cons.mpr ⟨lw_p37, List.forall_mem_cons.mpr ⟨lw_p38, List.forall_mem_cons.mpr ⟨lw_p39, List.forall_mem_cons.mpr ⟨lw_p40, List.forall_mem_cons.mpr ⟨lw_p41, List.forall_mem_cons.mpr ⟨lw_p42, List.forall_mem_cons.mpr ⟨lw_p43, List.forall_mem_cons.mpr ⟨lw_p44, List.forall_mem_cons.mpr ⟨lw_p45, List.forall_mem_cons.mpr ⟨lw_p46, List.forall_mem_cons.mpr ⟨lw_p47, fun _ h => absurd h List.not_mem_nil⟩⟩⟩⟩⟩⟩⟩⟩⟩⟩⟩⟩⟩⟩⟩⟩
theorem lw_p48 : lw_okq (⟨"TillOptimistsModel$State", "record", "(II)V"⟩, 16) := ⟨⟨by decide +kernel, by decide +kernel⟩, List.mem_of_getElem? (i := 576) (by decide +kernel), List.mem_of_getElem? (i := 688) (by decide +kernel), List.mem_of_getElem? (i := 689) (by decide +kernel)⟩
theorem lw_p49 : lw_okq (⟨"TillOptimistsModel", "isClerk", "(I)Z"⟩, 3) := ⟨⟨by decide +kernel, by decide +kernel⟩, List.mem_of_getElem? (i := 570) (by decide +kernel), List.mem_of_getElem? (i := 712) (by decide +kernel), List.mem_of_getElem? (i := 713) (by decide +kernel)⟩
theorem lw_p50 : lw_okq (⟨"TillOptimistsModel$State", "act", "(II)V"⟩, 16) := ⟨⟨by decide +kernel, by decide +kernel⟩, List.mem_of_getElem? (i := 576) (by decide +kernel), List.mem_of_getElem? (i := 731) (by decide +kernel), List.mem_of_getElem? (i := 732) (by decide +kernel)⟩
theorem lw_p51 : lw_okq (⟨"TillOptimistsModel$State", "read", "(II)I"⟩, 16) := ⟨⟨by decide +kernel, by decide +kernel⟩, List.mem_of_getElem? (i := 576) (by decide +kernel), List.mem_of_getElem? (i := 739) (by decide +kernel), List.mem_of_getElem? (i := 740) (by decide +kernel)⟩
theorem lw_p52 : lw_okq (⟨"TillOptimistsModel$State", "write", "(III)V"⟩, 16) := ⟨⟨by decide +kernel, by decide +kernel⟩, List.mem_of_getElem? (i := 576) (by decide +kernel), List.mem_of_getElem? (i := 743) (by decide +kernel), List.mem_of_getElem? (i := 744) (by decide +kernel)⟩
theorem lw_p53 : lw_okq (⟨"TillOptimistsModel$State", "close", "(I)V"⟩, 16) := ⟨⟨by decide +kernel, by decide +kernel⟩, List.mem_of_getElem? (i := 576) (by decide +kernel), List.mem_of_getElem? (i := 755) (by decide +kernel), List.mem_of_getElem? (i := 756) (by decide +kernel)⟩
theorem lw_p54 : lw_okq (⟨"TillOptimistsModel", "drawerTold", "(II)I"⟩, 3) := ⟨⟨by decide +kernel, by decide +kernel⟩, List.mem_of_getElem? (i := 570) (by decide +kernel), List.mem_of_getElem? (i := 778) (by decide +kernel), List.mem_of_getElem? (i := 779) (by decide +kernel)⟩
theorem lw_p55 : lw_okq (⟨"TillOptimistsModel", "clerkTold", "(II)I"⟩, 3) := ⟨⟨by decide +kernel, by decide +kernel⟩, List.mem_of_getElem? (i := 570) (by decide +kernel), List.mem_of_getElem? (i := 786) (by decide +kernel), List.mem_of_getElem? (i := 787) (by decide +kernel)⟩
theorem lw_p56 : lw_okq (⟨"TillOptimistsModel", "many", "([II)I"⟩, 3) := ⟨⟨by decide +kernel, by decide +kernel⟩, List.mem_of_getElem? (i := 570) (by decide +kernel), List.mem_of_getElem? (i := 790) (by decide +kernel), List.mem_of_getElem? (i := 791) (by decide +kernel)⟩
theorem lw_p57 : lw_okq (⟨"TillOptimistsModel", "slipTold", "(III)I"⟩, 3) := ⟨⟨by decide +kernel, by decide +kernel⟩, List.mem_of_getElem? (i := 570) (by decide +kernel), List.mem_of_getElem? (i := 799) (by decide +kernel), List.mem_of_getElem? (i := 800) (by decide +kernel)⟩
theorem lw_p58 : lw_okq (⟨"TillOptimistsModel", "closingTold", "(II)I"⟩, 3) := ⟨⟨by decide +kernel, by decide +kernel⟩, List.mem_of_getElem? (i := 570) (by decide +kernel), List.mem_of_getElem? (i := 813) (by decide +kernel), List.mem_of_getElem? (i := 814) (by decide +kernel)⟩
theorem lw_p59 : lw_okq (⟨"TillOptimistsModel", "clashes", "(II)Z"⟩, 3) := ⟨⟨by decide +kernel, by decide +kernel⟩, List.mem_of_getElem? (i := 570) (by decide +kernel), List.mem_of_getElem? (i := 821) (by decide +kernel), List.mem_of_getElem? (i := 822) (by decide +kernel)⟩
theorem lw_p60 : lw_okq (⟨"TillOptimistsModel", "clashesOf", "(I)I"⟩, 3) := ⟨⟨by decide +kernel, by decide +kernel⟩, List.mem_of_getElem? (i := 570) (by decide +kernel), List.mem_of_getElem? (i := 861) (by decide +kernel), List.mem_of_getElem? (i := 862) (by decide +kernel)⟩
def lw_privs_4 : List (MethodName × Nat) := [(⟨"TillOptimistsModel$State", "record", "(II)V"⟩, 16), (⟨"TillOptimistsModel", "isClerk", "(I)Z"⟩, 3), (⟨"TillOptimistsModel$State", "act", "(II)V"⟩, 16), (⟨"TillOptimistsModel$State", "read", "(II)I"⟩, 16), (⟨"TillOptimistsModel$State", "write", "(III)V"⟩, 16), (⟨"TillOptimistsModel$State", "close", "(I)V"⟩, 16), (⟨"TillOptimistsModel", "drawerTold", "(II)I"⟩, 3), (⟨"TillOptimistsModel", "clerkTold", "(II)I"⟩, 3), (⟨"TillOptimistsModel", "many", "([II)I"⟩, 3), (⟨"TillOptimistsModel", "slipTold", "(III)I"⟩, 3), (⟨"TillOptimistsModel", "closingTold", "(II)I"⟩, 3), (⟨"TillOptimistsModel", "clashes", "(II)Z"⟩, 3), (⟨"TillOptimistsModel", "clashesOf", "(I)I"⟩, 3)]
theorem lw_r4 : ∀ q ∈ lw_privs_4, lw_okq q := List.forall_mem_cons.mpr ⟨lw_p48, List.forall_mem_cons.mpr ⟨lw_p49, List.forall_mem_cons.mpr ⟨lw_p50, List.forall_mem_cons.mpr ⟨lw_p51, List.forall_mem_cons.mpr ⟨lw_p52, List.forall_mem_cons.mpr ⟨lw_p53, List.forall_mem_cons.mpr ⟨lw_p54, List.forall_mem_cons.mpr ⟨lw_p55, List.forall_mem_cons.mpr ⟨lw_p56, List.forall_mem_cons.mpr ⟨lw_p57, List.forall_mem_cons.mpr ⟨lw_p58, List.forall_mem_cons.mpr ⟨lw_p59, List.forall_mem_cons.mpr ⟨lw_p60, fun _ h => absurd h List.not_mem_nil⟩⟩⟩⟩⟩⟩⟩⟩⟩⟩⟩⟩⟩
def lw_privs : List (MethodName × Nat) := lw_privs_1 ++ (lw_privs_2 ++ (lw_privs_3 ++ (lw_privs_4)))
def lw_tbl : List Cond := k2_sels lw_privs ++ tables_1
theorem lw_privs_ok : ∀ q ∈ lw_privs, lw_okq q := by
  show ∀ q ∈ lw_privs_1 ++ (lw_privs_2 ++ (lw_privs_3 ++ (lw_privs_4))), lw_okq q
  exact List.forall_mem_append.mpr ⟨lw_r1, List.forall_mem_append.mpr ⟨lw_r2, List.forall_mem_append.mpr ⟨lw_r3, lw_r4⟩⟩⟩
/-- the streams that the claim lets the run draw from -/
abbrev lw_cs : List Choice := [Jvm.Choice.named "NaN.bits"]
theorem lw_bits : nanBits ∈ lw_cs := by first | decide | exact List.mem_cons_self | simp [lw_cs, nanBits]
-- ===== end of PART A; then your names; then what follows =====
/-! ===== BEGIN words of one list among another's, by their places ===== -/
theorem goodIn_r {big : List Cond} (ws : List Cond) (ps : List Nat) (hp : ws = ps.filterMap (fun i => big[i]?)) (h : ws.all goodWord = true) : GoodIn big ws := by
  intro w hw
  have h1 := List.all_eq_true.mp h w hw
  rw [hp] at hw
  obtain ⟨i, -, hi⟩ := List.mem_filterMap.mp hw
  have hm : w ∈ big := by first | exact List.mem_of_getElem? hi | exact List.getElem?_mem hi
  exact ⟨hm, good_of_word h1⟩
theorem goodIn_app {big a b : List Cond} (ha : GoodIn big a) (hb : GoodIn big b) : GoodIn big (a ++ b) := fun w h => (List.mem_append.mp h).elim (ha w) (hb w)
theorem goodIn_ca {big a b : List Cond} {c : Cond} (ha : GoodIn big (c :: a)) (hb : GoodIn big b) : GoodIn big (c :: (a ++ b)) := fun w h => (List.mem_cons.mp h).elim (fun e => ha w (List.mem_cons.mpr (Or.inl e))) (fun h => (List.mem_append.mp h).elim (fun h => ha w (List.mem_cons.mpr (Or.inr h))) (hb w))
theorem goodIn_sub {big ws : List Cond} (hm : ∀ w ∈ ws, w ∈ big) (h : ws.all goodWord = true) : GoodIn big ws := fun w hw => ⟨hm w hw, good_of_word (List.all_eq_true.mp h w hw)⟩
/-! ===== END ===== -/

/-! ===== BEGIN exceptions that leave a method, and their catching by the caller (launches without stack traces) ===== -/
section VXA
/-! The laws vx_back, vx_callV, vx_callS, vx_callSW, vx_throw0, vx_throwS follow proofs of the library, with one case more: JvmDerived/Free/Laws.lean (Back.of_free), Shelf42/LK1.lean (callV, callS), Shelf/KitTraced.lean (throwNew0V, throwNewS). -/
/-- where a method has thrown q: the class by its name, the cell, what was written, the world -/
def vx_T (XC : String → State → State → Prop) (st : State) (q : Addr) (t : State) (mc ms : Nat) (free : Addr → Prop) : Prop :=
  ∃ (E : String) (ce : Cell) (L : List Loc), XC E st t ∧ t.heap[q]? = some ce ∧ ce.vm = .none ∧ st.vm.findClass E = some ce.cls ∧ st.WarmedH t.vm ∧ st.sameButNew ({ t with vm := st.vm } : State) L mc ms ∧ ∀ z ∈ L, free z.base
def vx_Q (Qc : Array Value → State → Outcome → State → Prop) (XC : String → State → State → Prop) (mc ms : Nat) (free : Addr → Prop) : Array Value → State → Outcome → State → Prop := fun a st o t =>
  (Qc a st o t ∧ ∃ L, FrameEnd st o t L mc ms ∧ ∀ q ∈ L, free q.base) ∨ ∃ q, o = .threw q ∧ vx_T XC st q t mc ms free
/-- a callee that returns or throws -/
def vx_Met (l : Launch) (y : MethodName) (ws : List Cond) (rm : Room) (Pc : Array Value → State → Prop) (Qc : Array Value → State → Outcome → State → Prop) (XC : String → State → State → Prop) (mc ms : Nat) (free : Addr → Prop) : Prop :=
  MetFree l y (headSpec ws rm) Pc (fun _ _ _ _ _ => True) (vx_Q Qc XC mc ms free)
def vx_Post (XC : String → State → State → Prop) (mc ms : Nat) (free : Addr → Prop) : Pt → Array Value → Addr → Pt → Prop := fun A a q B =>
  ∃ (g : JFrame) (mk : MethodId) (t : State) (L : List Loc) (E : String) (ce : Cell), B.U.heap = t.heap ∧ B.U.vm = t.vm ∧ XC E (A.U.calling g mk a) t ∧ t.heap[q]? = some ce ∧ ce.vm = .none ∧ A.U.vm.findClass E = some ce.cls ∧ B.locs = A.locs ++ L ∧ (∀ z ∈ L, free z.base) ∧ B.cells = A.cells + mc ∧ B.slots = A.slots + ms
def vx_Back (l : Launch) (R : Room) (p : Program) (e : Env) (below : List Frame) (s : State) (sargs : Array Value) (y : MethodName) (len W9 : Nat)
    (Pre : Pt → Array Value → Prop) (Post : Pt → Array Value → Option Value → Pt → Prop) (PostX : Pt → Array Value → Addr → Pt → Prop) : Prop :=
  ∀ (m : MethodId) (meth : Method) (c : Code) (A : Pt) (g : JFrame) (ig : Instr) (mk : MethodId) (a : Array Value),
    Stand p l e R s m sargs below meth c A.U A.locs A.cells A.slots → g.method = m → g.locals.size = c.maxLocals → decode c.code g.pc = .ok (ig, len) →
    2 * g.monitorRoom + (g.stack.map fun v => v.category).sum ≤ W9 → A.U.methodNamed? y = some mk → Pre A a →
    (∃ (v : Option Value) (B : Pt), Stand p l e R s m sargs below meth c B.U B.locs B.cells B.slots ∧ Post A a v B ∧
      Steps p.tables e below (doInvoke e (A.U.setTop g) [] mk a).1 (B.U.setTop { g with pc := g.pc + len, stack := v.toList ++ g.stack })) ∨
    (∃ (q : Addr) (B : Pt), Stand p l e R s m sargs below meth c B.U B.locs B.cells B.slots ∧ PostX A a q B ∧
      Steps p.tables e below (doInvoke e (A.U.setTop g) [] mk a).1 ((B.U.setTop g).pushFrame (.throwing q)))
section Payer
variable {l : Launch} {R : Room} {p : Program} {e : Env} {below : List Frame} {s : State} {sargs : Array Value} {y : MethodName} {len W9 : Nat}
theorem vx_back {ws : List Cond} {rm : Room} {Pc : Array Value → State → Prop} {Qc : Array Value → State → Outcome → State → Prop} {XC : String → State → State → Prop} {mc ms : Nat} {free : Addr → Prop} {bytes : ByteArray} {maxL : Nat} {ret : Option FieldType}
    (hM : vx_Met l y ws rm Pc Qc XC mc ms free) (hblind : FrameBlind Pc) (hrc : rm.cells = mc) (hrs : rm.slots = ms)
    (hframes : rm.frames + 1 ≤ R.frames) (hlocals : W9 + (maxL + 11) + rm.locals ≤ R.locals)
    (hws : ∀ w ∈ ws, ∀ a' U, s.WarmedH U.vm → w.before a' U = true) (hcode : Cond.code y bytes maxL ret ∈ ws) (hinit : ∀ a' U, s.WarmedH U.vm → (Cond.initialized y.cls).before a' U = true) :
    vx_Back l R p e below s sargs y len W9 (PreOf R mc ms Pc) (PostOf Qc mc ms free) (vx_Post XC mc ms free) := by
  intro m meth c A g ig mk a X hg hsize hdg hW hn hp
  have h1 : (headSpec ws rm).pre.before a A.U = true := atoms_intro fun w hw => hws w hw _ _ X.warmed
  have h2 : (Cond.code y bytes maxL ret).before a A.U = true := hws _ hcode _ _ X.warmed
  have h3 : (Cond.initialized y.cls).before a A.U = true := hinit _ _ X.warmed
  have h4 : A.cells + (headSpec ws rm).room.cells ≤ R.cells := by rw [show (headSpec ws rm).room.cells = mc from hrc]; exact hp.1
  have h5 : A.slots + (headSpec ws rm).room.slots ≤ R.slots := by rw [show (headSpec ws rm).room.slots = ms from hrs]; exact hp.2.1
  have hPc : Pc a (A.U.calling g mk a) := hblind _ _ _ _ hp.2.2
  obtain ⟨U, Ls, c0, s0⟩ := A
  dsimp only [Pt.U, Pt.locs, Pt.cells, Pt.slots] at h1 h2 h3 h4 h5 X hn hPc ⊢
  obtain ⟨methY, cY, hmY, hcY, -, hlY, -, -, -, -⟩ := Cond.code_spec hn h2
  obtain ⟨kY, hkY, -⟩ := className_of_methodNamed hn
  have hinitY : kY.init = .initialized := Cond.initialized_spec (findClass_of_methodNamed hn) hkY h3
  have h : At U g.method c below := by rw [hg]; exact X.here
  have hlocals9 : W9 + (maxL + 11) + (headSpec ws rm).room.locals ≤ R.locals := hlocals
  have happ : (headSpec ws rm).appliesLoose y e.platform (U.calling g mk a) = true :=
    Spec.appliesLoose_calling (g := g) h hdg hn hkY hinitY
      (X.room_calling (g := g) (R' := (headSpec ws rm).room) hsize hmY hcY hframes (by rw [hlY]; omega) h4 h5) h1
  obtain ⟨mid, hmid⟩ := h.above
  have hfr : (U.setTop g).frames = (.java g :: mid) ++ below := by rw [State.frames_setTop' g h.top, hmid]; rfl
  obtain ⟨o, s₂, hsteps, -, hend, hq⟩ := Steps.callFree hM p X.admits X.cas X.clock (acts := []) hfr happ hPc trivial
  have hq' : vx_Q Qc XC mc ms free a (U.calling g mk a) o s₂ := hq
  rw [State.frames_setTop' g h.top] at hend
  obtain ⟨g₀, hg0⟩ := Option.isSome_iff_exists.mp h.top
  obtain ⟨r, hr⟩ := State.topJava?_eq_some.mp hg0
  have hr' : (({ U with heap := s₂.heap, slotsUsed := s₂.slotsUsed } : State).setVm s₂.vm).frames = .java g₀ :: r := hr
  rcases hq' with ⟨hqc, L, hfe, hL⟩ | ⟨q, rfl, E, ce, L, hx, hce, hcv, hcl, hW₂, hsm, hL⟩
  · obtain ⟨⟨v, rfl⟩, hW₂, e2, q2, q3, q4, q5, q6⟩ := id hfe
    have e3 : s₂ = ({ (U.calling g mk a).setFrames s₂.frames with heap := s₂.heap, slotsUsed := s₂.slotsUsed } : State).setVm s₂.vm := by
      have : s₂ = ({ s₂ with vm := (U.calling g mk a).vm } : State).setVm s₂.vm := rfl
      rw [e2] at this
      exact this
    obtain ⟨c₂, i₂, len₂, hc₂, hd₂, hf₂⟩ := hend
    have hW' : U.WarmedH s₂.vm := hW₂
    have hcc : c₂ = c := by
      have h1 : s₂.code? g.method = U.code? g.method := by
        rw [State.code?_eq, State.code?_eq, hW'.alike.method?]
      exact Option.some.inj (hc₂.symm.trans (h1.trans h.code))
    subst hcc
    have hlen : len₂ = len := by rw [hdg] at hd₂; cases hd₂; rfl
    subst hlen
    have hs₂ : s₂ = (({ U with heap := s₂.heap, slotsUsed := s₂.slotsUsed } : State).setVm s₂.vm).setTop { g with pc := g.pc + len₂, stack := v.toList ++ g.stack } := by
      refine e3.trans ?_
      rw [hf₂, State.calling_eq h.top, State.setFrames_setFrames, State.setTop_of_frames _ hr', hr]
      rfl
    have hsame : U.sameButNew ({ U with heap := s₂.heap, slotsUsed := s₂.slotsUsed } : State) L mc ms := by
      refine ⟨?_, q2, q3, q4, q5, q6⟩
      obtain ⟨t, ht, -⟩ := State.frames_cons hr
      show ({ U with heap := s₂.heap, slotsUsed := s₂.slotsUsed } : State) = { U.setFrames U.frames with heap := s₂.heap, slotsUsed := s₂.slotsUsed }
      rw [State.setFrames_self ht]
    subst hg
    refine Or.inl ⟨v, ⟨(({ U with heap := s₂.heap, slotsUsed := s₂.slotsUsed } : State).setVm s₂.vm), Ls ++ L, c0 + mc, s0 + ms⟩,
      ⟨X.admits, X.cas, X.clock, X.frames, X.room, X.hears, X.method, X.code, (X.here.setHeapUsed s₂.heap s₂.slotsUsed).setVm hW'.alike, X.tail, State.WarmedH.trans X.warmed hW', X.limits, X.bytes, X.same.trans (hsame.setVm s.vm)⟩,
      ⟨g, mk, s₂, L, rfl, rfl, hqc, rfl, hL, rfl, rfl⟩, ?_⟩
    show Steps p.tables e below _ ((({ U with heap := s₂.heap, slotsUsed := s₂.slotsUsed } : State).setVm s₂.vm).setTop { g with pc := g.pc + len₂, stack := v.toList ++ g.stack })
    rw [← hs₂]
    exact hsteps
  · obtain ⟨e2, q2, q3, q4, q5, q6⟩ := id hsm
    have e3 : s₂ = ({ (U.calling g mk a).setFrames s₂.frames with heap := s₂.heap, slotsUsed := s₂.slotsUsed } : State).setVm s₂.vm := by
      have : s₂ = ({ s₂ with vm := (U.calling g mk a).vm } : State).setVm s₂.vm := rfl
      rw [e2] at this
      exact this
    have hf₂ : s₂.frames = .throwing q :: .java g :: U.frames.tail := hend
    have hW' : U.WarmedH s₂.vm := hW₂
    have hs₂ : s₂ = ((({ U with heap := s₂.heap, slotsUsed := s₂.slotsUsed } : State).setVm s₂.vm).setTop g).pushFrame (.throwing q) := by
      refine e3.trans ?_
      rw [hf₂, State.calling_eq h.top, State.setFrames_setFrames, State.pushFrame, State.frames_setTop _ hr', State.setTop_of_frames _ hr', State.setFrames_setFrames, hr]
      rfl
    have hsame : U.sameButNew ({ U with heap := s₂.heap, slotsUsed := s₂.slotsUsed } : State) L mc ms := by
      refine ⟨?_, q2, q3, q4, q5, q6⟩
      obtain ⟨t, ht, -⟩ := State.frames_cons hr
      show ({ U with heap := s₂.heap, slotsUsed := s₂.slotsUsed } : State) = { U.setFrames U.frames with heap := s₂.heap, slotsUsed := s₂.slotsUsed }
      rw [State.setFrames_self ht]
    subst hg
    refine Or.inr ⟨q, ⟨(({ U with heap := s₂.heap, slotsUsed := s₂.slotsUsed } : State).setVm s₂.vm), Ls ++ L, c0 + mc, s0 + ms⟩,
      ⟨X.admits, X.cas, X.clock, X.frames, X.room, X.hears, X.method, X.code, (X.here.setHeapUsed s₂.heap s₂.slotsUsed).setVm hW'.alike, X.tail, State.WarmedH.trans X.warmed hW', X.limits, X.bytes, X.same.trans (hsame.setVm s.vm)⟩,
      ⟨g, mk, s₂, L, E, ce, rfl, rfl, hx, hce, hcv, hcl, rfl, hL, rfl, rfl⟩, ?_⟩
    show Steps p.tables e below _ (((({ U with heap := s₂.heap, slotsUsed := s₂.slotsUsed } : State).setVm s₂.vm).setTop g).pushFrame (.throwing q))
    rw [← hs₂]
    exact hsteps
end Payer
section Calls
variable {p : Program} {l : Launch} {e : Env} {R : Room} {s : State} {m : MethodId} {args : Array Value} {below : List Frame} {meth : Method} {c : Code} {T : State} {locs : List Loc} {cells slots : Nat}
theorem vx_callV (X : Stand p l e R s m args below meth c T locs cells slots) (hexec : p.tables.exec = Jvm.exec) {own C : String} {index : Nat} {y : MethodName} {bytes : ByteArray} {maxL : Nat} {ret : Option FieldType}
    (hown : s.vm.findClass own = some m.cls) (hlink : (Cond.methodLink own index y).before args s = true) (hinst : (Cond.instanceMethod y).before args s = true) (hsel : (Cond.selects C y y).before args s = true)
    (hcode : (Cond.code y bytes maxL ret).before args s = true) (hy : y.cls ≠ "java/lang/invoke/MethodHandle" ∧ y.cls ≠ "java/lang/invoke/VarHandle")
    {W9 : Nat} {Pre : Pt → Array Value → Prop} {Post : Pt → Array Value → Option Value → Pt → Prop} {PostX : Pt → Array Value → Addr → Pt → Prop} (hK : vx_Back l R p e below s args y 3 W9 Pre Post PostX)
    {b : Addr} {cellB : Cell} (hcell : T.heap[b]? = some cellB) (hobj : cellB.vm.isStatics = false) (hcls : s.vm.findClass C = some cellB.cls)
    {g : JFrame} (hg : g.method = m) (hsize : g.locals.size = c.maxLocals) {argsL rest : List Value} (hlen : ∀ sig, parseMethodDescriptor y.desc = some sig → argsL.length = sig.parameters.length)
    (hstack : g.stack = argsL.reverse ++ .ref b :: rest) (hW : 2 * g.monitorRoom + (rest.map fun v => v.category).sum ≤ W9) (hdg : decode c.code g.pc = .ok (.invokevirtual index, 3))
    (hpre : ∀ vm₁, s.WarmedH vm₁ → Pre ⟨T.setVm vm₁, locs, cells, slots⟩ (Value.ref b :: argsL).toArray) :
    (∃ (v : Option Value) (vm₁ : Vm) (B : Pt), s.WarmedH vm₁ ∧ Stand p l e R s m args below meth c B.U B.locs B.cells B.slots ∧ Post ⟨T.setVm vm₁, locs, cells, slots⟩ (Value.ref b :: argsL).toArray v B ∧
      ∀ target, Steps p.tables e below (B.U.setTop { g with pc := g.pc + 3, stack := v.toList ++ rest }) target → Steps p.tables e below (T.setTop g) target) ∨
    (∃ (q : Addr) (vm₁ : Vm) (B : Pt), s.WarmedH vm₁ ∧ Stand p l e R s m args below meth c B.U B.locs B.cells B.slots ∧ PostX ⟨T.setVm vm₁, locs, cells, slots⟩ (Value.ref b :: argsL).toArray q B ∧
      Steps p.tables e below (T.setTop g) ((B.U.setTop { g with stack := rest }).pushFrame (.throwing q))) := by
  obtain ⟨mk, methM, hnamed, hmethM, hstM, habM⟩ := Cond.instanceMethod_spec hinst
  obtain ⟨methM', cM, hmethM', -, -, -, -, -, -, hsigM⟩ := Cond.code_spec hnamed hcode
  cases hmethM.symm.trans hmethM'
  obtain ⟨c2, r2, m2, q1, q2, q3, q4, kP, hkP, hkPi⟩ := Cond.selects_spec hsel
  cases hcls.symm.trans q1
  cases (State.methodFound?_of_named hnamed hy).symm.trans q2
  cases hnamed.symm.trans q3
  have hselP : selectMethod e.platform s.vm cellB.cls mk = .method mk := by rw [Launch.admits_selectMethod X.admits]; exact q4
  obtain ⟨vm₁, X₁, hstep₁⟩ := X.invokevirtual hexec hown hlink hnamed hmethM hstM hkP hkPi hy (a := b) (cell := cellB) hcell
    (fun z h => by rw [h] at hobj; cases hobj) hselP hmethM habM hkP hkPi (g := g) hg (argsL := argsL) (rest := rest) (hlen _ hsigM) hstack hdg
  rcases hK m meth c ⟨T.setVm vm₁, locs, cells, slots⟩ { g with stack := rest } (.invokevirtual index) mk (Value.ref b :: argsL).toArray X₁ hg hsize hdg hW (X₁.named hnamed) (hpre vm₁ X₁.warmed) with ⟨v, B, X', hpost, hsteps⟩ | ⟨q, B, X', hpost, hsteps⟩
  · exact Or.inl ⟨v, vm₁, B, X₁.warmed, X', hpost, fun target h => hstep₁ _ fun acts => by rw [doInvoke_state]; exact hsteps.trans h⟩
  · exact Or.inr ⟨q, vm₁, B, X₁.warmed, X', hpost, hstep₁ _ fun acts => by rw [doInvoke_state]; exact hsteps⟩
theorem vx_callS (X : Stand p l e R s m args below meth c T locs cells slots) (hexec : p.tables.exec = Jvm.exec) {own : String} {index : Nat} {y : MethodName} {bytes : ByteArray} {maxL : Nat} {ret : Option FieldType}
    (hown : s.vm.findClass own = some m.cls) (hlink : (Cond.methodLink own index y).before args s = true) (hstat : (Cond.static y).before args s = true) (hinit : (Cond.initialized y.cls).before args s = true)
    (hcode : (Cond.code y bytes maxL ret).before args s = true) (hy : y.cls ≠ "java/lang/invoke/MethodHandle" ∧ y.cls ≠ "java/lang/invoke/VarHandle")
    {W9 : Nat} {Pre : Pt → Array Value → Prop} {Post : Pt → Array Value → Option Value → Pt → Prop} {PostX : Pt → Array Value → Addr → Pt → Prop} (hK : vx_Back l R p e below s args y 3 W9 Pre Post PostX)
    {g : JFrame} (hg : g.method = m) (hsize : g.locals.size = c.maxLocals) {argsL rest : List Value} (hlen : ∀ sig, parseMethodDescriptor y.desc = some sig → argsL.length = sig.parameters.length)
    (hstack : g.stack = argsL.reverse ++ rest) (hW : 2 * g.monitorRoom + (rest.map fun v => v.category).sum ≤ W9) (hdg : decode c.code g.pc = .ok (.invokestatic index, 3))
    (hpre : ∀ vm₁, s.WarmedH vm₁ → Pre ⟨T.setVm vm₁, locs, cells, slots⟩ argsL.toArray) :
    (∃ (v : Option Value) (vm₁ : Vm) (B : Pt), s.WarmedH vm₁ ∧ Stand p l e R s m args below meth c B.U B.locs B.cells B.slots ∧ Post ⟨T.setVm vm₁, locs, cells, slots⟩ argsL.toArray v B ∧
      ∀ target, Steps p.tables e below (B.U.setTop { g with pc := g.pc + 3, stack := v.toList ++ rest }) target → Steps p.tables e below (T.setTop g) target) ∨
    (∃ (q : Addr) (vm₁ : Vm) (B : Pt), s.WarmedH vm₁ ∧ Stand p l e R s m args below meth c B.U B.locs B.cells B.slots ∧ PostX ⟨T.setVm vm₁, locs, cells, slots⟩ argsL.toArray q B ∧
      Steps p.tables e below (T.setTop g) ((B.U.setTop { g with stack := rest }).pushFrame (.throwing q))) := by
  obtain ⟨mk, hnamed⟩ := Cond.code_named hcode
  obtain ⟨methM, cM, hmethM, -, -, -, -, -, -, hsigM⟩ := Cond.code_spec hnamed hcode
  have hstatic : methM.isStatic = true := Cond.static_spec hnamed hmethM hstat
  obtain ⟨kP, hkP, -⟩ := className_of_methodNamed hnamed
  have hinitP : kP.init = .initialized := Cond.initialized_spec (findClass_of_methodNamed hnamed) hkP hinit
  obtain ⟨vm₁, X₁, hstep₁⟩ := X.invokestatic hexec hown hlink hnamed hmethM hstatic hkP hinitP hy (g := g) hg (argsL := argsL) (rest := rest) (hlen _ hsigM) hstack hdg
  rcases hK m meth c ⟨T.setVm vm₁, locs, cells, slots⟩ { g with stack := rest } (.invokestatic index) mk argsL.toArray X₁ hg hsize hdg hW (X₁.named hnamed) (hpre vm₁ X₁.warmed) with ⟨v, B, X', hpost, hsteps⟩ | ⟨q, B, X', hpost, hsteps⟩
  · exact Or.inl ⟨v, vm₁, B, X₁.warmed, X', hpost, fun target h => hstep₁ _ fun acts => by rw [doInvoke_state]; exact hsteps.trans h⟩
  · exact Or.inr ⟨q, vm₁, B, X₁.warmed, X', hpost, hstep₁ _ fun acts => by rw [doInvoke_state]; exact hsteps⟩
end Calls
theorem vx_cls {s : State} {T : State} {vm₁ : Vm} {E : String} {k : ClassId} (hW : s.WarmedH vm₁) (h : (T.setVm vm₁).vm.findClass E = some k) : s.vm.findClass E = some k := by
  have h1 : vm₁.findClass E = some k := h
  rw [hW.alike.findClass] at h1
  exact h1
/-- the method's frame g, with q thrown over it -/
def vx_W (p : Program) (l : Launch) (e : Env) (R : Room) (s : State) (m : MethodId) (args : Array Value) (below : List Frame) (meth : Method) (c : Code) (H : Heap) (locs : List Loc) (cells slots : Nat) (Q : State → Prop) (g : JFrame) (q : Addr) : Prop :=
  ∀ T : State, T.heap = H → Stand p l e R s m args below meth c T locs cells slots → ∃ t, Steps p.tables e below ((T.setTop g).pushFrame (.throwing q)) t ∧ Q t
def vx_Run (p : Program) (l : Launch) (e : Env) (R : Room) (s : State) (m : MethodId) (args : Array Value) (below : List Frame) (meth : Method) (c : Code) (H : Heap) (locs : List Loc) (cells slots mc ms : Nat) (g : JFrame) (rest : List Value) (Qa : State → Outcome → State → Prop) (XC : String → State → State → Prop) (free : Addr → Prop) : Prop :=
  ∀ T : State, T.heap = H → Stand p l e R s m args below meth c T locs cells slots →
    (∃ (v : Option Value) (st₀ t T' : State) (L : List Loc), st₀.heap = H ∧ Stand p l e R s m args below meth c T' (locs ++ L) (cells + mc) (slots + ms) ∧ (∀ q ∈ L, free q.base) ∧ T'.heap = t.heap ∧ T'.vm = t.vm ∧ Qa st₀ (.returned v) t ∧
      Goes p e below T g T' { g with pc := g.pc + 3, stack := v.toList ++ rest }) ∨
    (∃ (q : Addr) (st₀ t T' : State) (L : List Loc) (E : String) (ce : Cell), st₀.heap = H ∧ Stand p l e R s m args below meth c T' (locs ++ L) (cells + mc) (slots + ms) ∧ (∀ z ∈ L, free z.base) ∧ T'.heap = t.heap ∧ T'.vm = t.vm ∧ XC E st₀ t ∧ t.heap[q]? = some ce ∧ ce.vm = .none ∧ s.vm.findClass E = some ce.cls ∧
      Steps p.tables e below (T.setTop g) ((T'.setTop { g with stack := rest }).pushFrame (.throwing q)))
def vx_X {S : Type} (px : S → Prop) (B : String → S → State → Prop) (A : Nat → Prop) : String → State → State → Prop := fun E st t => ∃ u : S, px u ∧ B E u t ∧ va_F A st t
section Runs
variable {p : Program} {l : Launch} {e : Env} {R : Room} {s : State} {m : MethodId} {args : Array Value} {below : List Frame} {meth : Method} {c : Code} {H : Heap} {locs : List Loc} {cells slots : Nat}
variable {y : MethodName} {bytes cc : ByteArray} {maxL nL mc ms n index : Nat} {ret : Option FieldType} {ws : List Cond} {rm : Room} {Pc : Array Value → State → Prop} {Qc : Array Value → State → Outcome → State → Prop} {XC : String → State → State → Prop} {free : Addr → Prop} {Ts : List Cond} {own C : String} {b : Addr} {As rest : List Value} {g : JFrame}
theorem vx_callBack (cb : CallB R s args own index y bytes maxL ret ws rm mc ms n) (hM : vx_Met l y ws rm Pc Qc XC mc ms free) (hbl : FrameBlind Pc) : vx_Back l R p e below s args y 3 8 (PreOf R mc ms Pc) (PostOf Qc mc ms free) (vx_Post XC mc ms free) := by
  obtain ⟨hrc, hrs, hfr, hlo, hws, hcw, -, hini, -⟩ := cb
  exact vx_back (bytes := bytes) (maxL := maxL) (ret := ret) hM hbl hrc hrs hfr hlo hws hcw (fun a' U hW => word_at hW (Or.inl (by first | rfl | simp [Cond.onTables, Cond.keeps, Cond.steady])) hini)
theorem vx_runV (S : CallFix p m c cc nL s args Ts own) (hM : vx_Met l y ws rm Pc Qc XC mc ms free) (cw : CallW R s args own C index y bytes maxL ret ws rm mc ms n) (hp : PreV s H C b Pc As)
    (hg : g.method = m) (hn : As.length = n) (hsize : g.locals.size = nL) (hstack : g.stack = As.reverse ++ .ref b :: rest) (hW : 2 * g.monitorRoom + (rest.map fun v => v.category).sum ≤ 8) (hdg : decode cc g.pc = .ok (.invokevirtual index, 3)) (hf : cells + mc ≤ R.cells ∧ slots + ms ≤ R.slots) :
    vx_Run p l e R s m args below meth c H locs cells slots mc ms g rest (Qc (Value.ref b :: As).toArray) XC free := by
  have hK : vx_Back l R p e below s args y 3 8 (PreOf R mc ms Pc) (PostOf Qc mc ms free) (vx_Post XC mc ms free) := vx_callBack cw.1 hM hp.1
  obtain ⟨⟨-, -, -, -, -, -, hcode, -, hy, hlen, hl⟩, hin, hse⟩ := cw
  obtain ⟨hx, hb, hml, ho, -⟩ := S
  obtain ⟨-, ⟨cellB, hcB, hoB, hclB⟩, hPc⟩ := hp
  intro T hT X
  rcases vx_callV X hx (C := C) (bytes := bytes) (maxL := maxL) (ret := ret) ho hl hin hse hcode hy hK (by rw [hT]; exact hcB) hoB hclB hg (hsize.trans hml.symm) (argsL := As) (rest := rest) (fun sig h => hn.trans (hlen sig h)) hstack hW (by rw [hb]; exact hdg)
    (fun vm₁ hW₁ => ⟨hf.1, hf.2, hPc (T.setVm vm₁) hT hW₁⟩) with ⟨v, vm₁, ⟨U', l2, c2, s2⟩, hW₁, X', ⟨g', mk, t, L, e1, e2, hq, h1, hL, h2, h3⟩, st⟩ | ⟨q, vm₁, ⟨U', l2, c2, s2⟩, hW₁, X', ⟨g', mk, t, L, E, ce, e1, e2, hq, hce, hcv, hcl, h1, hL, h2, h3⟩, st⟩
  · dsimp only [Pt.U, Pt.locs, Pt.cells, Pt.slots] at X' e1 e2 h1 h2 h3 st
    subst h1; subst h2; subst h3
    exact Or.inl ⟨v, (T.setVm vm₁).calling g' mk (Value.ref b :: As).toArray, t, U', L, hT, X', hL, e1, e2, hq, st⟩
  · dsimp only [Pt.U, Pt.locs, Pt.cells, Pt.slots] at X' e1 e2 h1 h2 h3 st hcl
    subst h1; subst h2; subst h3
    exact Or.inr ⟨q, (T.setVm vm₁).calling g' mk (Value.ref b :: As).toArray, t, U', L, E, ce, hT, X', hL, e1, e2, hq, hce, hcv, vx_cls hW₁ hcl, st⟩
theorem vx_runS (S : CallFix p m c cc nL s args Ts own) (hM : vx_Met l y ws rm Pc Qc XC mc ms free) (cw : CallB R s args own index y bytes maxL ret ws rm mc ms n ∧ (Cond.static y).before args s = true) (hp : PreS s H Pc As)
    (hg : g.method = m) (hn : As.length = n) (hsize : g.locals.size = nL) (hstack : g.stack = As.reverse ++ rest) (hW : 2 * g.monitorRoom + (rest.map fun v => v.category).sum ≤ 8) (hdg : decode cc g.pc = .ok (.invokestatic index, 3)) (hf : cells + mc ≤ R.cells ∧ slots + ms ≤ R.slots) :
    vx_Run p l e R s m args below meth c H locs cells slots mc ms g rest (Qc As.toArray) XC free := by
  have hK : vx_Back l R p e below s args y 3 8 (PreOf R mc ms Pc) (PostOf Qc mc ms free) (vx_Post XC mc ms free) := vx_callBack cw.1 hM hp.1
  obtain ⟨⟨-, -, -, -, -, -, hcode, hini, hy, hlen, hl⟩, hstt⟩ := cw
  obtain ⟨hx, hb, hml, ho, -⟩ := S
  intro T hT X
  rcases vx_callS X hx (bytes := bytes) (maxL := maxL) (ret := ret) ho hl hstt hini hcode hy hK hg (hsize.trans hml.symm) (argsL := As) (rest := rest) (fun sig h => hn.trans (hlen sig h)) hstack hW (by rw [hb]; exact hdg)
    (fun vm₁ hW₁ => ⟨hf.1, hf.2, hp.2 (T.setVm vm₁) hT hW₁⟩) with ⟨v, vm₁, ⟨U', l2, c2, s2⟩, hW₁, X', ⟨g', mk, t, L, e1, e2, hq, h1, hL, h2, h3⟩, st⟩ | ⟨q, vm₁, ⟨U', l2, c2, s2⟩, hW₁, X', ⟨g', mk, t, L, E, ce, e1, e2, hq, hce, hcv, hcl, h1, hL, h2, h3⟩, st⟩
  · dsimp only [Pt.U, Pt.locs, Pt.cells, Pt.slots] at X' e1 e2 h1 h2 h3 st
    subst h1; subst h2; subst h3
    exact Or.inl ⟨v, (T.setVm vm₁).calling g' mk As.toArray, t, U', L, hT, X', hL, e1, e2, hq, st⟩
  · dsimp only [Pt.U, Pt.locs, Pt.cells, Pt.slots] at X' e1 e2 h1 h2 h3 st hcl
    subst h1; subst h2; subst h3
    exact Or.inr ⟨q, (T.setVm vm₁).calling g' mk As.toArray, t, U', L, E, ce, hT, X', hL, e1, e2, hq, hce, hcv, vx_cls hW₁ hcl, st⟩
end Runs
section Rows
variable {p : Program} {l : Launch} {e : Env} {R : Room} {s : State} {m : MethodId} {args : Array Value} {below : List Frame} {meth : Method} {c : Code} {H : Heap} {locs : List Loc} {cells slots : Nat} {Q : State → Prop}
variable {mc ms : Nat} {free : Addr → Prop} {A0 A1 : Nat → Prop} {H0 : Heap} {a : Array Value} {pc : Nat} {ls : Array Slot} {st0 rest : List Value}
theorem vx_keep {st₀ t T' : State} {L : List Loc} (h0 : st₀.heap = H) (e1 : T'.heap = t.heap) (hS : va_S A0 H0 H locs) (hA : ∀ q, q < H.size → A1 q → A0 q) (hf : ∀ q, free q → A0 q) (hL : ∀ q ∈ L, free q.base) (hF : va_F A1 st₀ t) :
    H.size ≤ T'.heap.size ∧ (∀ q : Nat, q < H.size → ¬ A1 q → T'.heap[q]? = H[q]?) ∧ va_S A0 H0 T'.heap (locs ++ L) := by
  obtain ⟨hz, hk⟩ := hF
  rw [h0] at hz hk
  exact ⟨by rw [e1]; exact hz, fun q h1 h2 => by rw [e1]; exact hk q h1 h2,
    ⟨Nat.le_trans hS.1 (by rw [e1]; exact hz), fun q h1 h2 => by rw [e1, hk q (Nat.lt_of_lt_of_le h1 hS.1) (fun z => h2 (hA q (Nat.lt_of_lt_of_le h1 hS.1) z))]; exact hS.2.1 q h1 h2, fun q hq => by
      rcases List.mem_append.mp hq with h | h
      · exact hS.2.2 q h
      · exact hf _ (hL q h)⟩⟩
theorem vx_calli {S SX : Type} {post : Int32 → S → Prop} {px : SX → Prop} {B : S → State → Prop} {BX : String → SX → State → Prop} {AX : Nat → Prop} (hr : vx_Run p l e R s m args below meth c H locs cells slots mc ms (F0 m pc ls st0) rest (va_Qi post B A1 a) (vx_X px BX AX) free) (hS : va_S A0 H0 H locs) (hA : ∀ q, q < H.size → A1 q → A0 q) (hf : ∀ q, free q → A0 q) (hAX : ∀ q, q < H.size → AX q → A0 q)
    (kx : ∀ (E : String) (ce : Cell) (q9 : Addr) (u : SX) (t : State) (H1 : Heap) (locs1 : List Loc), t.heap = H1 → s.vm.Alike t.vm → px u → BX E u t → H.size ≤ H1.size → (∀ q : Nat, q < H.size → ¬ AX q → H1[q]? = H[q]?) → va_S A0 H0 H1 locs1 → H1[q9]? = some ce → ce.vm = .none → s.vm.findClass E = some ce.cls → vx_W p l e R s m args below meth c H1 locs1 (cells + mc) (slots + ms) Q (F0 m pc ls rest) q9)
    (kk : ∀ (r : Int32) (u : S) (t : State) (H1 : Heap) (locs1 : List Loc), t.heap = H1 → s.vm.Alike t.vm → post r u → B u t → H.size ≤ H1.size → (∀ q : Nat, q < H.size → ¬ A1 q → H1[q]? = H[q]?) → va_S A0 H0 H1 locs1 → W p l e R s m args below meth c H1 locs1 (cells + mc) (slots + ms) Q (F0 m (pc + 3) ls (.int r :: rest))) : W p l e R s m args below meth c H locs cells slots Q (F0 m pc ls st0) := by
  intro T hT X
  rcases hr T hT X with ⟨v, st₀, t, T', L, h0, X', hL, e1, e2, ⟨⟨r, u, hv, hp, hb⟩, hF⟩, st⟩ | ⟨q, st₀, t, T', L, E, ce, h0, X', hL, e1, e2, ⟨u, hp, hb, hF⟩, hce, hcv, hcl, st⟩
  · cases hv
    obtain ⟨k1, k2, k3⟩ := vx_keep h0 e1 hS hA hf hL hF
    obtain ⟨t2, a1, b1⟩ := kk r u t T'.heap (locs ++ L) e1.symm (by rw [← e2]; exact X'.warmed.alike) hp hb k1 k2 k3 T' rfl X'
    exact ⟨t2, st t2 a1, b1⟩
  · obtain ⟨k1, k2, k3⟩ := vx_keep h0 e1 hS hAX hf hL hF
    obtain ⟨t2, a1, b1⟩ := kx E ce q u t T'.heap (locs ++ L) e1.symm (by rw [← e2]; exact X'.warmed.alike) hp hb k1 k2 k3 (by rw [e1]; exact hce) hcv hcl T' rfl X'
    exact ⟨t2, st.trans a1, b1⟩
theorem vx_calll {S SX : Type} {post : Int64 → S → Prop} {px : SX → Prop} {B : S → State → Prop} {BX : String → SX → State → Prop} {AX : Nat → Prop} (hr : vx_Run p l e R s m args below meth c H locs cells slots mc ms (F0 m pc ls st0) rest (va_Ql post B A1 a) (vx_X px BX AX) free) (hS : va_S A0 H0 H locs) (hA : ∀ q, q < H.size → A1 q → A0 q) (hf : ∀ q, free q → A0 q) (hAX : ∀ q, q < H.size → AX q → A0 q)
    (kx : ∀ (E : String) (ce : Cell) (q9 : Addr) (u : SX) (t : State) (H1 : Heap) (locs1 : List Loc), t.heap = H1 → s.vm.Alike t.vm → px u → BX E u t → H.size ≤ H1.size → (∀ q : Nat, q < H.size → ¬ AX q → H1[q]? = H[q]?) → va_S A0 H0 H1 locs1 → H1[q9]? = some ce → ce.vm = .none → s.vm.findClass E = some ce.cls → vx_W p l e R s m args below meth c H1 locs1 (cells + mc) (slots + ms) Q (F0 m pc ls rest) q9)
    (kk : ∀ (r : Int64) (u : S) (t : State) (H1 : Heap) (locs1 : List Loc), t.heap = H1 → s.vm.Alike t.vm → post r u → B u t → H.size ≤ H1.size → (∀ q : Nat, q < H.size → ¬ A1 q → H1[q]? = H[q]?) → va_S A0 H0 H1 locs1 → W p l e R s m args below meth c H1 locs1 (cells + mc) (slots + ms) Q (F0 m (pc + 3) ls (.long r :: rest))) : W p l e R s m args below meth c H locs cells slots Q (F0 m pc ls st0) := by
  intro T hT X
  rcases hr T hT X with ⟨v, st₀, t, T', L, h0, X', hL, e1, e2, ⟨⟨r, u, hv, hp, hb⟩, hF⟩, st⟩ | ⟨q, st₀, t, T', L, E, ce, h0, X', hL, e1, e2, ⟨u, hp, hb, hF⟩, hce, hcv, hcl, st⟩
  · cases hv
    obtain ⟨k1, k2, k3⟩ := vx_keep h0 e1 hS hA hf hL hF
    obtain ⟨t2, a1, b1⟩ := kk r u t T'.heap (locs ++ L) e1.symm (by rw [← e2]; exact X'.warmed.alike) hp hb k1 k2 k3 T' rfl X'
    exact ⟨t2, st t2 a1, b1⟩
  · obtain ⟨k1, k2, k3⟩ := vx_keep h0 e1 hS hAX hf hL hF
    obtain ⟨t2, a1, b1⟩ := kx E ce q u t T'.heap (locs ++ L) e1.symm (by rw [← e2]; exact X'.warmed.alike) hp hb k1 k2 k3 (by rw [e1]; exact hce) hcv hcl T' rfl X'
    exact ⟨t2, st.trans a1, b1⟩
theorem vx_callf {S SX : Type} {post : UInt32 → S → Prop} {px : SX → Prop} {B : S → State → Prop} {BX : String → SX → State → Prop} {AX : Nat → Prop} (hr : vx_Run p l e R s m args below meth c H locs cells slots mc ms (F0 m pc ls st0) rest (va_Qf post B A1 a) (vx_X px BX AX) free) (hS : va_S A0 H0 H locs) (hA : ∀ q, q < H.size → A1 q → A0 q) (hf : ∀ q, free q → A0 q) (hAX : ∀ q, q < H.size → AX q → A0 q)
    (kx : ∀ (E : String) (ce : Cell) (q9 : Addr) (u : SX) (t : State) (H1 : Heap) (locs1 : List Loc), t.heap = H1 → s.vm.Alike t.vm → px u → BX E u t → H.size ≤ H1.size → (∀ q : Nat, q < H.size → ¬ AX q → H1[q]? = H[q]?) → va_S A0 H0 H1 locs1 → H1[q9]? = some ce → ce.vm = .none → s.vm.findClass E = some ce.cls → vx_W p l e R s m args below meth c H1 locs1 (cells + mc) (slots + ms) Q (F0 m pc ls rest) q9)
    (kk : ∀ (r : UInt32) (u : S) (t : State) (H1 : Heap) (locs1 : List Loc), t.heap = H1 → s.vm.Alike t.vm → post r u → B u t → H.size ≤ H1.size → (∀ q : Nat, q < H.size → ¬ A1 q → H1[q]? = H[q]?) → va_S A0 H0 H1 locs1 → W p l e R s m args below meth c H1 locs1 (cells + mc) (slots + ms) Q (F0 m (pc + 3) ls (.float r :: rest))) : W p l e R s m args below meth c H locs cells slots Q (F0 m pc ls st0) := by
  intro T hT X
  rcases hr T hT X with ⟨v, st₀, t, T', L, h0, X', hL, e1, e2, ⟨⟨r, u, hv, hp, hb⟩, hF⟩, st⟩ | ⟨q, st₀, t, T', L, E, ce, h0, X', hL, e1, e2, ⟨u, hp, hb, hF⟩, hce, hcv, hcl, st⟩
  · cases hv
    obtain ⟨k1, k2, k3⟩ := vx_keep h0 e1 hS hA hf hL hF
    obtain ⟨t2, a1, b1⟩ := kk r u t T'.heap (locs ++ L) e1.symm (by rw [← e2]; exact X'.warmed.alike) hp hb k1 k2 k3 T' rfl X'
    exact ⟨t2, st t2 a1, b1⟩
  · obtain ⟨k1, k2, k3⟩ := vx_keep h0 e1 hS hAX hf hL hF
    obtain ⟨t2, a1, b1⟩ := kx E ce q u t T'.heap (locs ++ L) e1.symm (by rw [← e2]; exact X'.warmed.alike) hp hb k1 k2 k3 (by rw [e1]; exact hce) hcv hcl T' rfl X'
    exact ⟨t2, st.trans a1, b1⟩
theorem vx_calld {S SX : Type} {post : UInt64 → S → Prop} {px : SX → Prop} {B : S → State → Prop} {BX : String → SX → State → Prop} {AX : Nat → Prop} (hr : vx_Run p l e R s m args below meth c H locs cells slots mc ms (F0 m pc ls st0) rest (va_Qd post B A1 a) (vx_X px BX AX) free) (hS : va_S A0 H0 H locs) (hA : ∀ q, q < H.size → A1 q → A0 q) (hf : ∀ q, free q → A0 q) (hAX : ∀ q, q < H.size → AX q → A0 q)
    (kx : ∀ (E : String) (ce : Cell) (q9 : Addr) (u : SX) (t : State) (H1 : Heap) (locs1 : List Loc), t.heap = H1 → s.vm.Alike t.vm → px u → BX E u t → H.size ≤ H1.size → (∀ q : Nat, q < H.size → ¬ AX q → H1[q]? = H[q]?) → va_S A0 H0 H1 locs1 → H1[q9]? = some ce → ce.vm = .none → s.vm.findClass E = some ce.cls → vx_W p l e R s m args below meth c H1 locs1 (cells + mc) (slots + ms) Q (F0 m pc ls rest) q9)
    (kk : ∀ (r : UInt64) (u : S) (t : State) (H1 : Heap) (locs1 : List Loc), t.heap = H1 → s.vm.Alike t.vm → post r u → B u t → H.size ≤ H1.size → (∀ q : Nat, q < H.size → ¬ A1 q → H1[q]? = H[q]?) → va_S A0 H0 H1 locs1 → W p l e R s m args below meth c H1 locs1 (cells + mc) (slots + ms) Q (F0 m (pc + 3) ls (.double r :: rest))) : W p l e R s m args below meth c H locs cells slots Q (F0 m pc ls st0) := by
  intro T hT X
  rcases hr T hT X with ⟨v, st₀, t, T', L, h0, X', hL, e1, e2, ⟨⟨r, u, hv, hp, hb⟩, hF⟩, st⟩ | ⟨q, st₀, t, T', L, E, ce, h0, X', hL, e1, e2, ⟨u, hp, hb, hF⟩, hce, hcv, hcl, st⟩
  · cases hv
    obtain ⟨k1, k2, k3⟩ := vx_keep h0 e1 hS hA hf hL hF
    obtain ⟨t2, a1, b1⟩ := kk r u t T'.heap (locs ++ L) e1.symm (by rw [← e2]; exact X'.warmed.alike) hp hb k1 k2 k3 T' rfl X'
    exact ⟨t2, st t2 a1, b1⟩
  · obtain ⟨k1, k2, k3⟩ := vx_keep h0 e1 hS hAX hf hL hF
    obtain ⟨t2, a1, b1⟩ := kx E ce q u t T'.heap (locs ++ L) e1.symm (by rw [← e2]; exact X'.warmed.alike) hp hb k1 k2 k3 (by rw [e1]; exact hce) hcv hcl T' rfl X'
    exact ⟨t2, st.trans a1, b1⟩
theorem vx_callv {S SX : Type} {post : S → Prop} {px : SX → Prop} {B : S → State → Prop} {BX : String → SX → State → Prop} {AX : Nat → Prop} (hr : vx_Run p l e R s m args below meth c H locs cells slots mc ms (F0 m pc ls st0) rest (va_Qv post B A1 a) (vx_X px BX AX) free) (hS : va_S A0 H0 H locs) (hA : ∀ q, q < H.size → A1 q → A0 q) (hf : ∀ q, free q → A0 q) (hAX : ∀ q, q < H.size → AX q → A0 q)
    (kx : ∀ (E : String) (ce : Cell) (q9 : Addr) (u : SX) (t : State) (H1 : Heap) (locs1 : List Loc), t.heap = H1 → s.vm.Alike t.vm → px u → BX E u t → H.size ≤ H1.size → (∀ q : Nat, q < H.size → ¬ AX q → H1[q]? = H[q]?) → va_S A0 H0 H1 locs1 → H1[q9]? = some ce → ce.vm = .none → s.vm.findClass E = some ce.cls → vx_W p l e R s m args below meth c H1 locs1 (cells + mc) (slots + ms) Q (F0 m pc ls rest) q9)
    (kk : ∀ (u : S) (t : State) (H1 : Heap) (locs1 : List Loc), t.heap = H1 → s.vm.Alike t.vm → post u → B u t → H.size ≤ H1.size → (∀ q : Nat, q < H.size → ¬ A1 q → H1[q]? = H[q]?) → va_S A0 H0 H1 locs1 → W p l e R s m args below meth c H1 locs1 (cells + mc) (slots + ms) Q (F0 m (pc + 3) ls (rest))) : W p l e R s m args below meth c H locs cells slots Q (F0 m pc ls st0) := by
  intro T hT X
  rcases hr T hT X with ⟨v, st₀, t, T', L, h0, X', hL, e1, e2, ⟨⟨u, hv, hp, hb⟩, hF⟩, st⟩ | ⟨q, st₀, t, T', L, E, ce, h0, X', hL, e1, e2, ⟨u, hp, hb, hF⟩, hce, hcv, hcl, st⟩
  · cases hv
    obtain ⟨k1, k2, k3⟩ := vx_keep h0 e1 hS hA hf hL hF
    obtain ⟨t2, a1, b1⟩ := kk u t T'.heap (locs ++ L) e1.symm (by rw [← e2]; exact X'.warmed.alike) hp hb k1 k2 k3 T' rfl X'
    exact ⟨t2, st t2 a1, b1⟩
  · obtain ⟨k1, k2, k3⟩ := vx_keep h0 e1 hS hAX hf hL hF
    obtain ⟨t2, a1, b1⟩ := kx E ce q u t T'.heap (locs ++ L) e1.symm (by rw [← e2]; exact X'.warmed.alike) hp hb k1 k2 k3 (by rw [e1]; exact hce) hcv hcl T' rfl X'
    exact ⟨t2, st.trans a1, b1⟩
/-- caught by the row x of this method's table; the rows ahead don't take it -/
theorem vx_catch {own name : String} {E : String} {ce : Cell} {q : Addr} (hown : s.vm.findClass own = some m.cls) (pre : List ExceptionTableEntry) (x : ExceptionTableEntry) (suf : List ExceptionTableEntry) (hsplit : c.exceptionTable.toList = pre ++ x :: suf)
    (hpass : ∀ z ∈ pre, covers z pc = false ∨ (z.catchType ≠ 0 ∧ ∃ nm : String, (Cond.classLink own z.catchType nm).before args s = true ∧ va_Nc E nm s)) (hx : covers x pc = true) (h0 : x.catchType ≠ 0)
    (hlink : (Cond.classLink own x.catchType name).before args s = true) (hcast : (Cond.castable E name).before args s = true) (hcell : H[q]? = some ce) (hv : ce.vm = .none) (hcl : s.vm.findClass E = some ce.cls)
    (kk : W p l e R s m args below meth c H locs cells slots Q (F0 m x.handlerPc ls [.ref q])) : vx_W p l e R s m args below meth c H locs cells slots Q (F0 m pc ls rest) q := by
  intro T hT X
  have hpl : e.platform.magicAccessors = ({} : Platform).magicAccessors := by rw [X.admits.platform]
  obtain ⟨c3, c4, hc3, hc4, hasg⟩ := Cond.castable_spec hcast
  cases Option.some.inj (hc3.symm.trans hcl)
  obtain ⟨c5, hc5, hcl5⟩ := Cond.classLink_spec hown hlink e.platform hpl
  cases Option.some.inj (hc4.symm.trans hc5)
  obtain ⟨vm', X', st⟩ := X.thenCaughtThrough q (g := F0 m pc ls rest) rfl (Steps.refl _) (by rw [hT]; exact hcell) (by rw [hv]; rfl) (by obtain ⟨k9, h9, -⟩ := Vm.findClass_spec hcl; exact ⟨k9, h9⟩) pre x suf hsplit
    (fun z hz => by
      rcases hpass z hz with h | ⟨hz0, nm, hl1, hn1⟩
      · exact Or.inl h
      · obtain ⟨c6, hc6, hcl6⟩ := Cond.classLink_spec hown hl1 e.platform hpl
        obtain ⟨a8, b8, h1, h2, h3⟩ := hn1
        cases Option.some.inj (h1.symm.trans hcl)
        cases Option.some.inj (h2.symm.trans hc6)
        exact Or.inr ⟨hz0, _, hcl6, h3⟩) hx (Or.inr ⟨h0, c4, hcl5, hasg⟩)
  obtain ⟨t, a1, b1⟩ := kk (T.setVm vm') hT X'
  exact ⟨t, st.trans a1, b1⟩
end Rows
section Ends
variable {p : Program} {l : Launch} {e : Env} {R : Room} {s : State} {m : MethodId} {args : Array Value} {below : List Frame} {meth : Method} {c : Code} {H : Heap} {locs : List Loc} {cells slots : Nat} {Q : State → Prop}
variable {mc ms : Nat} {free : Addr → Prop} {A0 A1 : Nat → Prop} {H0 : Heap} {a : Array Value} {ls : Array Slot} {st0 rest : List Value}
variable {Qc : Array Value → State → Outcome → State → Prop} {XC : String → State → State → Prop}
/-- what a body that may throw owes at its end -/
def vx_MQ (below : List Frame) (Qc : Array Value → State → Outcome → State → Prop) (XC : String → State → State → Prop) (a : Array Value) (s : State) (mc ms : Nat) (free : Addr → Prop) : State → Prop := fun t =>
  ∃ o, t.status = .running ∧ Ended t below o ∧ vx_Q Qc XC mc ms free a s o t
theorem vx_ret {g : JFrame} {mc ms : Nat} (k : W p l e R s m args below meth c H locs cells slots (MQ below Qc args s mc ms free) g) : W p l e R s m args below meth c H locs cells slots (vx_MQ below Qc XC args s mc ms free) g := by
  intro T hT X
  obtain ⟨t, a1, o, b1, b2, b3, b4⟩ := k T hT X
  exact ⟨t, a1, o, b1, b2, Or.inl ⟨b3, b4⟩⟩
/-- not caught here: it goes on to the caller -/
theorem vx_widen {g : JFrame} {q : Addr} {k n : Nat} (h1 : cells ≤ k) (h2 : slots ≤ n) (kk : vx_W p l e R s m args below meth c H locs k n Q g q) : vx_W p l e R s m args below meth c H locs cells slots Q g q := fun T hT X => kk T hT (stand_widen X h1 h2)
theorem vx_out {pc : Nat} {E : String} {ce : Cell} {q : Addr} {mc ms : Nat} (hout : ∀ x ∈ c.exceptionTable.toList, covers x pc = false) (hlocks : meth.locks = false) (hcell : H[q]? = some ce) (hv : ce.vm = .none) (hcl : s.vm.findClass E = some ce.cls)
    (hx : ∀ t : State, t.heap = H → s.vm.Alike t.vm → XC E s t) (hf : ∀ z ∈ locs, free z.base) (hc : cells ≤ mc) (hs : slots ≤ ms) :
    vx_W p l e R s m args below meth c H locs cells slots (vx_MQ below Qc XC args s mc ms free) (F0 m pc ls rest) q := by
  intro T hT X
  obtain ⟨st1, hrun, hend, hW, hsm⟩ := X.leaveThrown q (g := F0 m pc ls rest) rfl rfl rfl hout hlocks
  have hcell9 : (T.setFrames (.throwing q :: below)).heap[q]? = some ce := by
    show T.heap[q]? = some ce
    rw [hT]; exact hcell
  exact ⟨_, st1, .threw q, hrun, hend, Or.inr ⟨q, rfl, E, ce, locs, hx _ hT hW.alike, hcell9, hv, hcl, hW, hsm.mono hc hs, hf⟩⟩
theorem vx_frame {U : State} {k n : Nat} (h : s.sameButNew ({ U with vm := s.vm } : State) locs k n) : s.heap.size ≤ U.heap.size ∧ ∀ q : Nat, q < s.heap.size → (∀ z ∈ locs, z.base ≠ q) → U.heap[q]? = s.heap[q]? := by
  obtain ⟨-, h2, -, -, -, h6⟩ := h
  refine ⟨h2, fun q hq hz => ?_⟩
  obtain ⟨c9, e1, e2, e3, e4⟩ := h6 q _ (Array.getElem?_eq_getElem hq)
  have hs : c9.slots = (s.heap[q]).slots := Array.ext_getElem? fun i => e4 i fun hm => hz _ hm rfl
  have h9 : c9 = s.heap[q] := by
    rw [hs] at e2
    exact e2
  have e5 : U.heap[q]? = some c9 := e1
  rw [e5, h9, Array.getElem?_eq_getElem hq]
/-- the words of a throw but the four that speak of the heap -/
def vx_no (w : Cond) : Bool := decide (w ≠ .isRef (.static Bundle.tN "UNASSIGNED_STACK" Bundle.steD)) && decide (w ≠ .isRef (.static Bundle.tN "SUPPRESSED_SENTINEL" Bundle.listD)) && decide (w ≠ .laysStatic Bundle.tN "UNASSIGNED_STACK" Bundle.steD) && decide (w ≠ .laysStatic Bundle.tN "SUPPRESSED_SENTINEL" Bundle.listD)
def vx_at0 (own : String) (ic : Nat) (X : String) (names : List String) : List Cond := (Bundle.ownAtoms0 own ic X names).filter vx_no
def vx_atS (own : String) (ic : Nat) (X : String) (names : List String) : List Cond := (Bundle.ownAtoms own ic X names).filter vx_no
/-- a word that the tables alone decide, or a good one -/
def vx_ot (w : Cond) : Bool := w.onTables || goodWord w
theorem vx_ot_at {args a' : Array Value} {s U : State} {w : Cond} (hW : s.WarmedH U.vm) (hvm : s.vm = U.vm) (hg : vx_ot w = true) (h : w.before args s = true) : w.before a' U = true := by
  simp only [vx_ot, Bool.or_eq_true] at hg
  rcases hg with hg | hg
  · exact va_tabs hg hvm h
  · exact word_at hW (good_of_word hg) h
/-- a list's words: the good ones out of the method's own list, the others by premises of their own -/
theorem vx_hat {args : Array Value} {s : State} {L B : List Cond} (h1 : ∀ w ∈ L.filter goodWord, w.before args s = true) (h2 : ∀ w ∈ L.filter (fun w => !goodWord w), w ∈ B) (h3 : ∀ w ∈ B, w.before args s = true) : ∀ w ∈ L, w.before args s = true := by
  intro w hw
  by_cases g : goodWord w = true
  · exact h1 w (List.mem_filter.mpr ⟨hw, g⟩)
  · refine h3 w (h2 w (List.mem_filter.mpr ⟨hw, ?_⟩))
    show (!goodWord w) = true
    cases hgw : goodWord w
    · rfl
    · exact absurd hgw g
theorem vx_c {args : Array Value} {s : State} {w : Cond} {B : List Cond} (h : w.before args s = true) (t : ∀ w ∈ B, w.before args s = true) : ∀ w' ∈ w :: B, w'.before args s = true := fun w' h' => (List.mem_cons.mp h').elim (fun e => by rw [e]; exact h) (t w')
theorem vx_n {args : Array Value} {s : State} : ∀ w ∈ ([] : List Cond), w.before args s = true := fun _ h => nomatch h
theorem vx_own {args : Array Value} {s : State} {L : List Cond} (h1 : ∀ w ∈ L.filter vx_no, w.before args s = true)
    (hU : (Cond.isRef (.static Bundle.tN "UNASSIGNED_STACK" Bundle.steD)).before args s = true) (hN : (Cond.isRef (.static Bundle.tN "SUPPRESSED_SENTINEL" Bundle.listD)).before args s = true)
    (lU : (Cond.laysStatic Bundle.tN "UNASSIGNED_STACK" Bundle.steD).before args s = true) (lN : (Cond.laysStatic Bundle.tN "SUPPRESSED_SENTINEL" Bundle.listD).before args s = true) : ∀ w ∈ L, w.before args s = true := by
  intro w hw
  by_cases e1 : w = .isRef (.static Bundle.tN "UNASSIGNED_STACK" Bundle.steD)
  · rw [e1]; exact hU
  · by_cases e2 : w = .isRef (.static Bundle.tN "SUPPRESSED_SENTINEL" Bundle.listD)
    · rw [e2]; exact hN
    · by_cases e3 : w = .laysStatic Bundle.tN "UNASSIGNED_STACK" Bundle.steD
      · rw [e3]; exact lU
      · by_cases e4 : w = .laysStatic Bundle.tN "SUPPRESSED_SENTINEL" Bundle.listD
        · rw [e4]; exact lN
        · exact h1 w (List.mem_filter.mpr ⟨hw, by unfold vx_no; rw [decide_eq_true e1, decide_eq_true e2, decide_eq_true e3, decide_eq_true e4]; rfl⟩)
/-- where a static field lies, its class's statics cell in H -/
def vx_L (C n d : String) (A : Nat → Prop) (U : State) (H : Heap) : Prop := ∃ (c : ClassId) (k : Class) (i : Nat) (f : Field) (a : Nat) (cell : Cell), U.vm.findClass C = some c ∧ U.fieldFound? C n d = some (c, k, i, f) ∧ f.isStatic = true ∧ k.statics = some a ∧ H[a]? = some cell ∧ cell.vm.isStatics = true ∧ cell.cls = c ∧ f.slot < cell.slots.size ∧ k.staticTypes[f.slot]? = some f.type ∧ ¬ A a
theorem vx_L.moved {C n d : String} {A : Nat → Prop} {u U : State} {H : Heap} (hvm : u.vm.Alike U.vm) (h : vx_L C n d A u H) : vx_L C n d A U H := by
  obtain ⟨c, k, i, f, a, cell, h1, h2, h3, h4, h5, h6, h7, h8, h9, h10⟩ := h
  obtain ⟨k', hi', he⟩ := State.fieldFound?_setVm hvm h2
  exact ⟨c, k', i, f, a, cell, by rw [hvm.findClass]; exact h1, hi', h3, by rw [he]; exact h4, h5, h6, h7, h8, by rw [he]; exact h9, h10⟩
theorem vx_L.kept {C n d : String} {A : Nat → Prop} {U : State} {H H1 : Heap} (h : vx_L C n d A U H) (hq : ∀ a : Nat, a < H.size → ¬ A a → H1[a]? = H[a]?) : vx_L C n d A U H1 := by
  obtain ⟨c, k, i, f, a, cell, h1, h2, h3, h4, h5, h6, h7, h8, h9, h10⟩ := h
  exact ⟨c, k, i, f, a, cell, h1, h2, h3, h4, by rw [hq a (Array.getElem?_eq_some_iff.mp h5).1 h10]; exact h5, h6, h7, h8, h9, h10⟩
theorem vx_L.narrow {C n d : String} {A B : Nat → Prop} {U : State} {H : Heap} (h : vx_L C n d A U H) (hAB : ∀ q, B q → A q) : vx_L C n d B U H := by
  obtain ⟨c, k, i, f, a, cell, h1, h2, h3, h4, h5, h6, h7, h8, h9, h10⟩ := h
  exact ⟨c, k, i, f, a, cell, h1, h2, h3, h4, h5, h6, h7, h8, h9, fun z => h10 (hAB _ z)⟩
theorem vx_L.word {C n d : String} {A : Nat → Prop} {s : State} {args : Array Value} (h : vx_L C n d A s s.heap) : (Cond.laysStatic C n d).before args s = true := by
  obtain ⟨c, k, i, f, a, cell, h1, h2, h3, h4, h5, h6, h7, h8, h9, -⟩ := h
  show (Cond.laysStatic C n d).holds args s none s [] = true
  exact Cond.laysStatic_of h1 h2 h3 h4 h5 h6 h7 h8 h9
/-- .. and what it holds: null or some reference -/
def vx_Zq (C n d : String) (A : Nat → Prop) (U : State) (H : Heap) : Prop := va_Zq C n d A U H ∧ vx_L C n d A U H
theorem vx_Zq.moved {C n d : String} {A : Nat → Prop} {u U : State} {H : Heap} (hvm : u.vm.Alike U.vm) (h : vx_Zq C n d A u H) : vx_Zq C n d A U H := ⟨va_Zq.moved hvm h.1, vx_L.moved hvm h.2⟩
theorem vx_Zq.kept {C n d : String} {A : Nat → Prop} {U : State} {H H1 : Heap} (h : vx_Zq C n d A U H) (hq : ∀ a : Nat, a < H.size → ¬ A a → H1[a]? = H[a]?) : vx_Zq C n d A U H1 := ⟨va_Zq.kept h.1 hq, vx_L.kept h.2 hq⟩
theorem vx_Zq.narrow {C n d : String} {A B : Nat → Prop} {U : State} {H : Heap} (h : vx_Zq C n d A U H) (hAB : ∀ q, B q → A q) : vx_Zq C n d B U H := ⟨va_Zq.narrow h.1 hAB, vx_L.narrow h.2 hAB⟩
theorem vx_Zqof {args : Array Value} {s : State} {C n d : String} {A : Nat → Prop} (hl : (Cond.laysStatic C n d).before args s = true) (hini : (Cond.initialized C).before args s = true) (h : (Cond.isRef (.static C n d)).before args s = true) (hA : ∀ a : Nat, a < s.heap.size → ¬ A a) : vx_Zq C n d A s s.heap := by
  refine ⟨va_Zqof hl hini h hA, ?_⟩
  obtain ⟨c, k, i, f, a, cell, h1, h2, h3, h4, h5, h6, h7, h8, h9⟩ := Cond.laysStatic_spec hl
  exact ⟨c, k, i, f, a, cell, h1, h2, h3, h4, h5, h6, h7, h8, h9, hA a (Array.getElem?_eq_some_iff.mp h5).1⟩
theorem vx_isRef {C n d : String} {v : Value} {A : Nat → Prop} {s : State} {args : Array Value} (h : va_Z C n d v A s s.heap) (hv : v.isRef = true) : (Cond.isRef (.static C n d)).before args s = true := by
  obtain ⟨cf, kf, fi, f, a, cell, h1, h2, h3, h4, h5, h6, h7, -⟩ := h
  have he : (Term.static C n d).eval args s none [] s = some v := by
    simp [Term.eval, State.fieldNamed?, h1, h2, h4, h5, h6, h7]
  simp only [Cond.before, Cond.holds, Cond.value, he]
  cases v <;> simp_all [Value.isRef]
theorem vx_isRefq {C n d : String} {A : Nat → Prop} {s : State} {args : Array Value} (h : va_Zq C n d A s s.heap) : (Cond.isRef (.static C n d)).before args s = true := by
  rcases h with h | ⟨t, h⟩
  · exact vx_isRef h rfl
  · exact vx_isRef h rfl
/-- the same frame, seen from here: as if the method were called anew in this heap -/
theorem vx_rebase {T : State} (X : Stand p l e R s m args below meth c T locs cells slots) {R' : Room} (hf : R'.frames ≤ R.frames) (hl : R'.locals ≤ R.locals) (hc : cells + R'.cells ≤ R.cells) (hs : slots + R'.slots ≤ R.slots) :
    Stand p l e R' ((T.setVm s.vm).setFrames (.invoking m args :: below)) m args below meth c T [] 0 0 := by
  have htop : (T.setVm s.vm).topJava?.isSome := X.here.top
  have hF : ((T.setVm s.vm).setFrames (.invoking m args :: below)).frames = .invoking m args :: below := State.frames_setFrames _ (State.cur_lt_of_top htop)
  obtain ⟨g₀, hg0⟩ := Option.isSome_iff_exists.mp htop
  obtain ⟨r, hr⟩ := State.topJava?_eq_some.mp hg0
  have hl9 : e.platform.stackLimits (T.setVm s.vm).me = e.platform.stackLimits s.me := X.limits
  have hb9 : (T.setVm s.vm).me.stackBytes = s.me.stackBytes := X.bytes
  refine ⟨X.admits, X.cas, X.clock, hF, ?_, X.hears, X.method, X.code, X.here, X.tail, X.warmed, ?_, ?_, ?_⟩
  · have h := X.room
    have hU : ((T.setVm s.vm).setFrames (.invoking m args :: below)).localsInUse = s.localsInUse := by
      rw [State.localsInUse_invoking hF (meth := meth) (c := c) X.method X.code, State.localsInUse_invoking X.frames X.method X.code]
    simp only [State.hasRoom, Bool.and_eq_true, decide_eq_true_eq] at h ⊢
    obtain ⟨⟨⟨⟨h1, h2, h3, h4, h5, h6⟩, h7⟩, h8⟩, h9⟩ := h
    rw [X.frames, List.length_cons] at h2 h3
    have q1 := X.heapSize
    have q2 := X.used
    simp only [hF, hU, List.length_cons, State.stackLimits_setFrames, State.stackBytes_setFrames, hl9, hb9]
    refine ⟨⟨⟨⟨by omega, by omega, by omega, by omega, by omega, h6⟩, ?_⟩, ?_⟩, X.book⟩
    · show T.heap.size + R'.cells ≤ e.platform.maxCells
      omega
    · show T.slotsUsed + R'.slots ≤ e.platform.maxSlots
      omega
  · rw [State.stackLimits_setFrames]; rfl
  · rw [State.stackBytes_setFrames]; rfl
  · refine ⟨?_, Nat.le_refl _, Nat.le_refl _, ?_, ?_, fun a c9 h9 => ⟨c9, h9, rfl, rfl, fun _ _ => rfl⟩⟩
    · obtain ⟨t, ht, -⟩ := State.frames_cons hr
      show T.setVm s.vm = { ((T.setVm s.vm).setFrames (.invoking m args :: below)).setFrames (T.setVm s.vm).frames with heap := T.heap, slotsUsed := T.slotsUsed }
      rw [State.setFrames_setFrames, State.setFrames_self ht]
      rfl
    · show T.slotsUsed = T.slotsUsed + ((T.heap.toList.drop T.heap.size).map (·.slots.size)).sum
      rw [List.drop_eq_nil_of_le (Nat.le_of_eq Array.length_toList)]
      rfl
    · show ((T.heap.toList.drop T.heap.size).map (·.slots.size)).sum ≤ 0
      rw [List.drop_eq_nil_of_le (Nat.le_of_eq Array.length_toList)]
      exact Nat.le_refl _
/-- 'throw new E()': new; dup; invokespecial; athrow -/
theorem vx_throw0 {cc : ByteArray} {pc : Nat} (hexec : p.tables.exec = Jvm.exec) (hb : c.code = cc) (hl : l.stackTraces = false) {own cls : String} {names : List String} {ik ic mc ms : Nat} {A : Nat → Prop}
    (hown : s.vm.findClass own = some m.cls) (hcls : Bundle.fit cls = true) (hnames : ∀ n ∈ names, Bundle.fit n = true)
    (hk : (Cond.classLink own ik cls).before args s = true) (hini : (Cond.initialized cls).before args s = true) (hat : ∀ w ∈ vx_at0 own ic cls names, w.before args s = true)
    (hgood : ∀ w ∈ Cond.classLink own ik cls :: Cond.initialized cls :: vx_at0 own ic cls names, vx_ot w = true)
    (hU : vx_Zq Bundle.tN "UNASSIGNED_STACK" Bundle.steD A s s.heap) (hN : vx_Zq Bundle.tN "SUPPRESSED_SENTINEL" Bundle.listD A s s.heap) (hS : va_S A s.heap H locs) (hsize : ls.size = c.maxLocals)
    (d0 : decode cc pc = .ok (.new ik, 3)) (d3 : decode cc (pc + 3) = .ok (.dup, 1)) (d4 : decode cc (pc + 4) = .ok (.invokespecial ic, 3)) (d7 : decode cc (pc + 7) = .ok (.athrow, 1))
    (hout : ∀ x ∈ c.exceptionTable.toList, covers x (pc + 7) = false)
    (hRframes : names.length + 3 < R.frames) (hRlocals : (rest.map fun v => v.category).sum + (13 * (names.length + 1) + 42) ≤ R.locals) (hRcells : cells + 1 ≤ R.cells) (hRslots : slots + 6 ≤ R.slots) (hlocks : meth.locks = false)
    (hx : ∀ t : State, s.vm.Alike t.vm → H.size ≤ t.heap.size → (∀ q : Nat, q < H.size → t.heap[q]? = H[q]?) → XC cls s t)
    (hf : ∀ z ∈ locs, free z.base) (hc : cells + 1 ≤ mc) (hs : slots + 6 ≤ ms) :
    W p l e R s m args below meth c H locs cells slots (vx_MQ below Qc XC args s mc ms free) (F0 m pc ls rest) := by
  intro T hT X
  have htr : e.platform.stackTraces = false := (show e.platform.stackTraces = l.stackTraces by rw [X.admits.platform]).trans hl
  have Y := vx_rebase X (R' := { frames := R.frames, locals := R.locals, cells := 1, slots := 6 }) (Nat.le_refl _) (Nat.le_refl _) hRcells hRslots
  obtain ⟨s', hA⟩ : ∃ z, z = (T.setVm s.vm).setFrames (.invoking m args :: below) := ⟨_, rfl⟩
  rw [← hA] at Y
  have hvm : s'.vm = s.vm := by rw [hA]; rfl
  have hhp : s'.heap = H := by rw [hA]; exact hT
  have hW0 : s.WarmedH s'.vm := by rw [hvm]; exact State.WarmedH.refl s
  have hat' : ∀ w ∈ vx_at0 own ic cls names, w.before args s' = true := fun w hw => vx_ot_at hW0 hvm.symm (hgood w (List.mem_cons_of_mem _ (List.mem_cons_of_mem _ hw))) (hat w hw)
  have hk' : (Cond.classLink own ik cls).before args s' = true := vx_ot_at hW0 hvm.symm (hgood _ List.mem_cons_self) hk
  have hini' : (Cond.initialized cls).before args s' = true := vx_ot_at hW0 hvm.symm (hgood _ (List.mem_cons_of_mem _ List.mem_cons_self)) hini
  have hU' : vx_Zq Bundle.tN "UNASSIGNED_STACK" Bundle.steD A s' s'.heap := by rw [hhp]; exact vx_Zq.moved hW0.alike (hU.kept hS.2.1)
  have hN' : vx_Zq Bundle.tN "SUPPRESSED_SENTINEL" Bundle.listD A s' s'.heap := by rw [hhp]; exact vx_Zq.moved hW0.alike (hN.kept hS.2.1)
  have h : ∀ w ∈ Bundle.ownAtoms0 own ic cls names, w.before args s' = true := vx_own hat' (vx_isRefq hU'.1) (vx_isRefq hN'.1) hU'.2.word hN'.2.word
  have hown' : s'.vm.findClass own = some m.cls := by rw [hvm]; exact hown
  have hins : (Cond.instantiable cls 6).before args s' = true := h _ (by simp [Bundle.ownAtoms0])
  obtain ⟨vm₁, cX, kX, hfX, hkX, -, -, X₁, st1⟩ := Y.newCold hexec (own := own) (C := cls) (index := ik) (n := 6) hown' hk' hins hini'
    (g := F0 m pc ls rest) rfl (by rw [hb]; exact d0) (Nat.le_refl _) (Nat.le_refl _)
  generalize hT1 : (T.setVm vm₁).pushCell { cls := cX, slots := kX.instanceTypes.map defaultValue, vm := .none } = T1 at X₁ st1
  have hcat : (Value.ref T.heap.size).category = 1 := rfl
  have hcellA : T1.heap[T.heap.size]? = some (freshCell cX kX) := by rw [← hT1]; exact State.heap_pushCell_size _ _
  have d3' : decode c.code (pc + 3) = .ok (.dup, 1) := by rw [hb]; exact d3
  obtain ⟨U, hsteps, hrun, hend, hW, hsame, ce, hce, hO⟩ := X₁.ctorThrow0 hexec htr (own := own) (cls := cls) (names := names) (ic := ic) hown' hcls hnames h (fun x hx => nomatch hx) hfX hkX hcellA (by rw [hhp, hT]; exact Nat.le_refl _)
    (g := { method := m, pc := pc + 4, locals := ls, stack := .ref T.heap.size :: .ref T.heap.size :: rest, locked := none }) rfl hsize rfl rfl (rest := rest) rfl
    (by rw [hb]; exact d4) (by rw [hb]; exact d7) hout hRframes (by simp only [List.map_cons, List.sum_cons, hcat]; omega) hlocks
  obtain ⟨f1, f2⟩ := vx_frame hsame
  rw [hhp] at f1 f2
  have hWs : s.WarmedH U.vm := State.WarmedH.trans hW0 hW
  have hcl : s.vm.findClass cls = some ce.cls := by
    have h9 := hO.cls
    rw [hvm] at h9
    exact h9
  have hall : s.sameButNew ({ U with vm := s.vm } : State) locs mc ms := by
    subst hA
    obtain ⟨e1, e2⟩ := hsame
    rw [State.setFrames_setFrames] at e1
    have h2 : (T.setVm s.vm).sameButNew ({ U with vm := s.vm } : State) [] (0 + 1) (0 + 6) := ⟨e1, e2⟩
    have h3 := X.same.trans h2
    rw [List.append_nil] at h3
    exact h3.mono hc hs
  refine ⟨U, ?_, .threw T.heap.size, hrun, hend, Or.inr ⟨T.heap.size, rfl, cls, ce, locs, hx U hWs.alike f1 (fun q hq => f2 q hq (fun z hz => nomatch hz)), hce, hO.vm, hcl, hWs, hall, hf⟩⟩
  refine st1 _ ?_
  show Steps p.tables e below (T1.setTop { method := m, pc := pc + 3, locals := ls, stack := .ref T.heap.size :: rest, locked := none }) _
  jvm_step X₁.here [X₁.here.top, hexec, d3', Value.category]
  exact hsteps
/-- 'throw new E("text")': new; dup; ldc; invokespecial; athrow -/
theorem vx_throwS {cc : ByteArray} {pc : Nat} (hexec : p.tables.exec = Jvm.exec) (hb : c.code = cc) (hl : l.stackTraces = false) {own cls text : String} {names : List String} {ik is ic mc ms sa : Nat} {A : Nat → Prop}
    (hown : s.vm.findClass own = some m.cls) (hcls : Bundle.fit cls = true) (hnames : ∀ n ∈ names, Bundle.fit n = true)
    (hk : (Cond.classLink own ik cls).before args s = true) (hini : (Cond.initialized cls).before args s = true) (hstr : vk_R own is text sa s) (hat : ∀ w ∈ vx_atS own ic cls names, w.before args s = true)
    (hgood : ∀ w ∈ Cond.classLink own ik cls :: Cond.initialized cls :: vx_atS own ic cls names, vx_ot w = true)
    (hU : vx_Zq Bundle.tN "UNASSIGNED_STACK" Bundle.steD A s s.heap) (hN : vx_Zq Bundle.tN "SUPPRESSED_SENTINEL" Bundle.listD A s s.heap) (hS : va_S A s.heap H locs) (hsize : ls.size = c.maxLocals)
    (d0 : decode cc pc = .ok (.new ik, 3)) (d3 : decode cc (pc + 3) = .ok (.dup, 1)) (d4 : decode cc (pc + 4) = .ok (.ldc is, 2)) (d6 : decode cc (pc + 6) = .ok (.invokespecial ic, 3)) (d9 : decode cc (pc + 9) = .ok (.athrow, 1))
    (hout : ∀ x ∈ c.exceptionTable.toList, covers x (pc + 9) = false)
    (hRframes : names.length + 3 < R.frames) (hRlocals : (rest.map fun v => v.category).sum + (13 * (names.length + 1) + 43) ≤ R.locals) (hRcells : cells + 1 ≤ R.cells) (hRslots : slots + 6 ≤ R.slots) (hlocks : meth.locks = false)
    (hx : ∀ t : State, s.vm.Alike t.vm → H.size ≤ t.heap.size → (∀ q : Nat, q < H.size → t.heap[q]? = H[q]?) → XC cls s t)
    (hf : ∀ z ∈ locs, free z.base) (hc : cells + 1 ≤ mc) (hs : slots + 6 ≤ ms) :
    W p l e R s m args below meth c H locs cells slots (vx_MQ below Qc XC args s mc ms free) (F0 m pc ls rest) := by
  intro T hT X
  have htr : e.platform.stackTraces = false := (show e.platform.stackTraces = l.stackTraces by rw [X.admits.platform]).trans hl
  have Y := vx_rebase X (R' := { frames := R.frames, locals := R.locals, cells := 1, slots := 6 }) (Nat.le_refl _) (Nat.le_refl _) hRcells hRslots
  obtain ⟨s', hA⟩ : ∃ z, z = (T.setVm s.vm).setFrames (.invoking m args :: below) := ⟨_, rfl⟩
  rw [← hA] at Y
  have hvm : s'.vm = s.vm := by rw [hA]; rfl
  have hhp : s'.heap = H := by rw [hA]; exact hT
  have hW0 : s.WarmedH s'.vm := by rw [hvm]; exact State.WarmedH.refl s
  have hat' : ∀ w ∈ vx_atS own ic cls names, w.before args s' = true := fun w hw => vx_ot_at hW0 hvm.symm (hgood w (List.mem_cons_of_mem _ (List.mem_cons_of_mem _ hw))) (hat w hw)
  have hk' : (Cond.classLink own ik cls).before args s' = true := vx_ot_at hW0 hvm.symm (hgood _ List.mem_cons_self) hk
  have hini' : (Cond.initialized cls).before args s' = true := vx_ot_at hW0 hvm.symm (hgood _ (List.mem_cons_of_mem _ List.mem_cons_self)) hini
  have hU' : vx_Zq Bundle.tN "UNASSIGNED_STACK" Bundle.steD A s' s'.heap := by rw [hhp]; exact vx_Zq.moved hW0.alike (hU.kept hS.2.1)
  have hN' : vx_Zq Bundle.tN "SUPPRESSED_SENTINEL" Bundle.listD A s' s'.heap := by rw [hhp]; exact vx_Zq.moved hW0.alike (hN.kept hS.2.1)
  have h : ∀ w ∈ Bundle.ownAtoms own ic cls names, w.before args s' = true := vx_own hat' (vx_isRefq hU'.1) (vx_isRefq hN'.1) hU'.2.word hN'.2.word
  have hown' : s'.vm.findClass own = some m.cls := by rw [hvm]; exact hown
  have hins : (Cond.instantiable cls 6).before args s' = true := h _ (by simp [Bundle.ownAtoms])
  obtain ⟨vm₁, cX, kX, hfX, hkX, -, -, X₁, st1⟩ := Y.newCold hexec (own := own) (C := cls) (index := ik) (n := 6) hown' hk' hins hini'
    (g := F0 m pc ls rest) rfl (by rw [hb]; exact d0) (Nat.le_refl _) (Nat.le_refl _)
  generalize hT1 : (T.setVm vm₁).pushCell { cls := cX, slots := kX.instanceTypes.map defaultValue, vm := .none } = T1 at X₁ st1
  have hcat : (Value.ref T.heap.size).category = 1 := rfl
  have hcellA : T1.heap[T.heap.size]? = some (freshCell cX kX) := by rw [← hT1]; exact State.heap_pushCell_size _ _
  have d3' : decode c.code (pc + 3) = .ok (.dup, 1) := by rw [hb]; exact d3
  have d4' : decode c.code (pc + 4) = .ok (.ldc is, 2) := by rw [hb]; exact d4
  have hstr' : vk_R own is text sa s' := vk_R.warm hW0 hstr
  obtain ⟨U, hsteps, hrun, hend, hW, hsame, ce, hce, hO⟩ := X₁.ctorThrowS hexec htr (own := own) (cls := cls) (names := names) (ic := ic) hown' hcls hnames h (fun x hx => nomatch hx) hfX hkX hcellA (by rw [hhp, hT]; exact Nat.le_refl _) (msg := .ref sa) rfl
    (g := { method := m, pc := pc + 6, locals := ls, stack := .ref sa :: .ref T.heap.size :: .ref T.heap.size :: rest, locked := none }) rfl hsize rfl rfl (rest := rest) rfl
    (by rw [hb]; exact d6) (by rw [hb]; exact d9) hout hRframes (by simp only [List.map_cons, List.sum_cons, hcat]; omega) hlocks
  obtain ⟨f1, f2⟩ := vx_frame hsame
  rw [hhp] at f1 f2
  have hWs : s.WarmedH U.vm := State.WarmedH.trans hW0 hW
  have hcl : s.vm.findClass cls = some ce.cls := by
    have h9 := hO.cls
    rw [hvm] at h9
    exact h9
  have hall : s.sameButNew ({ U with vm := s.vm } : State) locs mc ms := by
    subst hA
    obtain ⟨e1, e2⟩ := hsame
    rw [State.setFrames_setFrames] at e1
    have h2 : (T.setVm s.vm).sameButNew ({ U with vm := s.vm } : State) [] (0 + 1) (0 + 6) := ⟨e1, e2⟩
    have h3 := X.same.trans h2
    rw [List.append_nil] at h3
    exact h3.mono hc hs
  refine ⟨U, ?_, .threw T.heap.size, hrun, hend, Or.inr ⟨T.heap.size, rfl, cls, ce, locs, hx U hWs.alike f1 (fun q hq => f2 q hq (fun z hz => nomatch hz)), hce, hO.vm, hcl, hWs, hall, hf⟩⟩
  refine st1 _ ?_
  show Steps p.tables e below (T1.setTop { method := m, pc := pc + 3, locals := ls, stack := .ref T.heap.size :: rest, locked := none }) _
  jvm_step X₁.here [X₁.here.top, hexec, d3', Value.category]
  exact X₁.ldcString hexec (own := own) (text := text) (index := is) (a := sa) hown' hstr'.1 hstr'.2
    (g := { method := m, pc := pc + 4, locals := ls, stack := .ref T.heap.size :: .ref T.heap.size :: rest, locked := none }) rfl d4' _ hsteps
/-- 'throw new E("text")', the text by a wide index -/
theorem vx_throwSW {cc : ByteArray} {pc : Nat} (hexec : p.tables.exec = Jvm.exec) (hb : c.code = cc) (hl : l.stackTraces = false) {own cls text : String} {names : List String} {ik is ic mc ms sa : Nat} {A : Nat → Prop}
    (hown : s.vm.findClass own = some m.cls) (hcls : Bundle.fit cls = true) (hnames : ∀ n ∈ names, Bundle.fit n = true)
    (hk : (Cond.classLink own ik cls).before args s = true) (hini : (Cond.initialized cls).before args s = true) (hstr : vk_R own is text sa s) (hat : ∀ w ∈ vx_atS own ic cls names, w.before args s = true)
    (hgood : ∀ w ∈ Cond.classLink own ik cls :: Cond.initialized cls :: vx_atS own ic cls names, vx_ot w = true)
    (hU : vx_Zq Bundle.tN "UNASSIGNED_STACK" Bundle.steD A s s.heap) (hN : vx_Zq Bundle.tN "SUPPRESSED_SENTINEL" Bundle.listD A s s.heap) (hS : va_S A s.heap H locs) (hsize : ls.size = c.maxLocals)
    (d0 : decode cc pc = .ok (.new ik, 3)) (d3 : decode cc (pc + 3) = .ok (.dup, 1)) (d4 : decode cc (pc + 4) = .ok (.ldc_w is, 3)) (d7 : decode cc (pc + 7) = .ok (.invokespecial ic, 3)) (d10 : decode cc (pc + 10) = .ok (.athrow, 1))
    (hout : ∀ x ∈ c.exceptionTable.toList, covers x (pc + 10) = false)
    (hRframes : names.length + 3 < R.frames) (hRlocals : (rest.map fun v => v.category).sum + (13 * (names.length + 1) + 43) ≤ R.locals) (hRcells : cells + 1 ≤ R.cells) (hRslots : slots + 6 ≤ R.slots) (hlocks : meth.locks = false)
    (hx : ∀ t : State, s.vm.Alike t.vm → H.size ≤ t.heap.size → (∀ q : Nat, q < H.size → t.heap[q]? = H[q]?) → XC cls s t)
    (hf : ∀ z ∈ locs, free z.base) (hc : cells + 1 ≤ mc) (hs : slots + 6 ≤ ms) :
    W p l e R s m args below meth c H locs cells slots (vx_MQ below Qc XC args s mc ms free) (F0 m pc ls rest) := by
  intro T hT X
  have htr : e.platform.stackTraces = false := (show e.platform.stackTraces = l.stackTraces by rw [X.admits.platform]).trans hl
  have Y := vx_rebase X (R' := { frames := R.frames, locals := R.locals, cells := 1, slots := 6 }) (Nat.le_refl _) (Nat.le_refl _) hRcells hRslots
  obtain ⟨s', hA⟩ : ∃ z, z = (T.setVm s.vm).setFrames (.invoking m args :: below) := ⟨_, rfl⟩
  rw [← hA] at Y
  have hvm : s'.vm = s.vm := by rw [hA]; rfl
  have hhp : s'.heap = H := by rw [hA]; exact hT
  have hW0 : s.WarmedH s'.vm := by rw [hvm]; exact State.WarmedH.refl s
  have hat' : ∀ w ∈ vx_atS own ic cls names, w.before args s' = true := fun w hw => vx_ot_at hW0 hvm.symm (hgood w (List.mem_cons_of_mem _ (List.mem_cons_of_mem _ hw))) (hat w hw)
  have hk' : (Cond.classLink own ik cls).before args s' = true := vx_ot_at hW0 hvm.symm (hgood _ List.mem_cons_self) hk
  have hini' : (Cond.initialized cls).before args s' = true := vx_ot_at hW0 hvm.symm (hgood _ (List.mem_cons_of_mem _ List.mem_cons_self)) hini
  have hU' : vx_Zq Bundle.tN "UNASSIGNED_STACK" Bundle.steD A s' s'.heap := by rw [hhp]; exact vx_Zq.moved hW0.alike (hU.kept hS.2.1)
  have hN' : vx_Zq Bundle.tN "SUPPRESSED_SENTINEL" Bundle.listD A s' s'.heap := by rw [hhp]; exact vx_Zq.moved hW0.alike (hN.kept hS.2.1)
  have h : ∀ w ∈ Bundle.ownAtoms own ic cls names, w.before args s' = true := vx_own hat' (vx_isRefq hU'.1) (vx_isRefq hN'.1) hU'.2.word hN'.2.word
  have hown' : s'.vm.findClass own = some m.cls := by rw [hvm]; exact hown
  have hins : (Cond.instantiable cls 6).before args s' = true := h _ (by simp [Bundle.ownAtoms])
  obtain ⟨vm₁, cX, kX, hfX, hkX, -, -, X₁, st1⟩ := Y.newCold hexec (own := own) (C := cls) (index := ik) (n := 6) hown' hk' hins hini'
    (g := F0 m pc ls rest) rfl (by rw [hb]; exact d0) (Nat.le_refl _) (Nat.le_refl _)
  generalize hT1 : (T.setVm vm₁).pushCell { cls := cX, slots := kX.instanceTypes.map defaultValue, vm := .none } = T1 at X₁ st1
  have hcat : (Value.ref T.heap.size).category = 1 := rfl
  have hcellA : T1.heap[T.heap.size]? = some (freshCell cX kX) := by rw [← hT1]; exact State.heap_pushCell_size _ _
  have d3' : decode c.code (pc + 3) = .ok (.dup, 1) := by rw [hb]; exact d3
  have d4' : decode c.code (pc + 4) = .ok (.ldc_w is, 3) := by rw [hb]; exact d4
  have hstr' : vk_R own is text sa s' := vk_R.warm hW0 hstr
  obtain ⟨U, hsteps, hrun, hend, hW, hsame, ce, hce, hO⟩ := X₁.ctorThrowS hexec htr (own := own) (cls := cls) (names := names) (ic := ic) hown' hcls hnames h (fun x hx => nomatch hx) hfX hkX hcellA (by rw [hhp, hT]; exact Nat.le_refl _) (msg := .ref sa) rfl
    (g := { method := m, pc := pc + 7, locals := ls, stack := .ref sa :: .ref T.heap.size :: .ref T.heap.size :: rest, locked := none }) rfl hsize rfl rfl (rest := rest) rfl
    (by rw [hb]; exact d7) (by rw [hb]; exact d10) hout hRframes (by simp only [List.map_cons, List.sum_cons, hcat]; omega) hlocks
  obtain ⟨f1, f2⟩ := vx_frame hsame
  rw [hhp] at f1 f2
  have hWs : s.WarmedH U.vm := State.WarmedH.trans hW0 hW
  have hcl : s.vm.findClass cls = some ce.cls := by
    have h9 := hO.cls
    rw [hvm] at h9
    exact h9
  have hall : s.sameButNew ({ U with vm := s.vm } : State) locs mc ms := by
    subst hA
    obtain ⟨e1, e2⟩ := hsame
    rw [State.setFrames_setFrames] at e1
    have h2 : (T.setVm s.vm).sameButNew ({ U with vm := s.vm } : State) [] (0 + 1) (0 + 6) := ⟨e1, e2⟩
    have h3 := X.same.trans h2
    rw [List.append_nil] at h3
    exact h3.mono hc hs
  refine ⟨U, ?_, .threw T.heap.size, hrun, hend, Or.inr ⟨T.heap.size, rfl, cls, ce, locs, hx U hWs.alike f1 (fun q hq => f2 q hq (fun z hz => nomatch hz)), hce, hO.vm, hcl, hWs, hall, hf⟩⟩
  refine st1 _ ?_
  show Steps p.tables e below (T1.setTop { method := m, pc := pc + 3, locals := ls, stack := .ref T.heap.size :: rest, locked := none }) _
  jvm_step X₁.here [X₁.here.top, hexec, d3', Value.category]
  exact X₁.ldcStringW hexec (own := own) (text := text) (index := is) (a := sa) hown' hstr'.1 hstr'.2
    (g := { method := m, pc := pc + 4, locals := ls, stack := .ref T.heap.size :: .ref T.heap.size :: rest, locked := none }) rfl d4' _ hsteps
end Ends
section Bodies
variable {l : Launch}
theorem vx_ofW {y : MethodName} {ws ws' : List Cond} {rm : Room} {Pc : Array Value → State → Prop} {Qc : Array Value → State → Outcome → State → Prop} {XC : String → State → State → Prop} {mc ms : Nat} {free : Addr → Prop} {cc : ByteArray} {maxL : Nat} {ret : Option FieldType}
    (hy : plainName y.cls = true) (hw : ws = Cond.code y cc maxL ret :: ws')
    (body : ∀ p e s m args below meth c s₁, BodyLoose p l y (headSpec ws rm) cc maxL ret e s m args below meth c s₁ → c.maxLocals = maxL → (∀ x ∈ c.exceptionTable.toList, False) → Pc args s →
      W p l e (headSpec ws rm).room s m args below meth c s.heap [] 0 0 (vx_MQ below Qc XC args s mc ms free) (entryFrame m args maxL)) : vx_Met l y ws rm Pc Qc XC mc ms free := by
  refine MetFree.of_bodyS (code := cc) (maxLocals := maxL) (ret := ret) hy ?_ ?_
  · intro args s m h hn
    obtain ⟨meth, c, h1, h2, h3, h4, h5, h6, -, -⟩ := Cond.code_spec hn (atoms_spec (ws := ws) h _ (by rw [hw]; exact List.mem_cons_self))
    exact ⟨meth, c, h1, h2, h3, h4, h5, h6⟩
  · intro p e s m args below meth c s₁ B hml hP _
    have hh0 : s₁.heap = s.heap := by rw [B.state]; rfl
    have ht : ∀ x ∈ c.exceptionTable.toList, False := by
      obtain ⟨meth9, c9, h1, h2, -, -, -, -, h7, -⟩ := Cond.code_spec B.named (atoms_spec (ws := ws) B.pre _ (by rw [hw]; exact List.mem_cons_self))
      cases Option.some.inj (h1.symm.trans B.method)
      cases Option.some.inj (h2.symm.trans (Stand.of_body B).code)
      intro x hx
      rw [Array.isEmpty_iff.mp h7] at hx
      cases hx
    obtain ⟨t, a1, o, b1, b2, b3⟩ := body p e s m args below meth c s₁ B hml ht hP s₁ hh0 (Stand.of_body B)
    exact ⟨t, o, a1, b1, b2, b3⟩
/-- the table of a body with handlers -/
theorem vx_table {p : Program} {x y : MethodName} {S : Spec} {cc bytes : ByteArray} {maxL maxL' : Nat} {ret ret' : Option FieldType} {e : Env} {s s₁ : State} {m : MethodId} {args : Array Value} {below : List Frame} {meth : Method} {c : Code} {hh : List (Nat × Nat × Nat × Nat)}
    (B : BodyLoose p l y S cc maxL ret e s m args below meth c s₁) (h : (Cond.codeWith y bytes maxL' ret' hh).before args s = true) : c.exceptionTable.toList = tableOf hh := by
  obtain ⟨m9, meth9, c9, hn9, h1, h2, -, -, h6, -⟩ := Cond.codeWith_spec h
  cases Option.some.inj (hn9.symm.trans B.named)
  cases Option.some.inj (h1.symm.trans B.method)
  cases Option.some.inj (h2.symm.trans (Stand.of_body B).code)
  rw [← h6, table_eq]
end Bodies
end VXA
/-! ===== END ===== -/
/-! ===== BEGIN a static call of a method with an exception table ===== -/
section VXS
variable {p : Program} {l : Launch} {e : Env} {R : Room} {s : State} {m : MethodId} {args : Array Value} {below : List Frame} {meth : Method} {c : Code} {T : State} {H : Heap} {locs : List Loc} {cells slots : Nat}
abbrev vx_CSW (R : Room) (s : State) (args : Array Value) (own : String) (index : Nat) (y : MethodName) (bytes : ByteArray) (maxL : Nat) (ret : Option FieldType) (hh : List (Nat × Nat × Nat × Nat)) (ws : List Cond) (rm : Room) (mc ms n : Nat) : Prop :=
  (rm.cells = mc ∧ rm.slots = ms ∧ rm.frames + 1 ≤ R.frames ∧ 8 + (maxL + 11) + rm.locals ≤ R.locals ∧ (∀ w ∈ ws, ∀ (a' : Array Value) (U : State), s.WarmedH U.vm → w.before a' U = true) ∧ Cond.codeWith y bytes maxL ret hh ∈ ws) ∧
  (Cond.codeWith y bytes maxL ret hh).before args s = true ∧ (Cond.initialized y.cls).before args s = true ∧ (y.cls ≠ "java/lang/invoke/MethodHandle" ∧ y.cls ≠ "java/lang/invoke/VarHandle") ∧
  (∀ sig, parseMethodDescriptor y.desc = some sig → n = sig.parameters.length) ∧ (Cond.methodLink own index y).before args s = true ∧ (Cond.static y).before args s = true
theorem vx_cwSW {own : String} {index maxL mc ms : Nat} {y : MethodName} {bytes : ByteArray} {ret : Option FieldType} {hh : List (Nat × Nat × Nat × Nat)} {Ts ws ws' : List Cond} {rm : Room} (n : Nat) (ht : ∀ w ∈ Ts, w.before args s = true) (hT : GoodIn Ts (va_wsS own index y ws)) (hw : ws = Cond.codeWith y bytes maxL ret hh :: ws') (hrc : rm.cells = mc) (hrs : rm.slots = ms)
    (hd : y.cls ≠ "java/lang/invoke/MethodHandle" ∧ y.cls ≠ "java/lang/invoke/VarHandle" ∧ (parseMethodDescriptor y.desc).map (fun d => d.parameters.length) = some n) (hR : rm.frames + 1 ≤ R.frames ∧ 8 + (maxL + 11) + rm.locals ≤ R.locals) :
    vx_CSW R s args own index y bytes maxL ret hh ws rm mc ms n := by
  have ok : ∀ w ∈ va_wsS own index y ws, w.before args s = true := fun w h => ht w (hT w h).1
  have hG : GoodIn Ts ws := fun w h => hT w (by unfold va_wsS; exact List.mem_append_right _ h)
  have hc : Cond.codeWith y bytes maxL ret hh ∈ ws := by rw [hw]; exact List.mem_cons_self
  refine ⟨⟨hrc, hrs, hR.1, hR.2, pay_in ht hG, hc⟩, ht _ (hG _ hc).1, ok _ (by simp [va_wsS]), ⟨hd.1, hd.2.1⟩, fun sig h => ?_, ok _ (by simp [va_wsS]), ok _ (by simp [va_wsS])⟩
  have h2 := hd.2.2
  rw [h] at h2
  exact (Option.some.inj h2).symm
theorem vx_callSW (X : Stand p l e R s m args below meth c T locs cells slots) (hexec : p.tables.exec = Jvm.exec) {own : String} {index : Nat} {y : MethodName} {bytes : ByteArray} {maxL : Nat} {ret : Option FieldType} {hh : List (Nat × Nat × Nat × Nat)}
    (hown : s.vm.findClass own = some m.cls) (hlink : (Cond.methodLink own index y).before args s = true) (hstat : (Cond.static y).before args s = true) (hinit : (Cond.initialized y.cls).before args s = true)
    (hcode : (Cond.codeWith y bytes maxL ret hh).before args s = true) (hy : y.cls ≠ "java/lang/invoke/MethodHandle" ∧ y.cls ≠ "java/lang/invoke/VarHandle")
    {W9 : Nat} {Pre : Pt → Array Value → Prop} {Post : Pt → Array Value → Option Value → Pt → Prop} (hK : Back l R p e below s args y 3 W9 Pre Post)
    {g : JFrame} (hg : g.method = m) (hsize : g.locals.size = c.maxLocals) {argsL rest : List Value} (hlen : ∀ sig, parseMethodDescriptor y.desc = some sig → argsL.length = sig.parameters.length)
    (hstack : g.stack = argsL.reverse ++ rest) (hW : 2 * g.monitorRoom + (rest.map fun v => v.category).sum ≤ W9) (hdg : decode c.code g.pc = .ok (.invokestatic index, 3))
    (hpre : ∀ vm₁, s.WarmedH vm₁ → Pre ⟨T.setVm vm₁, locs, cells, slots⟩ argsL.toArray) :
    ∃ (v : Option Value) (vm₁ : Vm) (B : Pt), s.WarmedH vm₁ ∧ Stand p l e R s m args below meth c B.U B.locs B.cells B.slots ∧ Post ⟨T.setVm vm₁, locs, cells, slots⟩ argsL.toArray v B ∧
      ∀ target, Steps p.tables e below (B.U.setTop { g with pc := g.pc + 3, stack := v.toList ++ rest }) target → Steps p.tables e below (T.setTop g) target := by
  obtain ⟨mk, methM, cM, hnamed, hmethM, -, -, -, -, -, -, hsigM⟩ := Cond.codeWith_spec hcode
  have hstatic : methM.isStatic = true := Cond.static_spec hnamed hmethM hstat
  obtain ⟨kP, hkP, -⟩ := className_of_methodNamed hnamed
  have hinitP : kP.init = .initialized := Cond.initialized_spec (findClass_of_methodNamed hnamed) hkP hinit
  obtain ⟨vm₁, X₁, hstep₁⟩ := X.invokestatic hexec hown hlink hnamed hmethM hstatic hkP hinitP hy (g := g) hg (argsL := argsL) (rest := rest) (hlen _ hsigM) hstack hdg
  obtain ⟨v, B, X', hpost, hsteps⟩ := hK m meth c ⟨T.setVm vm₁, locs, cells, slots⟩ { g with stack := rest } (.invokestatic index) mk argsL.toArray X₁ hg hsize hdg hW (X₁.named hnamed) (hpre vm₁ X₁.warmed)
  exact ⟨v, vm₁, B, X₁.warmed, X', hpost, fun target h => hstep₁ _ fun acts => by rw [doInvoke_state]; exact hsteps.trans h⟩
theorem vx_runSW {y : MethodName} {bytes cc : ByteArray} {maxL nL mc ms n index : Nat} {ret : Option FieldType} {hh : List (Nat × Nat × Nat × Nat)} {ws : List Cond} {rm : Room} {Pc : Array Value → State → Prop} {Qc : Array Value → State → Outcome → State → Prop} {free : Addr → Prop} {Ts : List Cond} {own : String} {As rest : List Value} {g : JFrame}
    (S : CallFix p m c cc nL s args Ts own) (hM : Met l y ws rm Pc Qc mc ms free) (cw : vx_CSW R s args own index y bytes maxL ret hh ws rm mc ms n) (hp : PreS s H Pc As)
    (hg : g.method = m) (hn : As.length = n) (hsize : g.locals.size = nL) (hstack : g.stack = As.reverse ++ rest) (hW : 2 * g.monitorRoom + (rest.map fun v => v.category).sum ≤ 8) (hdg : decode cc g.pc = .ok (.invokestatic index, 3)) (hf : cells + mc ≤ R.cells ∧ slots + ms ≤ R.slots) :
    va_Run p l e R s m args below meth c H locs cells slots mc ms g rest (Qc As.toArray) (free) := by
  obtain ⟨⟨hrc, hrs, hfr, hlo, hws, hcw⟩, hcode, hini, hy, hlen, hl, hstt⟩ := cw
  have hK : Back l R p e below s args y 3 8 (PreOf R mc ms Pc) (PostOf Qc mc ms free) := va_backW (hh := hh) (bytes := bytes) (maxL := maxL) (ret := ret) hM hp.1 hrc hrs hfr hlo hws hcw (fun a' U hW => word_at hW (Or.inl (by first | rfl | simp [Cond.onTables, Cond.keeps, Cond.steady])) hini)
  obtain ⟨hx, hb, hml, ho, -⟩ := S
  intro T hT X
  obtain ⟨v, vm₁, ⟨U', l2, c2, s2⟩, hW₁, X', ⟨g', mk, t, L, e1, e2, hq, h1, hL, h2, h3⟩, st⟩ := vx_callSW X hx (hh := hh) (bytes := bytes) (maxL := maxL) (ret := ret) ho hl hstt hini hcode hy hK hg (hsize.trans hml.symm) (argsL := As) (rest := rest) (fun sig h => hn.trans (hlen sig h)) hstack hW (by rw [hb]; exact hdg)
    (fun vm₁ hW₁ => ⟨hf.1, hf.2, hp.2 (T.setVm vm₁) hT hW₁⟩)
  dsimp only [Pt.U, Pt.locs, Pt.cells, Pt.slots] at X' e1 e2 h1 h2 h3 st
  subst h1; subst h2; subst h3
  exact ⟨v, (T.setVm vm₁).calling g' mk As.toArray, t, U', L, hT, X', hL, e1, e2, hq, st⟩
/-- not caught here, past rows that name other classes: it goes on to the caller -/
theorem vx_outP {p : Program} {l : Launch} {e : Env} {R : Room} {s : State} {m : MethodId} {args : Array Value} {below : List Frame} {meth : Method} {c : Code} {H : Heap} {locs : List Loc} {cells slots : Nat} {free : Addr → Prop} {ls : Array Slot} {rest : List Value} {Qc : Array Value → State → Outcome → State → Prop} {XC : String → State → State → Prop}
    {pc : Nat} {own E : String} {ce : Cell} {q : Addr} {mc ms : Nat} (hown : s.vm.findClass own = some m.cls) (hlocks : meth.locks = false)
    (hpass : ∀ z ∈ c.exceptionTable.toList, covers z pc = false ∨ (z.catchType ≠ 0 ∧ ∃ nm : String, (Cond.classLink own z.catchType nm).before args s = true ∧ va_Nc E nm s)) (hcell : H[q]? = some ce) (hv : ce.vm = .none) (hcl : s.vm.findClass E = some ce.cls)
    (hx : ∀ t : State, t.heap = H → s.vm.Alike t.vm → XC E s t) (hf : ∀ z ∈ locs, free z.base) (hc : cells ≤ mc) (hs : slots ≤ ms) :
    vx_W p l e R s m args below meth c H locs cells slots (vx_MQ below Qc XC args s mc ms free) (F0 m pc ls rest) q := by
  intro T hT X
  have hpl : e.platform.magicAccessors = ({} : Platform).magicAccessors := by rw [X.admits.platform]
  obtain ⟨vm', hW', X', st⟩ := X.outThrough hlocks q (g := F0 m pc ls rest) rfl rfl rfl (cell := ce) (by rw [hT]; exact hcell) (by rw [hv]; rfl)
    (by obtain ⟨k9, h9, -⟩ := Vm.findClass_spec hcl; exact ⟨k9, h9⟩) (fun z hz => by
      rcases hpass z hz with h | ⟨hz0, nm, hl1, hn1⟩
      · exact Or.inl h
      · obtain ⟨c6, hc6, hcl6⟩ := Cond.classLink_spec hown hl1 e.platform hpl
        obtain ⟨a8, b8, h1, h2, h3⟩ := hn1
        cases Option.some.inj (h1.symm.trans hcl)
        cases Option.some.inj (h2.symm.trans hc6)
        exact Or.inr ⟨hz0, _, hcl6, h3⟩)
  obtain ⟨g₀, hfr⟩ := X'.frames_eq
  have hcell9 : ((T.setVm vm').setFrames (.throwing q :: below)).heap[q]? = some ce := by
    show T.heap[q]? = some ce
    rw [hT]; exact hcell
  have hend : Ended ((T.setVm vm').setFrames (.throwing q :: below)) below (.threw q) := State.frames_setFrames _ (State.cur_lt_of_frames hfr)
  refine ⟨(T.setVm vm').setFrames (.throwing q :: below), ?_, .threw q, X'.here.running, hend, Or.inr ⟨q, rfl, E, ce, locs, hx _ hT (X'.ends _).1.alike, hcell9, hv, hcl, (X'.ends _).1, (X'.ends _).2.mono hc hs, hf⟩⟩
  rw [X.pushThrowing_eq]
  exact st
/-- a thing of a world lies in the heap -/
theorem vx_lt {D : va_G} {cl : List vw_C} {ws : va_W} {H1 : Heap} (h : va_P D cl ws H1) {k : Nat} {q : Nat × va_E} (hk : ws[k]? = some q) : q.1 < H1.size := (h k q hk).lt
end VXS
/-! ===== END ===== -/
/-! ===== BEGIN methods with a table of their own: called by a name, returning or throwing ===== -/
section VXH
/-! vx_backW, vx_callVX, vx_callSX, vx_callVW, vx_runVW, vx_runVX, vx_runSX, vx_ofWH follow the same proofs as their sisters above (Free/Laws.lean, Shelf42/LK1.lean); vx_outP calls Shelf42/NT130.lean (outThrough). -/
section
variable {l : Launch} {R : Room} {p : Program} {e : Env} {below : List Frame} {s : State} {sargs : Array Value} {y : MethodName} {len W9 : Nat}
theorem vx_backW {ws : List Cond} {rm : Room} {Pc : Array Value → State → Prop} {Qc : Array Value → State → Outcome → State → Prop} {XC : String → State → State → Prop} {mc ms : Nat} {free : Addr → Prop} {bytes : ByteArray} {maxL : Nat} {ret : Option FieldType} {hh : List (Nat × Nat × Nat × Nat)}
    (hM : vx_Met l y ws rm Pc Qc XC mc ms free) (hblind : FrameBlind Pc) (hrc : rm.cells = mc) (hrs : rm.slots = ms)
    (hframes : rm.frames + 1 ≤ R.frames) (hlocals : W9 + (maxL + 11) + rm.locals ≤ R.locals)
    (hws : ∀ w ∈ ws, ∀ a' U, s.WarmedH U.vm → w.before a' U = true) (hcode : Cond.codeWith y bytes maxL ret hh ∈ ws) (hinit : ∀ a' U, s.WarmedH U.vm → (Cond.initialized y.cls).before a' U = true) :
    vx_Back l R p e below s sargs y len W9 (PreOf R mc ms Pc) (PostOf Qc mc ms free) (vx_Post XC mc ms free) := by
  intro m meth c A g ig mk a X hg hsize hdg hW hn hp
  have h1 : (headSpec ws rm).pre.before a A.U = true := atoms_intro fun w hw => hws w hw _ _ X.warmed
  have h2 : (Cond.codeWith y bytes maxL ret hh).before a A.U = true := hws _ hcode _ _ X.warmed
  have h3 : (Cond.initialized y.cls).before a A.U = true := hinit _ _ X.warmed
  have h4 : A.cells + (headSpec ws rm).room.cells ≤ R.cells := by rw [show (headSpec ws rm).room.cells = mc from hrc]; exact hp.1
  have h5 : A.slots + (headSpec ws rm).room.slots ≤ R.slots := by rw [show (headSpec ws rm).room.slots = ms from hrs]; exact hp.2.1
  have hPc : Pc a (A.U.calling g mk a) := hblind _ _ _ _ hp.2.2
  obtain ⟨U, Ls, c0, s0⟩ := A
  dsimp only [Pt.U, Pt.locs, Pt.cells, Pt.slots] at h1 h2 h3 h4 h5 X hn hPc ⊢
  obtain ⟨m9, methY, cY, hn9, hmY, hcY, -, hlY, -⟩ := Cond.codeWith_spec h2
  cases Option.some.inj (hn9.symm.trans hn)
  obtain ⟨kY, hkY, -⟩ := className_of_methodNamed hn
  have hinitY : kY.init = .initialized := Cond.initialized_spec (findClass_of_methodNamed hn) hkY h3
  have h : At U g.method c below := by rw [hg]; exact X.here
  have hlocals9 : W9 + (maxL + 11) + (headSpec ws rm).room.locals ≤ R.locals := hlocals
  have happ : (headSpec ws rm).appliesLoose y e.platform (U.calling g mk a) = true :=
    Spec.appliesLoose_calling (g := g) h hdg hn hkY hinitY
      (X.room_calling (g := g) (R' := (headSpec ws rm).room) hsize hmY hcY hframes (by rw [hlY]; omega) h4 h5) h1
  obtain ⟨mid, hmid⟩ := h.above
  have hfr : (U.setTop g).frames = (.java g :: mid) ++ below := by rw [State.frames_setTop' g h.top, hmid]; rfl
  obtain ⟨o, s₂, hsteps, -, hend, hq⟩ := Steps.callFree hM p X.admits X.cas X.clock (acts := []) hfr happ hPc trivial
  have hq' : vx_Q Qc XC mc ms free a (U.calling g mk a) o s₂ := hq
  rw [State.frames_setTop' g h.top] at hend
  obtain ⟨g₀, hg0⟩ := Option.isSome_iff_exists.mp h.top
  obtain ⟨r, hr⟩ := State.topJava?_eq_some.mp hg0
  have hr' : (({ U with heap := s₂.heap, slotsUsed := s₂.slotsUsed } : State).setVm s₂.vm).frames = .java g₀ :: r := hr
  rcases hq' with ⟨hqc, L, hfe, hL⟩ | ⟨q, rfl, E, ce, L, hx, hce, hcv, hcl, hW₂, hsm, hL⟩
  · obtain ⟨⟨v, rfl⟩, hW₂, e2, q2, q3, q4, q5, q6⟩ := id hfe
    have e3 : s₂ = ({ (U.calling g mk a).setFrames s₂.frames with heap := s₂.heap, slotsUsed := s₂.slotsUsed } : State).setVm s₂.vm := by
      have : s₂ = ({ s₂ with vm := (U.calling g mk a).vm } : State).setVm s₂.vm := rfl
      rw [e2] at this
      exact this
    obtain ⟨c₂, i₂, len₂, hc₂, hd₂, hf₂⟩ := hend
    have hW' : U.WarmedH s₂.vm := hW₂
    have hcc : c₂ = c := by
      have h1 : s₂.code? g.method = U.code? g.method := by
        rw [State.code?_eq, State.code?_eq, hW'.alike.method?]
      exact Option.some.inj (hc₂.symm.trans (h1.trans h.code))
    subst hcc
    have hlen : len₂ = len := by rw [hdg] at hd₂; cases hd₂; rfl
    subst hlen
    have hs₂ : s₂ = (({ U with heap := s₂.heap, slotsUsed := s₂.slotsUsed } : State).setVm s₂.vm).setTop { g with pc := g.pc + len₂, stack := v.toList ++ g.stack } := by
      refine e3.trans ?_
      rw [hf₂, State.calling_eq h.top, State.setFrames_setFrames, State.setTop_of_frames _ hr', hr]
      rfl
    have hsame : U.sameButNew ({ U with heap := s₂.heap, slotsUsed := s₂.slotsUsed } : State) L mc ms := by
      refine ⟨?_, q2, q3, q4, q5, q6⟩
      obtain ⟨t, ht, -⟩ := State.frames_cons hr
      show ({ U with heap := s₂.heap, slotsUsed := s₂.slotsUsed } : State) = { U.setFrames U.frames with heap := s₂.heap, slotsUsed := s₂.slotsUsed }
      rw [State.setFrames_self ht]
    subst hg
    refine Or.inl ⟨v, ⟨(({ U with heap := s₂.heap, slotsUsed := s₂.slotsUsed } : State).setVm s₂.vm), Ls ++ L, c0 + mc, s0 + ms⟩,
      ⟨X.admits, X.cas, X.clock, X.frames, X.room, X.hears, X.method, X.code, (X.here.setHeapUsed s₂.heap s₂.slotsUsed).setVm hW'.alike, X.tail, State.WarmedH.trans X.warmed hW', X.limits, X.bytes, X.same.trans (hsame.setVm s.vm)⟩,
      ⟨g, mk, s₂, L, rfl, rfl, hqc, rfl, hL, rfl, rfl⟩, ?_⟩
    show Steps p.tables e below _ ((({ U with heap := s₂.heap, slotsUsed := s₂.slotsUsed } : State).setVm s₂.vm).setTop { g with pc := g.pc + len₂, stack := v.toList ++ g.stack })
    rw [← hs₂]
    exact hsteps
  · obtain ⟨e2, q2, q3, q4, q5, q6⟩ := id hsm
    have e3 : s₂ = ({ (U.calling g mk a).setFrames s₂.frames with heap := s₂.heap, slotsUsed := s₂.slotsUsed } : State).setVm s₂.vm := by
      have : s₂ = ({ s₂ with vm := (U.calling g mk a).vm } : State).setVm s₂.vm := rfl
      rw [e2] at this
      exact this
    have hf₂ : s₂.frames = .throwing q :: .java g :: U.frames.tail := hend
    have hW' : U.WarmedH s₂.vm := hW₂
    have hs₂ : s₂ = ((({ U with heap := s₂.heap, slotsUsed := s₂.slotsUsed } : State).setVm s₂.vm).setTop g).pushFrame (.throwing q) := by
      refine e3.trans ?_
      rw [hf₂, State.calling_eq h.top, State.setFrames_setFrames, State.pushFrame, State.frames_setTop _ hr', State.setTop_of_frames _ hr', State.setFrames_setFrames, hr]
      rfl
    have hsame : U.sameButNew ({ U with heap := s₂.heap, slotsUsed := s₂.slotsUsed } : State) L mc ms := by
      refine ⟨?_, q2, q3, q4, q5, q6⟩
      obtain ⟨t, ht, -⟩ := State.frames_cons hr
      show ({ U with heap := s₂.heap, slotsUsed := s₂.slotsUsed } : State) = { U.setFrames U.frames with heap := s₂.heap, slotsUsed := s₂.slotsUsed }
      rw [State.setFrames_self ht]
    subst hg
    refine Or.inr ⟨q, ⟨(({ U with heap := s₂.heap, slotsUsed := s₂.slotsUsed } : State).setVm s₂.vm), Ls ++ L, c0 + mc, s0 + ms⟩,
      ⟨X.admits, X.cas, X.clock, X.frames, X.room, X.hears, X.method, X.code, (X.here.setHeapUsed s₂.heap s₂.slotsUsed).setVm hW'.alike, X.tail, State.WarmedH.trans X.warmed hW', X.limits, X.bytes, X.same.trans (hsame.setVm s.vm)⟩,
      ⟨g, mk, s₂, L, E, ce, rfl, rfl, hx, hce, hcv, hcl, rfl, hL, rfl, rfl⟩, ?_⟩
    show Steps p.tables e below _ (((({ U with heap := s₂.heap, slotsUsed := s₂.slotsUsed } : State).setVm s₂.vm).setTop g).pushFrame (.throwing q))
    rw [← hs₂]
    exact hsteps
end
variable {p : Program} {l : Launch} {e : Env} {R : Room} {s : State} {m : MethodId} {args : Array Value} {below : List Frame} {meth : Method} {c : Code} {T : State} {H : Heap} {locs : List Loc} {cells slots : Nat}
theorem vx_callVX (X : Stand p l e R s m args below meth c T locs cells slots) (hexec : p.tables.exec = Jvm.exec) {own C : String} {index : Nat} {y : MethodName} {bytes : ByteArray} {maxL : Nat} {ret : Option FieldType} {hh : List (Nat × Nat × Nat × Nat)}
    (hown : s.vm.findClass own = some m.cls) (hlink : (Cond.methodLink own index y).before args s = true) (hinst : (Cond.instanceMethod y).before args s = true) (hsel : (Cond.selects C y y).before args s = true)
    (hcode : (Cond.codeWith y bytes maxL ret hh).before args s = true) (hy : y.cls ≠ "java/lang/invoke/MethodHandle" ∧ y.cls ≠ "java/lang/invoke/VarHandle")
    {W9 : Nat} {Pre : Pt → Array Value → Prop} {Post : Pt → Array Value → Option Value → Pt → Prop} {PostX : Pt → Array Value → Addr → Pt → Prop} (hK : vx_Back l R p e below s args y 3 W9 Pre Post PostX)
    {b : Addr} {cellB : Cell} (hcell : T.heap[b]? = some cellB) (hobj : cellB.vm.isStatics = false) (hcls : s.vm.findClass C = some cellB.cls)
    {g : JFrame} (hg : g.method = m) (hsize : g.locals.size = c.maxLocals) {argsL rest : List Value} (hlen : ∀ sig, parseMethodDescriptor y.desc = some sig → argsL.length = sig.parameters.length)
    (hstack : g.stack = argsL.reverse ++ .ref b :: rest) (hW : 2 * g.monitorRoom + (rest.map fun v => v.category).sum ≤ W9) (hdg : decode c.code g.pc = .ok (.invokevirtual index, 3))
    (hpre : ∀ vm₁, s.WarmedH vm₁ → Pre ⟨T.setVm vm₁, locs, cells, slots⟩ (Value.ref b :: argsL).toArray) :
    (∃ (v : Option Value) (vm₁ : Vm) (B : Pt), s.WarmedH vm₁ ∧ Stand p l e R s m args below meth c B.U B.locs B.cells B.slots ∧ Post ⟨T.setVm vm₁, locs, cells, slots⟩ (Value.ref b :: argsL).toArray v B ∧
      ∀ target, Steps p.tables e below (B.U.setTop { g with pc := g.pc + 3, stack := v.toList ++ rest }) target → Steps p.tables e below (T.setTop g) target) ∨
    (∃ (q : Addr) (vm₁ : Vm) (B : Pt), s.WarmedH vm₁ ∧ Stand p l e R s m args below meth c B.U B.locs B.cells B.slots ∧ PostX ⟨T.setVm vm₁, locs, cells, slots⟩ (Value.ref b :: argsL).toArray q B ∧
      Steps p.tables e below (T.setTop g) ((B.U.setTop { g with stack := rest }).pushFrame (.throwing q))) := by
  obtain ⟨mk, methM, hnamed, hmethM, hstM, habM⟩ := Cond.instanceMethod_spec hinst
  obtain ⟨m8, methM', cM, hn8, hmethM', -, -, -, -, -, -, hsigM⟩ := Cond.codeWith_spec hcode
  cases Option.some.inj (hn8.symm.trans hnamed)
  cases hmethM.symm.trans hmethM'
  obtain ⟨c2, r2, m2, q1, q2, q3, q4, kP, hkP, hkPi⟩ := Cond.selects_spec hsel
  cases hcls.symm.trans q1
  cases (State.methodFound?_of_named hnamed hy).symm.trans q2
  cases hnamed.symm.trans q3
  have hselP : selectMethod e.platform s.vm cellB.cls mk = .method mk := by rw [Launch.admits_selectMethod X.admits]; exact q4
  obtain ⟨vm₁, X₁, hstep₁⟩ := X.invokevirtual hexec hown hlink hnamed hmethM hstM hkP hkPi hy (a := b) (cell := cellB) hcell
    (fun z h => by rw [h] at hobj; cases hobj) hselP hmethM habM hkP hkPi (g := g) hg (argsL := argsL) (rest := rest) (hlen _ hsigM) hstack hdg
  rcases hK m meth c ⟨T.setVm vm₁, locs, cells, slots⟩ { g with stack := rest } (.invokevirtual index) mk (Value.ref b :: argsL).toArray X₁ hg hsize hdg hW (X₁.named hnamed) (hpre vm₁ X₁.warmed) with ⟨v, B, X', hpost, hsteps⟩ | ⟨q, B, X', hpost, hsteps⟩
  · exact Or.inl ⟨v, vm₁, B, X₁.warmed, X', hpost, fun target h => hstep₁ _ fun acts => by rw [doInvoke_state]; exact hsteps.trans h⟩
  · exact Or.inr ⟨q, vm₁, B, X₁.warmed, X', hpost, hstep₁ _ fun acts => by rw [doInvoke_state]; exact hsteps⟩
theorem vx_callSX (X : Stand p l e R s m args below meth c T locs cells slots) (hexec : p.tables.exec = Jvm.exec) {own : String} {index : Nat} {y : MethodName} {bytes : ByteArray} {maxL : Nat} {ret : Option FieldType} {hh : List (Nat × Nat × Nat × Nat)}
    (hown : s.vm.findClass own = some m.cls) (hlink : (Cond.methodLink own index y).before args s = true) (hstat : (Cond.static y).before args s = true) (hinit : (Cond.initialized y.cls).before args s = true)
    (hcode : (Cond.codeWith y bytes maxL ret hh).before args s = true) (hy : y.cls ≠ "java/lang/invoke/MethodHandle" ∧ y.cls ≠ "java/lang/invoke/VarHandle")
    {W9 : Nat} {Pre : Pt → Array Value → Prop} {Post : Pt → Array Value → Option Value → Pt → Prop} {PostX : Pt → Array Value → Addr → Pt → Prop} (hK : vx_Back l R p e below s args y 3 W9 Pre Post PostX)
    {g : JFrame} (hg : g.method = m) (hsize : g.locals.size = c.maxLocals) {argsL rest : List Value} (hlen : ∀ sig, parseMethodDescriptor y.desc = some sig → argsL.length = sig.parameters.length)
    (hstack : g.stack = argsL.reverse ++ rest) (hW : 2 * g.monitorRoom + (rest.map fun v => v.category).sum ≤ W9) (hdg : decode c.code g.pc = .ok (.invokestatic index, 3))
    (hpre : ∀ vm₁, s.WarmedH vm₁ → Pre ⟨T.setVm vm₁, locs, cells, slots⟩ argsL.toArray) :
    (∃ (v : Option Value) (vm₁ : Vm) (B : Pt), s.WarmedH vm₁ ∧ Stand p l e R s m args below meth c B.U B.locs B.cells B.slots ∧ Post ⟨T.setVm vm₁, locs, cells, slots⟩ argsL.toArray v B ∧
      ∀ target, Steps p.tables e below (B.U.setTop { g with pc := g.pc + 3, stack := v.toList ++ rest }) target → Steps p.tables e below (T.setTop g) target) ∨
    (∃ (q : Addr) (vm₁ : Vm) (B : Pt), s.WarmedH vm₁ ∧ Stand p l e R s m args below meth c B.U B.locs B.cells B.slots ∧ PostX ⟨T.setVm vm₁, locs, cells, slots⟩ argsL.toArray q B ∧
      Steps p.tables e below (T.setTop g) ((B.U.setTop { g with stack := rest }).pushFrame (.throwing q))) := by
  obtain ⟨mk, methM, cM, hnamed, hmethM, -, -, -, -, -, -, hsigM⟩ := Cond.codeWith_spec hcode
  have hstatic : methM.isStatic = true := Cond.static_spec hnamed hmethM hstat
  obtain ⟨kP, hkP, -⟩ := className_of_methodNamed hnamed
  have hinitP : kP.init = .initialized := Cond.initialized_spec (findClass_of_methodNamed hnamed) hkP hinit
  obtain ⟨vm₁, X₁, hstep₁⟩ := X.invokestatic hexec hown hlink hnamed hmethM hstatic hkP hinitP hy (g := g) hg (argsL := argsL) (rest := rest) (hlen _ hsigM) hstack hdg
  rcases hK m meth c ⟨T.setVm vm₁, locs, cells, slots⟩ { g with stack := rest } (.invokestatic index) mk argsL.toArray X₁ hg hsize hdg hW (X₁.named hnamed) (hpre vm₁ X₁.warmed) with ⟨v, B, X', hpost, hsteps⟩ | ⟨q, B, X', hpost, hsteps⟩
  · exact Or.inl ⟨v, vm₁, B, X₁.warmed, X', hpost, fun target h => hstep₁ _ fun acts => by rw [doInvoke_state]; exact hsteps.trans h⟩
  · exact Or.inr ⟨q, vm₁, B, X₁.warmed, X', hpost, hstep₁ _ fun acts => by rw [doInvoke_state]; exact hsteps⟩
theorem vx_callVW (X : Stand p l e R s m args below meth c T locs cells slots) (hexec : p.tables.exec = Jvm.exec) {own C : String} {index : Nat} {y : MethodName} {bytes : ByteArray} {maxL : Nat} {ret : Option FieldType} {hh : List (Nat × Nat × Nat × Nat)}
    (hown : s.vm.findClass own = some m.cls) (hlink : (Cond.methodLink own index y).before args s = true) (hinst : (Cond.instanceMethod y).before args s = true) (hsel : (Cond.selects C y y).before args s = true)
    (hcode : (Cond.codeWith y bytes maxL ret hh).before args s = true) (hy : y.cls ≠ "java/lang/invoke/MethodHandle" ∧ y.cls ≠ "java/lang/invoke/VarHandle")
    {W9 : Nat} {Pre : Pt → Array Value → Prop} {Post : Pt → Array Value → Option Value → Pt → Prop} (hK : Back l R p e below s args y 3 W9 Pre Post)
    {b : Addr} {cellB : Cell} (hcell : T.heap[b]? = some cellB) (hobj : cellB.vm.isStatics = false) (hcls : s.vm.findClass C = some cellB.cls)
    {g : JFrame} (hg : g.method = m) (hsize : g.locals.size = c.maxLocals) {argsL rest : List Value} (hlen : ∀ sig, parseMethodDescriptor y.desc = some sig → argsL.length = sig.parameters.length)
    (hstack : g.stack = argsL.reverse ++ .ref b :: rest) (hW : 2 * g.monitorRoom + (rest.map fun v => v.category).sum ≤ W9) (hdg : decode c.code g.pc = .ok (.invokevirtual index, 3))
    (hpre : ∀ vm₁, s.WarmedH vm₁ → Pre ⟨T.setVm vm₁, locs, cells, slots⟩ (Value.ref b :: argsL).toArray) :
    ∃ (v : Option Value) (vm₁ : Vm) (B : Pt), s.WarmedH vm₁ ∧ Stand p l e R s m args below meth c B.U B.locs B.cells B.slots ∧ Post ⟨T.setVm vm₁, locs, cells, slots⟩ (Value.ref b :: argsL).toArray v B ∧
      ∀ target, Steps p.tables e below (B.U.setTop { g with pc := g.pc + 3, stack := v.toList ++ rest }) target → Steps p.tables e below (T.setTop g) target := by
  obtain ⟨mk, methM, hnamed, hmethM, hstM, habM⟩ := Cond.instanceMethod_spec hinst
  obtain ⟨m8, methM', cM, hn8, hmethM', -, -, -, -, -, -, hsigM⟩ := Cond.codeWith_spec hcode
  cases Option.some.inj (hn8.symm.trans hnamed)
  cases hmethM.symm.trans hmethM'
  obtain ⟨c2, r2, m2, q1, q2, q3, q4, kP, hkP, hkPi⟩ := Cond.selects_spec hsel
  cases hcls.symm.trans q1
  cases (State.methodFound?_of_named hnamed hy).symm.trans q2
  cases hnamed.symm.trans q3
  have hselP : selectMethod e.platform s.vm cellB.cls mk = .method mk := by rw [Launch.admits_selectMethod X.admits]; exact q4
  obtain ⟨vm₁, X₁, hstep₁⟩ := X.invokevirtual hexec hown hlink hnamed hmethM hstM hkP hkPi hy (a := b) (cell := cellB) hcell
    (fun z h => by rw [h] at hobj; cases hobj) hselP hmethM habM hkP hkPi (g := g) hg (argsL := argsL) (rest := rest) (hlen _ hsigM) hstack hdg
  obtain ⟨v, B, X', hpost, hsteps⟩ := hK m meth c ⟨T.setVm vm₁, locs, cells, slots⟩ { g with stack := rest } (.invokevirtual index) mk (Value.ref b :: argsL).toArray X₁ hg hsize hdg hW (X₁.named hnamed) (hpre vm₁ X₁.warmed)
  exact ⟨v, vm₁, B, X₁.warmed, X', hpost, fun target h => hstep₁ _ fun acts => by rw [doInvoke_state]; exact hsteps.trans h⟩
abbrev vx_CVW (R : Room) (s : State) (args : Array Value) (own C : String) (index : Nat) (y : MethodName) (bytes : ByteArray) (maxL : Nat) (ret : Option FieldType) (hh : List (Nat × Nat × Nat × Nat)) (ws : List Cond) (rm : Room) (mc ms n : Nat) : Prop :=
  (rm.cells = mc ∧ rm.slots = ms ∧ rm.frames + 1 ≤ R.frames ∧ 8 + (maxL + 11) + rm.locals ≤ R.locals ∧ (∀ w ∈ ws, ∀ (a' : Array Value) (U : State), s.WarmedH U.vm → w.before a' U = true) ∧ Cond.codeWith y bytes maxL ret hh ∈ ws) ∧
  (Cond.codeWith y bytes maxL ret hh).before args s = true ∧ (Cond.initialized y.cls).before args s = true ∧ (y.cls ≠ "java/lang/invoke/MethodHandle" ∧ y.cls ≠ "java/lang/invoke/VarHandle") ∧
  (∀ sig, parseMethodDescriptor y.desc = some sig → n = sig.parameters.length) ∧ (Cond.methodLink own index y).before args s = true ∧ (Cond.instanceMethod y).before args s = true ∧ (Cond.selects C y y).before args s = true
theorem vx_cwVW {own C : String} {index maxL mc ms : Nat} {y : MethodName} {bytes : ByteArray} {ret : Option FieldType} {hh : List (Nat × Nat × Nat × Nat)} {Ts ws ws' : List Cond} {rm : Room} (n : Nat) (ht : ∀ w ∈ Ts, w.before args s = true) (hT : GoodIn Ts (wsV own index C y ws)) (hw : ws = Cond.codeWith y bytes maxL ret hh :: ws') (hrc : rm.cells = mc) (hrs : rm.slots = ms)
    (hd : y.cls = C ∧ y.cls ≠ "java/lang/invoke/MethodHandle" ∧ y.cls ≠ "java/lang/invoke/VarHandle" ∧ (parseMethodDescriptor y.desc).map (fun d => d.parameters.length) = some n) (hR : rm.frames + 1 ≤ R.frames ∧ 8 + (maxL + 11) + rm.locals ≤ R.locals) :
    vx_CVW R s args own C index y bytes maxL ret hh ws rm mc ms n := by
  obtain ⟨hC, hd⟩ := hd
  subst hC
  have ok : ∀ w ∈ wsV own index y.cls y ws, w.before args s = true := fun w h => ht w (hT w h).1
  have hG : GoodIn Ts ws := fun w h => hT w (by unfold wsV; exact List.mem_append_right _ h)
  have hc : Cond.codeWith y bytes maxL ret hh ∈ ws := by rw [hw]; exact List.mem_cons_self
  refine ⟨⟨hrc, hrs, hR.1, hR.2, pay_in ht hG, hc⟩, ht _ (hG _ hc).1, ok _ (by simp [wsV]), ⟨hd.1, hd.2.1⟩, fun sig h => ?_, ok _ (by simp [wsV]), ok _ (by simp [wsV]), ok _ (by simp [wsV])⟩
  have h2 := hd.2.2
  rw [h] at h2
  exact (Option.some.inj h2).symm
theorem vx_runVW {y : MethodName} {bytes cc : ByteArray} {maxL nL mc ms n index : Nat} {ret : Option FieldType} {hh : List (Nat × Nat × Nat × Nat)} {ws : List Cond} {rm : Room} {Pc : Array Value → State → Prop} {Qc : Array Value → State → Outcome → State → Prop} {free : Addr → Prop} {Ts : List Cond} {own C : String} {b : Addr} {As rest : List Value} {g : JFrame}
    (S : CallFix p m c cc nL s args Ts own) (hM : Met l y ws rm Pc Qc mc ms free) (cw : vx_CVW R s args own C index y bytes maxL ret hh ws rm mc ms n) (hp : PreV s H C b Pc As)
    (hg : g.method = m) (hn : As.length = n) (hsize : g.locals.size = nL) (hstack : g.stack = As.reverse ++ .ref b :: rest) (hW : 2 * g.monitorRoom + (rest.map fun v => v.category).sum ≤ 8) (hdg : decode cc g.pc = .ok (.invokevirtual index, 3)) (hf : cells + mc ≤ R.cells ∧ slots + ms ≤ R.slots) :
    va_Run p l e R s m args below meth c H locs cells slots mc ms g rest (Qc (Value.ref b :: As).toArray) free := by
  obtain ⟨⟨hrc, hrs, hfr, hlo, hws, hcw⟩, hcode, hini, hy, hlen, hl, hin, hse⟩ := cw
  have hK : Back l R p e below s args y 3 8 (PreOf R mc ms Pc) (PostOf Qc mc ms free) := va_backW (hh := hh) (bytes := bytes) (maxL := maxL) (ret := ret) hM hp.1 hrc hrs hfr hlo hws hcw (fun a' U hW => word_at hW (Or.inl (by first | rfl | simp [Cond.onTables, Cond.keeps, Cond.steady])) hini)
  obtain ⟨hx, hb, hml, ho, -⟩ := S
  obtain ⟨-, ⟨cellB, hcB, hoB, hclB⟩, hPc⟩ := hp
  intro T hT X
  obtain ⟨v, vm₁, ⟨U', l2, c2, s2⟩, hW₁, X', ⟨g', mk, t, L, e1, e2, hq, h1, hL, h2, h3⟩, st⟩ := vx_callVW X hx (C := C) (hh := hh) (bytes := bytes) (maxL := maxL) (ret := ret) ho hl hin hse hcode hy hK (by rw [hT]; exact hcB) hoB hclB hg (hsize.trans hml.symm) (argsL := As) (rest := rest) (fun sig h => hn.trans (hlen sig h)) hstack hW (by rw [hb]; exact hdg)
    (fun vm₁ hW₁ => ⟨hf.1, hf.2, hPc (T.setVm vm₁) hT hW₁⟩)
  dsimp only [Pt.U, Pt.locs, Pt.cells, Pt.slots] at X' e1 e2 h1 h2 h3 st
  subst h1; subst h2; subst h3
  exact ⟨v, (T.setVm vm₁).calling g' mk (Value.ref b :: As).toArray, t, U', L, hT, X', hL, e1, e2, hq, st⟩
section
variable {y : MethodName} {bytes cc : ByteArray} {maxL nL mc ms n index : Nat} {ret : Option FieldType} {ws : List Cond} {rm : Room} {Pc : Array Value → State → Prop} {Qc : Array Value → State → Outcome → State → Prop} {XC : String → State → State → Prop} {free : Addr → Prop} {Ts : List Cond} {own C : String} {b : Addr} {As rest : List Value} {g : JFrame}
theorem vx_runVX {hh : List (Nat × Nat × Nat × Nat)} (S : CallFix p m c cc nL s args Ts own) (hM : vx_Met l y ws rm Pc Qc XC mc ms free) (cw : vx_CVW R s args own C index y bytes maxL ret hh ws rm mc ms n) (hp : PreV s H C b Pc As)
    (hg : g.method = m) (hn : As.length = n) (hsize : g.locals.size = nL) (hstack : g.stack = As.reverse ++ .ref b :: rest) (hW : 2 * g.monitorRoom + (rest.map fun v => v.category).sum ≤ 8) (hdg : decode cc g.pc = .ok (.invokevirtual index, 3)) (hf : cells + mc ≤ R.cells ∧ slots + ms ≤ R.slots) :
    vx_Run p l e R s m args below meth c H locs cells slots mc ms g rest (Qc (Value.ref b :: As).toArray) XC free := by
  obtain ⟨⟨hrc, hrs, hfr, hlo, hws, hcw⟩, hcode, hini, hy, hlen, hl, hin, hse⟩ := cw
  have hK : vx_Back l R p e below s args y 3 8 (PreOf R mc ms Pc) (PostOf Qc mc ms free) (vx_Post XC mc ms free) := vx_backW (hh := hh) (bytes := bytes) (maxL := maxL) (ret := ret) hM hp.1 hrc hrs hfr hlo hws hcw (fun a' U hW => word_at hW (Or.inl (by first | rfl | simp [Cond.onTables, Cond.keeps, Cond.steady])) hini)
  obtain ⟨hx, hb, hml, ho, -⟩ := S
  obtain ⟨-, ⟨cellB, hcB, hoB, hclB⟩, hPc⟩ := hp
  intro T hT X
  rcases vx_callVX X hx (C := C) (hh := hh) (bytes := bytes) (maxL := maxL) (ret := ret) ho hl hin hse hcode hy hK (by rw [hT]; exact hcB) hoB hclB hg (hsize.trans hml.symm) (argsL := As) (rest := rest) (fun sig h => hn.trans (hlen sig h)) hstack hW (by rw [hb]; exact hdg)
    (fun vm₁ hW₁ => ⟨hf.1, hf.2, hPc (T.setVm vm₁) hT hW₁⟩) with ⟨v, vm₁, ⟨U', l2, c2, s2⟩, hW₁, X', ⟨g', mk, t, L, e1, e2, hq, h1, hL, h2, h3⟩, st⟩ | ⟨q, vm₁, ⟨U', l2, c2, s2⟩, hW₁, X', ⟨g', mk, t, L, E, ce, e1, e2, hq, hce, hcv, hcl, h1, hL, h2, h3⟩, st⟩
  · dsimp only [Pt.U, Pt.locs, Pt.cells, Pt.slots] at X' e1 e2 h1 h2 h3 st
    subst h1; subst h2; subst h3
    exact Or.inl ⟨v, (T.setVm vm₁).calling g' mk (Value.ref b :: As).toArray, t, U', L, hT, X', hL, e1, e2, hq, st⟩
  · dsimp only [Pt.U, Pt.locs, Pt.cells, Pt.slots] at X' e1 e2 h1 h2 h3 st hcl
    subst h1; subst h2; subst h3
    exact Or.inr ⟨q, (T.setVm vm₁).calling g' mk (Value.ref b :: As).toArray, t, U', L, E, ce, hT, X', hL, e1, e2, hq, hce, hcv, vx_cls hW₁ hcl, st⟩
theorem vx_runSX {hh : List (Nat × Nat × Nat × Nat)} (S : CallFix p m c cc nL s args Ts own) (hM : vx_Met l y ws rm Pc Qc XC mc ms free) (cw : vx_CSW R s args own index y bytes maxL ret hh ws rm mc ms n) (hp : PreS s H Pc As)
    (hg : g.method = m) (hn : As.length = n) (hsize : g.locals.size = nL) (hstack : g.stack = As.reverse ++ rest) (hW : 2 * g.monitorRoom + (rest.map fun v => v.category).sum ≤ 8) (hdg : decode cc g.pc = .ok (.invokestatic index, 3)) (hf : cells + mc ≤ R.cells ∧ slots + ms ≤ R.slots) :
    vx_Run p l e R s m args below meth c H locs cells slots mc ms g rest (Qc As.toArray) XC free := by
  obtain ⟨⟨hrc, hrs, hfr, hlo, hws, hcw⟩, hcode, hini, hy, hlen, hl, hstt⟩ := cw
  have hK : vx_Back l R p e below s args y 3 8 (PreOf R mc ms Pc) (PostOf Qc mc ms free) (vx_Post XC mc ms free) := vx_backW (hh := hh) (bytes := bytes) (maxL := maxL) (ret := ret) hM hp.1 hrc hrs hfr hlo hws hcw (fun a' U hW => word_at hW (Or.inl (by first | rfl | simp [Cond.onTables, Cond.keeps, Cond.steady])) hini)
  obtain ⟨hx, hb, hml, ho, -⟩ := S
  intro T hT X
  rcases vx_callSX X hx (hh := hh) (bytes := bytes) (maxL := maxL) (ret := ret) ho hl hstt hini hcode hy hK hg (hsize.trans hml.symm) (argsL := As) (rest := rest) (fun sig h => hn.trans (hlen sig h)) hstack hW (by rw [hb]; exact hdg)
    (fun vm₁ hW₁ => ⟨hf.1, hf.2, hp.2 (T.setVm vm₁) hT hW₁⟩) with ⟨v, vm₁, ⟨U', l2, c2, s2⟩, hW₁, X', ⟨g', mk, t, L, e1, e2, hq, h1, hL, h2, h3⟩, st⟩ | ⟨q, vm₁, ⟨U', l2, c2, s2⟩, hW₁, X', ⟨g', mk, t, L, E, ce, e1, e2, hq, hce, hcv, hcl, h1, hL, h2, h3⟩, st⟩
  · dsimp only [Pt.U, Pt.locs, Pt.cells, Pt.slots] at X' e1 e2 h1 h2 h3 st
    subst h1; subst h2; subst h3
    exact Or.inl ⟨v, (T.setVm vm₁).calling g' mk As.toArray, t, U', L, hT, X', hL, e1, e2, hq, st⟩
  · dsimp only [Pt.U, Pt.locs, Pt.cells, Pt.slots] at X' e1 e2 h1 h2 h3 st hcl
    subst h1; subst h2; subst h3
    exact Or.inr ⟨q, (T.setVm vm₁).calling g' mk As.toArray, t, U', L, E, ce, hT, X', hL, e1, e2, hq, hce, hcv, vx_cls hW₁ hcl, st⟩
end
end VXH
theorem vx_ofWH {l : Launch} {y : MethodName} {ws ws' : List Cond} {rm : Room} {Pc : Array Value → State → Prop} {Qc : Array Value → State → Outcome → State → Prop} {XC : String → State → State → Prop} {mc ms : Nat} {free : Addr → Prop} {cc : ByteArray} {maxL : Nat} {ret : Option FieldType} {hh : List (Nat × Nat × Nat × Nat)}
    (hy : plainName y.cls = true) (hw : ws = Cond.codeWith y cc maxL ret hh :: ws')
    (body : ∀ p e s m args below meth c s₁, BodyLoose p l y (headSpec ws rm) cc maxL ret e s m args below meth c s₁ → c.maxLocals = maxL → Pc args s →
      W p l e (headSpec ws rm).room s m args below meth c s.heap [] 0 0 (vx_MQ below Qc XC args s mc ms free) (entryFrame m args maxL)) : vx_Met l y ws rm Pc Qc XC mc ms free := by
  refine MetFree.of_bodyS (code := cc) (maxLocals := maxL) (ret := ret) hy ?_ ?_
  · intro args s m h hn
    obtain ⟨m9, meth, c, hn9, h1, h2, h3, h4, -, h5, h6, -⟩ := Cond.codeWith_spec (atoms_spec (ws := ws) h _ (by rw [hw]; exact List.mem_cons_self))
    cases hn.symm.trans hn9
    exact ⟨meth, c, h1, h2, h3, h4, h5, h6⟩
  · intro p e s m args below meth c s₁ B hml hP _
    have hh0 : s₁.heap = s.heap := by rw [B.state]; rfl
    obtain ⟨t, a1, o, b1, b2, b3⟩ := body p e s m args below meth c s₁ B hml hP s₁ hh0 (Stand.of_body B)
    exact ⟨t, o, a1, b1, b2, b3⟩
/-! ===== END ===== -/
end
section
def RX0 : String := "TillOptimists$Clerk"
def TX0 : u_T := fun k => match k with
  | 0 => ("TillOptimists$Clerk", "steps", "I", false)
  | 1 => ("TillOptimists$Clerk", "kinds", "[I", true)
  | 2 => ("TillOptimists$Clerk", "firsts", "[I", true)
  | 3 => ("TillOptimists$Clerk", "seconds", "[I", true)
  | 4 => ("TillOptimists$Clerk", "numbers", "[I", true)
  | 5 => ("TillOptimists$Clerk", "place", "I", false)
  | 6 => ("TillOptimists$Clerk", "done", "Z", false)
  | 7 => ("TillOptimists$Clerk", "lost", "I", false)
  | 8 => ("TillOptimists$Clerk", "remembered", "[I", true)
  | 9 => ("TillOptimists$Clerk", "rememberedSeals", "[I", true)
  | _ => ("TillOptimists$Clerk", "own", "[I", true)
def tyX0 : Nat → FieldType := fun k => match k with
  | 0 => .int
  | 1 => .array .int
  | 2 => .array .int
  | 3 => .array .int
  | 4 => .array .int
  | 5 => .int
  | 6 => .boolean
  | 7 => .int
  | 8 => .array .int
  | 9 => .array .int
  | _ => .array .int
abbrev wsX00 : List Cond := u_ws RX0 TX0 11
theorem nmX0 : ∀ a, a < 11 → ∀ b, b < 11 → a ≠ b → (TX0 a).2.1 ≠ (TX0 b).2.1 := by decide +kernel
theorem tyX0_ok : ∀ k, k < 11 → parseFieldDescriptor (TX0 k).2.2.1 = some (tyX0 k) := by decide +kernel
abbrev cX0_init : ByteArray := prog_2_method_1_code
def yX0_init : MethodName := ⟨RX0, "<init>", "()V"⟩
abbrev cX0_beginAnew : ByteArray := prog_2_method_2_code
def yX0_beginAnew : MethodName := ⟨RX0, "beginAnew", "()V"⟩
abbrev cX0_startOver : ByteArray := prog_2_method_3_code
def yX0_startOver : MethodName := ⟨RX0, "startOver", "()V"⟩
abbrev cX0_become : ByteArray := prog_2_method_4_code
def yX0_become : MethodName := ⟨RX0, "become", "(LTillOptimists$Clerk;)V"⟩
abbrev cX0_addStep : ByteArray := prog_2_method_5_code
def yX0_addStep : MethodName := ⟨RX0, "addStep", "(IIII)V"⟩
abbrev cX0_isAtWork : ByteArray := prog_2_method_6_code
def yX0_isAtWork : MethodName := ⟨RX0, "isAtWork", "()Z"⟩
abbrev cX0_remembers : ByteArray := prog_2_method_7_code
def yX0_remembers : MethodName := ⟨RX0, "remembers", "(I)Z"⟩
abbrev cX0_hasWritten : ByteArray := prog_2_method_8_code
def yX0_hasWritten : MethodName := ⟨RX0, "hasWritten", "(I)Z"⟩
abbrev cX0_countRemembered : ByteArray := prog_2_method_9_code
def yX0_countRemembered : MethodName := ⟨RX0, "countRemembered", "()I"⟩
abbrev cX0_countWritten : ByteArray := prog_2_method_10_code
def yX0_countWritten : MethodName := ⟨RX0, "countWritten", "()I"⟩
abbrev cX0_slipFact : ByteArray := prog_2_method_11_code
def yX0_slipFact : MethodName := ⟨RX0, "slipFact", "(II)I"⟩
abbrev cX0_stepFact : ByteArray := prog_2_method_12_code
def yX0_stepFact : MethodName := ⟨RX0, "stepFact", "(II)I"⟩
def RX1 : String := "TillOptimists$Shop"
def TX1 : u_T := fun k => match k with
  | 0 => ("TillOptimists$Shop", "drawers", "I", false)
  | 1 => ("TillOptimists$Shop", "amounts", "[I", true)
  | 2 => ("TillOptimists$Shop", "seals", "[I", true)
  | 3 => ("TillOptimists$Shop", "clerkCount", "I", false)
  | 4 => ("TillOptimists$Shop", "clerks", "[LTillOptimists$Clerk;", true)
  | 5 => ("TillOptimists$Shop", "closings", "I", false)
  | 6 => ("TillOptimists$Shop", "closers", "[I", true)
  | 7 => ("TillOptimists$Shop", "writtens", "[I", true)
  | _ => ("TillOptimists$Shop", "sums", "[I", true)
def tyX1 : Nat → FieldType := fun k => match k with
  | 0 => .int
  | 1 => .array .int
  | 2 => .array .int
  | 3 => .int
  | 4 => .array (.object "TillOptimists$Clerk")
  | 5 => .int
  | 6 => .array .int
  | 7 => .array .int
  | _ => .array .int
abbrev wsX10 : List Cond := u_ws RX1 TX1 9
theorem nmX1 : ∀ a, a < 9 → ∀ b, b < 9 → a ≠ b → (TX1 a).2.1 ≠ (TX1 b).2.1 := by decide +kernel
theorem tyX1_ok : ∀ k, k < 9 → parseFieldDescriptor (TX1 k).2.2.1 = some (tyX1 k) := by decide +kernel
abbrev cX1_init : ByteArray := prog_3_method_1_code
def yX1_init : MethodName := ⟨RX1, "<init>", "()V"⟩
abbrev cX1_beginAnew : ByteArray := prog_3_method_2_code
def yX1_beginAnew : MethodName := ⟨RX1, "beginAnew", "(I)V"⟩
abbrev cX1_become : ByteArray := prog_3_method_3_code
def yX1_become : MethodName := ⟨RX1, "become", "(LTillOptimists$Shop;)V"⟩
abbrev cX1_addClerk : ByteArray := prog_3_method_4_code
def yX1_addClerk : MethodName := ⟨RX1, "addClerk", "()I"⟩
abbrev cX1_payByHand : ByteArray := prog_3_method_5_code
def yX1_payByHand : MethodName := ⟨RX1, "payByHand", "(II)V"⟩
abbrev cX1_keepClosing : ByteArray := prog_3_method_6_code
def yX1_keepClosing : MethodName := ⟨RX1, "keepClosing", "(II)V"⟩
abbrev cX1_takeTurn : ByteArray := prog_3_method_7_code
def yX1_takeTurn : MethodName := ⟨RX1, "takeTurn", "(I)I"⟩
abbrev cX1_doStep : ByteArray := prog_3_method_8_code
def yX1_doStep : MethodName := ⟨RX1, "doStep", "(LTillOptimists$Clerk;)V"⟩
abbrev cX1_carry : ByteArray := prog_3_method_9_code
def yX1_carry : MethodName := ⟨RX1, "carry", "(LTillOptimists$Clerk;III)V"⟩
abbrev cX1_read : ByteArray := prog_3_method_10_code
def yX1_read : MethodName := ⟨RX1, "read", "(LTillOptimists$Clerk;I)I"⟩
abbrev cX1_held : ByteArray := prog_3_method_11_code
def yX1_held : MethodName := ⟨RX1, "held", "(I)I"⟩
abbrev cX1_isOutdated : ByteArray := prog_3_method_12_code
def yX1_isOutdated : MethodName := ⟨RX1, "isOutdated", "(LTillOptimists$Clerk;)Z"⟩
abbrev cX1_close : ByteArray := prog_3_method_13_code
def yX1_close : MethodName := ⟨RX1, "close", "(I)V"⟩
abbrev cX1_goRounds : ByteArray := prog_3_method_14_code
def yX1_goRounds : MethodName := ⟨RX1, "goRounds", "(I)I"⟩
abbrev cX1_goRound : ByteArray := prog_3_method_15_code
def yX1_goRound : MethodName := ⟨RX1, "goRound", "()I"⟩
abbrev cX1_workAlone : ByteArray := prog_3_method_16_code
def yX1_workAlone : MethodName := ⟨RX1, "workAlone", "(I)V"⟩
abbrev cX1_isAnyAtWork : ByteArray := prog_3_method_17_code
def yX1_isAnyAtWork : MethodName := ⟨RX1, "isAnyAtWork", "()Z"⟩
abbrev cX1_clashes : ByteArray := prog_3_method_18_code
def yX1_clashes : MethodName := ⟨RX1, "clashes", "(II)Z"⟩
abbrev cX1_countClashes : ByteArray := prog_3_method_19_code
def yX1_countClashes : MethodName := ⟨RX1, "countClashes", "(I)I"⟩
abbrev cX1_closingsKept : ByteArray := prog_3_method_20_code
def yX1_closingsKept : MethodName := ⟨RX1, "closingsKept", "()I"⟩
abbrev cX1_closingFact : ByteArray := prog_3_method_21_code
def yX1_closingFact : MethodName := ⟨RX1, "closingFact", "(II)I"⟩
abbrev cX1_countFact : ByteArray := prog_3_method_22_code
def yX1_countFact : MethodName := ⟨RX1, "countFact", "(I)I"⟩
abbrev cX1_drawerFact : ByteArray := prog_3_method_23_code
def yX1_drawerFact : MethodName := ⟨RX1, "drawerFact", "(II)I"⟩
abbrev cX1_clerkFact : ByteArray := prog_3_method_24_code
def yX1_clerkFact : MethodName := ⟨RX1, "clerkFact", "(II)I"⟩
abbrev cX1_wouldLose : ByteArray := prog_3_method_25_code
def yX1_wouldLose : MethodName := ⟨RX1, "wouldLose", "(LTillOptimists$Clerk;)Z"⟩
abbrev cX1_countDone : ByteArray := prog_3_method_26_code
def yX1_countDone : MethodName := ⟨RX1, "countDone", "()I"⟩
abbrev cX1_countLosers : ByteArray := prog_3_method_27_code
def yX1_countLosers : MethodName := ⟨RX1, "countLosers", "()I"⟩
abbrev cX1_countRememberers : ByteArray := prog_3_method_28_code
def yX1_countRememberers : MethodName := ⟨RX1, "countRememberers", "(I)I"⟩
abbrev cX1_countWriters : ByteArray := prog_3_method_29_code
def yX1_countWriters : MethodName := ⟨RX1, "countWriters", "(I)I"⟩
abbrev cX1_sumLost : ByteArray := prog_3_method_30_code
def yX1_sumLost : MethodName := ⟨RX1, "sumLost", "()I"⟩
abbrev cX1_sumAmounts : ByteArray := prog_3_method_31_code
def yX1_sumAmounts : MethodName := ⟨RX1, "sumAmounts", "()I"⟩
def RX2 : String := "TillOptimists"
def TX2 : u_T := fun k => match k with
  | 0 => ("TillOptimists", "now", "LTillOptimists$Shop;", true)
  | _ => ("TillOptimists", "trial", "LTillOptimists$Shop;", true)
def tyX2 : Nat → FieldType := fun k => match k with
  | 0 => .object "TillOptimists$Shop"
  | _ => .object "TillOptimists$Shop"
abbrev wsX20 : List Cond := u_ws RX2 TX2 2
theorem nmX2 : ∀ a, a < 2 → ∀ b, b < 2 → a ≠ b → (TX2 a).2.1 ≠ (TX2 b).2.1 := by decide +kernel
theorem tyX2_ok : ∀ k, k < 2 → parseFieldDescriptor (TX2 k).2.2.1 = some (tyX2 k) := by decide +kernel
abbrev cX2_init : ByteArray := prog_1_method_1_code
def yX2_init : MethodName := ⟨RX2, "<init>", "()V"⟩
abbrev cX2_till : ByteArray := prog_1_method_2_code
def yX2_till : MethodName := ⟨RX2, "till", "(I)I"⟩
abbrev cX2_pay : ByteArray := prog_1_method_3_code
def yX2_pay : MethodName := ⟨RX2, "pay", "(II)I"⟩
abbrev cX2_clerk : ByteArray := prog_1_method_4_code
def yX2_clerk : MethodName := ⟨RX2, "clerk", "()I"⟩
abbrev cX2_say : ByteArray := prog_1_method_5_code
def yX2_say : MethodName := ⟨RX2, "say", "(IIIII)I"⟩
abbrev cX2_turn : ByteArray := prog_1_method_6_code
def yX2_turn : MethodName := ⟨RX2, "turn", "(I)I"⟩
abbrev cX2_drop : ByteArray := prog_1_method_7_code
def yX2_drop : MethodName := ⟨RX2, "drop", "(I)I"⟩
abbrev cX2_pass : ByteArray := prog_1_method_8_code
def yX2_pass : MethodName := ⟨RX2, "pass", "(I)I"⟩
abbrev cX2_drawer : ByteArray := prog_1_method_9_code
def yX2_drawer : MethodName := ⟨RX2, "drawer", "(II)I"⟩
abbrev cX2_told : ByteArray := prog_1_method_10_code
def yX2_told : MethodName := ⟨RX2, "told", "(II)I"⟩
abbrev cX2_slip : ByteArray := prog_1_method_11_code
def yX2_slip : MethodName := ⟨RX2, "slip", "(III)I"⟩
abbrev cX2_step : ByteArray := prog_1_method_12_code
def yX2_step : MethodName := ⟨RX2, "step", "(III)I"⟩
abbrev cX2_closing : ByteArray := prog_1_method_13_code
def yX2_closing : MethodName := ⟨RX2, "closing", "(II)I"⟩
abbrev cX2_clash : ByteArray := prog_1_method_14_code
def yX2_clash : MethodName := ⟨RX2, "clash", "(II)Z"⟩
abbrev cX2_count : ByteArray := prog_1_method_15_code
def yX2_count : MethodName := ⟨RX2, "count", "(I)I"⟩
abbrev cX2_alone : ByteArray := prog_1_method_16_code
def yX2_alone : MethodName := ⟨RX2, "alone", "(II)I"⟩
abbrev cX2_until : ByteArray := prog_1_method_17_code
def yX2_until : MethodName := ⟨RX2, "until", "()I"⟩
abbrev cX2_foresee : ByteArray := prog_1_method_18_code
def yX2_foresee : MethodName := ⟨RX2, "foresee", "(II)I"⟩
abbrev cX2_advise : ByteArray := prog_1_method_19_code
def yX2_advise : MethodName := ⟨RX2, "advise", "()I"⟩
abbrev cX2_mean : ByteArray := prog_1_method_20_code
def yX2_mean : MethodName := ⟨RX2, "mean", "()D"⟩
abbrev cX2_digest : ByteArray := prog_1_method_21_code
def yX2_digest : MethodName := ⟨RX2, "digest", "()J"⟩
abbrev cX2_digestDrawers : ByteArray := prog_1_method_22_code
def yX2_digestDrawers : MethodName := ⟨RX2, "digestDrawers", "(J)J"⟩
abbrev cX2_digestClerks : ByteArray := prog_1_method_23_code
def yX2_digestClerks : MethodName := ⟨RX2, "digestClerks", "(J)J"⟩
abbrev cX2_digestClosings : ByteArray := prog_1_method_24_code
def yX2_digestClosings : MethodName := ⟨RX2, "digestClosings", "(J)J"⟩
abbrev cX2_fitsKind : ByteArray := prog_1_method_25_code
def yX2_fitsKind : MethodName := ⟨RX2, "fitsKind", "(IIII)Z"⟩
abbrev cX2_needDrawer : ByteArray := prog_1_method_26_code
def yX2_needDrawer : MethodName := ⟨RX2, "needDrawer", "(I)V"⟩
abbrev cX2_needClerk : ByteArray := prog_1_method_27_code
def yX2_needClerk : MethodName := ⟨RX2, "needClerk", "(I)V"⟩
abbrev cX2_needWhat : ByteArray := prog_1_method_28_code
def yX2_needWhat : MethodName := ⟨RX2, "needWhat", "(III)V"⟩
abbrev cX2_needRounds : ByteArray := prog_1_method_29_code
def yX2_needRounds : MethodName := ⟨RX2, "needRounds", "(I)V"⟩
def RX3 : String := "TillOptimistsModel$State"
def TX3 : u_T := fun k => match k with
  | 0 => ("TillOptimistsModel$State", "drawers", "I", false)
  | 1 => ("TillOptimistsModel$State", "clerks", "I", false)
  | 2 => ("TillOptimistsModel$State", "closings", "I", false)
  | 3 => ("TillOptimistsModel$State", "amount", "[I", true)
  | 4 => ("TillOptimistsModel$State", "seal", "[I", true)
  | 5 => ("TillOptimistsModel$State", "program", "[I", true)
  | 6 => ("TillOptimistsModel$State", "steps", "[I", true)
  | 7 => ("TillOptimistsModel$State", "place", "[I", true)
  | 8 => ("TillOptimistsModel$State", "done", "[I", true)
  | 9 => ("TillOptimistsModel$State", "lost", "[I", true)
  | 10 => ("TillOptimistsModel$State", "had", "[I", true)
  | 11 => ("TillOptimistsModel$State", "hadSeal", "[I", true)
  | 12 => ("TillOptimistsModel$State", "own", "[I", true)
  | 13 => ("TillOptimistsModel$State", "byWhom", "[I", true)
  | 14 => ("TillOptimistsModel$State", "wrote", "[I", true)
  | _ => ("TillOptimistsModel$State", "sums", "[I", true)
def tyX3 : Nat → FieldType := fun k => match k with
  | 0 => .int
  | 1 => .int
  | 2 => .int
  | 3 => .array .int
  | 4 => .array .int
  | 5 => .array .int
  | 6 => .array .int
  | 7 => .array .int
  | 8 => .array .int
  | 9 => .array .int
  | 10 => .array .int
  | 11 => .array .int
  | 12 => .array .int
  | 13 => .array .int
  | 14 => .array .int
  | _ => .array .int
abbrev wsX30 : List Cond := u_ws RX3 TX3 16
theorem nmX3 : ∀ a, a < 16 → ∀ b, b < 16 → a ≠ b → (TX3 a).2.1 ≠ (TX3 b).2.1 := by decide +kernel
theorem tyX3_ok : ∀ k, k < 16 → parseFieldDescriptor (TX3 k).2.2.1 = some (tyX3 k) := by decide +kernel
abbrev cX3_init : ByteArray := prog_6_method_1_code
def yX3_init : MethodName := ⟨RX3, "<init>", "()V"⟩
abbrev cX3_copy : ByteArray := prog_6_method_2_code
def yX3_copy : MethodName := ⟨RX3, "copy", "([I[I)V"⟩
abbrev cX3_become : ByteArray := prog_6_method_3_code
def yX3_become : MethodName := ⟨RX3, "become", "(LTillOptimistsModel$State;)V"⟩
abbrev cX3_begin : ByteArray := prog_6_method_4_code
def yX3_begin : MethodName := ⟨RX3, "begin", "(I)V"⟩
abbrev cX3_sum : ByteArray := prog_6_method_5_code
def yX3_sum : MethodName := ⟨RX3, "sum", "()I"⟩
abbrev cX3_clear : ByteArray := prog_6_method_6_code
def yX3_clear : MethodName := ⟨RX3, "clear", "(I)V"⟩
abbrev cX3_addClerk : ByteArray := prog_6_method_7_code
def yX3_addClerk : MethodName := ⟨RX3, "addClerk", "()I"⟩
abbrev cX3_step : ByteArray := prog_6_method_8_code
def yX3_step : MethodName := ⟨RX3, "step", "(III)I"⟩
abbrev cX3_goesOn : ByteArray := prog_6_method_9_code
def yX3_goesOn : MethodName := ⟨RX3, "goesOn", "(I)Z"⟩
abbrev cX3_read : ByteArray := prog_6_method_10_code
def yX3_read : MethodName := ⟨RX3, "read", "(II)I"⟩
abbrev cX3_write : ByteArray := prog_6_method_11_code
def yX3_write : MethodName := ⟨RX3, "write", "(III)V"⟩
abbrev cX3_act : ByteArray := prog_6_method_12_code
def yX3_act : MethodName := ⟨RX3, "act", "(II)V"⟩
abbrev cX3_wouldLose : ByteArray := prog_6_method_13_code
def yX3_wouldLose : MethodName := ⟨RX3, "wouldLose", "(I)Z"⟩
abbrev cX3_record : ByteArray := prog_6_method_14_code
def yX3_record : MethodName := ⟨RX3, "record", "(II)V"⟩
abbrev cX3_close : ByteArray := prog_6_method_15_code
def yX3_close : MethodName := ⟨RX3, "close", "(I)V"⟩
abbrev cX3_pay : ByteArray := prog_6_method_16_code
def yX3_pay : MethodName := ⟨RX3, "pay", "(II)V"⟩
abbrev cX3_turn : ByteArray := prog_6_method_17_code
def yX3_turn : MethodName := ⟨RX3, "turn", "(I)I"⟩
abbrev cX3_round : ByteArray := prog_6_method_18_code
def yX3_round : MethodName := ⟨RX3, "round", "()I"⟩
abbrev cX3_areDone : ByteArray := prog_6_method_19_code
def yX3_areDone : MethodName := ⟨RX3, "areDone", "()Z"⟩
abbrev cX3_counted : ByteArray := prog_6_method_20_code
def yX3_counted : MethodName := ⟨RX3, "counted", "(I)I"⟩
def RX4 : String := "TillOptimistsModel"
def TX4 : u_T := fun k => match k with
  | 0 => ("TillOptimistsModel", "thrown", "I", false)
  | 1 => ("TillOptimistsModel", "s", "LTillOptimistsModel$State;", true)
  | _ => ("TillOptimistsModel", "ahead", "LTillOptimistsModel$State;", true)
def tyX4 : Nat → FieldType := fun k => match k with
  | 0 => .int
  | 1 => .object "TillOptimistsModel$State"
  | _ => .object "TillOptimistsModel$State"
abbrev wsX40 : List Cond := u_ws RX4 TX4 3
theorem nmX4 : ∀ a, a < 3 → ∀ b, b < 3 → a ≠ b → (TX4 a).2.1 ≠ (TX4 b).2.1 := by decide +kernel
theorem tyX4_ok : ∀ k, k < 3 → parseFieldDescriptor (TX4 k).2.2.1 = some (tyX4 k) := by decide +kernel
abbrev cX4_init : ByteArray := prog_5_method_1_code
def yX4_init : MethodName := ⟨RX4, "<init>", "()V"⟩
abbrev cX4_thrown : ByteArray := prog_5_method_2_code
def yX4_thrown : MethodName := ⟨RX4, "thrown", "()I"⟩
abbrev cX4_no : ByteArray := prog_5_method_3_code
def yX4_no : MethodName := ⟨RX4, "no", "(I)I"⟩
abbrev cX4_isIn : ByteArray := prog_5_method_4_code
def yX4_isIn : MethodName := ⟨RX4, "isIn", "(III)Z"⟩
abbrev cX4_isDrawer : ByteArray := prog_5_method_5_code
def yX4_isDrawer : MethodName := ⟨RX4, "isDrawer", "(I)Z"⟩
abbrev cX4_isClerk : ByteArray := prog_5_method_6_code
def yX4_isClerk : MethodName := ⟨RX4, "isClerk", "(I)Z"⟩
abbrev cX4_till : ByteArray := prog_5_method_7_code
def yX4_till : MethodName := ⟨RX4, "till", "(I)I"⟩
abbrev cX4_pay : ByteArray := prog_5_method_8_code
def yX4_pay : MethodName := ⟨RX4, "pay", "(II)I"⟩
abbrev cX4_clerk : ByteArray := prog_5_method_9_code
def yX4_clerk : MethodName := ⟨RX4, "clerk", "()I"⟩
abbrev cX4_say : ByteArray := prog_5_method_10_code
def yX4_say : MethodName := ⟨RX4, "say", "(IIIII)I"⟩
abbrev cX4_turn : ByteArray := prog_5_method_11_code
def yX4_turn : MethodName := ⟨RX4, "turn", "(I)I"⟩
abbrev cX4_drop : ByteArray := prog_5_method_12_code
def yX4_drop : MethodName := ⟨RX4, "drop", "(I)I"⟩
abbrev cX4_pass : ByteArray := prog_5_method_13_code
def yX4_pass : MethodName := ⟨RX4, "pass", "(I)I"⟩
abbrev cX4_drawerTold : ByteArray := prog_5_method_14_code
def yX4_drawerTold : MethodName := ⟨RX4, "drawerTold", "(II)I"⟩
abbrev cX4_drawer : ByteArray := prog_5_method_15_code
def yX4_drawer : MethodName := ⟨RX4, "drawer", "(II)I"⟩
abbrev cX4_many : ByteArray := prog_5_method_16_code
def yX4_many : MethodName := ⟨RX4, "many", "([II)I"⟩
abbrev cX4_clerkTold : ByteArray := prog_5_method_17_code
def yX4_clerkTold : MethodName := ⟨RX4, "clerkTold", "(II)I"⟩
abbrev cX4_told : ByteArray := prog_5_method_18_code
def yX4_told : MethodName := ⟨RX4, "told", "(II)I"⟩
abbrev cX4_slipTold : ByteArray := prog_5_method_19_code
def yX4_slipTold : MethodName := ⟨RX4, "slipTold", "(III)I"⟩
abbrev cX4_slip : ByteArray := prog_5_method_20_code
def yX4_slip : MethodName := ⟨RX4, "slip", "(III)I"⟩
abbrev cX4_step : ByteArray := prog_5_method_21_code
def yX4_step : MethodName := ⟨RX4, "step", "(III)I"⟩
abbrev cX4_closingTold : ByteArray := prog_5_method_22_code
def yX4_closingTold : MethodName := ⟨RX4, "closingTold", "(II)I"⟩
abbrev cX4_closing : ByteArray := prog_5_method_23_code
def yX4_closing : MethodName := ⟨RX4, "closing", "(II)I"⟩
abbrev cX4_clashes : ByteArray := prog_5_method_24_code
def yX4_clashes : MethodName := ⟨RX4, "clashes", "(II)Z"⟩
abbrev cX4_clash : ByteArray := prog_5_method_25_code
def yX4_clash : MethodName := ⟨RX4, "clash", "(II)Z"⟩
abbrev cX4_count : ByteArray := prog_5_method_26_code
def yX4_count : MethodName := ⟨RX4, "count", "(I)I"⟩
abbrev cX4_alone : ByteArray := prog_5_method_27_code
def yX4_alone : MethodName := ⟨RX4, "alone", "(II)I"⟩
abbrev cX4_until : ByteArray := prog_5_method_28_code
def yX4_until : MethodName := ⟨RX4, "until", "()I"⟩
abbrev cX4_foresee : ByteArray := prog_5_method_29_code
def yX4_foresee : MethodName := ⟨RX4, "foresee", "(II)I"⟩
abbrev cX4_clashesOf : ByteArray := prog_5_method_30_code
def yX4_clashesOf : MethodName := ⟨RX4, "clashesOf", "(I)I"⟩
abbrev cX4_advise : ByteArray := prog_5_method_31_code
def yX4_advise : MethodName := ⟨RX4, "advise", "()I"⟩
abbrev cX4_mean : ByteArray := prog_5_method_32_code
def yX4_mean : MethodName := ⟨RX4, "mean", "()D"⟩
abbrev cX4_digest : ByteArray := prog_5_method_33_code
def yX4_digest : MethodName := ⟨RX4, "digest", "()J"⟩
def RJ9 : String := "java/lang/Math"
def TJ9 : u_T := fun k => match k with
  | _ => ("", "", "", false)
def tyJ9 : Nat → FieldType := fun k => match k with
  | _ => .int
abbrev wsJ90 : List Cond := u_ws RJ9 TJ9 0
theorem nmJ9 : ∀ a, a < 0 → ∀ b, b < 0 → a ≠ b → (TJ9 a).2.1 ≠ (TJ9 b).2.1 := by decide +kernel
theorem tyJ9_ok : ∀ k, k < 0 → parseFieldDescriptor (TJ9 k).2.2.1 = some (tyJ9 k) := by decide +kernel
abbrev cJ9_max_7cf53 : ByteArray := prog_11_method_65_code
def yJ9_max_7cf53 : MethodName := ⟨RJ9, "max", "(II)I"⟩
abbrev cJ9_min_7cf53 : ByteArray := prog_11_method_69_code
def yJ9_min_7cf53 : MethodName := ⟨RJ9, "min", "(II)I"⟩
def RJ0 : String := "java/lang/String"
def TJ0 : u_T := fun k => match k with
  | _ => ("", "", "", false)
def tyJ0 : Nat → FieldType := fun k => match k with
  | _ => .int
abbrev wsJ00 : List Cond := u_ws RJ0 TJ0 0
theorem nmJ0 : ∀ a, a < 0 → ∀ b, b < 0 → a ≠ b → (TJ0 a).2.1 ≠ (TJ0 b).2.1 := by decide +kernel
theorem tyJ0_ok : ∀ k, k < 0 → parseFieldDescriptor (TJ0 k).2.2.1 = some (tyJ0 k) := by decide +kernel
def RJ10 : String := "java/lang/System"
def TJ10 : u_T := fun k => match k with
  | _ => ("", "", "", false)
def tyJ10 : Nat → FieldType := fun k => match k with
  | _ => .int
abbrev wsJ100 : List Cond := u_ws RJ10 TJ10 0
theorem nmJ10 : ∀ a, a < 0 → ∀ b, b < 0 → a ≠ b → (TJ10 a).2.1 ≠ (TJ10 b).2.1 := by decide +kernel
theorem tyJ10_ok : ∀ k, k < 0 → parseFieldDescriptor (TJ10 k).2.2.1 = some (tyJ10 k) := by decide +kernel
def RL : String := "TillOptimistsLaw"
abbrev cL_till : ByteArray := method_3_code
def yL_till : MethodName := ⟨RL, "till", "(LTillOptimists;I[J)I"⟩
abbrev cL_pay : ByteArray := method_4_code
def yL_pay : MethodName := ⟨RL, "pay", "(LTillOptimists;II[J)I"⟩
abbrev cL_clerk : ByteArray := method_5_code
def yL_clerk : MethodName := ⟨RL, "clerk", "(LTillOptimists;[J)I"⟩
abbrev cL_say : ByteArray := method_6_code
def yL_say : MethodName := ⟨RL, "say", "(LTillOptimists;IIIII[J)I"⟩
abbrev cL_turn : ByteArray := method_7_code
def yL_turn : MethodName := ⟨RL, "turn", "(LTillOptimists;I[J)I"⟩
abbrev cL_drop : ByteArray := method_8_code
def yL_drop : MethodName := ⟨RL, "drop", "(LTillOptimists;I[J)I"⟩
abbrev cL_pass : ByteArray := method_9_code
def yL_pass : MethodName := ⟨RL, "pass", "(LTillOptimists;I[J)I"⟩
abbrev cL_drawer : ByteArray := method_10_code
def yL_drawer : MethodName := ⟨RL, "drawer", "(LTillOptimists;II[J)I"⟩
abbrev cL_told : ByteArray := method_11_code
def yL_told : MethodName := ⟨RL, "told", "(LTillOptimists;II[J)I"⟩
abbrev cL_slip : ByteArray := method_12_code
def yL_slip : MethodName := ⟨RL, "slip", "(LTillOptimists;III[J)I"⟩
abbrev cL_step : ByteArray := method_13_code
def yL_step : MethodName := ⟨RL, "step", "(LTillOptimists;III[J)I"⟩
abbrev cL_closing : ByteArray := method_14_code
def yL_closing : MethodName := ⟨RL, "closing", "(LTillOptimists;II[J)I"⟩
abbrev cL_clash : ByteArray := method_15_code
def yL_clash : MethodName := ⟨RL, "clash", "(LTillOptimists;II[J)I"⟩
abbrev cL_count : ByteArray := method_16_code
def yL_count : MethodName := ⟨RL, "count", "(LTillOptimists;I[J)I"⟩
abbrev cL_alone : ByteArray := method_17_code
def yL_alone : MethodName := ⟨RL, "alone", "(LTillOptimists;II[J)I"⟩
abbrev cL_foresee : ByteArray := method_18_code
def yL_foresee : MethodName := ⟨RL, "foresee", "(LTillOptimists;II[J)I"⟩
abbrev cL_law : ByteArray := code
def yL_law : MethodName := ⟨RL, "law", "([I)Z"⟩
theorem dX0_init_0 : decode cX0_init 0 = .ok (.aload_n 0, 1) := by decide +kernel
theorem dX0_init_1 : decode cX0_init 1 = .ok (.invokespecial 3, 3) := by decide +kernel
theorem dX0_init_4 : decode cX0_init 4 = .ok (.aload_n 0, 1) := by decide +kernel
theorem dX0_init_5 : decode cX0_init 5 = .ok (.bipush 8, 2) := by decide +kernel
theorem dX0_init_7 : decode cX0_init 7 = .ok (.newarray .int, 2) := by decide +kernel
theorem dX0_init_9 : decode cX0_init 9 = .ok (.putfield 9, 3) := by decide +kernel
theorem dX0_init_12 : decode cX0_init 12 = .ok (.aload_n 0, 1) := by decide +kernel
theorem dX0_init_13 : decode cX0_init 13 = .ok (.bipush 8, 2) := by decide +kernel
theorem dX0_init_15 : decode cX0_init 15 = .ok (.newarray .int, 2) := by decide +kernel
theorem dX0_init_17 : decode cX0_init 17 = .ok (.putfield 15, 3) := by decide +kernel
theorem dX0_init_20 : decode cX0_init 20 = .ok (.aload_n 0, 1) := by decide +kernel
theorem dX0_init_21 : decode cX0_init 21 = .ok (.bipush 8, 2) := by decide +kernel
theorem dX0_init_23 : decode cX0_init 23 = .ok (.newarray .int, 2) := by decide +kernel
theorem dX0_init_25 : decode cX0_init 25 = .ok (.putfield 18, 3) := by decide +kernel
theorem dX0_init_28 : decode cX0_init 28 = .ok (.aload_n 0, 1) := by decide +kernel
theorem dX0_init_29 : decode cX0_init 29 = .ok (.bipush 8, 2) := by decide +kernel
theorem dX0_init_31 : decode cX0_init 31 = .ok (.newarray .int, 2) := by decide +kernel
theorem dX0_init_33 : decode cX0_init 33 = .ok (.putfield 21, 3) := by decide +kernel
theorem dX0_init_36 : decode cX0_init 36 = .ok (.aload_n 0, 1) := by decide +kernel
theorem dX0_init_37 : decode cX0_init 37 = .ok (.bipush 8, 2) := by decide +kernel
theorem dX0_init_39 : decode cX0_init 39 = .ok (.newarray .int, 2) := by decide +kernel
theorem dX0_init_41 : decode cX0_init 41 = .ok (.putfield 24, 3) := by decide +kernel
theorem dX0_init_44 : decode cX0_init 44 = .ok (.aload_n 0, 1) := by decide +kernel
theorem dX0_init_45 : decode cX0_init 45 = .ok (.bipush 8, 2) := by decide +kernel
theorem dX0_init_47 : decode cX0_init 47 = .ok (.newarray .int, 2) := by decide +kernel
theorem dX0_init_49 : decode cX0_init 49 = .ok (.putfield 27, 3) := by decide +kernel
theorem dX0_init_52 : decode cX0_init 52 = .ok (.aload_n 0, 1) := by decide +kernel
theorem dX0_init_53 : decode cX0_init 53 = .ok (.bipush 8, 2) := by decide +kernel
theorem dX0_init_55 : decode cX0_init 55 = .ok (.newarray .int, 2) := by decide +kernel
theorem dX0_init_57 : decode cX0_init 57 = .ok (.putfield 30, 3) := by decide +kernel
theorem dX0_init_60 : decode cX0_init 60 = .ok (.aload_n 0, 1) := by decide +kernel
theorem dX0_init_61 : decode cX0_init 61 = .ok (.invokevirtual 33, 3) := by decide +kernel
theorem dX0_init_64 : decode cX0_init 64 = .ok (.return_, 1) := by decide +kernel
theorem dX0_beginAnew_0 : decode cX0_beginAnew 0 = .ok (.aload_n 0, 1) := by decide +kernel
theorem dX0_beginAnew_1 : decode cX0_beginAnew 1 = .ok (.iconst 0, 1) := by decide +kernel
theorem dX0_beginAnew_2 : decode cX0_beginAnew 2 = .ok (.putfield 36, 3) := by decide +kernel
theorem dX0_beginAnew_5 : decode cX0_beginAnew 5 = .ok (.aload_n 0, 1) := by decide +kernel
theorem dX0_beginAnew_6 : decode cX0_beginAnew 6 = .ok (.iconst 0, 1) := by decide +kernel
theorem dX0_beginAnew_7 : decode cX0_beginAnew 7 = .ok (.putfield 40, 3) := by decide +kernel
theorem dX0_beginAnew_10 : decode cX0_beginAnew 10 = .ok (.aload_n 0, 1) := by decide +kernel
theorem dX0_beginAnew_11 : decode cX0_beginAnew 11 = .ok (.invokevirtual 33, 3) := by decide +kernel
theorem dX0_beginAnew_14 : decode cX0_beginAnew 14 = .ok (.return_, 1) := by decide +kernel
theorem dX0_startOver_0 : decode cX0_startOver 0 = .ok (.aload_n 0, 1) := by decide +kernel
theorem dX0_startOver_1 : decode cX0_startOver 1 = .ok (.iconst 0, 1) := by decide +kernel
theorem dX0_startOver_2 : decode cX0_startOver 2 = .ok (.putfield 43, 3) := by decide +kernel
theorem dX0_startOver_5 : decode cX0_startOver 5 = .ok (.aload_n 0, 1) := by decide +kernel
theorem dX0_startOver_6 : decode cX0_startOver 6 = .ok (.iconst 0, 1) := by decide +kernel
theorem dX0_startOver_7 : decode cX0_startOver 7 = .ok (.putfield 46, 3) := by decide +kernel
theorem dX0_startOver_10 : decode cX0_startOver 10 = .ok (.iconst 0, 1) := by decide +kernel
theorem dX0_startOver_11 : decode cX0_startOver 11 = .ok (.istore_n 1, 1) := by decide +kernel
theorem dX0_startOver_12 : decode cX0_startOver 12 = .ok (.iload_n 1, 1) := by decide +kernel
theorem dX0_startOver_13 : decode cX0_startOver 13 = .ok (.bipush 8, 2) := by decide +kernel
theorem dX0_startOver_15 : decode cX0_startOver 15 = .ok (.if_icmp .ge 30, 3) := by decide +kernel
theorem dX0_startOver_18 : decode cX0_startOver 18 = .ok (.aload_n 0, 1) := by decide +kernel
theorem dX0_startOver_19 : decode cX0_startOver 19 = .ok (.getfield 24, 3) := by decide +kernel
theorem dX0_startOver_22 : decode cX0_startOver 22 = .ok (.iload_n 1, 1) := by decide +kernel
theorem dX0_startOver_23 : decode cX0_startOver 23 = .ok (.iconst (-1), 1) := by decide +kernel
theorem dX0_startOver_24 : decode cX0_startOver 24 = .ok (.iastore, 1) := by decide +kernel
theorem dX0_startOver_25 : decode cX0_startOver 25 = .ok (.aload_n 0, 1) := by decide +kernel
theorem dX0_startOver_26 : decode cX0_startOver 26 = .ok (.getfield 27, 3) := by decide +kernel
theorem dX0_startOver_29 : decode cX0_startOver 29 = .ok (.iload_n 1, 1) := by decide +kernel
theorem dX0_startOver_30 : decode cX0_startOver 30 = .ok (.iconst (-1), 1) := by decide +kernel
theorem dX0_startOver_31 : decode cX0_startOver 31 = .ok (.iastore, 1) := by decide +kernel
theorem dX0_startOver_32 : decode cX0_startOver 32 = .ok (.aload_n 0, 1) := by decide +kernel
theorem dX0_startOver_33 : decode cX0_startOver 33 = .ok (.getfield 30, 3) := by decide +kernel
theorem dX0_startOver_36 : decode cX0_startOver 36 = .ok (.iload_n 1, 1) := by decide +kernel
theorem dX0_startOver_37 : decode cX0_startOver 37 = .ok (.iconst (-1), 1) := by decide +kernel
theorem dX0_startOver_38 : decode cX0_startOver 38 = .ok (.iastore, 1) := by decide +kernel
theorem dX0_startOver_39 : decode cX0_startOver 39 = .ok (.iinc 1 1, 3) := by decide +kernel
theorem dX0_startOver_42 : decode cX0_startOver 42 = .ok (.goto (-30), 3) := by decide +kernel
theorem dX0_startOver_45 : decode cX0_startOver 45 = .ok (.return_, 1) := by decide +kernel
theorem dX0_become_0 : decode cX0_become 0 = .ok (.aload_n 0, 1) := by decide +kernel
theorem dX0_become_1 : decode cX0_become 1 = .ok (.aload_n 1, 1) := by decide +kernel
theorem dX0_become_2 : decode cX0_become 2 = .ok (.getfield 36, 3) := by decide +kernel
theorem dX0_become_5 : decode cX0_become 5 = .ok (.putfield 36, 3) := by decide +kernel
theorem dX0_become_8 : decode cX0_become 8 = .ok (.aload_n 0, 1) := by decide +kernel
theorem dX0_become_9 : decode cX0_become 9 = .ok (.aload_n 1, 1) := by decide +kernel
theorem dX0_become_10 : decode cX0_become 10 = .ok (.getfield 43, 3) := by decide +kernel
theorem dX0_become_13 : decode cX0_become 13 = .ok (.putfield 43, 3) := by decide +kernel
theorem dX0_become_16 : decode cX0_become 16 = .ok (.aload_n 0, 1) := by decide +kernel
theorem dX0_become_17 : decode cX0_become 17 = .ok (.aload_n 1, 1) := by decide +kernel
theorem dX0_become_18 : decode cX0_become 18 = .ok (.getfield 46, 3) := by decide +kernel
theorem dX0_become_21 : decode cX0_become 21 = .ok (.putfield 46, 3) := by decide +kernel
theorem dX0_become_24 : decode cX0_become 24 = .ok (.aload_n 0, 1) := by decide +kernel
theorem dX0_become_25 : decode cX0_become 25 = .ok (.aload_n 1, 1) := by decide +kernel
theorem dX0_become_26 : decode cX0_become 26 = .ok (.getfield 40, 3) := by decide +kernel
theorem dX0_become_29 : decode cX0_become 29 = .ok (.putfield 40, 3) := by decide +kernel
theorem dX0_become_32 : decode cX0_become 32 = .ok (.iconst 0, 1) := by decide +kernel
theorem dX0_become_33 : decode cX0_become 33 = .ok (.istore_n 2, 1) := by decide +kernel
theorem dX0_become_34 : decode cX0_become 34 = .ok (.iload_n 2, 1) := by decide +kernel
theorem dX0_become_35 : decode cX0_become 35 = .ok (.bipush 8, 2) := by decide +kernel
theorem dX0_become_37 : decode cX0_become 37 = .ok (.if_icmp .ge 57, 3) := by decide +kernel
theorem dX0_become_40 : decode cX0_become 40 = .ok (.aload_n 0, 1) := by decide +kernel
theorem dX0_become_41 : decode cX0_become 41 = .ok (.getfield 9, 3) := by decide +kernel
theorem dX0_become_44 : decode cX0_become 44 = .ok (.iload_n 2, 1) := by decide +kernel
theorem dX0_become_45 : decode cX0_become 45 = .ok (.aload_n 1, 1) := by decide +kernel
theorem dX0_become_46 : decode cX0_become 46 = .ok (.getfield 9, 3) := by decide +kernel
theorem dX0_become_49 : decode cX0_become 49 = .ok (.iload_n 2, 1) := by decide +kernel
theorem dX0_become_50 : decode cX0_become 50 = .ok (.iaload, 1) := by decide +kernel
theorem dX0_become_51 : decode cX0_become 51 = .ok (.iastore, 1) := by decide +kernel
theorem dX0_become_52 : decode cX0_become 52 = .ok (.aload_n 0, 1) := by decide +kernel
theorem dX0_become_53 : decode cX0_become 53 = .ok (.getfield 15, 3) := by decide +kernel
theorem dX0_become_56 : decode cX0_become 56 = .ok (.iload_n 2, 1) := by decide +kernel
theorem dX0_become_57 : decode cX0_become 57 = .ok (.aload_n 1, 1) := by decide +kernel
theorem dX0_become_58 : decode cX0_become 58 = .ok (.getfield 15, 3) := by decide +kernel
theorem dX0_become_61 : decode cX0_become 61 = .ok (.iload_n 2, 1) := by decide +kernel
theorem dX0_become_62 : decode cX0_become 62 = .ok (.iaload, 1) := by decide +kernel
theorem dX0_become_63 : decode cX0_become 63 = .ok (.iastore, 1) := by decide +kernel
theorem dX0_become_64 : decode cX0_become 64 = .ok (.aload_n 0, 1) := by decide +kernel
theorem dX0_become_65 : decode cX0_become 65 = .ok (.getfield 18, 3) := by decide +kernel
theorem dX0_become_68 : decode cX0_become 68 = .ok (.iload_n 2, 1) := by decide +kernel
theorem dX0_become_69 : decode cX0_become 69 = .ok (.aload_n 1, 1) := by decide +kernel
theorem dX0_become_70 : decode cX0_become 70 = .ok (.getfield 18, 3) := by decide +kernel
theorem dX0_become_73 : decode cX0_become 73 = .ok (.iload_n 2, 1) := by decide +kernel
theorem dX0_become_74 : decode cX0_become 74 = .ok (.iaload, 1) := by decide +kernel
theorem dX0_become_75 : decode cX0_become 75 = .ok (.iastore, 1) := by decide +kernel
theorem dX0_become_76 : decode cX0_become 76 = .ok (.aload_n 0, 1) := by decide +kernel
theorem dX0_become_77 : decode cX0_become 77 = .ok (.getfield 21, 3) := by decide +kernel
theorem dX0_become_80 : decode cX0_become 80 = .ok (.iload_n 2, 1) := by decide +kernel
theorem dX0_become_81 : decode cX0_become 81 = .ok (.aload_n 1, 1) := by decide +kernel
theorem dX0_become_82 : decode cX0_become 82 = .ok (.getfield 21, 3) := by decide +kernel
theorem dX0_become_85 : decode cX0_become 85 = .ok (.iload_n 2, 1) := by decide +kernel
theorem dX0_become_86 : decode cX0_become 86 = .ok (.iaload, 1) := by decide +kernel
theorem dX0_become_87 : decode cX0_become 87 = .ok (.iastore, 1) := by decide +kernel
theorem dX0_become_88 : decode cX0_become 88 = .ok (.iinc 2 1, 3) := by decide +kernel
theorem dX0_become_91 : decode cX0_become 91 = .ok (.goto (-57), 3) := by decide +kernel
theorem dX0_become_94 : decode cX0_become 94 = .ok (.iconst 0, 1) := by decide +kernel
theorem dX0_become_95 : decode cX0_become 95 = .ok (.istore_n 2, 1) := by decide +kernel
theorem dX0_become_96 : decode cX0_become 96 = .ok (.iload_n 2, 1) := by decide +kernel
theorem dX0_become_97 : decode cX0_become 97 = .ok (.bipush 8, 2) := by decide +kernel
theorem dX0_become_99 : decode cX0_become 99 = .ok (.if_icmp .ge 45, 3) := by decide +kernel
theorem dX0_become_102 : decode cX0_become 102 = .ok (.aload_n 0, 1) := by decide +kernel
theorem dX0_become_103 : decode cX0_become 103 = .ok (.getfield 24, 3) := by decide +kernel
theorem dX0_become_106 : decode cX0_become 106 = .ok (.iload_n 2, 1) := by decide +kernel
theorem dX0_become_107 : decode cX0_become 107 = .ok (.aload_n 1, 1) := by decide +kernel
theorem dX0_become_108 : decode cX0_become 108 = .ok (.getfield 24, 3) := by decide +kernel
theorem dX0_become_111 : decode cX0_become 111 = .ok (.iload_n 2, 1) := by decide +kernel
theorem dX0_become_112 : decode cX0_become 112 = .ok (.iaload, 1) := by decide +kernel
theorem dX0_become_113 : decode cX0_become 113 = .ok (.iastore, 1) := by decide +kernel
theorem dX0_become_114 : decode cX0_become 114 = .ok (.aload_n 0, 1) := by decide +kernel
theorem dX0_become_115 : decode cX0_become 115 = .ok (.getfield 27, 3) := by decide +kernel
theorem dX0_become_118 : decode cX0_become 118 = .ok (.iload_n 2, 1) := by decide +kernel
theorem dX0_become_119 : decode cX0_become 119 = .ok (.aload_n 1, 1) := by decide +kernel
theorem dX0_become_120 : decode cX0_become 120 = .ok (.getfield 27, 3) := by decide +kernel
theorem dX0_become_123 : decode cX0_become 123 = .ok (.iload_n 2, 1) := by decide +kernel
theorem dX0_become_124 : decode cX0_become 124 = .ok (.iaload, 1) := by decide +kernel
theorem dX0_become_125 : decode cX0_become 125 = .ok (.iastore, 1) := by decide +kernel
theorem dX0_become_126 : decode cX0_become 126 = .ok (.aload_n 0, 1) := by decide +kernel
theorem dX0_become_127 : decode cX0_become 127 = .ok (.getfield 30, 3) := by decide +kernel
theorem dX0_become_130 : decode cX0_become 130 = .ok (.iload_n 2, 1) := by decide +kernel
theorem dX0_become_131 : decode cX0_become 131 = .ok (.aload_n 1, 1) := by decide +kernel
theorem dX0_become_132 : decode cX0_become 132 = .ok (.getfield 30, 3) := by decide +kernel
theorem dX0_become_135 : decode cX0_become 135 = .ok (.iload_n 2, 1) := by decide +kernel
theorem dX0_become_136 : decode cX0_become 136 = .ok (.iaload, 1) := by decide +kernel
theorem dX0_become_137 : decode cX0_become 137 = .ok (.iastore, 1) := by decide +kernel
theorem dX0_become_138 : decode cX0_become 138 = .ok (.iinc 2 1, 3) := by decide +kernel
theorem dX0_become_141 : decode cX0_become 141 = .ok (.goto (-45), 3) := by decide +kernel
theorem dX0_become_144 : decode cX0_become 144 = .ok (.return_, 1) := by decide +kernel
theorem dX0_addStep_0 : decode cX0_addStep 0 = .ok (.aload_n 0, 1) := by decide +kernel
theorem dX0_addStep_1 : decode cX0_addStep 1 = .ok (.getfield 36, 3) := by decide +kernel
theorem dX0_addStep_4 : decode cX0_addStep 4 = .ok (.bipush 8, 2) := by decide +kernel
theorem dX0_addStep_6 : decode cX0_addStep 6 = .ok (.if_icmp .lt 4, 3) := by decide +kernel
theorem dX0_addStep_9 : decode cX0_addStep 9 = .ok (.return_, 1) := by decide +kernel
theorem dX0_addStep_10 : decode cX0_addStep 10 = .ok (.aload_n 0, 1) := by decide +kernel
theorem dX0_addStep_11 : decode cX0_addStep 11 = .ok (.getfield 9, 3) := by decide +kernel
theorem dX0_addStep_14 : decode cX0_addStep 14 = .ok (.aload_n 0, 1) := by decide +kernel
theorem dX0_addStep_15 : decode cX0_addStep 15 = .ok (.getfield 36, 3) := by decide +kernel
theorem dX0_addStep_18 : decode cX0_addStep 18 = .ok (.iload_n 1, 1) := by decide +kernel
theorem dX0_addStep_19 : decode cX0_addStep 19 = .ok (.iastore, 1) := by decide +kernel
theorem dX0_addStep_20 : decode cX0_addStep 20 = .ok (.aload_n 0, 1) := by decide +kernel
theorem dX0_addStep_21 : decode cX0_addStep 21 = .ok (.getfield 15, 3) := by decide +kernel
theorem dX0_addStep_24 : decode cX0_addStep 24 = .ok (.aload_n 0, 1) := by decide +kernel
theorem dX0_addStep_25 : decode cX0_addStep 25 = .ok (.getfield 36, 3) := by decide +kernel
theorem dX0_addStep_28 : decode cX0_addStep 28 = .ok (.iload_n 2, 1) := by decide +kernel
theorem dX0_addStep_29 : decode cX0_addStep 29 = .ok (.iastore, 1) := by decide +kernel
theorem dX0_addStep_30 : decode cX0_addStep 30 = .ok (.aload_n 0, 1) := by decide +kernel
theorem dX0_addStep_31 : decode cX0_addStep 31 = .ok (.getfield 18, 3) := by decide +kernel
theorem dX0_addStep_34 : decode cX0_addStep 34 = .ok (.aload_n 0, 1) := by decide +kernel
theorem dX0_addStep_35 : decode cX0_addStep 35 = .ok (.getfield 36, 3) := by decide +kernel
theorem dX0_addStep_38 : decode cX0_addStep 38 = .ok (.iload_n 3, 1) := by decide +kernel
theorem dX0_addStep_39 : decode cX0_addStep 39 = .ok (.iastore, 1) := by decide +kernel
theorem dX0_addStep_40 : decode cX0_addStep 40 = .ok (.aload_n 0, 1) := by decide +kernel
theorem dX0_addStep_41 : decode cX0_addStep 41 = .ok (.getfield 21, 3) := by decide +kernel
theorem dX0_addStep_44 : decode cX0_addStep 44 = .ok (.aload_n 0, 1) := by decide +kernel
theorem dX0_addStep_45 : decode cX0_addStep 45 = .ok (.getfield 36, 3) := by decide +kernel
theorem dX0_addStep_48 : decode cX0_addStep 48 = .ok (.iload 4, 2) := by decide +kernel
theorem dX0_addStep_50 : decode cX0_addStep 50 = .ok (.iastore, 1) := by decide +kernel
theorem dX0_addStep_51 : decode cX0_addStep 51 = .ok (.aload_n 0, 1) := by decide +kernel
theorem dX0_addStep_52 : decode cX0_addStep 52 = .ok (.dup, 1) := by decide +kernel
theorem dX0_addStep_53 : decode cX0_addStep 53 = .ok (.getfield 36, 3) := by decide +kernel
theorem dX0_addStep_56 : decode cX0_addStep 56 = .ok (.iconst 1, 1) := by decide +kernel
theorem dX0_addStep_57 : decode cX0_addStep 57 = .ok (.iadd, 1) := by decide +kernel
theorem dX0_addStep_58 : decode cX0_addStep 58 = .ok (.putfield 36, 3) := by decide +kernel
theorem dX0_addStep_61 : decode cX0_addStep 61 = .ok (.return_, 1) := by decide +kernel
theorem dX0_isAtWork_0 : decode cX0_isAtWork 0 = .ok (.aload_n 0, 1) := by decide +kernel
theorem dX0_isAtWork_1 : decode cX0_isAtWork 1 = .ok (.getfield 46, 3) := by decide +kernel
theorem dX0_isAtWork_4 : decode cX0_isAtWork 4 = .ok (.ifCond .ne 14, 3) := by decide +kernel
theorem dX0_isAtWork_7 : decode cX0_isAtWork 7 = .ok (.aload_n 0, 1) := by decide +kernel
theorem dX0_isAtWork_8 : decode cX0_isAtWork 8 = .ok (.getfield 36, 3) := by decide +kernel
theorem dX0_isAtWork_11 : decode cX0_isAtWork 11 = .ok (.ifCond .le 7, 3) := by decide +kernel
theorem dX0_isAtWork_14 : decode cX0_isAtWork 14 = .ok (.iconst 1, 1) := by decide +kernel
theorem dX0_isAtWork_15 : decode cX0_isAtWork 15 = .ok (.goto 4, 3) := by decide +kernel
theorem dX0_isAtWork_18 : decode cX0_isAtWork 18 = .ok (.iconst 0, 1) := by decide +kernel
theorem dX0_isAtWork_19 : decode cX0_isAtWork 19 = .ok (.ireturn, 1) := by decide +kernel
theorem dX0_remembers_0 : decode cX0_remembers 0 = .ok (.aload_n 0, 1) := by decide +kernel
theorem dX0_remembers_1 : decode cX0_remembers 1 = .ok (.getfield 24, 3) := by decide +kernel
theorem dX0_remembers_4 : decode cX0_remembers 4 = .ok (.iload_n 1, 1) := by decide +kernel
theorem dX0_remembers_5 : decode cX0_remembers 5 = .ok (.iaload, 1) := by decide +kernel
theorem dX0_remembers_6 : decode cX0_remembers 6 = .ok (.iconst (-1), 1) := by decide +kernel
theorem dX0_remembers_7 : decode cX0_remembers 7 = .ok (.if_icmp .eq 7, 3) := by decide +kernel
theorem dX0_remembers_10 : decode cX0_remembers 10 = .ok (.iconst 1, 1) := by decide +kernel
theorem dX0_remembers_11 : decode cX0_remembers 11 = .ok (.goto 4, 3) := by decide +kernel
theorem dX0_remembers_14 : decode cX0_remembers 14 = .ok (.iconst 0, 1) := by decide +kernel
theorem dX0_remembers_15 : decode cX0_remembers 15 = .ok (.ireturn, 1) := by decide +kernel
theorem dX0_hasWritten_0 : decode cX0_hasWritten 0 = .ok (.aload_n 0, 1) := by decide +kernel
theorem dX0_hasWritten_1 : decode cX0_hasWritten 1 = .ok (.getfield 30, 3) := by decide +kernel
theorem dX0_hasWritten_4 : decode cX0_hasWritten 4 = .ok (.iload_n 1, 1) := by decide +kernel
theorem dX0_hasWritten_5 : decode cX0_hasWritten 5 = .ok (.iaload, 1) := by decide +kernel
theorem dX0_hasWritten_6 : decode cX0_hasWritten 6 = .ok (.iconst (-1), 1) := by decide +kernel
theorem dX0_hasWritten_7 : decode cX0_hasWritten 7 = .ok (.if_icmp .eq 7, 3) := by decide +kernel
theorem dX0_hasWritten_10 : decode cX0_hasWritten 10 = .ok (.iconst 1, 1) := by decide +kernel
theorem dX0_hasWritten_11 : decode cX0_hasWritten 11 = .ok (.goto 4, 3) := by decide +kernel
theorem dX0_hasWritten_14 : decode cX0_hasWritten 14 = .ok (.iconst 0, 1) := by decide +kernel
theorem dX0_hasWritten_15 : decode cX0_hasWritten 15 = .ok (.ireturn, 1) := by decide +kernel
theorem dX0_countRemembered_0 : decode cX0_countRemembered 0 = .ok (.iconst 0, 1) := by decide +kernel
theorem dX0_countRemembered_1 : decode cX0_countRemembered 1 = .ok (.istore_n 1, 1) := by decide +kernel
theorem dX0_countRemembered_2 : decode cX0_countRemembered 2 = .ok (.iconst 0, 1) := by decide +kernel
theorem dX0_countRemembered_3 : decode cX0_countRemembered 3 = .ok (.istore_n 2, 1) := by decide +kernel
theorem dX0_countRemembered_4 : decode cX0_countRemembered 4 = .ok (.iload_n 2, 1) := by decide +kernel
theorem dX0_countRemembered_5 : decode cX0_countRemembered 5 = .ok (.bipush 8, 2) := by decide +kernel
theorem dX0_countRemembered_7 : decode cX0_countRemembered 7 = .ok (.if_icmp .ge 25, 3) := by decide +kernel
theorem dX0_countRemembered_10 : decode cX0_countRemembered 10 = .ok (.iload_n 1, 1) := by decide +kernel
theorem dX0_countRemembered_11 : decode cX0_countRemembered 11 = .ok (.aload_n 0, 1) := by decide +kernel
theorem dX0_countRemembered_12 : decode cX0_countRemembered 12 = .ok (.iload_n 2, 1) := by decide +kernel
theorem dX0_countRemembered_13 : decode cX0_countRemembered 13 = .ok (.invokevirtual 50, 3) := by decide +kernel
theorem dX0_countRemembered_16 : decode cX0_countRemembered 16 = .ok (.ifCond .eq 7, 3) := by decide +kernel
theorem dX0_countRemembered_19 : decode cX0_countRemembered 19 = .ok (.iconst 1, 1) := by decide +kernel
theorem dX0_countRemembered_20 : decode cX0_countRemembered 20 = .ok (.goto 4, 3) := by decide +kernel
theorem dX0_countRemembered_23 : decode cX0_countRemembered 23 = .ok (.iconst 0, 1) := by decide +kernel
theorem dX0_countRemembered_24 : decode cX0_countRemembered 24 = .ok (.iadd, 1) := by decide +kernel
theorem dX0_countRemembered_25 : decode cX0_countRemembered 25 = .ok (.istore_n 1, 1) := by decide +kernel
theorem dX0_countRemembered_26 : decode cX0_countRemembered 26 = .ok (.iinc 2 1, 3) := by decide +kernel
theorem dX0_countRemembered_29 : decode cX0_countRemembered 29 = .ok (.goto (-25), 3) := by decide +kernel
theorem dX0_countRemembered_32 : decode cX0_countRemembered 32 = .ok (.iload_n 1, 1) := by decide +kernel
theorem dX0_countRemembered_33 : decode cX0_countRemembered 33 = .ok (.ireturn, 1) := by decide +kernel
theorem dX0_countWritten_0 : decode cX0_countWritten 0 = .ok (.iconst 0, 1) := by decide +kernel
theorem dX0_countWritten_1 : decode cX0_countWritten 1 = .ok (.istore_n 1, 1) := by decide +kernel
theorem dX0_countWritten_2 : decode cX0_countWritten 2 = .ok (.iconst 0, 1) := by decide +kernel
theorem dX0_countWritten_3 : decode cX0_countWritten 3 = .ok (.istore_n 2, 1) := by decide +kernel
theorem dX0_countWritten_4 : decode cX0_countWritten 4 = .ok (.iload_n 2, 1) := by decide +kernel
theorem dX0_countWritten_5 : decode cX0_countWritten 5 = .ok (.bipush 8, 2) := by decide +kernel
theorem dX0_countWritten_7 : decode cX0_countWritten 7 = .ok (.if_icmp .ge 25, 3) := by decide +kernel
theorem dX0_countWritten_10 : decode cX0_countWritten 10 = .ok (.iload_n 1, 1) := by decide +kernel
theorem dX0_countWritten_11 : decode cX0_countWritten 11 = .ok (.aload_n 0, 1) := by decide +kernel
theorem dX0_countWritten_12 : decode cX0_countWritten 12 = .ok (.iload_n 2, 1) := by decide +kernel
theorem dX0_countWritten_13 : decode cX0_countWritten 13 = .ok (.invokevirtual 54, 3) := by decide +kernel
theorem dX0_countWritten_16 : decode cX0_countWritten 16 = .ok (.ifCond .eq 7, 3) := by decide +kernel
theorem dX0_countWritten_19 : decode cX0_countWritten 19 = .ok (.iconst 1, 1) := by decide +kernel
theorem dX0_countWritten_20 : decode cX0_countWritten 20 = .ok (.goto 4, 3) := by decide +kernel
theorem dX0_countWritten_23 : decode cX0_countWritten 23 = .ok (.iconst 0, 1) := by decide +kernel
theorem dX0_countWritten_24 : decode cX0_countWritten 24 = .ok (.iadd, 1) := by decide +kernel
theorem dX0_countWritten_25 : decode cX0_countWritten 25 = .ok (.istore_n 1, 1) := by decide +kernel
theorem dX0_countWritten_26 : decode cX0_countWritten 26 = .ok (.iinc 2 1, 3) := by decide +kernel
theorem dX0_countWritten_29 : decode cX0_countWritten 29 = .ok (.goto (-25), 3) := by decide +kernel
theorem dX0_countWritten_32 : decode cX0_countWritten 32 = .ok (.iload_n 1, 1) := by decide +kernel
theorem dX0_countWritten_33 : decode cX0_countWritten 33 = .ok (.ireturn, 1) := by decide +kernel
theorem dX0_slipFact_0 : decode cX0_slipFact 0 = .ok (.iload_n 2, 1) := by decide +kernel
theorem dX0_slipFact_1 : decode cX0_slipFact 1 = .ok (.lookupswitch 41 #[(0, 27), (1, 34)], 27) := by decide +kernel
theorem dX0_slipFact_28 : decode cX0_slipFact 28 = .ok (.aload_n 0, 1) := by decide +kernel
theorem dX0_slipFact_29 : decode cX0_slipFact 29 = .ok (.getfield 24, 3) := by decide +kernel
theorem dX0_slipFact_32 : decode cX0_slipFact 32 = .ok (.iload_n 1, 1) := by decide +kernel
theorem dX0_slipFact_33 : decode cX0_slipFact 33 = .ok (.iaload, 1) := by decide +kernel
theorem dX0_slipFact_34 : decode cX0_slipFact 34 = .ok (.ireturn, 1) := by decide +kernel
theorem dX0_slipFact_35 : decode cX0_slipFact 35 = .ok (.aload_n 0, 1) := by decide +kernel
theorem dX0_slipFact_36 : decode cX0_slipFact 36 = .ok (.getfield 27, 3) := by decide +kernel
theorem dX0_slipFact_39 : decode cX0_slipFact 39 = .ok (.iload_n 1, 1) := by decide +kernel
theorem dX0_slipFact_40 : decode cX0_slipFact 40 = .ok (.iaload, 1) := by decide +kernel
theorem dX0_slipFact_41 : decode cX0_slipFact 41 = .ok (.ireturn, 1) := by decide +kernel
theorem dX0_slipFact_42 : decode cX0_slipFact 42 = .ok (.aload_n 0, 1) := by decide +kernel
theorem dX0_slipFact_43 : decode cX0_slipFact 43 = .ok (.getfield 30, 3) := by decide +kernel
theorem dX0_slipFact_46 : decode cX0_slipFact 46 = .ok (.iload_n 1, 1) := by decide +kernel
theorem dX0_slipFact_47 : decode cX0_slipFact 47 = .ok (.iaload, 1) := by decide +kernel
theorem dX0_slipFact_48 : decode cX0_slipFact 48 = .ok (.ireturn, 1) := by decide +kernel
theorem dX0_stepFact_0 : decode cX0_stepFact 0 = .ok (.iload_n 2, 1) := by decide +kernel
theorem dX0_stepFact_1 : decode cX0_stepFact 1 = .ok (.tableswitch 48 0 2 #[27, 34, 41], 27) := by decide +kernel
theorem dX0_stepFact_28 : decode cX0_stepFact 28 = .ok (.aload_n 0, 1) := by decide +kernel
theorem dX0_stepFact_29 : decode cX0_stepFact 29 = .ok (.getfield 9, 3) := by decide +kernel
theorem dX0_stepFact_32 : decode cX0_stepFact 32 = .ok (.iload_n 1, 1) := by decide +kernel
theorem dX0_stepFact_33 : decode cX0_stepFact 33 = .ok (.iaload, 1) := by decide +kernel
theorem dX0_stepFact_34 : decode cX0_stepFact 34 = .ok (.ireturn, 1) := by decide +kernel
theorem dX0_stepFact_35 : decode cX0_stepFact 35 = .ok (.aload_n 0, 1) := by decide +kernel
theorem dX0_stepFact_36 : decode cX0_stepFact 36 = .ok (.getfield 15, 3) := by decide +kernel
theorem dX0_stepFact_39 : decode cX0_stepFact 39 = .ok (.iload_n 1, 1) := by decide +kernel
theorem dX0_stepFact_40 : decode cX0_stepFact 40 = .ok (.iaload, 1) := by decide +kernel
theorem dX0_stepFact_41 : decode cX0_stepFact 41 = .ok (.ireturn, 1) := by decide +kernel
theorem dX0_stepFact_42 : decode cX0_stepFact 42 = .ok (.aload_n 0, 1) := by decide +kernel
theorem dX0_stepFact_43 : decode cX0_stepFact 43 = .ok (.getfield 18, 3) := by decide +kernel
theorem dX0_stepFact_46 : decode cX0_stepFact 46 = .ok (.iload_n 1, 1) := by decide +kernel
theorem dX0_stepFact_47 : decode cX0_stepFact 47 = .ok (.iaload, 1) := by decide +kernel
theorem dX0_stepFact_48 : decode cX0_stepFact 48 = .ok (.ireturn, 1) := by decide +kernel
theorem dX0_stepFact_49 : decode cX0_stepFact 49 = .ok (.aload_n 0, 1) := by decide +kernel
theorem dX0_stepFact_50 : decode cX0_stepFact 50 = .ok (.getfield 21, 3) := by decide +kernel
theorem dX0_stepFact_53 : decode cX0_stepFact 53 = .ok (.iload_n 1, 1) := by decide +kernel
theorem dX0_stepFact_54 : decode cX0_stepFact 54 = .ok (.iaload, 1) := by decide +kernel
theorem dX0_stepFact_55 : decode cX0_stepFact 55 = .ok (.ireturn, 1) := by decide +kernel
theorem dX1_init_0 : decode cX1_init 0 = .ok (.aload_n 0, 1) := by decide +kernel
theorem dX1_init_1 : decode cX1_init 1 = .ok (.invokespecial 3, 3) := by decide +kernel
theorem dX1_init_4 : decode cX1_init 4 = .ok (.aload_n 0, 1) := by decide +kernel
theorem dX1_init_5 : decode cX1_init 5 = .ok (.bipush 6, 2) := by decide +kernel
theorem dX1_init_7 : decode cX1_init 7 = .ok (.putfield 9, 3) := by decide +kernel
theorem dX1_init_10 : decode cX1_init 10 = .ok (.aload_n 0, 1) := by decide +kernel
theorem dX1_init_11 : decode cX1_init 11 = .ok (.bipush 8, 2) := by decide +kernel
theorem dX1_init_13 : decode cX1_init 13 = .ok (.newarray .int, 2) := by decide +kernel
theorem dX1_init_15 : decode cX1_init 15 = .ok (.putfield 15, 3) := by decide +kernel
theorem dX1_init_18 : decode cX1_init 18 = .ok (.aload_n 0, 1) := by decide +kernel
theorem dX1_init_19 : decode cX1_init 19 = .ok (.bipush 8, 2) := by decide +kernel
theorem dX1_init_21 : decode cX1_init 21 = .ok (.newarray .int, 2) := by decide +kernel
theorem dX1_init_23 : decode cX1_init 23 = .ok (.putfield 19, 3) := by decide +kernel
theorem dX1_init_26 : decode cX1_init 26 = .ok (.aload_n 0, 1) := by decide +kernel
theorem dX1_init_27 : decode cX1_init 27 = .ok (.bipush 6, 2) := by decide +kernel
theorem dX1_init_29 : decode cX1_init 29 = .ok (.anewarray 22, 3) := by decide +kernel
theorem dX1_init_32 : decode cX1_init 32 = .ok (.putfield 24, 3) := by decide +kernel
theorem dX1_init_35 : decode cX1_init 35 = .ok (.iconst 0, 1) := by decide +kernel
theorem dX1_init_36 : decode cX1_init 36 = .ok (.istore_n 1, 1) := by decide +kernel
theorem dX1_init_37 : decode cX1_init 37 = .ok (.iload_n 1, 1) := by decide +kernel
theorem dX1_init_38 : decode cX1_init 38 = .ok (.bipush 6, 2) := by decide +kernel
theorem dX1_init_40 : decode cX1_init 40 = .ok (.if_icmp .ge 22, 3) := by decide +kernel
theorem dX1_init_43 : decode cX1_init 43 = .ok (.aload_n 0, 1) := by decide +kernel
theorem dX1_init_44 : decode cX1_init 44 = .ok (.getfield 24, 3) := by decide +kernel
theorem dX1_init_47 : decode cX1_init 47 = .ok (.iload_n 1, 1) := by decide +kernel
theorem dX1_init_48 : decode cX1_init 48 = .ok (.new 22, 3) := by decide +kernel
theorem dX1_init_51 : decode cX1_init 51 = .ok (.dup, 1) := by decide +kernel
theorem dX1_init_52 : decode cX1_init 52 = .ok (.invokespecial 28, 3) := by decide +kernel
theorem dX1_init_55 : decode cX1_init 55 = .ok (.aastore, 1) := by decide +kernel
theorem dX1_init_56 : decode cX1_init 56 = .ok (.iinc 1 1, 3) := by decide +kernel
theorem dX1_init_59 : decode cX1_init 59 = .ok (.goto (-22), 3) := by decide +kernel
theorem dX1_init_62 : decode cX1_init 62 = .ok (.aload_n 0, 1) := by decide +kernel
theorem dX1_init_63 : decode cX1_init 63 = .ok (.bipush 10, 2) := by decide +kernel
theorem dX1_init_65 : decode cX1_init 65 = .ok (.newarray .int, 2) := by decide +kernel
theorem dX1_init_67 : decode cX1_init 67 = .ok (.putfield 29, 3) := by decide +kernel
theorem dX1_init_70 : decode cX1_init 70 = .ok (.aload_n 0, 1) := by decide +kernel
theorem dX1_init_71 : decode cX1_init 71 = .ok (.bipush 10, 2) := by decide +kernel
theorem dX1_init_73 : decode cX1_init 73 = .ok (.newarray .int, 2) := by decide +kernel
theorem dX1_init_75 : decode cX1_init 75 = .ok (.putfield 32, 3) := by decide +kernel
theorem dX1_init_78 : decode cX1_init 78 = .ok (.aload_n 0, 1) := by decide +kernel
theorem dX1_init_79 : decode cX1_init 79 = .ok (.bipush 10, 2) := by decide +kernel
theorem dX1_init_81 : decode cX1_init 81 = .ok (.newarray .int, 2) := by decide +kernel
theorem dX1_init_83 : decode cX1_init 83 = .ok (.putfield 35, 3) := by decide +kernel
theorem dX1_init_86 : decode cX1_init 86 = .ok (.return_, 1) := by decide +kernel
theorem dX1_beginAnew_0 : decode cX1_beginAnew 0 = .ok (.aload_n 0, 1) := by decide +kernel
theorem dX1_beginAnew_1 : decode cX1_beginAnew 1 = .ok (.iload_n 1, 1) := by decide +kernel
theorem dX1_beginAnew_2 : decode cX1_beginAnew 2 = .ok (.putfield 9, 3) := by decide +kernel
theorem dX1_beginAnew_5 : decode cX1_beginAnew 5 = .ok (.aload_n 0, 1) := by decide +kernel
theorem dX1_beginAnew_6 : decode cX1_beginAnew 6 = .ok (.iconst 0, 1) := by decide +kernel
theorem dX1_beginAnew_7 : decode cX1_beginAnew 7 = .ok (.putfield 38, 3) := by decide +kernel
theorem dX1_beginAnew_10 : decode cX1_beginAnew 10 = .ok (.aload_n 0, 1) := by decide +kernel
theorem dX1_beginAnew_11 : decode cX1_beginAnew 11 = .ok (.iconst 0, 1) := by decide +kernel
theorem dX1_beginAnew_12 : decode cX1_beginAnew 12 = .ok (.putfield 41, 3) := by decide +kernel
theorem dX1_beginAnew_15 : decode cX1_beginAnew 15 = .ok (.iconst 0, 1) := by decide +kernel
theorem dX1_beginAnew_16 : decode cX1_beginAnew 16 = .ok (.istore_n 2, 1) := by decide +kernel
theorem dX1_beginAnew_17 : decode cX1_beginAnew 17 = .ok (.iload_n 2, 1) := by decide +kernel
theorem dX1_beginAnew_18 : decode cX1_beginAnew 18 = .ok (.bipush 8, 2) := by decide +kernel
theorem dX1_beginAnew_20 : decode cX1_beginAnew 20 = .ok (.if_icmp .ge 23, 3) := by decide +kernel
theorem dX1_beginAnew_23 : decode cX1_beginAnew 23 = .ok (.aload_n 0, 1) := by decide +kernel
theorem dX1_beginAnew_24 : decode cX1_beginAnew 24 = .ok (.getfield 15, 3) := by decide +kernel
theorem dX1_beginAnew_27 : decode cX1_beginAnew 27 = .ok (.iload_n 2, 1) := by decide +kernel
theorem dX1_beginAnew_28 : decode cX1_beginAnew 28 = .ok (.iconst 0, 1) := by decide +kernel
theorem dX1_beginAnew_29 : decode cX1_beginAnew 29 = .ok (.iastore, 1) := by decide +kernel
theorem dX1_beginAnew_30 : decode cX1_beginAnew 30 = .ok (.aload_n 0, 1) := by decide +kernel
theorem dX1_beginAnew_31 : decode cX1_beginAnew 31 = .ok (.getfield 19, 3) := by decide +kernel
theorem dX1_beginAnew_34 : decode cX1_beginAnew 34 = .ok (.iload_n 2, 1) := by decide +kernel
theorem dX1_beginAnew_35 : decode cX1_beginAnew 35 = .ok (.iconst 0, 1) := by decide +kernel
theorem dX1_beginAnew_36 : decode cX1_beginAnew 36 = .ok (.iastore, 1) := by decide +kernel
theorem dX1_beginAnew_37 : decode cX1_beginAnew 37 = .ok (.iinc 2 1, 3) := by decide +kernel
theorem dX1_beginAnew_40 : decode cX1_beginAnew 40 = .ok (.goto (-23), 3) := by decide +kernel
theorem dX1_beginAnew_43 : decode cX1_beginAnew 43 = .ok (.return_, 1) := by decide +kernel
theorem dX1_become_0 : decode cX1_become 0 = .ok (.aload_n 0, 1) := by decide +kernel
theorem dX1_become_1 : decode cX1_become 1 = .ok (.aload_n 1, 1) := by decide +kernel
theorem dX1_become_2 : decode cX1_become 2 = .ok (.getfield 9, 3) := by decide +kernel
theorem dX1_become_5 : decode cX1_become 5 = .ok (.putfield 9, 3) := by decide +kernel
theorem dX1_become_8 : decode cX1_become 8 = .ok (.aload_n 0, 1) := by decide +kernel
theorem dX1_become_9 : decode cX1_become 9 = .ok (.aload_n 1, 1) := by decide +kernel
theorem dX1_become_10 : decode cX1_become 10 = .ok (.getfield 38, 3) := by decide +kernel
theorem dX1_become_13 : decode cX1_become 13 = .ok (.putfield 38, 3) := by decide +kernel
theorem dX1_become_16 : decode cX1_become 16 = .ok (.aload_n 0, 1) := by decide +kernel
theorem dX1_become_17 : decode cX1_become 17 = .ok (.aload_n 1, 1) := by decide +kernel
theorem dX1_become_18 : decode cX1_become 18 = .ok (.getfield 41, 3) := by decide +kernel
theorem dX1_become_21 : decode cX1_become 21 = .ok (.putfield 41, 3) := by decide +kernel
theorem dX1_become_24 : decode cX1_become 24 = .ok (.iconst 0, 1) := by decide +kernel
theorem dX1_become_25 : decode cX1_become 25 = .ok (.istore_n 2, 1) := by decide +kernel
theorem dX1_become_26 : decode cX1_become 26 = .ok (.iload_n 2, 1) := by decide +kernel
theorem dX1_become_27 : decode cX1_become 27 = .ok (.bipush 8, 2) := by decide +kernel
theorem dX1_become_29 : decode cX1_become 29 = .ok (.if_icmp .ge 33, 3) := by decide +kernel
theorem dX1_become_32 : decode cX1_become 32 = .ok (.aload_n 0, 1) := by decide +kernel
theorem dX1_become_33 : decode cX1_become 33 = .ok (.getfield 15, 3) := by decide +kernel
theorem dX1_become_36 : decode cX1_become 36 = .ok (.iload_n 2, 1) := by decide +kernel
theorem dX1_become_37 : decode cX1_become 37 = .ok (.aload_n 1, 1) := by decide +kernel
theorem dX1_become_38 : decode cX1_become 38 = .ok (.getfield 15, 3) := by decide +kernel
theorem dX1_become_41 : decode cX1_become 41 = .ok (.iload_n 2, 1) := by decide +kernel
theorem dX1_become_42 : decode cX1_become 42 = .ok (.iaload, 1) := by decide +kernel
theorem dX1_become_43 : decode cX1_become 43 = .ok (.iastore, 1) := by decide +kernel
theorem dX1_become_44 : decode cX1_become 44 = .ok (.aload_n 0, 1) := by decide +kernel
theorem dX1_become_45 : decode cX1_become 45 = .ok (.getfield 19, 3) := by decide +kernel
theorem dX1_become_48 : decode cX1_become 48 = .ok (.iload_n 2, 1) := by decide +kernel
theorem dX1_become_49 : decode cX1_become 49 = .ok (.aload_n 1, 1) := by decide +kernel
theorem dX1_become_50 : decode cX1_become 50 = .ok (.getfield 19, 3) := by decide +kernel
theorem dX1_become_53 : decode cX1_become 53 = .ok (.iload_n 2, 1) := by decide +kernel
theorem dX1_become_54 : decode cX1_become 54 = .ok (.iaload, 1) := by decide +kernel
theorem dX1_become_55 : decode cX1_become 55 = .ok (.iastore, 1) := by decide +kernel
theorem dX1_become_56 : decode cX1_become 56 = .ok (.iinc 2 1, 3) := by decide +kernel
theorem dX1_become_59 : decode cX1_become 59 = .ok (.goto (-33), 3) := by decide +kernel
theorem dX1_become_62 : decode cX1_become 62 = .ok (.iconst 0, 1) := by decide +kernel
theorem dX1_become_63 : decode cX1_become 63 = .ok (.istore_n 2, 1) := by decide +kernel
theorem dX1_become_64 : decode cX1_become 64 = .ok (.iload_n 2, 1) := by decide +kernel
theorem dX1_become_65 : decode cX1_become 65 = .ok (.aload_n 0, 1) := by decide +kernel
theorem dX1_become_66 : decode cX1_become 66 = .ok (.getfield 38, 3) := by decide +kernel
theorem dX1_become_69 : decode cX1_become 69 = .ok (.if_icmp .ge 24, 3) := by decide +kernel
theorem dX1_become_72 : decode cX1_become 72 = .ok (.aload_n 0, 1) := by decide +kernel
theorem dX1_become_73 : decode cX1_become 73 = .ok (.getfield 24, 3) := by decide +kernel
theorem dX1_become_76 : decode cX1_become 76 = .ok (.iload_n 2, 1) := by decide +kernel
theorem dX1_become_77 : decode cX1_become 77 = .ok (.aaload, 1) := by decide +kernel
theorem dX1_become_78 : decode cX1_become 78 = .ok (.aload_n 1, 1) := by decide +kernel
theorem dX1_become_79 : decode cX1_become 79 = .ok (.getfield 24, 3) := by decide +kernel
theorem dX1_become_82 : decode cX1_become 82 = .ok (.iload_n 2, 1) := by decide +kernel
theorem dX1_become_83 : decode cX1_become 83 = .ok (.aaload, 1) := by decide +kernel
theorem dX1_become_84 : decode cX1_become 84 = .ok (.invokevirtual 44, 3) := by decide +kernel
theorem dX1_become_87 : decode cX1_become 87 = .ok (.iinc 2 1, 3) := by decide +kernel
theorem dX1_become_90 : decode cX1_become 90 = .ok (.goto (-26), 3) := by decide +kernel
theorem dX1_become_93 : decode cX1_become 93 = .ok (.iconst 0, 1) := by decide +kernel
theorem dX1_become_94 : decode cX1_become 94 = .ok (.istore_n 2, 1) := by decide +kernel
theorem dX1_become_95 : decode cX1_become 95 = .ok (.iload_n 2, 1) := by decide +kernel
theorem dX1_become_96 : decode cX1_become 96 = .ok (.bipush 10, 2) := by decide +kernel
theorem dX1_become_98 : decode cX1_become 98 = .ok (.if_icmp .ge 45, 3) := by decide +kernel
theorem dX1_become_101 : decode cX1_become 101 = .ok (.aload_n 0, 1) := by decide +kernel
theorem dX1_become_102 : decode cX1_become 102 = .ok (.getfield 29, 3) := by decide +kernel
theorem dX1_become_105 : decode cX1_become 105 = .ok (.iload_n 2, 1) := by decide +kernel
theorem dX1_become_106 : decode cX1_become 106 = .ok (.aload_n 1, 1) := by decide +kernel
theorem dX1_become_107 : decode cX1_become 107 = .ok (.getfield 29, 3) := by decide +kernel
theorem dX1_become_110 : decode cX1_become 110 = .ok (.iload_n 2, 1) := by decide +kernel
theorem dX1_become_111 : decode cX1_become 111 = .ok (.iaload, 1) := by decide +kernel
theorem dX1_become_112 : decode cX1_become 112 = .ok (.iastore, 1) := by decide +kernel
theorem dX1_become_113 : decode cX1_become 113 = .ok (.aload_n 0, 1) := by decide +kernel
theorem dX1_become_114 : decode cX1_become 114 = .ok (.getfield 32, 3) := by decide +kernel
theorem dX1_become_117 : decode cX1_become 117 = .ok (.iload_n 2, 1) := by decide +kernel
theorem dX1_become_118 : decode cX1_become 118 = .ok (.aload_n 1, 1) := by decide +kernel
theorem dX1_become_119 : decode cX1_become 119 = .ok (.getfield 32, 3) := by decide +kernel
theorem dX1_become_122 : decode cX1_become 122 = .ok (.iload_n 2, 1) := by decide +kernel
theorem dX1_become_123 : decode cX1_become 123 = .ok (.iaload, 1) := by decide +kernel
theorem dX1_become_124 : decode cX1_become 124 = .ok (.iastore, 1) := by decide +kernel
theorem dX1_become_125 : decode cX1_become 125 = .ok (.aload_n 0, 1) := by decide +kernel
theorem dX1_become_126 : decode cX1_become 126 = .ok (.getfield 35, 3) := by decide +kernel
theorem dX1_become_129 : decode cX1_become 129 = .ok (.iload_n 2, 1) := by decide +kernel
theorem dX1_become_130 : decode cX1_become 130 = .ok (.aload_n 1, 1) := by decide +kernel
theorem dX1_become_131 : decode cX1_become 131 = .ok (.getfield 35, 3) := by decide +kernel
theorem dX1_become_134 : decode cX1_become 134 = .ok (.iload_n 2, 1) := by decide +kernel
theorem dX1_become_135 : decode cX1_become 135 = .ok (.iaload, 1) := by decide +kernel
theorem dX1_become_136 : decode cX1_become 136 = .ok (.iastore, 1) := by decide +kernel
theorem dX1_become_137 : decode cX1_become 137 = .ok (.iinc 2 1, 3) := by decide +kernel
theorem dX1_become_140 : decode cX1_become 140 = .ok (.goto (-45), 3) := by decide +kernel
theorem dX1_become_143 : decode cX1_become 143 = .ok (.return_, 1) := by decide +kernel
theorem dX1_addClerk_0 : decode cX1_addClerk 0 = .ok (.aload_n 0, 1) := by decide +kernel
theorem dX1_addClerk_1 : decode cX1_addClerk 1 = .ok (.getfield 38, 3) := by decide +kernel
theorem dX1_addClerk_4 : decode cX1_addClerk 4 = .ok (.istore_n 1, 1) := by decide +kernel
theorem dX1_addClerk_5 : decode cX1_addClerk 5 = .ok (.iload_n 1, 1) := by decide +kernel
theorem dX1_addClerk_6 : decode cX1_addClerk 6 = .ok (.bipush 6, 2) := by decide +kernel
theorem dX1_addClerk_8 : decode cX1_addClerk 8 = .ok (.if_icmp .ge 22, 3) := by decide +kernel
theorem dX1_addClerk_11 : decode cX1_addClerk 11 = .ok (.aload_n 0, 1) := by decide +kernel
theorem dX1_addClerk_12 : decode cX1_addClerk 12 = .ok (.getfield 24, 3) := by decide +kernel
theorem dX1_addClerk_15 : decode cX1_addClerk 15 = .ok (.iload_n 1, 1) := by decide +kernel
theorem dX1_addClerk_16 : decode cX1_addClerk 16 = .ok (.aaload, 1) := by decide +kernel
theorem dX1_addClerk_17 : decode cX1_addClerk 17 = .ok (.invokevirtual 48, 3) := by decide +kernel
theorem dX1_addClerk_20 : decode cX1_addClerk 20 = .ok (.aload_n 0, 1) := by decide +kernel
theorem dX1_addClerk_21 : decode cX1_addClerk 21 = .ok (.dup, 1) := by decide +kernel
theorem dX1_addClerk_22 : decode cX1_addClerk 22 = .ok (.getfield 38, 3) := by decide +kernel
theorem dX1_addClerk_25 : decode cX1_addClerk 25 = .ok (.iconst 1, 1) := by decide +kernel
theorem dX1_addClerk_26 : decode cX1_addClerk 26 = .ok (.iadd, 1) := by decide +kernel
theorem dX1_addClerk_27 : decode cX1_addClerk 27 = .ok (.putfield 38, 3) := by decide +kernel
theorem dX1_addClerk_30 : decode cX1_addClerk 30 = .ok (.iload_n 1, 1) := by decide +kernel
theorem dX1_addClerk_31 : decode cX1_addClerk 31 = .ok (.ireturn, 1) := by decide +kernel
theorem dX1_payByHand_0 : decode cX1_payByHand 0 = .ok (.aload_n 0, 1) := by decide +kernel
theorem dX1_payByHand_1 : decode cX1_payByHand 1 = .ok (.dup, 1) := by decide +kernel
theorem dX1_payByHand_2 : decode cX1_payByHand 2 = .ok (.getfield 41, 3) := by decide +kernel
theorem dX1_payByHand_5 : decode cX1_payByHand 5 = .ok (.iconst 1, 1) := by decide +kernel
theorem dX1_payByHand_6 : decode cX1_payByHand 6 = .ok (.iadd, 1) := by decide +kernel
theorem dX1_payByHand_7 : decode cX1_payByHand 7 = .ok (.putfield 41, 3) := by decide +kernel
theorem dX1_payByHand_10 : decode cX1_payByHand 10 = .ok (.aload_n 0, 1) := by decide +kernel
theorem dX1_payByHand_11 : decode cX1_payByHand 11 = .ok (.getfield 15, 3) := by decide +kernel
theorem dX1_payByHand_14 : decode cX1_payByHand 14 = .ok (.iload_n 1, 1) := by decide +kernel
theorem dX1_payByHand_15 : decode cX1_payByHand 15 = .ok (.iload_n 2, 1) := by decide +kernel
theorem dX1_payByHand_16 : decode cX1_payByHand 16 = .ok (.iastore, 1) := by decide +kernel
theorem dX1_payByHand_17 : decode cX1_payByHand 17 = .ok (.aload_n 0, 1) := by decide +kernel
theorem dX1_payByHand_18 : decode cX1_payByHand 18 = .ok (.getfield 19, 3) := by decide +kernel
theorem dX1_payByHand_21 : decode cX1_payByHand 21 = .ok (.iload_n 1, 1) := by decide +kernel
theorem dX1_payByHand_22 : decode cX1_payByHand 22 = .ok (.aload_n 0, 1) := by decide +kernel
theorem dX1_payByHand_23 : decode cX1_payByHand 23 = .ok (.getfield 41, 3) := by decide +kernel
theorem dX1_payByHand_26 : decode cX1_payByHand 26 = .ok (.iastore, 1) := by decide +kernel
theorem dX1_payByHand_27 : decode cX1_payByHand 27 = .ok (.aload_n 0, 1) := by decide +kernel
theorem dX1_payByHand_28 : decode cX1_payByHand 28 = .ok (.iconst (-1), 1) := by decide +kernel
theorem dX1_payByHand_29 : decode cX1_payByHand 29 = .ok (.iconst 1, 1) := by decide +kernel
theorem dX1_payByHand_30 : decode cX1_payByHand 30 = .ok (.invokevirtual 51, 3) := by decide +kernel
theorem dX1_payByHand_33 : decode cX1_payByHand 33 = .ok (.return_, 1) := by decide +kernel
theorem dX1_keepClosing_0 : decode cX1_keepClosing 0 = .ok (.bipush 9, 2) := by decide +kernel
theorem dX1_keepClosing_2 : decode cX1_keepClosing 2 = .ok (.istore_n 3, 1) := by decide +kernel
theorem dX1_keepClosing_3 : decode cX1_keepClosing 3 = .ok (.iload_n 3, 1) := by decide +kernel
theorem dX1_keepClosing_4 : decode cX1_keepClosing 4 = .ok (.ifCond .le 51, 3) := by decide +kernel
theorem dX1_keepClosing_7 : decode cX1_keepClosing 7 = .ok (.aload_n 0, 1) := by decide +kernel
theorem dX1_keepClosing_8 : decode cX1_keepClosing 8 = .ok (.getfield 29, 3) := by decide +kernel
theorem dX1_keepClosing_11 : decode cX1_keepClosing 11 = .ok (.iload_n 3, 1) := by decide +kernel
theorem dX1_keepClosing_12 : decode cX1_keepClosing 12 = .ok (.aload_n 0, 1) := by decide +kernel
theorem dX1_keepClosing_13 : decode cX1_keepClosing 13 = .ok (.getfield 29, 3) := by decide +kernel
theorem dX1_keepClosing_16 : decode cX1_keepClosing 16 = .ok (.iload_n 3, 1) := by decide +kernel
theorem dX1_keepClosing_17 : decode cX1_keepClosing 17 = .ok (.iconst 1, 1) := by decide +kernel
theorem dX1_keepClosing_18 : decode cX1_keepClosing 18 = .ok (.isub, 1) := by decide +kernel
theorem dX1_keepClosing_19 : decode cX1_keepClosing 19 = .ok (.iaload, 1) := by decide +kernel
theorem dX1_keepClosing_20 : decode cX1_keepClosing 20 = .ok (.iastore, 1) := by decide +kernel
theorem dX1_keepClosing_21 : decode cX1_keepClosing 21 = .ok (.aload_n 0, 1) := by decide +kernel
theorem dX1_keepClosing_22 : decode cX1_keepClosing 22 = .ok (.getfield 32, 3) := by decide +kernel
theorem dX1_keepClosing_25 : decode cX1_keepClosing 25 = .ok (.iload_n 3, 1) := by decide +kernel
theorem dX1_keepClosing_26 : decode cX1_keepClosing 26 = .ok (.aload_n 0, 1) := by decide +kernel
theorem dX1_keepClosing_27 : decode cX1_keepClosing 27 = .ok (.getfield 32, 3) := by decide +kernel
theorem dX1_keepClosing_30 : decode cX1_keepClosing 30 = .ok (.iload_n 3, 1) := by decide +kernel
theorem dX1_keepClosing_31 : decode cX1_keepClosing 31 = .ok (.iconst 1, 1) := by decide +kernel
theorem dX1_keepClosing_32 : decode cX1_keepClosing 32 = .ok (.isub, 1) := by decide +kernel
theorem dX1_keepClosing_33 : decode cX1_keepClosing 33 = .ok (.iaload, 1) := by decide +kernel
theorem dX1_keepClosing_34 : decode cX1_keepClosing 34 = .ok (.iastore, 1) := by decide +kernel
theorem dX1_keepClosing_35 : decode cX1_keepClosing 35 = .ok (.aload_n 0, 1) := by decide +kernel
theorem dX1_keepClosing_36 : decode cX1_keepClosing 36 = .ok (.getfield 35, 3) := by decide +kernel
theorem dX1_keepClosing_39 : decode cX1_keepClosing 39 = .ok (.iload_n 3, 1) := by decide +kernel
theorem dX1_keepClosing_40 : decode cX1_keepClosing 40 = .ok (.aload_n 0, 1) := by decide +kernel
theorem dX1_keepClosing_41 : decode cX1_keepClosing 41 = .ok (.getfield 35, 3) := by decide +kernel
theorem dX1_keepClosing_44 : decode cX1_keepClosing 44 = .ok (.iload_n 3, 1) := by decide +kernel
theorem dX1_keepClosing_45 : decode cX1_keepClosing 45 = .ok (.iconst 1, 1) := by decide +kernel
theorem dX1_keepClosing_46 : decode cX1_keepClosing 46 = .ok (.isub, 1) := by decide +kernel
theorem dX1_keepClosing_47 : decode cX1_keepClosing 47 = .ok (.iaload, 1) := by decide +kernel
theorem dX1_keepClosing_48 : decode cX1_keepClosing 48 = .ok (.iastore, 1) := by decide +kernel
theorem dX1_keepClosing_49 : decode cX1_keepClosing 49 = .ok (.iinc 3 (-1), 3) := by decide +kernel
theorem dX1_keepClosing_52 : decode cX1_keepClosing 52 = .ok (.goto (-49), 3) := by decide +kernel
theorem dX1_keepClosing_55 : decode cX1_keepClosing 55 = .ok (.aload_n 0, 1) := by decide +kernel
theorem dX1_keepClosing_56 : decode cX1_keepClosing 56 = .ok (.getfield 29, 3) := by decide +kernel
theorem dX1_keepClosing_59 : decode cX1_keepClosing 59 = .ok (.iconst 0, 1) := by decide +kernel
theorem dX1_keepClosing_60 : decode cX1_keepClosing 60 = .ok (.iload_n 1, 1) := by decide +kernel
theorem dX1_keepClosing_61 : decode cX1_keepClosing 61 = .ok (.iastore, 1) := by decide +kernel
theorem dX1_keepClosing_62 : decode cX1_keepClosing 62 = .ok (.aload_n 0, 1) := by decide +kernel
theorem dX1_keepClosing_63 : decode cX1_keepClosing 63 = .ok (.getfield 32, 3) := by decide +kernel
theorem dX1_keepClosing_66 : decode cX1_keepClosing 66 = .ok (.iconst 0, 1) := by decide +kernel
theorem dX1_keepClosing_67 : decode cX1_keepClosing 67 = .ok (.iload_n 2, 1) := by decide +kernel
theorem dX1_keepClosing_68 : decode cX1_keepClosing 68 = .ok (.iastore, 1) := by decide +kernel
theorem dX1_keepClosing_69 : decode cX1_keepClosing 69 = .ok (.aload_n 0, 1) := by decide +kernel
theorem dX1_keepClosing_70 : decode cX1_keepClosing 70 = .ok (.getfield 35, 3) := by decide +kernel
theorem dX1_keepClosing_73 : decode cX1_keepClosing 73 = .ok (.iconst 0, 1) := by decide +kernel
theorem dX1_keepClosing_74 : decode cX1_keepClosing 74 = .ok (.aload_n 0, 1) := by decide +kernel
theorem dX1_keepClosing_75 : decode cX1_keepClosing 75 = .ok (.invokevirtual 55, 3) := by decide +kernel
theorem dX1_keepClosing_78 : decode cX1_keepClosing 78 = .ok (.iastore, 1) := by decide +kernel
theorem dX1_keepClosing_79 : decode cX1_keepClosing 79 = .ok (.return_, 1) := by decide +kernel
theorem dX1_takeTurn_0 : decode cX1_takeTurn 0 = .ok (.aload_n 0, 1) := by decide +kernel
theorem dX1_takeTurn_1 : decode cX1_takeTurn 1 = .ok (.getfield 24, 3) := by decide +kernel
theorem dX1_takeTurn_4 : decode cX1_takeTurn 4 = .ok (.iload_n 1, 1) := by decide +kernel
theorem dX1_takeTurn_5 : decode cX1_takeTurn 5 = .ok (.aaload, 1) := by decide +kernel
theorem dX1_takeTurn_6 : decode cX1_takeTurn 6 = .ok (.astore_n 2, 1) := by decide +kernel
theorem dX1_takeTurn_7 : decode cX1_takeTurn 7 = .ok (.aload_n 2, 1) := by decide +kernel
theorem dX1_takeTurn_8 : decode cX1_takeTurn 8 = .ok (.getfield 59, 3) := by decide +kernel
theorem dX1_takeTurn_11 : decode cX1_takeTurn 11 = .ok (.aload_n 2, 1) := by decide +kernel
theorem dX1_takeTurn_12 : decode cX1_takeTurn 12 = .ok (.getfield 62, 3) := by decide +kernel
theorem dX1_takeTurn_15 : decode cX1_takeTurn 15 = .ok (.if_icmp .ge 20, 3) := by decide +kernel
theorem dX1_takeTurn_18 : decode cX1_takeTurn 18 = .ok (.aload_n 0, 1) := by decide +kernel
theorem dX1_takeTurn_19 : decode cX1_takeTurn 19 = .ok (.aload_n 2, 1) := by decide +kernel
theorem dX1_takeTurn_20 : decode cX1_takeTurn 20 = .ok (.invokevirtual 65, 3) := by decide +kernel
theorem dX1_takeTurn_23 : decode cX1_takeTurn 23 = .ok (.aload_n 2, 1) := by decide +kernel
theorem dX1_takeTurn_24 : decode cX1_takeTurn 24 = .ok (.dup, 1) := by decide +kernel
theorem dX1_takeTurn_25 : decode cX1_takeTurn 25 = .ok (.getfield 59, 3) := by decide +kernel
theorem dX1_takeTurn_28 : decode cX1_takeTurn 28 = .ok (.iconst 1, 1) := by decide +kernel
theorem dX1_takeTurn_29 : decode cX1_takeTurn 29 = .ok (.iadd, 1) := by decide +kernel
theorem dX1_takeTurn_30 : decode cX1_takeTurn 30 = .ok (.putfield 59, 3) := by decide +kernel
theorem dX1_takeTurn_33 : decode cX1_takeTurn 33 = .ok (.iconst 0, 1) := by decide +kernel
theorem dX1_takeTurn_34 : decode cX1_takeTurn 34 = .ok (.ireturn, 1) := by decide +kernel
theorem dX1_takeTurn_35 : decode cX1_takeTurn 35 = .ok (.aload_n 0, 1) := by decide +kernel
theorem dX1_takeTurn_36 : decode cX1_takeTurn 36 = .ok (.aload_n 2, 1) := by decide +kernel
theorem dX1_takeTurn_37 : decode cX1_takeTurn 37 = .ok (.invokevirtual 68, 3) := by decide +kernel
theorem dX1_takeTurn_40 : decode cX1_takeTurn 40 = .ok (.ifCond .eq 19, 3) := by decide +kernel
theorem dX1_takeTurn_43 : decode cX1_takeTurn 43 = .ok (.aload_n 2, 1) := by decide +kernel
theorem dX1_takeTurn_44 : decode cX1_takeTurn 44 = .ok (.dup, 1) := by decide +kernel
theorem dX1_takeTurn_45 : decode cX1_takeTurn 45 = .ok (.getfield 72, 3) := by decide +kernel
theorem dX1_takeTurn_48 : decode cX1_takeTurn 48 = .ok (.iconst 1, 1) := by decide +kernel
theorem dX1_takeTurn_49 : decode cX1_takeTurn 49 = .ok (.iadd, 1) := by decide +kernel
theorem dX1_takeTurn_50 : decode cX1_takeTurn 50 = .ok (.putfield 72, 3) := by decide +kernel
theorem dX1_takeTurn_53 : decode cX1_takeTurn 53 = .ok (.aload_n 2, 1) := by decide +kernel
theorem dX1_takeTurn_54 : decode cX1_takeTurn 54 = .ok (.invokevirtual 75, 3) := by decide +kernel
theorem dX1_takeTurn_57 : decode cX1_takeTurn 57 = .ok (.iconst 2, 1) := by decide +kernel
theorem dX1_takeTurn_58 : decode cX1_takeTurn 58 = .ok (.ireturn, 1) := by decide +kernel
theorem dX1_takeTurn_59 : decode cX1_takeTurn 59 = .ok (.aload_n 0, 1) := by decide +kernel
theorem dX1_takeTurn_60 : decode cX1_takeTurn 60 = .ok (.iload_n 1, 1) := by decide +kernel
theorem dX1_takeTurn_61 : decode cX1_takeTurn 61 = .ok (.invokevirtual 78, 3) := by decide +kernel
theorem dX1_takeTurn_64 : decode cX1_takeTurn 64 = .ok (.iconst 1, 1) := by decide +kernel
theorem dX1_takeTurn_65 : decode cX1_takeTurn 65 = .ok (.ireturn, 1) := by decide +kernel
theorem dX1_doStep_0 : decode cX1_doStep 0 = .ok (.aload_n 1, 1) := by decide +kernel
theorem dX1_doStep_1 : decode cX1_doStep 1 = .ok (.getfield 82, 3) := by decide +kernel
theorem dX1_doStep_4 : decode cX1_doStep 4 = .ok (.aload_n 1, 1) := by decide +kernel
theorem dX1_doStep_5 : decode cX1_doStep 5 = .ok (.getfield 59, 3) := by decide +kernel
theorem dX1_doStep_8 : decode cX1_doStep 8 = .ok (.iaload, 1) := by decide +kernel
theorem dX1_doStep_9 : decode cX1_doStep 9 = .ok (.istore_n 2, 1) := by decide +kernel
theorem dX1_doStep_10 : decode cX1_doStep 10 = .ok (.aload_n 1, 1) := by decide +kernel
theorem dX1_doStep_11 : decode cX1_doStep 11 = .ok (.getfield 85, 3) := by decide +kernel
theorem dX1_doStep_14 : decode cX1_doStep 14 = .ok (.aload_n 1, 1) := by decide +kernel
theorem dX1_doStep_15 : decode cX1_doStep 15 = .ok (.getfield 59, 3) := by decide +kernel
theorem dX1_doStep_18 : decode cX1_doStep 18 = .ok (.iaload, 1) := by decide +kernel
theorem dX1_doStep_19 : decode cX1_doStep 19 = .ok (.istore_n 3, 1) := by decide +kernel
theorem dX1_doStep_20 : decode cX1_doStep 20 = .ok (.aload_n 1, 1) := by decide +kernel
theorem dX1_doStep_21 : decode cX1_doStep 21 = .ok (.getfield 88, 3) := by decide +kernel
theorem dX1_doStep_24 : decode cX1_doStep 24 = .ok (.aload_n 1, 1) := by decide +kernel
theorem dX1_doStep_25 : decode cX1_doStep 25 = .ok (.getfield 59, 3) := by decide +kernel
theorem dX1_doStep_28 : decode cX1_doStep 28 = .ok (.iaload, 1) := by decide +kernel
theorem dX1_doStep_29 : decode cX1_doStep 29 = .ok (.tableswitch 67 0 2 #[27, 37, 47], 27) := by decide +kernel
theorem dX1_doStep_56 : decode cX1_doStep 56 = .ok (.aload_n 0, 1) := by decide +kernel
theorem dX1_doStep_57 : decode cX1_doStep 57 = .ok (.aload_n 1, 1) := by decide +kernel
theorem dX1_doStep_58 : decode cX1_doStep 58 = .ok (.iload_n 2, 1) := by decide +kernel
theorem dX1_doStep_59 : decode cX1_doStep 59 = .ok (.invokevirtual 91, 3) := by decide +kernel
theorem dX1_doStep_62 : decode cX1_doStep 62 = .ok (.pop, 1) := by decide +kernel
theorem dX1_doStep_63 : decode cX1_doStep 63 = .ok (.goto 49, 3) := by decide +kernel
theorem dX1_doStep_66 : decode cX1_doStep 66 = .ok (.aload_n 1, 1) := by decide +kernel
theorem dX1_doStep_67 : decode cX1_doStep 67 = .ok (.getfield 95, 3) := by decide +kernel
theorem dX1_doStep_70 : decode cX1_doStep 70 = .ok (.iload_n 2, 1) := by decide +kernel
theorem dX1_doStep_71 : decode cX1_doStep 71 = .ok (.iload_n 3, 1) := by decide +kernel
theorem dX1_doStep_72 : decode cX1_doStep 72 = .ok (.iastore, 1) := by decide +kernel
theorem dX1_doStep_73 : decode cX1_doStep 73 = .ok (.goto 39, 3) := by decide +kernel
theorem dX1_doStep_76 : decode cX1_doStep 76 = .ok (.aload_n 1, 1) := by decide +kernel
theorem dX1_doStep_77 : decode cX1_doStep 77 = .ok (.getfield 95, 3) := by decide +kernel
theorem dX1_doStep_80 : decode cX1_doStep 80 = .ok (.iload_n 2, 1) := by decide +kernel
theorem dX1_doStep_81 : decode cX1_doStep 81 = .ok (.aload_n 0, 1) := by decide +kernel
theorem dX1_doStep_82 : decode cX1_doStep 82 = .ok (.aload_n 1, 1) := by decide +kernel
theorem dX1_doStep_83 : decode cX1_doStep 83 = .ok (.iload_n 2, 1) := by decide +kernel
theorem dX1_doStep_84 : decode cX1_doStep 84 = .ok (.invokevirtual 91, 3) := by decide +kernel
theorem dX1_doStep_87 : decode cX1_doStep 87 = .ok (.iload_n 3, 1) := by decide +kernel
theorem dX1_doStep_88 : decode cX1_doStep 88 = .ok (.iadd, 1) := by decide +kernel
theorem dX1_doStep_89 : decode cX1_doStep 89 = .ok (.invokestatic 98, 3) := by decide +kernel
theorem dX1_doStep_92 : decode cX1_doStep 92 = .ok (.iastore, 1) := by decide +kernel
theorem dX1_doStep_93 : decode cX1_doStep 93 = .ok (.goto 19, 3) := by decide +kernel
theorem dX1_doStep_96 : decode cX1_doStep 96 = .ok (.aload_n 0, 1) := by decide +kernel
theorem dX1_doStep_97 : decode cX1_doStep 97 = .ok (.aload_n 1, 1) := by decide +kernel
theorem dX1_doStep_98 : decode cX1_doStep 98 = .ok (.iload_n 2, 1) := by decide +kernel
theorem dX1_doStep_99 : decode cX1_doStep 99 = .ok (.aload_n 1, 1) := by decide +kernel
theorem dX1_doStep_100 : decode cX1_doStep 100 = .ok (.getfield 102, 3) := by decide +kernel
theorem dX1_doStep_103 : decode cX1_doStep 103 = .ok (.aload_n 1, 1) := by decide +kernel
theorem dX1_doStep_104 : decode cX1_doStep 104 = .ok (.getfield 59, 3) := by decide +kernel
theorem dX1_doStep_107 : decode cX1_doStep 107 = .ok (.iaload, 1) := by decide +kernel
theorem dX1_doStep_108 : decode cX1_doStep 108 = .ok (.iload_n 3, 1) := by decide +kernel
theorem dX1_doStep_109 : decode cX1_doStep 109 = .ok (.invokevirtual 105, 3) := by decide +kernel
theorem dX1_doStep_112 : decode cX1_doStep 112 = .ok (.return_, 1) := by decide +kernel
theorem dX1_carry_0 : decode cX1_carry 0 = .ok (.aload_n 0, 1) := by decide +kernel
theorem dX1_carry_1 : decode cX1_carry 1 = .ok (.aload_n 1, 1) := by decide +kernel
theorem dX1_carry_2 : decode cX1_carry 2 = .ok (.iload_n 2, 1) := by decide +kernel
theorem dX1_carry_3 : decode cX1_carry 3 = .ok (.invokevirtual 91, 3) := by decide +kernel
theorem dX1_carry_6 : decode cX1_carry 6 = .ok (.istore 5, 2) := by decide +kernel
theorem dX1_carry_8 : decode cX1_carry 8 = .ok (.iload 5, 2) := by decide +kernel
theorem dX1_carry_10 : decode cX1_carry 10 = .ok (.iload 4, 2) := by decide +kernel
theorem dX1_carry_12 : decode cX1_carry 12 = .ok (.if_icmp .ge 4, 3) := by decide +kernel
theorem dX1_carry_15 : decode cX1_carry 15 = .ok (.return_, 1) := by decide +kernel
theorem dX1_carry_16 : decode cX1_carry 16 = .ok (.aload_n 0, 1) := by decide +kernel
theorem dX1_carry_17 : decode cX1_carry 17 = .ok (.aload_n 1, 1) := by decide +kernel
theorem dX1_carry_18 : decode cX1_carry 18 = .ok (.iload_n 3, 1) := by decide +kernel
theorem dX1_carry_19 : decode cX1_carry 19 = .ok (.invokevirtual 91, 3) := by decide +kernel
theorem dX1_carry_22 : decode cX1_carry 22 = .ok (.istore 6, 2) := by decide +kernel
theorem dX1_carry_24 : decode cX1_carry 24 = .ok (.aload_n 1, 1) := by decide +kernel
theorem dX1_carry_25 : decode cX1_carry 25 = .ok (.getfield 95, 3) := by decide +kernel
theorem dX1_carry_28 : decode cX1_carry 28 = .ok (.iload_n 2, 1) := by decide +kernel
theorem dX1_carry_29 : decode cX1_carry 29 = .ok (.iload 5, 2) := by decide +kernel
theorem dX1_carry_31 : decode cX1_carry 31 = .ok (.iload 4, 2) := by decide +kernel
theorem dX1_carry_33 : decode cX1_carry 33 = .ok (.isub, 1) := by decide +kernel
theorem dX1_carry_34 : decode cX1_carry 34 = .ok (.iastore, 1) := by decide +kernel
theorem dX1_carry_35 : decode cX1_carry 35 = .ok (.aload_n 1, 1) := by decide +kernel
theorem dX1_carry_36 : decode cX1_carry 36 = .ok (.getfield 95, 3) := by decide +kernel
theorem dX1_carry_39 : decode cX1_carry 39 = .ok (.iload_n 3, 1) := by decide +kernel
theorem dX1_carry_40 : decode cX1_carry 40 = .ok (.iload 6, 2) := by decide +kernel
theorem dX1_carry_42 : decode cX1_carry 42 = .ok (.iload 4, 2) := by decide +kernel
theorem dX1_carry_44 : decode cX1_carry 44 = .ok (.iadd, 1) := by decide +kernel
theorem dX1_carry_45 : decode cX1_carry 45 = .ok (.invokestatic 98, 3) := by decide +kernel
theorem dX1_carry_48 : decode cX1_carry 48 = .ok (.iastore, 1) := by decide +kernel
theorem dX1_carry_49 : decode cX1_carry 49 = .ok (.return_, 1) := by decide +kernel
theorem dX1_read_0 : decode cX1_read 0 = .ok (.aload_n 1, 1) := by decide +kernel
theorem dX1_read_1 : decode cX1_read 1 = .ok (.iload_n 2, 1) := by decide +kernel
theorem dX1_read_2 : decode cX1_read 2 = .ok (.invokevirtual 109, 3) := by decide +kernel
theorem dX1_read_5 : decode cX1_read 5 = .ok (.ifCond .eq 10, 3) := by decide +kernel
theorem dX1_read_8 : decode cX1_read 8 = .ok (.aload_n 1, 1) := by decide +kernel
theorem dX1_read_9 : decode cX1_read 9 = .ok (.getfield 95, 3) := by decide +kernel
theorem dX1_read_12 : decode cX1_read 12 = .ok (.iload_n 2, 1) := by decide +kernel
theorem dX1_read_13 : decode cX1_read 13 = .ok (.iaload, 1) := by decide +kernel
theorem dX1_read_14 : decode cX1_read 14 = .ok (.ireturn, 1) := by decide +kernel
theorem dX1_read_15 : decode cX1_read 15 = .ok (.aload_n 1, 1) := by decide +kernel
theorem dX1_read_16 : decode cX1_read 16 = .ok (.iload_n 2, 1) := by decide +kernel
theorem dX1_read_17 : decode cX1_read 17 = .ok (.invokevirtual 113, 3) := by decide +kernel
theorem dX1_read_20 : decode cX1_read 20 = .ok (.ifCond .ne 27, 3) := by decide +kernel
theorem dX1_read_23 : decode cX1_read 23 = .ok (.aload_n 1, 1) := by decide +kernel
theorem dX1_read_24 : decode cX1_read 24 = .ok (.getfield 116, 3) := by decide +kernel
theorem dX1_read_27 : decode cX1_read 27 = .ok (.iload_n 2, 1) := by decide +kernel
theorem dX1_read_28 : decode cX1_read 28 = .ok (.aload_n 0, 1) := by decide +kernel
theorem dX1_read_29 : decode cX1_read 29 = .ok (.getfield 15, 3) := by decide +kernel
theorem dX1_read_32 : decode cX1_read 32 = .ok (.iload_n 2, 1) := by decide +kernel
theorem dX1_read_33 : decode cX1_read 33 = .ok (.iaload, 1) := by decide +kernel
theorem dX1_read_34 : decode cX1_read 34 = .ok (.iastore, 1) := by decide +kernel
theorem dX1_read_35 : decode cX1_read 35 = .ok (.aload_n 1, 1) := by decide +kernel
theorem dX1_read_36 : decode cX1_read 36 = .ok (.getfield 119, 3) := by decide +kernel
theorem dX1_read_39 : decode cX1_read 39 = .ok (.iload_n 2, 1) := by decide +kernel
theorem dX1_read_40 : decode cX1_read 40 = .ok (.aload_n 0, 1) := by decide +kernel
theorem dX1_read_41 : decode cX1_read 41 = .ok (.getfield 19, 3) := by decide +kernel
theorem dX1_read_44 : decode cX1_read 44 = .ok (.iload_n 2, 1) := by decide +kernel
theorem dX1_read_45 : decode cX1_read 45 = .ok (.iaload, 1) := by decide +kernel
theorem dX1_read_46 : decode cX1_read 46 = .ok (.iastore, 1) := by decide +kernel
theorem dX1_read_47 : decode cX1_read 47 = .ok (.aload_n 1, 1) := by decide +kernel
theorem dX1_read_48 : decode cX1_read 48 = .ok (.getfield 116, 3) := by decide +kernel
theorem dX1_read_51 : decode cX1_read 51 = .ok (.iload_n 2, 1) := by decide +kernel
theorem dX1_read_52 : decode cX1_read 52 = .ok (.iaload, 1) := by decide +kernel
theorem dX1_read_53 : decode cX1_read 53 = .ok (.ireturn, 1) := by decide +kernel
theorem dX1_held_0 : decode cX1_held 0 = .ok (.iload_n 0, 1) := by decide +kernel
theorem dX1_held_1 : decode cX1_held 1 = .ok (.ifCond .ge 7, 3) := by decide +kernel
theorem dX1_held_4 : decode cX1_held 4 = .ok (.iconst 0, 1) := by decide +kernel
theorem dX1_held_5 : decode cX1_held 5 = .ok (.goto 10, 3) := by decide +kernel
theorem dX1_held_8 : decode cX1_held 8 = .ok (.iload_n 0, 1) := by decide +kernel
theorem dX1_held_9 : decode cX1_held 9 = .ok (.sipush 9999, 3) := by decide +kernel
theorem dX1_held_12 : decode cX1_held 12 = .ok (.invokestatic 122, 3) := by decide +kernel
theorem dX1_held_15 : decode cX1_held 15 = .ok (.ireturn, 1) := by decide +kernel
theorem dX1_isOutdated_0 : decode cX1_isOutdated 0 = .ok (.iconst 0, 1) := by decide +kernel
theorem dX1_isOutdated_1 : decode cX1_isOutdated 1 = .ok (.istore_n 2, 1) := by decide +kernel
theorem dX1_isOutdated_2 : decode cX1_isOutdated 2 = .ok (.iload_n 2, 1) := by decide +kernel
theorem dX1_isOutdated_3 : decode cX1_isOutdated 3 = .ok (.aload_n 0, 1) := by decide +kernel
theorem dX1_isOutdated_4 : decode cX1_isOutdated 4 = .ok (.getfield 9, 3) := by decide +kernel
theorem dX1_isOutdated_7 : decode cX1_isOutdated 7 = .ok (.if_icmp .ge 34, 3) := by decide +kernel
theorem dX1_isOutdated_10 : decode cX1_isOutdated 10 = .ok (.aload_n 1, 1) := by decide +kernel
theorem dX1_isOutdated_11 : decode cX1_isOutdated 11 = .ok (.iload_n 2, 1) := by decide +kernel
theorem dX1_isOutdated_12 : decode cX1_isOutdated 12 = .ok (.invokevirtual 113, 3) := by decide +kernel
theorem dX1_isOutdated_15 : decode cX1_isOutdated 15 = .ok (.ifCond .eq 20, 3) := by decide +kernel
theorem dX1_isOutdated_18 : decode cX1_isOutdated 18 = .ok (.aload_n 1, 1) := by decide +kernel
theorem dX1_isOutdated_19 : decode cX1_isOutdated 19 = .ok (.getfield 119, 3) := by decide +kernel
theorem dX1_isOutdated_22 : decode cX1_isOutdated 22 = .ok (.iload_n 2, 1) := by decide +kernel
theorem dX1_isOutdated_23 : decode cX1_isOutdated 23 = .ok (.iaload, 1) := by decide +kernel
theorem dX1_isOutdated_24 : decode cX1_isOutdated 24 = .ok (.aload_n 0, 1) := by decide +kernel
theorem dX1_isOutdated_25 : decode cX1_isOutdated 25 = .ok (.getfield 19, 3) := by decide +kernel
theorem dX1_isOutdated_28 : decode cX1_isOutdated 28 = .ok (.iload_n 2, 1) := by decide +kernel
theorem dX1_isOutdated_29 : decode cX1_isOutdated 29 = .ok (.iaload, 1) := by decide +kernel
theorem dX1_isOutdated_30 : decode cX1_isOutdated 30 = .ok (.if_icmp .eq 5, 3) := by decide +kernel
theorem dX1_isOutdated_33 : decode cX1_isOutdated 33 = .ok (.iconst 1, 1) := by decide +kernel
theorem dX1_isOutdated_34 : decode cX1_isOutdated 34 = .ok (.ireturn, 1) := by decide +kernel
theorem dX1_isOutdated_35 : decode cX1_isOutdated 35 = .ok (.iinc 2 1, 3) := by decide +kernel
theorem dX1_isOutdated_38 : decode cX1_isOutdated 38 = .ok (.goto (-36), 3) := by decide +kernel
theorem dX1_isOutdated_41 : decode cX1_isOutdated 41 = .ok (.iconst 0, 1) := by decide +kernel
theorem dX1_isOutdated_42 : decode cX1_isOutdated 42 = .ok (.ireturn, 1) := by decide +kernel
theorem dX1_close_0 : decode cX1_close 0 = .ok (.aload_n 0, 1) := by decide +kernel
theorem dX1_close_1 : decode cX1_close 1 = .ok (.getfield 24, 3) := by decide +kernel
theorem dX1_close_4 : decode cX1_close 4 = .ok (.iload_n 1, 1) := by decide +kernel
theorem dX1_close_5 : decode cX1_close 5 = .ok (.aaload, 1) := by decide +kernel
theorem dX1_close_6 : decode cX1_close 6 = .ok (.astore_n 2, 1) := by decide +kernel
theorem dX1_close_7 : decode cX1_close 7 = .ok (.aload_n 0, 1) := by decide +kernel
theorem dX1_close_8 : decode cX1_close 8 = .ok (.dup, 1) := by decide +kernel
theorem dX1_close_9 : decode cX1_close 9 = .ok (.getfield 41, 3) := by decide +kernel
theorem dX1_close_12 : decode cX1_close 12 = .ok (.iconst 1, 1) := by decide +kernel
theorem dX1_close_13 : decode cX1_close 13 = .ok (.iadd, 1) := by decide +kernel
theorem dX1_close_14 : decode cX1_close 14 = .ok (.putfield 41, 3) := by decide +kernel
theorem dX1_close_17 : decode cX1_close 17 = .ok (.iconst 0, 1) := by decide +kernel
theorem dX1_close_18 : decode cX1_close 18 = .ok (.istore_n 3, 1) := by decide +kernel
theorem dX1_close_19 : decode cX1_close 19 = .ok (.iload_n 3, 1) := by decide +kernel
theorem dX1_close_20 : decode cX1_close 20 = .ok (.aload_n 0, 1) := by decide +kernel
theorem dX1_close_21 : decode cX1_close 21 = .ok (.getfield 9, 3) := by decide +kernel
theorem dX1_close_24 : decode cX1_close 24 = .ok (.if_icmp .ge 39, 3) := by decide +kernel
theorem dX1_close_27 : decode cX1_close 27 = .ok (.aload_n 2, 1) := by decide +kernel
theorem dX1_close_28 : decode cX1_close 28 = .ok (.iload_n 3, 1) := by decide +kernel
theorem dX1_close_29 : decode cX1_close 29 = .ok (.invokevirtual 109, 3) := by decide +kernel
theorem dX1_close_32 : decode cX1_close 32 = .ok (.ifCond .eq 25, 3) := by decide +kernel
theorem dX1_close_35 : decode cX1_close 35 = .ok (.aload_n 0, 1) := by decide +kernel
theorem dX1_close_36 : decode cX1_close 36 = .ok (.getfield 15, 3) := by decide +kernel
theorem dX1_close_39 : decode cX1_close 39 = .ok (.iload_n 3, 1) := by decide +kernel
theorem dX1_close_40 : decode cX1_close 40 = .ok (.aload_n 2, 1) := by decide +kernel
theorem dX1_close_41 : decode cX1_close 41 = .ok (.getfield 95, 3) := by decide +kernel
theorem dX1_close_44 : decode cX1_close 44 = .ok (.iload_n 3, 1) := by decide +kernel
theorem dX1_close_45 : decode cX1_close 45 = .ok (.iaload, 1) := by decide +kernel
theorem dX1_close_46 : decode cX1_close 46 = .ok (.iastore, 1) := by decide +kernel
theorem dX1_close_47 : decode cX1_close 47 = .ok (.aload_n 0, 1) := by decide +kernel
theorem dX1_close_48 : decode cX1_close 48 = .ok (.getfield 19, 3) := by decide +kernel
theorem dX1_close_51 : decode cX1_close 51 = .ok (.iload_n 3, 1) := by decide +kernel
theorem dX1_close_52 : decode cX1_close 52 = .ok (.aload_n 0, 1) := by decide +kernel
theorem dX1_close_53 : decode cX1_close 53 = .ok (.getfield 41, 3) := by decide +kernel
theorem dX1_close_56 : decode cX1_close 56 = .ok (.iastore, 1) := by decide +kernel
theorem dX1_close_57 : decode cX1_close 57 = .ok (.iinc 3 1, 3) := by decide +kernel
theorem dX1_close_60 : decode cX1_close 60 = .ok (.goto (-41), 3) := by decide +kernel
theorem dX1_close_63 : decode cX1_close 63 = .ok (.aload_n 2, 1) := by decide +kernel
theorem dX1_close_64 : decode cX1_close 64 = .ok (.iconst 1, 1) := by decide +kernel
theorem dX1_close_65 : decode cX1_close 65 = .ok (.putfield 128, 3) := by decide +kernel
theorem dX1_close_68 : decode cX1_close 68 = .ok (.aload_n 0, 1) := by decide +kernel
theorem dX1_close_69 : decode cX1_close 69 = .ok (.iload_n 1, 1) := by decide +kernel
theorem dX1_close_70 : decode cX1_close 70 = .ok (.aload_n 2, 1) := by decide +kernel
theorem dX1_close_71 : decode cX1_close 71 = .ok (.invokevirtual 132, 3) := by decide +kernel
theorem dX1_close_74 : decode cX1_close 74 = .ok (.invokevirtual 51, 3) := by decide +kernel
theorem dX1_close_77 : decode cX1_close 77 = .ok (.return_, 1) := by decide +kernel
theorem dX1_goRounds_0 : decode cX1_goRounds 0 = .ok (.iconst 0, 1) := by decide +kernel
theorem dX1_goRounds_1 : decode cX1_goRounds 1 = .ok (.istore_n 2, 1) := by decide +kernel
theorem dX1_goRounds_2 : decode cX1_goRounds 2 = .ok (.iconst 0, 1) := by decide +kernel
theorem dX1_goRounds_3 : decode cX1_goRounds 3 = .ok (.istore_n 3, 1) := by decide +kernel
theorem dX1_goRounds_4 : decode cX1_goRounds 4 = .ok (.iload_n 3, 1) := by decide +kernel
theorem dX1_goRounds_5 : decode cX1_goRounds 5 = .ok (.iload_n 1, 1) := by decide +kernel
theorem dX1_goRounds_6 : decode cX1_goRounds 6 = .ok (.if_icmp .ge 16, 3) := by decide +kernel
theorem dX1_goRounds_9 : decode cX1_goRounds 9 = .ok (.iload_n 2, 1) := by decide +kernel
theorem dX1_goRounds_10 : decode cX1_goRounds 10 = .ok (.aload_n 0, 1) := by decide +kernel
theorem dX1_goRounds_11 : decode cX1_goRounds 11 = .ok (.invokevirtual 135, 3) := by decide +kernel
theorem dX1_goRounds_14 : decode cX1_goRounds 14 = .ok (.iadd, 1) := by decide +kernel
theorem dX1_goRounds_15 : decode cX1_goRounds 15 = .ok (.istore_n 2, 1) := by decide +kernel
theorem dX1_goRounds_16 : decode cX1_goRounds 16 = .ok (.iinc 3 1, 3) := by decide +kernel
theorem dX1_goRounds_19 : decode cX1_goRounds 19 = .ok (.goto (-15), 3) := by decide +kernel
theorem dX1_goRounds_22 : decode cX1_goRounds 22 = .ok (.iload_n 2, 1) := by decide +kernel
theorem dX1_goRounds_23 : decode cX1_goRounds 23 = .ok (.ireturn, 1) := by decide +kernel
theorem dX1_goRound_0 : decode cX1_goRound 0 = .ok (.iconst 0, 1) := by decide +kernel
theorem dX1_goRound_1 : decode cX1_goRound 1 = .ok (.istore_n 1, 1) := by decide +kernel
theorem dX1_goRound_2 : decode cX1_goRound 2 = .ok (.iconst 0, 1) := by decide +kernel
theorem dX1_goRound_3 : decode cX1_goRound 3 = .ok (.istore_n 2, 1) := by decide +kernel
theorem dX1_goRound_4 : decode cX1_goRound 4 = .ok (.iload_n 2, 1) := by decide +kernel
theorem dX1_goRound_5 : decode cX1_goRound 5 = .ok (.aload_n 0, 1) := by decide +kernel
theorem dX1_goRound_6 : decode cX1_goRound 6 = .ok (.getfield 38, 3) := by decide +kernel
theorem dX1_goRound_9 : decode cX1_goRound 9 = .ok (.if_icmp .ge 33, 3) := by decide +kernel
theorem dX1_goRound_12 : decode cX1_goRound 12 = .ok (.aload_n 0, 1) := by decide +kernel
theorem dX1_goRound_13 : decode cX1_goRound 13 = .ok (.getfield 24, 3) := by decide +kernel
theorem dX1_goRound_16 : decode cX1_goRound 16 = .ok (.iload_n 2, 1) := by decide +kernel
theorem dX1_goRound_17 : decode cX1_goRound 17 = .ok (.aaload, 1) := by decide +kernel
theorem dX1_goRound_18 : decode cX1_goRound 18 = .ok (.invokevirtual 138, 3) := by decide +kernel
theorem dX1_goRound_21 : decode cX1_goRound 21 = .ok (.ifCond .eq 15, 3) := by decide +kernel
theorem dX1_goRound_24 : decode cX1_goRound 24 = .ok (.aload_n 0, 1) := by decide +kernel
theorem dX1_goRound_25 : decode cX1_goRound 25 = .ok (.iload_n 2, 1) := by decide +kernel
theorem dX1_goRound_26 : decode cX1_goRound 26 = .ok (.invokevirtual 142, 3) := by decide +kernel
theorem dX1_goRound_29 : decode cX1_goRound 29 = .ok (.iconst 1, 1) := by decide +kernel
theorem dX1_goRound_30 : decode cX1_goRound 30 = .ok (.if_icmp .ne 6, 3) := by decide +kernel
theorem dX1_goRound_33 : decode cX1_goRound 33 = .ok (.iinc 1 1, 3) := by decide +kernel
theorem dX1_goRound_36 : decode cX1_goRound 36 = .ok (.iinc 2 1, 3) := by decide +kernel
theorem dX1_goRound_39 : decode cX1_goRound 39 = .ok (.goto (-35), 3) := by decide +kernel
theorem dX1_goRound_42 : decode cX1_goRound 42 = .ok (.iload_n 1, 1) := by decide +kernel
theorem dX1_goRound_43 : decode cX1_goRound 43 = .ok (.ireturn, 1) := by decide +kernel
theorem dX1_workAlone_0 : decode cX1_workAlone 0 = .ok (.aload_n 0, 1) := by decide +kernel
theorem dX1_workAlone_1 : decode cX1_workAlone 1 = .ok (.getfield 24, 3) := by decide +kernel
theorem dX1_workAlone_4 : decode cX1_workAlone 4 = .ok (.iload_n 1, 1) := by decide +kernel
theorem dX1_workAlone_5 : decode cX1_workAlone 5 = .ok (.aaload, 1) := by decide +kernel
theorem dX1_workAlone_6 : decode cX1_workAlone 6 = .ok (.astore_n 2, 1) := by decide +kernel
theorem dX1_workAlone_7 : decode cX1_workAlone 7 = .ok (.aload_n 2, 1) := by decide +kernel
theorem dX1_workAlone_8 : decode cX1_workAlone 8 = .ok (.invokevirtual 75, 3) := by decide +kernel
theorem dX1_workAlone_11 : decode cX1_workAlone 11 = .ok (.iconst 0, 1) := by decide +kernel
theorem dX1_workAlone_12 : decode cX1_workAlone 12 = .ok (.istore_n 3, 1) := by decide +kernel
theorem dX1_workAlone_13 : decode cX1_workAlone 13 = .ok (.iload_n 3, 1) := by decide +kernel
theorem dX1_workAlone_14 : decode cX1_workAlone 14 = .ok (.bipush 8, 2) := by decide +kernel
theorem dX1_workAlone_16 : decode cX1_workAlone 16 = .ok (.if_icmp .gt 22, 3) := by decide +kernel
theorem dX1_workAlone_19 : decode cX1_workAlone 19 = .ok (.aload_n 2, 1) := by decide +kernel
theorem dX1_workAlone_20 : decode cX1_workAlone 20 = .ok (.invokevirtual 138, 3) := by decide +kernel
theorem dX1_workAlone_23 : decode cX1_workAlone 23 = .ok (.ifCond .eq 15, 3) := by decide +kernel
theorem dX1_workAlone_26 : decode cX1_workAlone 26 = .ok (.aload_n 0, 1) := by decide +kernel
theorem dX1_workAlone_27 : decode cX1_workAlone 27 = .ok (.iload_n 1, 1) := by decide +kernel
theorem dX1_workAlone_28 : decode cX1_workAlone 28 = .ok (.invokevirtual 142, 3) := by decide +kernel
theorem dX1_workAlone_31 : decode cX1_workAlone 31 = .ok (.pop, 1) := by decide +kernel
theorem dX1_workAlone_32 : decode cX1_workAlone 32 = .ok (.iinc 3 1, 3) := by decide +kernel
theorem dX1_workAlone_35 : decode cX1_workAlone 35 = .ok (.goto (-22), 3) := by decide +kernel
theorem dX1_workAlone_38 : decode cX1_workAlone 38 = .ok (.return_, 1) := by decide +kernel
theorem dX1_isAnyAtWork_0 : decode cX1_isAnyAtWork 0 = .ok (.iconst 0, 1) := by decide +kernel
theorem dX1_isAnyAtWork_1 : decode cX1_isAnyAtWork 1 = .ok (.istore_n 1, 1) := by decide +kernel
theorem dX1_isAnyAtWork_2 : decode cX1_isAnyAtWork 2 = .ok (.iload_n 1, 1) := by decide +kernel
theorem dX1_isAnyAtWork_3 : decode cX1_isAnyAtWork 3 = .ok (.aload_n 0, 1) := by decide +kernel
theorem dX1_isAnyAtWork_4 : decode cX1_isAnyAtWork 4 = .ok (.getfield 38, 3) := by decide +kernel
theorem dX1_isAnyAtWork_7 : decode cX1_isAnyAtWork 7 = .ok (.if_icmp .ge 23, 3) := by decide +kernel
theorem dX1_isAnyAtWork_10 : decode cX1_isAnyAtWork 10 = .ok (.aload_n 0, 1) := by decide +kernel
theorem dX1_isAnyAtWork_11 : decode cX1_isAnyAtWork 11 = .ok (.getfield 24, 3) := by decide +kernel
theorem dX1_isAnyAtWork_14 : decode cX1_isAnyAtWork 14 = .ok (.iload_n 1, 1) := by decide +kernel
theorem dX1_isAnyAtWork_15 : decode cX1_isAnyAtWork 15 = .ok (.aaload, 1) := by decide +kernel
theorem dX1_isAnyAtWork_16 : decode cX1_isAnyAtWork 16 = .ok (.invokevirtual 138, 3) := by decide +kernel
theorem dX1_isAnyAtWork_19 : decode cX1_isAnyAtWork 19 = .ok (.ifCond .eq 5, 3) := by decide +kernel
theorem dX1_isAnyAtWork_22 : decode cX1_isAnyAtWork 22 = .ok (.iconst 1, 1) := by decide +kernel
theorem dX1_isAnyAtWork_23 : decode cX1_isAnyAtWork 23 = .ok (.ireturn, 1) := by decide +kernel
theorem dX1_isAnyAtWork_24 : decode cX1_isAnyAtWork 24 = .ok (.iinc 1 1, 3) := by decide +kernel
theorem dX1_isAnyAtWork_27 : decode cX1_isAnyAtWork 27 = .ok (.goto (-25), 3) := by decide +kernel
theorem dX1_isAnyAtWork_30 : decode cX1_isAnyAtWork 30 = .ok (.iconst 0, 1) := by decide +kernel
theorem dX1_isAnyAtWork_31 : decode cX1_isAnyAtWork 31 = .ok (.ireturn, 1) := by decide +kernel
theorem dX1_clashes_0 : decode cX1_clashes 0 = .ok (.aload_n 0, 1) := by decide +kernel
theorem dX1_clashes_1 : decode cX1_clashes 1 = .ok (.getfield 24, 3) := by decide +kernel
theorem dX1_clashes_4 : decode cX1_clashes 4 = .ok (.iload_n 1, 1) := by decide +kernel
theorem dX1_clashes_5 : decode cX1_clashes 5 = .ok (.aaload, 1) := by decide +kernel
theorem dX1_clashes_6 : decode cX1_clashes 6 = .ok (.astore_n 3, 1) := by decide +kernel
theorem dX1_clashes_7 : decode cX1_clashes 7 = .ok (.aload_n 0, 1) := by decide +kernel
theorem dX1_clashes_8 : decode cX1_clashes 8 = .ok (.getfield 24, 3) := by decide +kernel
theorem dX1_clashes_11 : decode cX1_clashes 11 = .ok (.iload_n 2, 1) := by decide +kernel
theorem dX1_clashes_12 : decode cX1_clashes 12 = .ok (.aaload, 1) := by decide +kernel
theorem dX1_clashes_13 : decode cX1_clashes 13 = .ok (.astore 4, 2) := by decide +kernel
theorem dX1_clashes_15 : decode cX1_clashes 15 = .ok (.iload_n 1, 1) := by decide +kernel
theorem dX1_clashes_16 : decode cX1_clashes 16 = .ok (.iload_n 2, 1) := by decide +kernel
theorem dX1_clashes_17 : decode cX1_clashes 17 = .ok (.if_icmp .eq 18, 3) := by decide +kernel
theorem dX1_clashes_20 : decode cX1_clashes 20 = .ok (.aload_n 3, 1) := by decide +kernel
theorem dX1_clashes_21 : decode cX1_clashes 21 = .ok (.getfield 128, 3) := by decide +kernel
theorem dX1_clashes_24 : decode cX1_clashes 24 = .ok (.ifCond .ne 11, 3) := by decide +kernel
theorem dX1_clashes_27 : decode cX1_clashes 27 = .ok (.aload 4, 2) := by decide +kernel
theorem dX1_clashes_29 : decode cX1_clashes 29 = .ok (.getfield 128, 3) := by decide +kernel
theorem dX1_clashes_32 : decode cX1_clashes 32 = .ok (.ifCond .eq 5, 3) := by decide +kernel
theorem dX1_clashes_35 : decode cX1_clashes 35 = .ok (.iconst 0, 1) := by decide +kernel
theorem dX1_clashes_36 : decode cX1_clashes 36 = .ok (.ireturn, 1) := by decide +kernel
theorem dX1_clashes_37 : decode cX1_clashes 37 = .ok (.iconst 0, 1) := by decide +kernel
theorem dX1_clashes_38 : decode cX1_clashes 38 = .ok (.istore 5, 2) := by decide +kernel
theorem dX1_clashes_40 : decode cX1_clashes 40 = .ok (.iload 5, 2) := by decide +kernel
theorem dX1_clashes_42 : decode cX1_clashes 42 = .ok (.aload_n 0, 1) := by decide +kernel
theorem dX1_clashes_43 : decode cX1_clashes 43 = .ok (.getfield 9, 3) := by decide +kernel
theorem dX1_clashes_46 : decode cX1_clashes 46 = .ok (.if_icmp .ge 30, 3) := by decide +kernel
theorem dX1_clashes_49 : decode cX1_clashes 49 = .ok (.aload_n 3, 1) := by decide +kernel
theorem dX1_clashes_50 : decode cX1_clashes 50 = .ok (.iload 5, 2) := by decide +kernel
theorem dX1_clashes_52 : decode cX1_clashes 52 = .ok (.invokevirtual 109, 3) := by decide +kernel
theorem dX1_clashes_55 : decode cX1_clashes 55 = .ok (.ifCond .eq 15, 3) := by decide +kernel
theorem dX1_clashes_58 : decode cX1_clashes 58 = .ok (.aload 4, 2) := by decide +kernel
theorem dX1_clashes_60 : decode cX1_clashes 60 = .ok (.iload 5, 2) := by decide +kernel
theorem dX1_clashes_62 : decode cX1_clashes 62 = .ok (.invokevirtual 113, 3) := by decide +kernel
theorem dX1_clashes_65 : decode cX1_clashes 65 = .ok (.ifCond .eq 5, 3) := by decide +kernel
theorem dX1_clashes_68 : decode cX1_clashes 68 = .ok (.iconst 1, 1) := by decide +kernel
theorem dX1_clashes_69 : decode cX1_clashes 69 = .ok (.ireturn, 1) := by decide +kernel
theorem dX1_clashes_70 : decode cX1_clashes 70 = .ok (.iinc 5 1, 3) := by decide +kernel
theorem dX1_clashes_73 : decode cX1_clashes 73 = .ok (.goto (-33), 3) := by decide +kernel
theorem dX1_clashes_76 : decode cX1_clashes 76 = .ok (.iconst 0, 1) := by decide +kernel
theorem dX1_clashes_77 : decode cX1_clashes 77 = .ok (.ireturn, 1) := by decide +kernel
theorem dX1_countClashes_0 : decode cX1_countClashes 0 = .ok (.iconst 0, 1) := by decide +kernel
theorem dX1_countClashes_1 : decode cX1_countClashes 1 = .ok (.istore_n 2, 1) := by decide +kernel
theorem dX1_countClashes_2 : decode cX1_countClashes 2 = .ok (.iconst 0, 1) := by decide +kernel
theorem dX1_countClashes_3 : decode cX1_countClashes 3 = .ok (.istore_n 3, 1) := by decide +kernel
theorem dX1_countClashes_4 : decode cX1_countClashes 4 = .ok (.iload_n 3, 1) := by decide +kernel
theorem dX1_countClashes_5 : decode cX1_countClashes 5 = .ok (.aload_n 0, 1) := by decide +kernel
theorem dX1_countClashes_6 : decode cX1_countClashes 6 = .ok (.getfield 38, 3) := by decide +kernel
theorem dX1_countClashes_9 : decode cX1_countClashes 9 = .ok (.if_icmp .ge 26, 3) := by decide +kernel
theorem dX1_countClashes_12 : decode cX1_countClashes 12 = .ok (.iload_n 2, 1) := by decide +kernel
theorem dX1_countClashes_13 : decode cX1_countClashes 13 = .ok (.aload_n 0, 1) := by decide +kernel
theorem dX1_countClashes_14 : decode cX1_countClashes 14 = .ok (.iload_n 1, 1) := by decide +kernel
theorem dX1_countClashes_15 : decode cX1_countClashes 15 = .ok (.iload_n 3, 1) := by decide +kernel
theorem dX1_countClashes_16 : decode cX1_countClashes 16 = .ok (.invokevirtual 145, 3) := by decide +kernel
theorem dX1_countClashes_19 : decode cX1_countClashes 19 = .ok (.ifCond .eq 7, 3) := by decide +kernel
theorem dX1_countClashes_22 : decode cX1_countClashes 22 = .ok (.iconst 1, 1) := by decide +kernel
theorem dX1_countClashes_23 : decode cX1_countClashes 23 = .ok (.goto 4, 3) := by decide +kernel
theorem dX1_countClashes_26 : decode cX1_countClashes 26 = .ok (.iconst 0, 1) := by decide +kernel
theorem dX1_countClashes_27 : decode cX1_countClashes 27 = .ok (.iadd, 1) := by decide +kernel
theorem dX1_countClashes_28 : decode cX1_countClashes 28 = .ok (.istore_n 2, 1) := by decide +kernel
theorem dX1_countClashes_29 : decode cX1_countClashes 29 = .ok (.iinc 3 1, 3) := by decide +kernel
theorem dX1_countClashes_32 : decode cX1_countClashes 32 = .ok (.goto (-28), 3) := by decide +kernel
theorem dX1_countClashes_35 : decode cX1_countClashes 35 = .ok (.iload_n 2, 1) := by decide +kernel
theorem dX1_countClashes_36 : decode cX1_countClashes 36 = .ok (.ireturn, 1) := by decide +kernel
theorem dX1_closingsKept_0 : decode cX1_closingsKept 0 = .ok (.aload_n 0, 1) := by decide +kernel
theorem dX1_closingsKept_1 : decode cX1_closingsKept 1 = .ok (.getfield 41, 3) := by decide +kernel
theorem dX1_closingsKept_4 : decode cX1_closingsKept 4 = .ok (.bipush 10, 2) := by decide +kernel
theorem dX1_closingsKept_6 : decode cX1_closingsKept 6 = .ok (.invokestatic 122, 3) := by decide +kernel
theorem dX1_closingsKept_9 : decode cX1_closingsKept 9 = .ok (.ireturn, 1) := by decide +kernel
theorem dX1_closingFact_0 : decode cX1_closingFact 0 = .ok (.iload_n 2, 1) := by decide +kernel
theorem dX1_closingFact_1 : decode cX1_closingFact 1 = .ok (.lookupswitch 41 #[(0, 27), (1, 34)], 27) := by decide +kernel
theorem dX1_closingFact_28 : decode cX1_closingFact 28 = .ok (.aload_n 0, 1) := by decide +kernel
theorem dX1_closingFact_29 : decode cX1_closingFact 29 = .ok (.getfield 29, 3) := by decide +kernel
theorem dX1_closingFact_32 : decode cX1_closingFact 32 = .ok (.iload_n 1, 1) := by decide +kernel
theorem dX1_closingFact_33 : decode cX1_closingFact 33 = .ok (.iaload, 1) := by decide +kernel
theorem dX1_closingFact_34 : decode cX1_closingFact 34 = .ok (.ireturn, 1) := by decide +kernel
theorem dX1_closingFact_35 : decode cX1_closingFact 35 = .ok (.aload_n 0, 1) := by decide +kernel
theorem dX1_closingFact_36 : decode cX1_closingFact 36 = .ok (.getfield 32, 3) := by decide +kernel
theorem dX1_closingFact_39 : decode cX1_closingFact 39 = .ok (.iload_n 1, 1) := by decide +kernel
theorem dX1_closingFact_40 : decode cX1_closingFact 40 = .ok (.iaload, 1) := by decide +kernel
theorem dX1_closingFact_41 : decode cX1_closingFact 41 = .ok (.ireturn, 1) := by decide +kernel
theorem dX1_closingFact_42 : decode cX1_closingFact 42 = .ok (.aload_n 0, 1) := by decide +kernel
theorem dX1_closingFact_43 : decode cX1_closingFact 43 = .ok (.getfield 35, 3) := by decide +kernel
theorem dX1_closingFact_46 : decode cX1_closingFact 46 = .ok (.iload_n 1, 1) := by decide +kernel
theorem dX1_closingFact_47 : decode cX1_closingFact 47 = .ok (.iaload, 1) := by decide +kernel
theorem dX1_closingFact_48 : decode cX1_closingFact 48 = .ok (.ireturn, 1) := by decide +kernel
theorem dX1_countFact_0 : decode cX1_countFact 0 = .ok (.iload_n 1, 1) := by decide +kernel
theorem dX1_countFact_1 : decode cX1_countFact 1 = .ok (.tableswitch 69 0 5 #[39, 44, 49, 54, 59, 64], 39) := by decide +kernel
theorem dX1_countFact_40 : decode cX1_countFact 40 = .ok (.aload_n 0, 1) := by decide +kernel
theorem dX1_countFact_41 : decode cX1_countFact 41 = .ok (.getfield 9, 3) := by decide +kernel
theorem dX1_countFact_44 : decode cX1_countFact 44 = .ok (.ireturn, 1) := by decide +kernel
theorem dX1_countFact_45 : decode cX1_countFact 45 = .ok (.aload_n 0, 1) := by decide +kernel
theorem dX1_countFact_46 : decode cX1_countFact 46 = .ok (.getfield 38, 3) := by decide +kernel
theorem dX1_countFact_49 : decode cX1_countFact 49 = .ok (.ireturn, 1) := by decide +kernel
theorem dX1_countFact_50 : decode cX1_countFact 50 = .ok (.aload_n 0, 1) := by decide +kernel
theorem dX1_countFact_51 : decode cX1_countFact 51 = .ok (.invokevirtual 149, 3) := by decide +kernel
theorem dX1_countFact_54 : decode cX1_countFact 54 = .ok (.ireturn, 1) := by decide +kernel
theorem dX1_countFact_55 : decode cX1_countFact 55 = .ok (.aload_n 0, 1) := by decide +kernel
theorem dX1_countFact_56 : decode cX1_countFact 56 = .ok (.getfield 41, 3) := by decide +kernel
theorem dX1_countFact_59 : decode cX1_countFact 59 = .ok (.ireturn, 1) := by decide +kernel
theorem dX1_countFact_60 : decode cX1_countFact 60 = .ok (.aload_n 0, 1) := by decide +kernel
theorem dX1_countFact_61 : decode cX1_countFact 61 = .ok (.invokevirtual 152, 3) := by decide +kernel
theorem dX1_countFact_64 : decode cX1_countFact 64 = .ok (.ireturn, 1) := by decide +kernel
theorem dX1_countFact_65 : decode cX1_countFact 65 = .ok (.aload_n 0, 1) := by decide +kernel
theorem dX1_countFact_66 : decode cX1_countFact 66 = .ok (.invokevirtual 55, 3) := by decide +kernel
theorem dX1_countFact_69 : decode cX1_countFact 69 = .ok (.ireturn, 1) := by decide +kernel
theorem dX1_countFact_70 : decode cX1_countFact 70 = .ok (.aload_n 0, 1) := by decide +kernel
theorem dX1_countFact_71 : decode cX1_countFact 71 = .ok (.invokevirtual 155, 3) := by decide +kernel
theorem dX1_countFact_74 : decode cX1_countFact 74 = .ok (.ireturn, 1) := by decide +kernel
theorem dX1_drawerFact_0 : decode cX1_drawerFact 0 = .ok (.iload_n 2, 1) := by decide +kernel
theorem dX1_drawerFact_1 : decode cX1_drawerFact 1 = .ok (.tableswitch 47 0 2 #[27, 34, 41], 27) := by decide +kernel
theorem dX1_drawerFact_28 : decode cX1_drawerFact 28 = .ok (.aload_n 0, 1) := by decide +kernel
theorem dX1_drawerFact_29 : decode cX1_drawerFact 29 = .ok (.getfield 15, 3) := by decide +kernel
theorem dX1_drawerFact_32 : decode cX1_drawerFact 32 = .ok (.iload_n 1, 1) := by decide +kernel
theorem dX1_drawerFact_33 : decode cX1_drawerFact 33 = .ok (.iaload, 1) := by decide +kernel
theorem dX1_drawerFact_34 : decode cX1_drawerFact 34 = .ok (.ireturn, 1) := by decide +kernel
theorem dX1_drawerFact_35 : decode cX1_drawerFact 35 = .ok (.aload_n 0, 1) := by decide +kernel
theorem dX1_drawerFact_36 : decode cX1_drawerFact 36 = .ok (.getfield 19, 3) := by decide +kernel
theorem dX1_drawerFact_39 : decode cX1_drawerFact 39 = .ok (.iload_n 1, 1) := by decide +kernel
theorem dX1_drawerFact_40 : decode cX1_drawerFact 40 = .ok (.iaload, 1) := by decide +kernel
theorem dX1_drawerFact_41 : decode cX1_drawerFact 41 = .ok (.ireturn, 1) := by decide +kernel
theorem dX1_drawerFact_42 : decode cX1_drawerFact 42 = .ok (.aload_n 0, 1) := by decide +kernel
theorem dX1_drawerFact_43 : decode cX1_drawerFact 43 = .ok (.iload_n 1, 1) := by decide +kernel
theorem dX1_drawerFact_44 : decode cX1_drawerFact 44 = .ok (.invokevirtual 158, 3) := by decide +kernel
theorem dX1_drawerFact_47 : decode cX1_drawerFact 47 = .ok (.ireturn, 1) := by decide +kernel
theorem dX1_drawerFact_48 : decode cX1_drawerFact 48 = .ok (.aload_n 0, 1) := by decide +kernel
theorem dX1_drawerFact_49 : decode cX1_drawerFact 49 = .ok (.iload_n 1, 1) := by decide +kernel
theorem dX1_drawerFact_50 : decode cX1_drawerFact 50 = .ok (.invokevirtual 161, 3) := by decide +kernel
theorem dX1_drawerFact_53 : decode cX1_drawerFact 53 = .ok (.ireturn, 1) := by decide +kernel
theorem dX1_clerkFact_0 : decode cX1_clerkFact 0 = .ok (.aload_n 0, 1) := by decide +kernel
theorem dX1_clerkFact_1 : decode cX1_clerkFact 1 = .ok (.getfield 24, 3) := by decide +kernel
theorem dX1_clerkFact_4 : decode cX1_clerkFact 4 = .ok (.iload_n 1, 1) := by decide +kernel
theorem dX1_clerkFact_5 : decode cX1_clerkFact 5 = .ok (.aaload, 1) := by decide +kernel
theorem dX1_clerkFact_6 : decode cX1_clerkFact 6 = .ok (.astore_n 3, 1) := by decide +kernel
theorem dX1_clerkFact_7 : decode cX1_clerkFact 7 = .ok (.iload_n 2, 1) := by decide +kernel
theorem dX1_clerkFact_8 : decode cX1_clerkFact 8 = .ok (.tableswitch 78 0 5 #[40, 45, 50, 63, 68, 73], 40) := by decide +kernel
theorem dX1_clerkFact_48 : decode cX1_clerkFact 48 = .ok (.aload_n 3, 1) := by decide +kernel
theorem dX1_clerkFact_49 : decode cX1_clerkFact 49 = .ok (.getfield 62, 3) := by decide +kernel
theorem dX1_clerkFact_52 : decode cX1_clerkFact 52 = .ok (.ireturn, 1) := by decide +kernel
theorem dX1_clerkFact_53 : decode cX1_clerkFact 53 = .ok (.aload_n 3, 1) := by decide +kernel
theorem dX1_clerkFact_54 : decode cX1_clerkFact 54 = .ok (.getfield 59, 3) := by decide +kernel
theorem dX1_clerkFact_57 : decode cX1_clerkFact 57 = .ok (.ireturn, 1) := by decide +kernel
theorem dX1_clerkFact_58 : decode cX1_clerkFact 58 = .ok (.aload_n 3, 1) := by decide +kernel
theorem dX1_clerkFact_59 : decode cX1_clerkFact 59 = .ok (.getfield 128, 3) := by decide +kernel
theorem dX1_clerkFact_62 : decode cX1_clerkFact 62 = .ok (.ifCond .eq 7, 3) := by decide +kernel
theorem dX1_clerkFact_65 : decode cX1_clerkFact 65 = .ok (.iconst 1, 1) := by decide +kernel
theorem dX1_clerkFact_66 : decode cX1_clerkFact 66 = .ok (.goto 4, 3) := by decide +kernel
theorem dX1_clerkFact_69 : decode cX1_clerkFact 69 = .ok (.iconst 0, 1) := by decide +kernel
theorem dX1_clerkFact_70 : decode cX1_clerkFact 70 = .ok (.ireturn, 1) := by decide +kernel
theorem dX1_clerkFact_71 : decode cX1_clerkFact 71 = .ok (.aload_n 3, 1) := by decide +kernel
theorem dX1_clerkFact_72 : decode cX1_clerkFact 72 = .ok (.getfield 72, 3) := by decide +kernel
theorem dX1_clerkFact_75 : decode cX1_clerkFact 75 = .ok (.ireturn, 1) := by decide +kernel
theorem dX1_clerkFact_76 : decode cX1_clerkFact 76 = .ok (.aload_n 3, 1) := by decide +kernel
theorem dX1_clerkFact_77 : decode cX1_clerkFact 77 = .ok (.invokevirtual 164, 3) := by decide +kernel
theorem dX1_clerkFact_80 : decode cX1_clerkFact 80 = .ok (.ireturn, 1) := by decide +kernel
theorem dX1_clerkFact_81 : decode cX1_clerkFact 81 = .ok (.aload_n 3, 1) := by decide +kernel
theorem dX1_clerkFact_82 : decode cX1_clerkFact 82 = .ok (.invokevirtual 132, 3) := by decide +kernel
theorem dX1_clerkFact_85 : decode cX1_clerkFact 85 = .ok (.ireturn, 1) := by decide +kernel
theorem dX1_clerkFact_86 : decode cX1_clerkFact 86 = .ok (.aload_n 0, 1) := by decide +kernel
theorem dX1_clerkFact_87 : decode cX1_clerkFact 87 = .ok (.aload_n 3, 1) := by decide +kernel
theorem dX1_clerkFact_88 : decode cX1_clerkFact 88 = .ok (.invokevirtual 167, 3) := by decide +kernel
theorem dX1_clerkFact_91 : decode cX1_clerkFact 91 = .ok (.ifCond .eq 7, 3) := by decide +kernel
theorem dX1_clerkFact_94 : decode cX1_clerkFact 94 = .ok (.iconst 1, 1) := by decide +kernel
theorem dX1_clerkFact_95 : decode cX1_clerkFact 95 = .ok (.goto 4, 3) := by decide +kernel
theorem dX1_clerkFact_98 : decode cX1_clerkFact 98 = .ok (.iconst 0, 1) := by decide +kernel
theorem dX1_clerkFact_99 : decode cX1_clerkFact 99 = .ok (.ireturn, 1) := by decide +kernel
theorem dX1_wouldLose_0 : decode cX1_wouldLose 0 = .ok (.aload_n 1, 1) := by decide +kernel
theorem dX1_wouldLose_1 : decode cX1_wouldLose 1 = .ok (.getfield 128, 3) := by decide +kernel
theorem dX1_wouldLose_4 : decode cX1_wouldLose 4 = .ok (.ifCond .ne 15, 3) := by decide +kernel
theorem dX1_wouldLose_7 : decode cX1_wouldLose 7 = .ok (.aload_n 0, 1) := by decide +kernel
theorem dX1_wouldLose_8 : decode cX1_wouldLose 8 = .ok (.aload_n 1, 1) := by decide +kernel
theorem dX1_wouldLose_9 : decode cX1_wouldLose 9 = .ok (.invokevirtual 68, 3) := by decide +kernel
theorem dX1_wouldLose_12 : decode cX1_wouldLose 12 = .ok (.ifCond .eq 7, 3) := by decide +kernel
theorem dX1_wouldLose_15 : decode cX1_wouldLose 15 = .ok (.iconst 1, 1) := by decide +kernel
theorem dX1_wouldLose_16 : decode cX1_wouldLose 16 = .ok (.goto 4, 3) := by decide +kernel
theorem dX1_wouldLose_19 : decode cX1_wouldLose 19 = .ok (.iconst 0, 1) := by decide +kernel
theorem dX1_wouldLose_20 : decode cX1_wouldLose 20 = .ok (.ireturn, 1) := by decide +kernel
theorem dX1_countDone_0 : decode cX1_countDone 0 = .ok (.iconst 0, 1) := by decide +kernel
theorem dX1_countDone_1 : decode cX1_countDone 1 = .ok (.istore_n 1, 1) := by decide +kernel
theorem dX1_countDone_2 : decode cX1_countDone 2 = .ok (.iconst 0, 1) := by decide +kernel
theorem dX1_countDone_3 : decode cX1_countDone 3 = .ok (.istore_n 2, 1) := by decide +kernel
theorem dX1_countDone_4 : decode cX1_countDone 4 = .ok (.iload_n 2, 1) := by decide +kernel
theorem dX1_countDone_5 : decode cX1_countDone 5 = .ok (.aload_n 0, 1) := by decide +kernel
theorem dX1_countDone_6 : decode cX1_countDone 6 = .ok (.getfield 38, 3) := by decide +kernel
theorem dX1_countDone_9 : decode cX1_countDone 9 = .ok (.if_icmp .ge 29, 3) := by decide +kernel
theorem dX1_countDone_12 : decode cX1_countDone 12 = .ok (.iload_n 1, 1) := by decide +kernel
theorem dX1_countDone_13 : decode cX1_countDone 13 = .ok (.aload_n 0, 1) := by decide +kernel
theorem dX1_countDone_14 : decode cX1_countDone 14 = .ok (.getfield 24, 3) := by decide +kernel
theorem dX1_countDone_17 : decode cX1_countDone 17 = .ok (.iload_n 2, 1) := by decide +kernel
theorem dX1_countDone_18 : decode cX1_countDone 18 = .ok (.aaload, 1) := by decide +kernel
theorem dX1_countDone_19 : decode cX1_countDone 19 = .ok (.getfield 128, 3) := by decide +kernel
theorem dX1_countDone_22 : decode cX1_countDone 22 = .ok (.ifCond .eq 7, 3) := by decide +kernel
theorem dX1_countDone_25 : decode cX1_countDone 25 = .ok (.iconst 1, 1) := by decide +kernel
theorem dX1_countDone_26 : decode cX1_countDone 26 = .ok (.goto 4, 3) := by decide +kernel
theorem dX1_countDone_29 : decode cX1_countDone 29 = .ok (.iconst 0, 1) := by decide +kernel
theorem dX1_countDone_30 : decode cX1_countDone 30 = .ok (.iadd, 1) := by decide +kernel
theorem dX1_countDone_31 : decode cX1_countDone 31 = .ok (.istore_n 1, 1) := by decide +kernel
theorem dX1_countDone_32 : decode cX1_countDone 32 = .ok (.iinc 2 1, 3) := by decide +kernel
theorem dX1_countDone_35 : decode cX1_countDone 35 = .ok (.goto (-31), 3) := by decide +kernel
theorem dX1_countDone_38 : decode cX1_countDone 38 = .ok (.iload_n 1, 1) := by decide +kernel
theorem dX1_countDone_39 : decode cX1_countDone 39 = .ok (.ireturn, 1) := by decide +kernel
theorem dX1_countLosers_0 : decode cX1_countLosers 0 = .ok (.iconst 0, 1) := by decide +kernel
theorem dX1_countLosers_1 : decode cX1_countLosers 1 = .ok (.istore_n 1, 1) := by decide +kernel
theorem dX1_countLosers_2 : decode cX1_countLosers 2 = .ok (.iconst 0, 1) := by decide +kernel
theorem dX1_countLosers_3 : decode cX1_countLosers 3 = .ok (.istore_n 2, 1) := by decide +kernel
theorem dX1_countLosers_4 : decode cX1_countLosers 4 = .ok (.iload_n 2, 1) := by decide +kernel
theorem dX1_countLosers_5 : decode cX1_countLosers 5 = .ok (.aload_n 0, 1) := by decide +kernel
theorem dX1_countLosers_6 : decode cX1_countLosers 6 = .ok (.getfield 38, 3) := by decide +kernel
theorem dX1_countLosers_9 : decode cX1_countLosers 9 = .ok (.if_icmp .ge 30, 3) := by decide +kernel
theorem dX1_countLosers_12 : decode cX1_countLosers 12 = .ok (.iload_n 1, 1) := by decide +kernel
theorem dX1_countLosers_13 : decode cX1_countLosers 13 = .ok (.aload_n 0, 1) := by decide +kernel
theorem dX1_countLosers_14 : decode cX1_countLosers 14 = .ok (.aload_n 0, 1) := by decide +kernel
theorem dX1_countLosers_15 : decode cX1_countLosers 15 = .ok (.getfield 24, 3) := by decide +kernel
theorem dX1_countLosers_18 : decode cX1_countLosers 18 = .ok (.iload_n 2, 1) := by decide +kernel
theorem dX1_countLosers_19 : decode cX1_countLosers 19 = .ok (.aaload, 1) := by decide +kernel
theorem dX1_countLosers_20 : decode cX1_countLosers 20 = .ok (.invokevirtual 167, 3) := by decide +kernel
theorem dX1_countLosers_23 : decode cX1_countLosers 23 = .ok (.ifCond .eq 7, 3) := by decide +kernel
theorem dX1_countLosers_26 : decode cX1_countLosers 26 = .ok (.iconst 1, 1) := by decide +kernel
theorem dX1_countLosers_27 : decode cX1_countLosers 27 = .ok (.goto 4, 3) := by decide +kernel
theorem dX1_countLosers_30 : decode cX1_countLosers 30 = .ok (.iconst 0, 1) := by decide +kernel
theorem dX1_countLosers_31 : decode cX1_countLosers 31 = .ok (.iadd, 1) := by decide +kernel
theorem dX1_countLosers_32 : decode cX1_countLosers 32 = .ok (.istore_n 1, 1) := by decide +kernel
theorem dX1_countLosers_33 : decode cX1_countLosers 33 = .ok (.iinc 2 1, 3) := by decide +kernel
theorem dX1_countLosers_36 : decode cX1_countLosers 36 = .ok (.goto (-32), 3) := by decide +kernel
theorem dX1_countLosers_39 : decode cX1_countLosers 39 = .ok (.iload_n 1, 1) := by decide +kernel
theorem dX1_countLosers_40 : decode cX1_countLosers 40 = .ok (.ireturn, 1) := by decide +kernel
theorem dX1_countRememberers_0 : decode cX1_countRememberers 0 = .ok (.iconst 0, 1) := by decide +kernel
theorem dX1_countRememberers_1 : decode cX1_countRememberers 1 = .ok (.istore_n 2, 1) := by decide +kernel
theorem dX1_countRememberers_2 : decode cX1_countRememberers 2 = .ok (.iconst 0, 1) := by decide +kernel
theorem dX1_countRememberers_3 : decode cX1_countRememberers 3 = .ok (.istore_n 3, 1) := by decide +kernel
theorem dX1_countRememberers_4 : decode cX1_countRememberers 4 = .ok (.iload_n 3, 1) := by decide +kernel
theorem dX1_countRememberers_5 : decode cX1_countRememberers 5 = .ok (.aload_n 0, 1) := by decide +kernel
theorem dX1_countRememberers_6 : decode cX1_countRememberers 6 = .ok (.getfield 38, 3) := by decide +kernel
theorem dX1_countRememberers_9 : decode cX1_countRememberers 9 = .ok (.if_icmp .ge 42, 3) := by decide +kernel
theorem dX1_countRememberers_12 : decode cX1_countRememberers 12 = .ok (.iload_n 2, 1) := by decide +kernel
theorem dX1_countRememberers_13 : decode cX1_countRememberers 13 = .ok (.aload_n 0, 1) := by decide +kernel
theorem dX1_countRememberers_14 : decode cX1_countRememberers 14 = .ok (.getfield 24, 3) := by decide +kernel
theorem dX1_countRememberers_17 : decode cX1_countRememberers 17 = .ok (.iload_n 3, 1) := by decide +kernel
theorem dX1_countRememberers_18 : decode cX1_countRememberers 18 = .ok (.aaload, 1) := by decide +kernel
theorem dX1_countRememberers_19 : decode cX1_countRememberers 19 = .ok (.getfield 128, 3) := by decide +kernel
theorem dX1_countRememberers_22 : decode cX1_countRememberers 22 = .ok (.ifCond .ne 20, 3) := by decide +kernel
theorem dX1_countRememberers_25 : decode cX1_countRememberers 25 = .ok (.aload_n 0, 1) := by decide +kernel
theorem dX1_countRememberers_26 : decode cX1_countRememberers 26 = .ok (.getfield 24, 3) := by decide +kernel
theorem dX1_countRememberers_29 : decode cX1_countRememberers 29 = .ok (.iload_n 3, 1) := by decide +kernel
theorem dX1_countRememberers_30 : decode cX1_countRememberers 30 = .ok (.aaload, 1) := by decide +kernel
theorem dX1_countRememberers_31 : decode cX1_countRememberers 31 = .ok (.iload_n 1, 1) := by decide +kernel
theorem dX1_countRememberers_32 : decode cX1_countRememberers 32 = .ok (.invokevirtual 113, 3) := by decide +kernel
theorem dX1_countRememberers_35 : decode cX1_countRememberers 35 = .ok (.ifCond .eq 7, 3) := by decide +kernel
theorem dX1_countRememberers_38 : decode cX1_countRememberers 38 = .ok (.iconst 1, 1) := by decide +kernel
theorem dX1_countRememberers_39 : decode cX1_countRememberers 39 = .ok (.goto 4, 3) := by decide +kernel
theorem dX1_countRememberers_42 : decode cX1_countRememberers 42 = .ok (.iconst 0, 1) := by decide +kernel
theorem dX1_countRememberers_43 : decode cX1_countRememberers 43 = .ok (.iadd, 1) := by decide +kernel
theorem dX1_countRememberers_44 : decode cX1_countRememberers 44 = .ok (.istore_n 2, 1) := by decide +kernel
theorem dX1_countRememberers_45 : decode cX1_countRememberers 45 = .ok (.iinc 3 1, 3) := by decide +kernel
theorem dX1_countRememberers_48 : decode cX1_countRememberers 48 = .ok (.goto (-44), 3) := by decide +kernel
theorem dX1_countRememberers_51 : decode cX1_countRememberers 51 = .ok (.iload_n 2, 1) := by decide +kernel
theorem dX1_countRememberers_52 : decode cX1_countRememberers 52 = .ok (.ireturn, 1) := by decide +kernel
theorem dX1_countWriters_0 : decode cX1_countWriters 0 = .ok (.iconst 0, 1) := by decide +kernel
theorem dX1_countWriters_1 : decode cX1_countWriters 1 = .ok (.istore_n 2, 1) := by decide +kernel
theorem dX1_countWriters_2 : decode cX1_countWriters 2 = .ok (.iconst 0, 1) := by decide +kernel
theorem dX1_countWriters_3 : decode cX1_countWriters 3 = .ok (.istore_n 3, 1) := by decide +kernel
theorem dX1_countWriters_4 : decode cX1_countWriters 4 = .ok (.iload_n 3, 1) := by decide +kernel
theorem dX1_countWriters_5 : decode cX1_countWriters 5 = .ok (.aload_n 0, 1) := by decide +kernel
theorem dX1_countWriters_6 : decode cX1_countWriters 6 = .ok (.getfield 38, 3) := by decide +kernel
theorem dX1_countWriters_9 : decode cX1_countWriters 9 = .ok (.if_icmp .ge 42, 3) := by decide +kernel
theorem dX1_countWriters_12 : decode cX1_countWriters 12 = .ok (.iload_n 2, 1) := by decide +kernel
theorem dX1_countWriters_13 : decode cX1_countWriters 13 = .ok (.aload_n 0, 1) := by decide +kernel
theorem dX1_countWriters_14 : decode cX1_countWriters 14 = .ok (.getfield 24, 3) := by decide +kernel
theorem dX1_countWriters_17 : decode cX1_countWriters 17 = .ok (.iload_n 3, 1) := by decide +kernel
theorem dX1_countWriters_18 : decode cX1_countWriters 18 = .ok (.aaload, 1) := by decide +kernel
theorem dX1_countWriters_19 : decode cX1_countWriters 19 = .ok (.getfield 128, 3) := by decide +kernel
theorem dX1_countWriters_22 : decode cX1_countWriters 22 = .ok (.ifCond .ne 20, 3) := by decide +kernel
theorem dX1_countWriters_25 : decode cX1_countWriters 25 = .ok (.aload_n 0, 1) := by decide +kernel
theorem dX1_countWriters_26 : decode cX1_countWriters 26 = .ok (.getfield 24, 3) := by decide +kernel
theorem dX1_countWriters_29 : decode cX1_countWriters 29 = .ok (.iload_n 3, 1) := by decide +kernel
theorem dX1_countWriters_30 : decode cX1_countWriters 30 = .ok (.aaload, 1) := by decide +kernel
theorem dX1_countWriters_31 : decode cX1_countWriters 31 = .ok (.iload_n 1, 1) := by decide +kernel
theorem dX1_countWriters_32 : decode cX1_countWriters 32 = .ok (.invokevirtual 109, 3) := by decide +kernel
theorem dX1_countWriters_35 : decode cX1_countWriters 35 = .ok (.ifCond .eq 7, 3) := by decide +kernel
theorem dX1_countWriters_38 : decode cX1_countWriters 38 = .ok (.iconst 1, 1) := by decide +kernel
theorem dX1_countWriters_39 : decode cX1_countWriters 39 = .ok (.goto 4, 3) := by decide +kernel
theorem dX1_countWriters_42 : decode cX1_countWriters 42 = .ok (.iconst 0, 1) := by decide +kernel
theorem dX1_countWriters_43 : decode cX1_countWriters 43 = .ok (.iadd, 1) := by decide +kernel
theorem dX1_countWriters_44 : decode cX1_countWriters 44 = .ok (.istore_n 2, 1) := by decide +kernel
theorem dX1_countWriters_45 : decode cX1_countWriters 45 = .ok (.iinc 3 1, 3) := by decide +kernel
theorem dX1_countWriters_48 : decode cX1_countWriters 48 = .ok (.goto (-44), 3) := by decide +kernel
theorem dX1_countWriters_51 : decode cX1_countWriters 51 = .ok (.iload_n 2, 1) := by decide +kernel
theorem dX1_countWriters_52 : decode cX1_countWriters 52 = .ok (.ireturn, 1) := by decide +kernel
theorem dX1_sumLost_0 : decode cX1_sumLost 0 = .ok (.iconst 0, 1) := by decide +kernel
theorem dX1_sumLost_1 : decode cX1_sumLost 1 = .ok (.istore_n 1, 1) := by decide +kernel
theorem dX1_sumLost_2 : decode cX1_sumLost 2 = .ok (.iconst 0, 1) := by decide +kernel
theorem dX1_sumLost_3 : decode cX1_sumLost 3 = .ok (.istore_n 2, 1) := by decide +kernel
theorem dX1_sumLost_4 : decode cX1_sumLost 4 = .ok (.iload_n 2, 1) := by decide +kernel
theorem dX1_sumLost_5 : decode cX1_sumLost 5 = .ok (.aload_n 0, 1) := by decide +kernel
theorem dX1_sumLost_6 : decode cX1_sumLost 6 = .ok (.getfield 38, 3) := by decide +kernel
theorem dX1_sumLost_9 : decode cX1_sumLost 9 = .ok (.if_icmp .ge 21, 3) := by decide +kernel
theorem dX1_sumLost_12 : decode cX1_sumLost 12 = .ok (.iload_n 1, 1) := by decide +kernel
theorem dX1_sumLost_13 : decode cX1_sumLost 13 = .ok (.aload_n 0, 1) := by decide +kernel
theorem dX1_sumLost_14 : decode cX1_sumLost 14 = .ok (.getfield 24, 3) := by decide +kernel
theorem dX1_sumLost_17 : decode cX1_sumLost 17 = .ok (.iload_n 2, 1) := by decide +kernel
theorem dX1_sumLost_18 : decode cX1_sumLost 18 = .ok (.aaload, 1) := by decide +kernel
theorem dX1_sumLost_19 : decode cX1_sumLost 19 = .ok (.getfield 72, 3) := by decide +kernel
theorem dX1_sumLost_22 : decode cX1_sumLost 22 = .ok (.iadd, 1) := by decide +kernel
theorem dX1_sumLost_23 : decode cX1_sumLost 23 = .ok (.istore_n 1, 1) := by decide +kernel
theorem dX1_sumLost_24 : decode cX1_sumLost 24 = .ok (.iinc 2 1, 3) := by decide +kernel
theorem dX1_sumLost_27 : decode cX1_sumLost 27 = .ok (.goto (-23), 3) := by decide +kernel
theorem dX1_sumLost_30 : decode cX1_sumLost 30 = .ok (.iload_n 1, 1) := by decide +kernel
theorem dX1_sumLost_31 : decode cX1_sumLost 31 = .ok (.ireturn, 1) := by decide +kernel
theorem dX1_sumAmounts_0 : decode cX1_sumAmounts 0 = .ok (.iconst 0, 1) := by decide +kernel
theorem dX1_sumAmounts_1 : decode cX1_sumAmounts 1 = .ok (.istore_n 1, 1) := by decide +kernel
theorem dX1_sumAmounts_2 : decode cX1_sumAmounts 2 = .ok (.iconst 0, 1) := by decide +kernel
theorem dX1_sumAmounts_3 : decode cX1_sumAmounts 3 = .ok (.istore_n 2, 1) := by decide +kernel
theorem dX1_sumAmounts_4 : decode cX1_sumAmounts 4 = .ok (.iload_n 2, 1) := by decide +kernel
theorem dX1_sumAmounts_5 : decode cX1_sumAmounts 5 = .ok (.aload_n 0, 1) := by decide +kernel
theorem dX1_sumAmounts_6 : decode cX1_sumAmounts 6 = .ok (.getfield 9, 3) := by decide +kernel
theorem dX1_sumAmounts_9 : decode cX1_sumAmounts 9 = .ok (.if_icmp .ge 18, 3) := by decide +kernel
theorem dX1_sumAmounts_12 : decode cX1_sumAmounts 12 = .ok (.iload_n 1, 1) := by decide +kernel
theorem dX1_sumAmounts_13 : decode cX1_sumAmounts 13 = .ok (.aload_n 0, 1) := by decide +kernel
theorem dX1_sumAmounts_14 : decode cX1_sumAmounts 14 = .ok (.getfield 15, 3) := by decide +kernel
theorem dX1_sumAmounts_17 : decode cX1_sumAmounts 17 = .ok (.iload_n 2, 1) := by decide +kernel
theorem dX1_sumAmounts_18 : decode cX1_sumAmounts 18 = .ok (.iaload, 1) := by decide +kernel
theorem dX1_sumAmounts_19 : decode cX1_sumAmounts 19 = .ok (.iadd, 1) := by decide +kernel
theorem dX1_sumAmounts_20 : decode cX1_sumAmounts 20 = .ok (.istore_n 1, 1) := by decide +kernel
theorem dX1_sumAmounts_21 : decode cX1_sumAmounts 21 = .ok (.iinc 2 1, 3) := by decide +kernel
theorem dX1_sumAmounts_24 : decode cX1_sumAmounts 24 = .ok (.goto (-20), 3) := by decide +kernel
theorem dX1_sumAmounts_27 : decode cX1_sumAmounts 27 = .ok (.iload_n 1, 1) := by decide +kernel
theorem dX1_sumAmounts_28 : decode cX1_sumAmounts 28 = .ok (.ireturn, 1) := by decide +kernel
theorem dX2_init_0 : decode cX2_init 0 = .ok (.aload_n 0, 1) := by decide +kernel
theorem dX2_init_1 : decode cX2_init 1 = .ok (.invokespecial 1, 3) := by decide +kernel
theorem dX2_init_4 : decode cX2_init 4 = .ok (.aload_n 0, 1) := by decide +kernel
theorem dX2_init_5 : decode cX2_init 5 = .ok (.new 7, 3) := by decide +kernel
theorem dX2_init_8 : decode cX2_init 8 = .ok (.dup, 1) := by decide +kernel
theorem dX2_init_9 : decode cX2_init 9 = .ok (.invokespecial 9, 3) := by decide +kernel
theorem dX2_init_12 : decode cX2_init 12 = .ok (.putfield 10, 3) := by decide +kernel
theorem dX2_init_15 : decode cX2_init 15 = .ok (.aload_n 0, 1) := by decide +kernel
theorem dX2_init_16 : decode cX2_init 16 = .ok (.new 7, 3) := by decide +kernel
theorem dX2_init_19 : decode cX2_init 19 = .ok (.dup, 1) := by decide +kernel
theorem dX2_init_20 : decode cX2_init 20 = .ok (.invokespecial 9, 3) := by decide +kernel
theorem dX2_init_23 : decode cX2_init 23 = .ok (.putfield 16, 3) := by decide +kernel
theorem dX2_init_26 : decode cX2_init 26 = .ok (.return_, 1) := by decide +kernel
theorem dX2_till_0 : decode cX2_till 0 = .ok (.iload_n 1, 1) := by decide +kernel
theorem dX2_till_1 : decode cX2_till 1 = .ok (.iconst 1, 1) := by decide +kernel
theorem dX2_till_2 : decode cX2_till 2 = .ok (.if_icmp .lt 9, 3) := by decide +kernel
theorem dX2_till_5 : decode cX2_till 5 = .ok (.iload_n 1, 1) := by decide +kernel
theorem dX2_till_6 : decode cX2_till 6 = .ok (.bipush 8, 2) := by decide +kernel
theorem dX2_till_8 : decode cX2_till 8 = .ok (.if_icmp .le 13, 3) := by decide +kernel
theorem dX2_till_11 : decode cX2_till 11 = .ok (.new 19, 3) := by decide +kernel
theorem dX2_till_14 : decode cX2_till 14 = .ok (.dup, 1) := by decide +kernel
theorem dX2_till_15 : decode cX2_till 15 = .ok (.ldc 21, 2) := by decide +kernel
theorem dX2_till_17 : decode cX2_till 17 = .ok (.invokespecial 23, 3) := by decide +kernel
theorem dX2_till_20 : decode cX2_till 20 = .ok (.athrow, 1) := by decide +kernel
theorem dX2_till_21 : decode cX2_till 21 = .ok (.aload_n 0, 1) := by decide +kernel
theorem dX2_till_22 : decode cX2_till 22 = .ok (.getfield 10, 3) := by decide +kernel
theorem dX2_till_25 : decode cX2_till 25 = .ok (.getfield 26, 3) := by decide +kernel
theorem dX2_till_28 : decode cX2_till 28 = .ok (.istore_n 2, 1) := by decide +kernel
theorem dX2_till_29 : decode cX2_till 29 = .ok (.aload_n 0, 1) := by decide +kernel
theorem dX2_till_30 : decode cX2_till 30 = .ok (.getfield 10, 3) := by decide +kernel
theorem dX2_till_33 : decode cX2_till 33 = .ok (.iload_n 1, 1) := by decide +kernel
theorem dX2_till_34 : decode cX2_till 34 = .ok (.invokevirtual 30, 3) := by decide +kernel
theorem dX2_till_37 : decode cX2_till 37 = .ok (.iload_n 2, 1) := by decide +kernel
theorem dX2_till_38 : decode cX2_till 38 = .ok (.ireturn, 1) := by decide +kernel
theorem dX2_pay_0 : decode cX2_pay 0 = .ok (.aload_n 0, 1) := by decide +kernel
theorem dX2_pay_1 : decode cX2_pay 1 = .ok (.iload_n 1, 1) := by decide +kernel
theorem dX2_pay_2 : decode cX2_pay 2 = .ok (.invokevirtual 34, 3) := by decide +kernel
theorem dX2_pay_5 : decode cX2_pay 5 = .ok (.iload_n 2, 1) := by decide +kernel
theorem dX2_pay_6 : decode cX2_pay 6 = .ok (.ifCond .lt 10, 3) := by decide +kernel
theorem dX2_pay_9 : decode cX2_pay 9 = .ok (.iload_n 2, 1) := by decide +kernel
theorem dX2_pay_10 : decode cX2_pay 10 = .ok (.sipush 9999, 3) := by decide +kernel
theorem dX2_pay_13 : decode cX2_pay 13 = .ok (.if_icmp .le 13, 3) := by decide +kernel
theorem dX2_pay_16 : decode cX2_pay 16 = .ok (.new 19, 3) := by decide +kernel
theorem dX2_pay_19 : decode cX2_pay 19 = .ok (.dup, 1) := by decide +kernel
theorem dX2_pay_20 : decode cX2_pay 20 = .ok (.ldc 37, 2) := by decide +kernel
theorem dX2_pay_22 : decode cX2_pay 22 = .ok (.invokespecial 23, 3) := by decide +kernel
theorem dX2_pay_25 : decode cX2_pay 25 = .ok (.athrow, 1) := by decide +kernel
theorem dX2_pay_26 : decode cX2_pay 26 = .ok (.aload_n 0, 1) := by decide +kernel
theorem dX2_pay_27 : decode cX2_pay 27 = .ok (.getfield 10, 3) := by decide +kernel
theorem dX2_pay_30 : decode cX2_pay 30 = .ok (.getfield 39, 3) := by decide +kernel
theorem dX2_pay_33 : decode cX2_pay 33 = .ok (.iload_n 1, 1) := by decide +kernel
theorem dX2_pay_34 : decode cX2_pay 34 = .ok (.iaload, 1) := by decide +kernel
theorem dX2_pay_35 : decode cX2_pay 35 = .ok (.istore_n 3, 1) := by decide +kernel
theorem dX2_pay_36 : decode cX2_pay 36 = .ok (.aload_n 0, 1) := by decide +kernel
theorem dX2_pay_37 : decode cX2_pay 37 = .ok (.getfield 10, 3) := by decide +kernel
theorem dX2_pay_40 : decode cX2_pay 40 = .ok (.iload_n 1, 1) := by decide +kernel
theorem dX2_pay_41 : decode cX2_pay 41 = .ok (.iload_n 2, 1) := by decide +kernel
theorem dX2_pay_42 : decode cX2_pay 42 = .ok (.invokevirtual 43, 3) := by decide +kernel
theorem dX2_pay_45 : decode cX2_pay 45 = .ok (.iload_n 3, 1) := by decide +kernel
theorem dX2_pay_46 : decode cX2_pay 46 = .ok (.ireturn, 1) := by decide +kernel
theorem dX2_clerk_0 : decode cX2_clerk 0 = .ok (.aload_n 0, 1) := by decide +kernel
theorem dX2_clerk_1 : decode cX2_clerk 1 = .ok (.getfield 10, 3) := by decide +kernel
theorem dX2_clerk_4 : decode cX2_clerk 4 = .ok (.getfield 47, 3) := by decide +kernel
theorem dX2_clerk_7 : decode cX2_clerk 7 = .ok (.bipush 6, 2) := by decide +kernel
theorem dX2_clerk_9 : decode cX2_clerk 9 = .ok (.if_icmp .lt 13, 3) := by decide +kernel
theorem dX2_clerk_12 : decode cX2_clerk 12 = .ok (.new 50, 3) := by decide +kernel
theorem dX2_clerk_15 : decode cX2_clerk 15 = .ok (.dup, 1) := by decide +kernel
theorem dX2_clerk_16 : decode cX2_clerk 16 = .ok (.ldc 52, 2) := by decide +kernel
theorem dX2_clerk_18 : decode cX2_clerk 18 = .ok (.invokespecial 54, 3) := by decide +kernel
theorem dX2_clerk_21 : decode cX2_clerk 21 = .ok (.athrow, 1) := by decide +kernel
theorem dX2_clerk_22 : decode cX2_clerk 22 = .ok (.aload_n 0, 1) := by decide +kernel
theorem dX2_clerk_23 : decode cX2_clerk 23 = .ok (.getfield 10, 3) := by decide +kernel
theorem dX2_clerk_26 : decode cX2_clerk 26 = .ok (.invokevirtual 55, 3) := by decide +kernel
theorem dX2_clerk_29 : decode cX2_clerk 29 = .ok (.ireturn, 1) := by decide +kernel
theorem dX2_say_0 : decode cX2_say 0 = .ok (.aload_n 0, 1) := by decide +kernel
theorem dX2_say_1 : decode cX2_say 1 = .ok (.iload_n 1, 1) := by decide +kernel
theorem dX2_say_2 : decode cX2_say 2 = .ok (.invokevirtual 59, 3) := by decide +kernel
theorem dX2_say_5 : decode cX2_say 5 = .ok (.iload_n 2, 1) := by decide +kernel
theorem dX2_say_6 : decode cX2_say 6 = .ok (.iconst 0, 1) := by decide +kernel
theorem dX2_say_7 : decode cX2_say 7 = .ok (.iconst 3, 1) := by decide +kernel
theorem dX2_say_8 : decode cX2_say 8 = .ok (.invokestatic 62, 3) := by decide +kernel
theorem dX2_say_11 : decode cX2_say 11 = .ok (.aload_n 0, 1) := by decide +kernel
theorem dX2_say_12 : decode cX2_say 12 = .ok (.iload_n 3, 1) := by decide +kernel
theorem dX2_say_13 : decode cX2_say 13 = .ok (.invokevirtual 34, 3) := by decide +kernel
theorem dX2_say_16 : decode cX2_say 16 = .ok (.aload_n 0, 1) := by decide +kernel
theorem dX2_say_17 : decode cX2_say 17 = .ok (.iload 4, 2) := by decide +kernel
theorem dX2_say_19 : decode cX2_say 19 = .ok (.invokevirtual 34, 3) := by decide +kernel
theorem dX2_say_22 : decode cX2_say 22 = .ok (.iload_n 2, 1) := by decide +kernel
theorem dX2_say_23 : decode cX2_say 23 = .ok (.iload_n 3, 1) := by decide +kernel
theorem dX2_say_24 : decode cX2_say 24 = .ok (.iload 4, 2) := by decide +kernel
theorem dX2_say_26 : decode cX2_say 26 = .ok (.iload 5, 2) := by decide +kernel
theorem dX2_say_28 : decode cX2_say 28 = .ok (.invokestatic 66, 3) := by decide +kernel
theorem dX2_say_31 : decode cX2_say 31 = .ok (.ifCond .ne 13, 3) := by decide +kernel
theorem dX2_say_34 : decode cX2_say 34 = .ok (.new 19, 3) := by decide +kernel
theorem dX2_say_37 : decode cX2_say 37 = .ok (.dup, 1) := by decide +kernel
theorem dX2_say_38 : decode cX2_say 38 = .ok (.ldc 70, 2) := by decide +kernel
theorem dX2_say_40 : decode cX2_say 40 = .ok (.invokespecial 23, 3) := by decide +kernel
theorem dX2_say_43 : decode cX2_say 43 = .ok (.athrow, 1) := by decide +kernel
theorem dX2_say_44 : decode cX2_say 44 = .ok (.aload_n 0, 1) := by decide +kernel
theorem dX2_say_45 : decode cX2_say 45 = .ok (.getfield 10, 3) := by decide +kernel
theorem dX2_say_48 : decode cX2_say 48 = .ok (.getfield 72, 3) := by decide +kernel
theorem dX2_say_51 : decode cX2_say 51 = .ok (.iload_n 1, 1) := by decide +kernel
theorem dX2_say_52 : decode cX2_say 52 = .ok (.aaload, 1) := by decide +kernel
theorem dX2_say_53 : decode cX2_say 53 = .ok (.astore 6, 2) := by decide +kernel
theorem dX2_say_55 : decode cX2_say 55 = .ok (.aload 6, 2) := by decide +kernel
theorem dX2_say_57 : decode cX2_say 57 = .ok (.getfield 76, 3) := by decide +kernel
theorem dX2_say_60 : decode cX2_say 60 = .ok (.ifCond .ne 21, 3) := by decide +kernel
theorem dX2_say_63 : decode cX2_say 63 = .ok (.aload 6, 2) := by decide +kernel
theorem dX2_say_65 : decode cX2_say 65 = .ok (.getfield 82, 3) := by decide +kernel
theorem dX2_say_68 : decode cX2_say 68 = .ok (.ifCond .ne 13, 3) := by decide +kernel
theorem dX2_say_71 : decode cX2_say 71 = .ok (.aload 6, 2) := by decide +kernel
theorem dX2_say_73 : decode cX2_say 73 = .ok (.getfield 85, 3) := by decide +kernel
theorem dX2_say_76 : decode cX2_say 76 = .ok (.bipush 8, 2) := by decide +kernel
theorem dX2_say_78 : decode cX2_say 78 = .ok (.if_icmp .lt 13, 3) := by decide +kernel
theorem dX2_say_81 : decode cX2_say 81 = .ok (.new 50, 3) := by decide +kernel
theorem dX2_say_84 : decode cX2_say 84 = .ok (.dup, 1) := by decide +kernel
theorem dX2_say_85 : decode cX2_say 85 = .ok (.ldc 88, 2) := by decide +kernel
theorem dX2_say_87 : decode cX2_say 87 = .ok (.invokespecial 54, 3) := by decide +kernel
theorem dX2_say_90 : decode cX2_say 90 = .ok (.athrow, 1) := by decide +kernel
theorem dX2_say_91 : decode cX2_say 91 = .ok (.aload 6, 2) := by decide +kernel
theorem dX2_say_93 : decode cX2_say 93 = .ok (.iload_n 2, 1) := by decide +kernel
theorem dX2_say_94 : decode cX2_say 94 = .ok (.iload_n 3, 1) := by decide +kernel
theorem dX2_say_95 : decode cX2_say 95 = .ok (.iload 4, 2) := by decide +kernel
theorem dX2_say_97 : decode cX2_say 97 = .ok (.iload 5, 2) := by decide +kernel
theorem dX2_say_99 : decode cX2_say 99 = .ok (.invokevirtual 90, 3) := by decide +kernel
theorem dX2_say_102 : decode cX2_say 102 = .ok (.aload 6, 2) := by decide +kernel
theorem dX2_say_104 : decode cX2_say 104 = .ok (.getfield 85, 3) := by decide +kernel
theorem dX2_say_107 : decode cX2_say 107 = .ok (.ireturn, 1) := by decide +kernel
theorem dX2_turn_0 : decode cX2_turn 0 = .ok (.aload_n 0, 1) := by decide +kernel
theorem dX2_turn_1 : decode cX2_turn 1 = .ok (.iload_n 1, 1) := by decide +kernel
theorem dX2_turn_2 : decode cX2_turn 2 = .ok (.invokevirtual 59, 3) := by decide +kernel
theorem dX2_turn_5 : decode cX2_turn 5 = .ok (.aload_n 0, 1) := by decide +kernel
theorem dX2_turn_6 : decode cX2_turn 6 = .ok (.getfield 10, 3) := by decide +kernel
theorem dX2_turn_9 : decode cX2_turn 9 = .ok (.getfield 72, 3) := by decide +kernel
theorem dX2_turn_12 : decode cX2_turn 12 = .ok (.iload_n 1, 1) := by decide +kernel
theorem dX2_turn_13 : decode cX2_turn 13 = .ok (.aaload, 1) := by decide +kernel
theorem dX2_turn_14 : decode cX2_turn 14 = .ok (.invokevirtual 94, 3) := by decide +kernel
theorem dX2_turn_17 : decode cX2_turn 17 = .ok (.ifCond .ne 13, 3) := by decide +kernel
theorem dX2_turn_20 : decode cX2_turn 20 = .ok (.new 50, 3) := by decide +kernel
theorem dX2_turn_23 : decode cX2_turn 23 = .ok (.dup, 1) := by decide +kernel
theorem dX2_turn_24 : decode cX2_turn 24 = .ok (.ldc 98, 2) := by decide +kernel
theorem dX2_turn_26 : decode cX2_turn 26 = .ok (.invokespecial 54, 3) := by decide +kernel
theorem dX2_turn_29 : decode cX2_turn 29 = .ok (.athrow, 1) := by decide +kernel
theorem dX2_turn_30 : decode cX2_turn 30 = .ok (.aload_n 0, 1) := by decide +kernel
theorem dX2_turn_31 : decode cX2_turn 31 = .ok (.getfield 10, 3) := by decide +kernel
theorem dX2_turn_34 : decode cX2_turn 34 = .ok (.iload_n 1, 1) := by decide +kernel
theorem dX2_turn_35 : decode cX2_turn 35 = .ok (.invokevirtual 100, 3) := by decide +kernel
theorem dX2_turn_38 : decode cX2_turn 38 = .ok (.ireturn, 1) := by decide +kernel
theorem dX2_drop_0 : decode cX2_drop 0 = .ok (.aload_n 0, 1) := by decide +kernel
theorem dX2_drop_1 : decode cX2_drop 1 = .ok (.iload_n 1, 1) := by decide +kernel
theorem dX2_drop_2 : decode cX2_drop 2 = .ok (.invokevirtual 59, 3) := by decide +kernel
theorem dX2_drop_5 : decode cX2_drop 5 = .ok (.aload_n 0, 1) := by decide +kernel
theorem dX2_drop_6 : decode cX2_drop 6 = .ok (.getfield 10, 3) := by decide +kernel
theorem dX2_drop_9 : decode cX2_drop 9 = .ok (.getfield 72, 3) := by decide +kernel
theorem dX2_drop_12 : decode cX2_drop 12 = .ok (.iload_n 1, 1) := by decide +kernel
theorem dX2_drop_13 : decode cX2_drop 13 = .ok (.aaload, 1) := by decide +kernel
theorem dX2_drop_14 : decode cX2_drop 14 = .ok (.astore_n 2, 1) := by decide +kernel
theorem dX2_drop_15 : decode cX2_drop 15 = .ok (.aload_n 2, 1) := by decide +kernel
theorem dX2_drop_16 : decode cX2_drop 16 = .ok (.getfield 82, 3) := by decide +kernel
theorem dX2_drop_19 : decode cX2_drop 19 = .ok (.istore_n 3, 1) := by decide +kernel
theorem dX2_drop_20 : decode cX2_drop 20 = .ok (.aload_n 2, 1) := by decide +kernel
theorem dX2_drop_21 : decode cX2_drop 21 = .ok (.invokevirtual 104, 3) := by decide +kernel
theorem dX2_drop_24 : decode cX2_drop 24 = .ok (.iload_n 3, 1) := by decide +kernel
theorem dX2_drop_25 : decode cX2_drop 25 = .ok (.ireturn, 1) := by decide +kernel
theorem dX2_pass_0 : decode cX2_pass 0 = .ok (.iload_n 1, 1) := by decide +kernel
theorem dX2_pass_1 : decode cX2_pass 1 = .ok (.invokestatic 107, 3) := by decide +kernel
theorem dX2_pass_4 : decode cX2_pass 4 = .ok (.aload_n 0, 1) := by decide +kernel
theorem dX2_pass_5 : decode cX2_pass 5 = .ok (.getfield 10, 3) := by decide +kernel
theorem dX2_pass_8 : decode cX2_pass 8 = .ok (.iload_n 1, 1) := by decide +kernel
theorem dX2_pass_9 : decode cX2_pass 9 = .ok (.invokevirtual 110, 3) := by decide +kernel
theorem dX2_pass_12 : decode cX2_pass 12 = .ok (.ireturn, 1) := by decide +kernel
theorem dX2_drawer_0 : decode cX2_drawer 0 = .ok (.aload_n 0, 1) := by decide +kernel
theorem dX2_drawer_1 : decode cX2_drawer 1 = .ok (.iload_n 1, 1) := by decide +kernel
theorem dX2_drawer_2 : decode cX2_drawer 2 = .ok (.invokevirtual 34, 3) := by decide +kernel
theorem dX2_drawer_5 : decode cX2_drawer 5 = .ok (.iload_n 2, 1) := by decide +kernel
theorem dX2_drawer_6 : decode cX2_drawer 6 = .ok (.iconst 0, 1) := by decide +kernel
theorem dX2_drawer_7 : decode cX2_drawer 7 = .ok (.iconst 3, 1) := by decide +kernel
theorem dX2_drawer_8 : decode cX2_drawer 8 = .ok (.invokestatic 62, 3) := by decide +kernel
theorem dX2_drawer_11 : decode cX2_drawer 11 = .ok (.aload_n 0, 1) := by decide +kernel
theorem dX2_drawer_12 : decode cX2_drawer 12 = .ok (.getfield 10, 3) := by decide +kernel
theorem dX2_drawer_15 : decode cX2_drawer 15 = .ok (.iload_n 1, 1) := by decide +kernel
theorem dX2_drawer_16 : decode cX2_drawer 16 = .ok (.iload_n 2, 1) := by decide +kernel
theorem dX2_drawer_17 : decode cX2_drawer 17 = .ok (.invokevirtual 113, 3) := by decide +kernel
theorem dX2_drawer_20 : decode cX2_drawer 20 = .ok (.ireturn, 1) := by decide +kernel
theorem dX2_told_0 : decode cX2_told 0 = .ok (.aload_n 0, 1) := by decide +kernel
theorem dX2_told_1 : decode cX2_told 1 = .ok (.iload_n 1, 1) := by decide +kernel
theorem dX2_told_2 : decode cX2_told 2 = .ok (.invokevirtual 59, 3) := by decide +kernel
theorem dX2_told_5 : decode cX2_told 5 = .ok (.iload_n 2, 1) := by decide +kernel
theorem dX2_told_6 : decode cX2_told 6 = .ok (.iconst 0, 1) := by decide +kernel
theorem dX2_told_7 : decode cX2_told 7 = .ok (.bipush 6, 2) := by decide +kernel
theorem dX2_told_9 : decode cX2_told 9 = .ok (.invokestatic 62, 3) := by decide +kernel
theorem dX2_told_12 : decode cX2_told 12 = .ok (.aload_n 0, 1) := by decide +kernel
theorem dX2_told_13 : decode cX2_told 13 = .ok (.getfield 10, 3) := by decide +kernel
theorem dX2_told_16 : decode cX2_told 16 = .ok (.iload_n 1, 1) := by decide +kernel
theorem dX2_told_17 : decode cX2_told 17 = .ok (.iload_n 2, 1) := by decide +kernel
theorem dX2_told_18 : decode cX2_told 18 = .ok (.invokevirtual 117, 3) := by decide +kernel
theorem dX2_told_21 : decode cX2_told 21 = .ok (.ireturn, 1) := by decide +kernel
theorem dX2_slip_0 : decode cX2_slip 0 = .ok (.aload_n 0, 1) := by decide +kernel
theorem dX2_slip_1 : decode cX2_slip 1 = .ok (.iload_n 1, 1) := by decide +kernel
theorem dX2_slip_2 : decode cX2_slip 2 = .ok (.invokevirtual 59, 3) := by decide +kernel
theorem dX2_slip_5 : decode cX2_slip 5 = .ok (.aload_n 0, 1) := by decide +kernel
theorem dX2_slip_6 : decode cX2_slip 6 = .ok (.iload_n 2, 1) := by decide +kernel
theorem dX2_slip_7 : decode cX2_slip 7 = .ok (.invokevirtual 34, 3) := by decide +kernel
theorem dX2_slip_10 : decode cX2_slip 10 = .ok (.iload_n 3, 1) := by decide +kernel
theorem dX2_slip_11 : decode cX2_slip 11 = .ok (.iconst 0, 1) := by decide +kernel
theorem dX2_slip_12 : decode cX2_slip 12 = .ok (.iconst 2, 1) := by decide +kernel
theorem dX2_slip_13 : decode cX2_slip 13 = .ok (.invokestatic 62, 3) := by decide +kernel
theorem dX2_slip_16 : decode cX2_slip 16 = .ok (.aload_n 0, 1) := by decide +kernel
theorem dX2_slip_17 : decode cX2_slip 17 = .ok (.getfield 10, 3) := by decide +kernel
theorem dX2_slip_20 : decode cX2_slip 20 = .ok (.getfield 72, 3) := by decide +kernel
theorem dX2_slip_23 : decode cX2_slip 23 = .ok (.iload_n 1, 1) := by decide +kernel
theorem dX2_slip_24 : decode cX2_slip 24 = .ok (.aaload, 1) := by decide +kernel
theorem dX2_slip_25 : decode cX2_slip 25 = .ok (.iload_n 2, 1) := by decide +kernel
theorem dX2_slip_26 : decode cX2_slip 26 = .ok (.iload_n 3, 1) := by decide +kernel
theorem dX2_slip_27 : decode cX2_slip 27 = .ok (.invokevirtual 120, 3) := by decide +kernel
theorem dX2_slip_30 : decode cX2_slip 30 = .ok (.ireturn, 1) := by decide +kernel
theorem dX2_step_0 : decode cX2_step 0 = .ok (.aload_n 0, 1) := by decide +kernel
theorem dX2_step_1 : decode cX2_step 1 = .ok (.iload_n 1, 1) := by decide +kernel
theorem dX2_step_2 : decode cX2_step 2 = .ok (.invokevirtual 59, 3) := by decide +kernel
theorem dX2_step_5 : decode cX2_step 5 = .ok (.aload_n 0, 1) := by decide +kernel
theorem dX2_step_6 : decode cX2_step 6 = .ok (.getfield 10, 3) := by decide +kernel
theorem dX2_step_9 : decode cX2_step 9 = .ok (.getfield 72, 3) := by decide +kernel
theorem dX2_step_12 : decode cX2_step 12 = .ok (.iload_n 1, 1) := by decide +kernel
theorem dX2_step_13 : decode cX2_step 13 = .ok (.aaload, 1) := by decide +kernel
theorem dX2_step_14 : decode cX2_step 14 = .ok (.astore 4, 2) := by decide +kernel
theorem dX2_step_16 : decode cX2_step 16 = .ok (.iload_n 2, 1) := by decide +kernel
theorem dX2_step_17 : decode cX2_step 17 = .ok (.ifCond .lt 12, 3) := by decide +kernel
theorem dX2_step_20 : decode cX2_step 20 = .ok (.iload_n 2, 1) := by decide +kernel
theorem dX2_step_21 : decode cX2_step 21 = .ok (.aload 4, 2) := by decide +kernel
theorem dX2_step_23 : decode cX2_step 23 = .ok (.getfield 85, 3) := by decide +kernel
theorem dX2_step_26 : decode cX2_step 26 = .ok (.if_icmp .lt 13, 3) := by decide +kernel
theorem dX2_step_29 : decode cX2_step 29 = .ok (.new 123, 3) := by decide +kernel
theorem dX2_step_32 : decode cX2_step 32 = .ok (.dup, 1) := by decide +kernel
theorem dX2_step_33 : decode cX2_step 33 = .ok (.ldc 125, 2) := by decide +kernel
theorem dX2_step_35 : decode cX2_step 35 = .ok (.invokespecial 127, 3) := by decide +kernel
theorem dX2_step_38 : decode cX2_step 38 = .ok (.athrow, 1) := by decide +kernel
theorem dX2_step_39 : decode cX2_step 39 = .ok (.iload_n 3, 1) := by decide +kernel
theorem dX2_step_40 : decode cX2_step 40 = .ok (.iconst 0, 1) := by decide +kernel
theorem dX2_step_41 : decode cX2_step 41 = .ok (.iconst 3, 1) := by decide +kernel
theorem dX2_step_42 : decode cX2_step 42 = .ok (.invokestatic 62, 3) := by decide +kernel
theorem dX2_step_45 : decode cX2_step 45 = .ok (.aload 4, 2) := by decide +kernel
theorem dX2_step_47 : decode cX2_step 47 = .ok (.iload_n 2, 1) := by decide +kernel
theorem dX2_step_48 : decode cX2_step 48 = .ok (.iload_n 3, 1) := by decide +kernel
theorem dX2_step_49 : decode cX2_step 49 = .ok (.invokevirtual 128, 3) := by decide +kernel
theorem dX2_step_52 : decode cX2_step 52 = .ok (.ireturn, 1) := by decide +kernel
theorem dX2_closing_0 : decode cX2_closing 0 = .ok (.iload_n 1, 1) := by decide +kernel
theorem dX2_closing_1 : decode cX2_closing 1 = .ok (.ifCond .lt 14, 3) := by decide +kernel
theorem dX2_closing_4 : decode cX2_closing 4 = .ok (.iload_n 1, 1) := by decide +kernel
theorem dX2_closing_5 : decode cX2_closing 5 = .ok (.aload_n 0, 1) := by decide +kernel
theorem dX2_closing_6 : decode cX2_closing 6 = .ok (.getfield 10, 3) := by decide +kernel
theorem dX2_closing_9 : decode cX2_closing 9 = .ok (.invokevirtual 131, 3) := by decide +kernel
theorem dX2_closing_12 : decode cX2_closing 12 = .ok (.if_icmp .lt 13, 3) := by decide +kernel
theorem dX2_closing_15 : decode cX2_closing 15 = .ok (.new 123, 3) := by decide +kernel
theorem dX2_closing_18 : decode cX2_closing 18 = .ok (.dup, 1) := by decide +kernel
theorem dX2_closing_19 : decode cX2_closing 19 = .ok (.ldc 134, 2) := by decide +kernel
theorem dX2_closing_21 : decode cX2_closing 21 = .ok (.invokespecial 127, 3) := by decide +kernel
theorem dX2_closing_24 : decode cX2_closing 24 = .ok (.athrow, 1) := by decide +kernel
theorem dX2_closing_25 : decode cX2_closing 25 = .ok (.iload_n 2, 1) := by decide +kernel
theorem dX2_closing_26 : decode cX2_closing 26 = .ok (.iconst 0, 1) := by decide +kernel
theorem dX2_closing_27 : decode cX2_closing 27 = .ok (.iconst 2, 1) := by decide +kernel
theorem dX2_closing_28 : decode cX2_closing 28 = .ok (.invokestatic 62, 3) := by decide +kernel
theorem dX2_closing_31 : decode cX2_closing 31 = .ok (.aload_n 0, 1) := by decide +kernel
theorem dX2_closing_32 : decode cX2_closing 32 = .ok (.getfield 10, 3) := by decide +kernel
theorem dX2_closing_35 : decode cX2_closing 35 = .ok (.iload_n 1, 1) := by decide +kernel
theorem dX2_closing_36 : decode cX2_closing 36 = .ok (.iload_n 2, 1) := by decide +kernel
theorem dX2_closing_37 : decode cX2_closing 37 = .ok (.invokevirtual 136, 3) := by decide +kernel
theorem dX2_closing_40 : decode cX2_closing 40 = .ok (.ireturn, 1) := by decide +kernel
theorem dX2_clash_0 : decode cX2_clash 0 = .ok (.aload_n 0, 1) := by decide +kernel
theorem dX2_clash_1 : decode cX2_clash 1 = .ok (.iload_n 1, 1) := by decide +kernel
theorem dX2_clash_2 : decode cX2_clash 2 = .ok (.invokevirtual 59, 3) := by decide +kernel
theorem dX2_clash_5 : decode cX2_clash 5 = .ok (.aload_n 0, 1) := by decide +kernel
theorem dX2_clash_6 : decode cX2_clash 6 = .ok (.iload_n 2, 1) := by decide +kernel
theorem dX2_clash_7 : decode cX2_clash 7 = .ok (.invokevirtual 59, 3) := by decide +kernel
theorem dX2_clash_10 : decode cX2_clash 10 = .ok (.aload_n 0, 1) := by decide +kernel
theorem dX2_clash_11 : decode cX2_clash 11 = .ok (.getfield 10, 3) := by decide +kernel
theorem dX2_clash_14 : decode cX2_clash 14 = .ok (.iload_n 1, 1) := by decide +kernel
theorem dX2_clash_15 : decode cX2_clash 15 = .ok (.iload_n 2, 1) := by decide +kernel
theorem dX2_clash_16 : decode cX2_clash 16 = .ok (.invokevirtual 139, 3) := by decide +kernel
theorem dX2_clash_19 : decode cX2_clash 19 = .ok (.ireturn, 1) := by decide +kernel
theorem dX2_count_0 : decode cX2_count 0 = .ok (.iload_n 1, 1) := by decide +kernel
theorem dX2_count_1 : decode cX2_count 1 = .ok (.iconst 0, 1) := by decide +kernel
theorem dX2_count_2 : decode cX2_count 2 = .ok (.bipush 6, 2) := by decide +kernel
theorem dX2_count_4 : decode cX2_count 4 = .ok (.invokestatic 62, 3) := by decide +kernel
theorem dX2_count_7 : decode cX2_count 7 = .ok (.aload_n 0, 1) := by decide +kernel
theorem dX2_count_8 : decode cX2_count 8 = .ok (.getfield 10, 3) := by decide +kernel
theorem dX2_count_11 : decode cX2_count 11 = .ok (.iload_n 1, 1) := by decide +kernel
theorem dX2_count_12 : decode cX2_count 12 = .ok (.invokevirtual 143, 3) := by decide +kernel
theorem dX2_count_15 : decode cX2_count 15 = .ok (.ireturn, 1) := by decide +kernel
theorem dX2_alone_0 : decode cX2_alone 0 = .ok (.aload_n 0, 1) := by decide +kernel
theorem dX2_alone_1 : decode cX2_alone 1 = .ok (.iload_n 1, 1) := by decide +kernel
theorem dX2_alone_2 : decode cX2_alone 2 = .ok (.invokevirtual 59, 3) := by decide +kernel
theorem dX2_alone_5 : decode cX2_alone 5 = .ok (.aload_n 0, 1) := by decide +kernel
theorem dX2_alone_6 : decode cX2_alone 6 = .ok (.iload_n 2, 1) := by decide +kernel
theorem dX2_alone_7 : decode cX2_alone 7 = .ok (.invokevirtual 34, 3) := by decide +kernel
theorem dX2_alone_10 : decode cX2_alone 10 = .ok (.aload_n 0, 1) := by decide +kernel
theorem dX2_alone_11 : decode cX2_alone 11 = .ok (.getfield 16, 3) := by decide +kernel
theorem dX2_alone_14 : decode cX2_alone 14 = .ok (.aload_n 0, 1) := by decide +kernel
theorem dX2_alone_15 : decode cX2_alone 15 = .ok (.getfield 10, 3) := by decide +kernel
theorem dX2_alone_18 : decode cX2_alone 18 = .ok (.invokevirtual 146, 3) := by decide +kernel
theorem dX2_alone_21 : decode cX2_alone 21 = .ok (.aload_n 0, 1) := by decide +kernel
theorem dX2_alone_22 : decode cX2_alone 22 = .ok (.getfield 16, 3) := by decide +kernel
theorem dX2_alone_25 : decode cX2_alone 25 = .ok (.iload_n 1, 1) := by decide +kernel
theorem dX2_alone_26 : decode cX2_alone 26 = .ok (.invokevirtual 150, 3) := by decide +kernel
theorem dX2_alone_29 : decode cX2_alone 29 = .ok (.aload_n 0, 1) := by decide +kernel
theorem dX2_alone_30 : decode cX2_alone 30 = .ok (.getfield 16, 3) := by decide +kernel
theorem dX2_alone_33 : decode cX2_alone 33 = .ok (.getfield 39, 3) := by decide +kernel
theorem dX2_alone_36 : decode cX2_alone 36 = .ok (.iload_n 2, 1) := by decide +kernel
theorem dX2_alone_37 : decode cX2_alone 37 = .ok (.iaload, 1) := by decide +kernel
theorem dX2_alone_38 : decode cX2_alone 38 = .ok (.ireturn, 1) := by decide +kernel
theorem dX2_until_0 : decode cX2_until 0 = .ok (.aload_n 0, 1) := by decide +kernel
theorem dX2_until_1 : decode cX2_until 1 = .ok (.getfield 16, 3) := by decide +kernel
theorem dX2_until_4 : decode cX2_until 4 = .ok (.aload_n 0, 1) := by decide +kernel
theorem dX2_until_5 : decode cX2_until 5 = .ok (.getfield 10, 3) := by decide +kernel
theorem dX2_until_8 : decode cX2_until 8 = .ok (.invokevirtual 146, 3) := by decide +kernel
theorem dX2_until_11 : decode cX2_until 11 = .ok (.iconst 0, 1) := by decide +kernel
theorem dX2_until_12 : decode cX2_until 12 = .ok (.istore_n 1, 1) := by decide +kernel
theorem dX2_until_13 : decode cX2_until 13 = .ok (.iload_n 1, 1) := by decide +kernel
theorem dX2_until_14 : decode cX2_until 14 = .ok (.sipush 200, 3) := by decide +kernel
theorem dX2_until_17 : decode cX2_until 17 = .ok (.if_icmp .gt 29, 3) := by decide +kernel
theorem dX2_until_20 : decode cX2_until 20 = .ok (.aload_n 0, 1) := by decide +kernel
theorem dX2_until_21 : decode cX2_until 21 = .ok (.getfield 16, 3) := by decide +kernel
theorem dX2_until_24 : decode cX2_until 24 = .ok (.invokevirtual 153, 3) := by decide +kernel
theorem dX2_until_27 : decode cX2_until 27 = .ok (.ifCond .ne 5, 3) := by decide +kernel
theorem dX2_until_30 : decode cX2_until 30 = .ok (.iload_n 1, 1) := by decide +kernel
theorem dX2_until_31 : decode cX2_until 31 = .ok (.ireturn, 1) := by decide +kernel
theorem dX2_until_32 : decode cX2_until 32 = .ok (.aload_n 0, 1) := by decide +kernel
theorem dX2_until_33 : decode cX2_until 33 = .ok (.getfield 16, 3) := by decide +kernel
theorem dX2_until_36 : decode cX2_until 36 = .ok (.invokevirtual 156, 3) := by decide +kernel
theorem dX2_until_39 : decode cX2_until 39 = .ok (.pop, 1) := by decide +kernel
theorem dX2_until_40 : decode cX2_until 40 = .ok (.iinc 1 1, 3) := by decide +kernel
theorem dX2_until_43 : decode cX2_until 43 = .ok (.goto (-30), 3) := by decide +kernel
theorem dX2_until_46 : decode cX2_until 46 = .ok (.iconst (-1), 1) := by decide +kernel
theorem dX2_until_47 : decode cX2_until 47 = .ok (.ireturn, 1) := by decide +kernel
theorem dX2_foresee_0 : decode cX2_foresee 0 = .ok (.iload_n 1, 1) := by decide +kernel
theorem dX2_foresee_1 : decode cX2_foresee 1 = .ok (.invokestatic 107, 3) := by decide +kernel
theorem dX2_foresee_4 : decode cX2_foresee 4 = .ok (.iload_n 2, 1) := by decide +kernel
theorem dX2_foresee_5 : decode cX2_foresee 5 = .ok (.iconst 2, 1) := by decide +kernel
theorem dX2_foresee_6 : decode cX2_foresee 6 = .ok (.bipush 6, 2) := by decide +kernel
theorem dX2_foresee_8 : decode cX2_foresee 8 = .ok (.invokestatic 62, 3) := by decide +kernel
theorem dX2_foresee_11 : decode cX2_foresee 11 = .ok (.aload_n 0, 1) := by decide +kernel
theorem dX2_foresee_12 : decode cX2_foresee 12 = .ok (.getfield 16, 3) := by decide +kernel
theorem dX2_foresee_15 : decode cX2_foresee 15 = .ok (.aload_n 0, 1) := by decide +kernel
theorem dX2_foresee_16 : decode cX2_foresee 16 = .ok (.getfield 10, 3) := by decide +kernel
theorem dX2_foresee_19 : decode cX2_foresee 19 = .ok (.invokevirtual 146, 3) := by decide +kernel
theorem dX2_foresee_22 : decode cX2_foresee 22 = .ok (.aload_n 0, 1) := by decide +kernel
theorem dX2_foresee_23 : decode cX2_foresee 23 = .ok (.getfield 16, 3) := by decide +kernel
theorem dX2_foresee_26 : decode cX2_foresee 26 = .ok (.iload_n 1, 1) := by decide +kernel
theorem dX2_foresee_27 : decode cX2_foresee 27 = .ok (.invokevirtual 110, 3) := by decide +kernel
theorem dX2_foresee_30 : decode cX2_foresee 30 = .ok (.pop, 1) := by decide +kernel
theorem dX2_foresee_31 : decode cX2_foresee 31 = .ok (.aload_n 0, 1) := by decide +kernel
theorem dX2_foresee_32 : decode cX2_foresee 32 = .ok (.getfield 16, 3) := by decide +kernel
theorem dX2_foresee_35 : decode cX2_foresee 35 = .ok (.iload_n 2, 1) := by decide +kernel
theorem dX2_foresee_36 : decode cX2_foresee 36 = .ok (.invokevirtual 143, 3) := by decide +kernel
theorem dX2_foresee_39 : decode cX2_foresee 39 = .ok (.ireturn, 1) := by decide +kernel
theorem dX2_advise_0 : decode cX2_advise 0 = .ok (.iconst (-1), 1) := by decide +kernel
theorem dX2_advise_1 : decode cX2_advise 1 = .ok (.istore_n 1, 1) := by decide +kernel
theorem dX2_advise_2 : decode cX2_advise 2 = .ok (.iconst 0, 1) := by decide +kernel
theorem dX2_advise_3 : decode cX2_advise 3 = .ok (.istore_n 2, 1) := by decide +kernel
theorem dX2_advise_4 : decode cX2_advise 4 = .ok (.iconst 0, 1) := by decide +kernel
theorem dX2_advise_5 : decode cX2_advise 5 = .ok (.istore_n 3, 1) := by decide +kernel
theorem dX2_advise_6 : decode cX2_advise 6 = .ok (.iconst 0, 1) := by decide +kernel
theorem dX2_advise_7 : decode cX2_advise 7 = .ok (.istore 4, 2) := by decide +kernel
theorem dX2_advise_9 : decode cX2_advise 9 = .ok (.iload 4, 2) := by decide +kernel
theorem dX2_advise_11 : decode cX2_advise 11 = .ok (.aload_n 0, 1) := by decide +kernel
theorem dX2_advise_12 : decode cX2_advise 12 = .ok (.getfield 10, 3) := by decide +kernel
theorem dX2_advise_15 : decode cX2_advise 15 = .ok (.getfield 47, 3) := by decide +kernel
theorem dX2_advise_18 : decode cX2_advise 18 = .ok (.if_icmp .ge 81, 3) := by decide +kernel
theorem dX2_advise_21 : decode cX2_advise 21 = .ok (.aload_n 0, 1) := by decide +kernel
theorem dX2_advise_22 : decode cX2_advise 22 = .ok (.getfield 10, 3) := by decide +kernel
theorem dX2_advise_25 : decode cX2_advise 25 = .ok (.getfield 72, 3) := by decide +kernel
theorem dX2_advise_28 : decode cX2_advise 28 = .ok (.iload 4, 2) := by decide +kernel
theorem dX2_advise_30 : decode cX2_advise 30 = .ok (.aaload, 1) := by decide +kernel
theorem dX2_advise_31 : decode cX2_advise 31 = .ok (.astore 5, 2) := by decide +kernel
theorem dX2_advise_33 : decode cX2_advise 33 = .ok (.aload 5, 2) := by decide +kernel
theorem dX2_advise_35 : decode cX2_advise 35 = .ok (.invokevirtual 94, 3) := by decide +kernel
theorem dX2_advise_38 : decode cX2_advise 38 = .ok (.ifCond .ne 6, 3) := by decide +kernel
theorem dX2_advise_41 : decode cX2_advise 41 = .ok (.goto 52, 3) := by decide +kernel
theorem dX2_advise_44 : decode cX2_advise 44 = .ok (.aload_n 0, 1) := by decide +kernel
theorem dX2_advise_45 : decode cX2_advise 45 = .ok (.getfield 10, 3) := by decide +kernel
theorem dX2_advise_48 : decode cX2_advise 48 = .ok (.iload 4, 2) := by decide +kernel
theorem dX2_advise_50 : decode cX2_advise 50 = .ok (.invokevirtual 159, 3) := by decide +kernel
theorem dX2_advise_53 : decode cX2_advise 53 = .ok (.istore 6, 2) := by decide +kernel
theorem dX2_advise_55 : decode cX2_advise 55 = .ok (.iload_n 1, 1) := by decide +kernel
theorem dX2_advise_56 : decode cX2_advise 56 = .ok (.iconst (-1), 1) := by decide +kernel
theorem dX2_advise_57 : decode cX2_advise 57 = .ok (.if_icmp .eq 24, 3) := by decide +kernel
theorem dX2_advise_60 : decode cX2_advise 60 = .ok (.iload 6, 2) := by decide +kernel
theorem dX2_advise_62 : decode cX2_advise 62 = .ok (.iload_n 2, 1) := by decide +kernel
theorem dX2_advise_63 : decode cX2_advise 63 = .ok (.if_icmp .lt 18, 3) := by decide +kernel
theorem dX2_advise_66 : decode cX2_advise 66 = .ok (.iload 6, 2) := by decide +kernel
theorem dX2_advise_68 : decode cX2_advise 68 = .ok (.iload_n 2, 1) := by decide +kernel
theorem dX2_advise_69 : decode cX2_advise 69 = .ok (.if_icmp .ne 24, 3) := by decide +kernel
theorem dX2_advise_72 : decode cX2_advise 72 = .ok (.aload 5, 2) := by decide +kernel
theorem dX2_advise_74 : decode cX2_advise 74 = .ok (.getfield 82, 3) := by decide +kernel
theorem dX2_advise_77 : decode cX2_advise 77 = .ok (.iload_n 3, 1) := by decide +kernel
theorem dX2_advise_78 : decode cX2_advise 78 = .ok (.if_icmp .le 15, 3) := by decide +kernel
theorem dX2_advise_81 : decode cX2_advise 81 = .ok (.iload 4, 2) := by decide +kernel
theorem dX2_advise_83 : decode cX2_advise 83 = .ok (.istore_n 1, 1) := by decide +kernel
theorem dX2_advise_84 : decode cX2_advise 84 = .ok (.iload 6, 2) := by decide +kernel
theorem dX2_advise_86 : decode cX2_advise 86 = .ok (.istore_n 2, 1) := by decide +kernel
theorem dX2_advise_87 : decode cX2_advise 87 = .ok (.aload 5, 2) := by decide +kernel
theorem dX2_advise_89 : decode cX2_advise 89 = .ok (.getfield 82, 3) := by decide +kernel
theorem dX2_advise_92 : decode cX2_advise 92 = .ok (.istore_n 3, 1) := by decide +kernel
theorem dX2_advise_93 : decode cX2_advise 93 = .ok (.iinc 4 1, 3) := by decide +kernel
theorem dX2_advise_96 : decode cX2_advise 96 = .ok (.goto (-87), 3) := by decide +kernel
theorem dX2_advise_99 : decode cX2_advise 99 = .ok (.iload_n 1, 1) := by decide +kernel
theorem dX2_advise_100 : decode cX2_advise 100 = .ok (.ireturn, 1) := by decide +kernel
theorem dX2_mean_0 : decode cX2_mean 0 = .ok (.aload_n 0, 1) := by decide +kernel
theorem dX2_mean_1 : decode cX2_mean 1 = .ok (.getfield 10, 3) := by decide +kernel
theorem dX2_mean_4 : decode cX2_mean 4 = .ok (.getfield 47, 3) := by decide +kernel
theorem dX2_mean_7 : decode cX2_mean 7 = .ok (.iconst 1, 1) := by decide +kernel
theorem dX2_mean_8 : decode cX2_mean 8 = .ok (.if_icmp .ge 5, 3) := by decide +kernel
theorem dX2_mean_11 : decode cX2_mean 11 = .ok (.dconst 0, 1) := by decide +kernel
theorem dX2_mean_12 : decode cX2_mean 12 = .ok (.dreturn, 1) := by decide +kernel
theorem dX2_mean_13 : decode cX2_mean 13 = .ok (.aload_n 0, 1) := by decide +kernel
theorem dX2_mean_14 : decode cX2_mean 14 = .ok (.getfield 10, 3) := by decide +kernel
theorem dX2_mean_17 : decode cX2_mean 17 = .ok (.invokevirtual 162, 3) := by decide +kernel
theorem dX2_mean_20 : decode cX2_mean 20 = .ok (.i2d, 1) := by decide +kernel
theorem dX2_mean_21 : decode cX2_mean 21 = .ok (.aload_n 0, 1) := by decide +kernel
theorem dX2_mean_22 : decode cX2_mean 22 = .ok (.getfield 10, 3) := by decide +kernel
theorem dX2_mean_25 : decode cX2_mean 25 = .ok (.getfield 47, 3) := by decide +kernel
theorem dX2_mean_28 : decode cX2_mean 28 = .ok (.i2d, 1) := by decide +kernel
theorem dX2_mean_29 : decode cX2_mean 29 = .ok (.ddiv, 1) := by decide +kernel
theorem dX2_mean_30 : decode cX2_mean 30 = .ok (.dreturn, 1) := by decide +kernel
theorem dX2_digest_0 : decode cX2_digest 0 = .ok (.ldc2_w 165, 3) := by decide +kernel
theorem dX2_digest_3 : decode cX2_digest 3 = .ok (.lstore_n 1, 1) := by decide +kernel
theorem dX2_digest_4 : decode cX2_digest 4 = .ok (.iconst 0, 1) := by decide +kernel
theorem dX2_digest_5 : decode cX2_digest 5 = .ok (.istore_n 3, 1) := by decide +kernel
theorem dX2_digest_6 : decode cX2_digest 6 = .ok (.iload_n 3, 1) := by decide +kernel
theorem dX2_digest_7 : decode cX2_digest 7 = .ok (.bipush 7, 2) := by decide +kernel
theorem dX2_digest_9 : decode cX2_digest 9 = .ok (.if_icmp .ge 25, 3) := by decide +kernel
theorem dX2_digest_12 : decode cX2_digest 12 = .ok (.lload_n 1, 1) := by decide +kernel
theorem dX2_digest_13 : decode cX2_digest 13 = .ok (.ldc2_w 167, 3) := by decide +kernel
theorem dX2_digest_16 : decode cX2_digest 16 = .ok (.lmul, 1) := by decide +kernel
theorem dX2_digest_17 : decode cX2_digest 17 = .ok (.aload_n 0, 1) := by decide +kernel
theorem dX2_digest_18 : decode cX2_digest 18 = .ok (.getfield 10, 3) := by decide +kernel
theorem dX2_digest_21 : decode cX2_digest 21 = .ok (.iload_n 3, 1) := by decide +kernel
theorem dX2_digest_22 : decode cX2_digest 22 = .ok (.invokevirtual 143, 3) := by decide +kernel
theorem dX2_digest_25 : decode cX2_digest 25 = .ok (.i2l, 1) := by decide +kernel
theorem dX2_digest_26 : decode cX2_digest 26 = .ok (.ladd, 1) := by decide +kernel
theorem dX2_digest_27 : decode cX2_digest 27 = .ok (.lstore_n 1, 1) := by decide +kernel
theorem dX2_digest_28 : decode cX2_digest 28 = .ok (.iinc 3 1, 3) := by decide +kernel
theorem dX2_digest_31 : decode cX2_digest 31 = .ok (.goto (-25), 3) := by decide +kernel
theorem dX2_digest_34 : decode cX2_digest 34 = .ok (.aload_n 0, 1) := by decide +kernel
theorem dX2_digest_35 : decode cX2_digest 35 = .ok (.lload_n 1, 1) := by decide +kernel
theorem dX2_digest_36 : decode cX2_digest 36 = .ok (.invokevirtual 169, 3) := by decide +kernel
theorem dX2_digest_39 : decode cX2_digest 39 = .ok (.lstore_n 1, 1) := by decide +kernel
theorem dX2_digest_40 : decode cX2_digest 40 = .ok (.aload_n 0, 1) := by decide +kernel
theorem dX2_digest_41 : decode cX2_digest 41 = .ok (.lload_n 1, 1) := by decide +kernel
theorem dX2_digest_42 : decode cX2_digest 42 = .ok (.invokevirtual 173, 3) := by decide +kernel
theorem dX2_digest_45 : decode cX2_digest 45 = .ok (.lstore_n 1, 1) := by decide +kernel
theorem dX2_digest_46 : decode cX2_digest 46 = .ok (.aload_n 0, 1) := by decide +kernel
theorem dX2_digest_47 : decode cX2_digest 47 = .ok (.lload_n 1, 1) := by decide +kernel
theorem dX2_digest_48 : decode cX2_digest 48 = .ok (.invokevirtual 176, 3) := by decide +kernel
theorem dX2_digest_51 : decode cX2_digest 51 = .ok (.lreturn, 1) := by decide +kernel
theorem dX2_digestDrawers_0 : decode cX2_digestDrawers 0 = .ok (.lload_n 1, 1) := by decide +kernel
theorem dX2_digestDrawers_1 : decode cX2_digestDrawers 1 = .ok (.lstore_n 3, 1) := by decide +kernel
theorem dX2_digestDrawers_2 : decode cX2_digestDrawers 2 = .ok (.iconst 0, 1) := by decide +kernel
theorem dX2_digestDrawers_3 : decode cX2_digestDrawers 3 = .ok (.istore 5, 2) := by decide +kernel
theorem dX2_digestDrawers_5 : decode cX2_digestDrawers 5 = .ok (.iload 5, 2) := by decide +kernel
theorem dX2_digestDrawers_7 : decode cX2_digestDrawers 7 = .ok (.aload_n 0, 1) := by decide +kernel
theorem dX2_digestDrawers_8 : decode cX2_digestDrawers 8 = .ok (.getfield 10, 3) := by decide +kernel
theorem dX2_digestDrawers_11 : decode cX2_digestDrawers 11 = .ok (.getfield 26, 3) := by decide +kernel
theorem dX2_digestDrawers_14 : decode cX2_digestDrawers 14 = .ok (.if_icmp .ge 43, 3) := by decide +kernel
theorem dX2_digestDrawers_17 : decode cX2_digestDrawers 17 = .ok (.iconst 0, 1) := by decide +kernel
theorem dX2_digestDrawers_18 : decode cX2_digestDrawers 18 = .ok (.istore 6, 2) := by decide +kernel
theorem dX2_digestDrawers_20 : decode cX2_digestDrawers 20 = .ok (.iload 6, 2) := by decide +kernel
theorem dX2_digestDrawers_22 : decode cX2_digestDrawers 22 = .ok (.iconst 4, 1) := by decide +kernel
theorem dX2_digestDrawers_23 : decode cX2_digestDrawers 23 = .ok (.if_icmp .ge 28, 3) := by decide +kernel
theorem dX2_digestDrawers_26 : decode cX2_digestDrawers 26 = .ok (.lload_n 3, 1) := by decide +kernel
theorem dX2_digestDrawers_27 : decode cX2_digestDrawers 27 = .ok (.ldc2_w 167, 3) := by decide +kernel
theorem dX2_digestDrawers_30 : decode cX2_digestDrawers 30 = .ok (.lmul, 1) := by decide +kernel
theorem dX2_digestDrawers_31 : decode cX2_digestDrawers 31 = .ok (.aload_n 0, 1) := by decide +kernel
theorem dX2_digestDrawers_32 : decode cX2_digestDrawers 32 = .ok (.getfield 10, 3) := by decide +kernel
theorem dX2_digestDrawers_35 : decode cX2_digestDrawers 35 = .ok (.iload 5, 2) := by decide +kernel
theorem dX2_digestDrawers_37 : decode cX2_digestDrawers 37 = .ok (.iload 6, 2) := by decide +kernel
theorem dX2_digestDrawers_39 : decode cX2_digestDrawers 39 = .ok (.invokevirtual 113, 3) := by decide +kernel
theorem dX2_digestDrawers_42 : decode cX2_digestDrawers 42 = .ok (.i2l, 1) := by decide +kernel
theorem dX2_digestDrawers_43 : decode cX2_digestDrawers 43 = .ok (.ladd, 1) := by decide +kernel
theorem dX2_digestDrawers_44 : decode cX2_digestDrawers 44 = .ok (.lstore_n 3, 1) := by decide +kernel
theorem dX2_digestDrawers_45 : decode cX2_digestDrawers 45 = .ok (.iinc 6 1, 3) := by decide +kernel
theorem dX2_digestDrawers_48 : decode cX2_digestDrawers 48 = .ok (.goto (-28), 3) := by decide +kernel
theorem dX2_digestDrawers_51 : decode cX2_digestDrawers 51 = .ok (.iinc 5 1, 3) := by decide +kernel
theorem dX2_digestDrawers_54 : decode cX2_digestDrawers 54 = .ok (.goto (-49), 3) := by decide +kernel
theorem dX2_digestDrawers_57 : decode cX2_digestDrawers 57 = .ok (.lload_n 3, 1) := by decide +kernel
theorem dX2_digestDrawers_58 : decode cX2_digestDrawers 58 = .ok (.lreturn, 1) := by decide +kernel
theorem dX2_digestClerks_0 : decode cX2_digestClerks 0 = .ok (.lload_n 1, 1) := by decide +kernel
theorem dX2_digestClerks_1 : decode cX2_digestClerks 1 = .ok (.lstore_n 3, 1) := by decide +kernel
theorem dX2_digestClerks_2 : decode cX2_digestClerks 2 = .ok (.iconst 0, 1) := by decide +kernel
theorem dX2_digestClerks_3 : decode cX2_digestClerks 3 = .ok (.istore 5, 2) := by decide +kernel
theorem dX2_digestClerks_5 : decode cX2_digestClerks 5 = .ok (.iload 5, 2) := by decide +kernel
theorem dX2_digestClerks_7 : decode cX2_digestClerks 7 = .ok (.aload_n 0, 1) := by decide +kernel
theorem dX2_digestClerks_8 : decode cX2_digestClerks 8 = .ok (.getfield 10, 3) := by decide +kernel
theorem dX2_digestClerks_11 : decode cX2_digestClerks 11 = .ok (.getfield 47, 3) := by decide +kernel
theorem dX2_digestClerks_14 : decode cX2_digestClerks 14 = .ok (.if_icmp .ge 105, 3) := by decide +kernel
theorem dX2_digestClerks_17 : decode cX2_digestClerks 17 = .ok (.iconst 0, 1) := by decide +kernel
theorem dX2_digestClerks_18 : decode cX2_digestClerks 18 = .ok (.istore 6, 2) := by decide +kernel
theorem dX2_digestClerks_20 : decode cX2_digestClerks 20 = .ok (.iload 6, 2) := by decide +kernel
theorem dX2_digestClerks_22 : decode cX2_digestClerks 22 = .ok (.bipush 7, 2) := by decide +kernel
theorem dX2_digestClerks_24 : decode cX2_digestClerks 24 = .ok (.if_icmp .ge 28, 3) := by decide +kernel
theorem dX2_digestClerks_27 : decode cX2_digestClerks 27 = .ok (.lload_n 3, 1) := by decide +kernel
theorem dX2_digestClerks_28 : decode cX2_digestClerks 28 = .ok (.ldc2_w 167, 3) := by decide +kernel
theorem dX2_digestClerks_31 : decode cX2_digestClerks 31 = .ok (.lmul, 1) := by decide +kernel
theorem dX2_digestClerks_32 : decode cX2_digestClerks 32 = .ok (.aload_n 0, 1) := by decide +kernel
theorem dX2_digestClerks_33 : decode cX2_digestClerks 33 = .ok (.getfield 10, 3) := by decide +kernel
theorem dX2_digestClerks_36 : decode cX2_digestClerks 36 = .ok (.iload 5, 2) := by decide +kernel
theorem dX2_digestClerks_38 : decode cX2_digestClerks 38 = .ok (.iload 6, 2) := by decide +kernel
theorem dX2_digestClerks_40 : decode cX2_digestClerks 40 = .ok (.invokevirtual 117, 3) := by decide +kernel
theorem dX2_digestClerks_43 : decode cX2_digestClerks 43 = .ok (.i2l, 1) := by decide +kernel
theorem dX2_digestClerks_44 : decode cX2_digestClerks 44 = .ok (.ladd, 1) := by decide +kernel
theorem dX2_digestClerks_45 : decode cX2_digestClerks 45 = .ok (.lstore_n 3, 1) := by decide +kernel
theorem dX2_digestClerks_46 : decode cX2_digestClerks 46 = .ok (.iinc 6 1, 3) := by decide +kernel
theorem dX2_digestClerks_49 : decode cX2_digestClerks 49 = .ok (.goto (-29), 3) := by decide +kernel
theorem dX2_digestClerks_52 : decode cX2_digestClerks 52 = .ok (.iconst 0, 1) := by decide +kernel
theorem dX2_digestClerks_53 : decode cX2_digestClerks 53 = .ok (.istore 6, 2) := by decide +kernel
theorem dX2_digestClerks_55 : decode cX2_digestClerks 55 = .ok (.iload 6, 2) := by decide +kernel
theorem dX2_digestClerks_57 : decode cX2_digestClerks 57 = .ok (.aload_n 0, 1) := by decide +kernel
theorem dX2_digestClerks_58 : decode cX2_digestClerks 58 = .ok (.getfield 10, 3) := by decide +kernel
theorem dX2_digestClerks_61 : decode cX2_digestClerks 61 = .ok (.getfield 26, 3) := by decide +kernel
theorem dX2_digestClerks_64 : decode cX2_digestClerks 64 = .ok (.if_icmp .ge 49, 3) := by decide +kernel
theorem dX2_digestClerks_67 : decode cX2_digestClerks 67 = .ok (.iconst 0, 1) := by decide +kernel
theorem dX2_digestClerks_68 : decode cX2_digestClerks 68 = .ok (.istore 7, 2) := by decide +kernel
theorem dX2_digestClerks_70 : decode cX2_digestClerks 70 = .ok (.iload 7, 2) := by decide +kernel
theorem dX2_digestClerks_72 : decode cX2_digestClerks 72 = .ok (.iconst 3, 1) := by decide +kernel
theorem dX2_digestClerks_73 : decode cX2_digestClerks 73 = .ok (.if_icmp .ge 34, 3) := by decide +kernel
theorem dX2_digestClerks_76 : decode cX2_digestClerks 76 = .ok (.lload_n 3, 1) := by decide +kernel
theorem dX2_digestClerks_77 : decode cX2_digestClerks 77 = .ok (.ldc2_w 167, 3) := by decide +kernel
theorem dX2_digestClerks_80 : decode cX2_digestClerks 80 = .ok (.lmul, 1) := by decide +kernel
theorem dX2_digestClerks_81 : decode cX2_digestClerks 81 = .ok (.aload_n 0, 1) := by decide +kernel
theorem dX2_digestClerks_82 : decode cX2_digestClerks 82 = .ok (.getfield 10, 3) := by decide +kernel
theorem dX2_digestClerks_85 : decode cX2_digestClerks 85 = .ok (.getfield 72, 3) := by decide +kernel
theorem dX2_digestClerks_88 : decode cX2_digestClerks 88 = .ok (.iload 5, 2) := by decide +kernel
theorem dX2_digestClerks_90 : decode cX2_digestClerks 90 = .ok (.aaload, 1) := by decide +kernel
theorem dX2_digestClerks_91 : decode cX2_digestClerks 91 = .ok (.iload 6, 2) := by decide +kernel
theorem dX2_digestClerks_93 : decode cX2_digestClerks 93 = .ok (.iload 7, 2) := by decide +kernel
theorem dX2_digestClerks_95 : decode cX2_digestClerks 95 = .ok (.invokevirtual 120, 3) := by decide +kernel
theorem dX2_digestClerks_98 : decode cX2_digestClerks 98 = .ok (.i2l, 1) := by decide +kernel
theorem dX2_digestClerks_99 : decode cX2_digestClerks 99 = .ok (.ladd, 1) := by decide +kernel
theorem dX2_digestClerks_100 : decode cX2_digestClerks 100 = .ok (.lstore_n 3, 1) := by decide +kernel
theorem dX2_digestClerks_101 : decode cX2_digestClerks 101 = .ok (.iinc 7 1, 3) := by decide +kernel
theorem dX2_digestClerks_104 : decode cX2_digestClerks 104 = .ok (.goto (-34), 3) := by decide +kernel
theorem dX2_digestClerks_107 : decode cX2_digestClerks 107 = .ok (.iinc 6 1, 3) := by decide +kernel
theorem dX2_digestClerks_110 : decode cX2_digestClerks 110 = .ok (.goto (-55), 3) := by decide +kernel
theorem dX2_digestClerks_113 : decode cX2_digestClerks 113 = .ok (.iinc 5 1, 3) := by decide +kernel
theorem dX2_digestClerks_116 : decode cX2_digestClerks 116 = .ok (.goto (-111), 3) := by decide +kernel
theorem dX2_digestClerks_119 : decode cX2_digestClerks 119 = .ok (.lload_n 3, 1) := by decide +kernel
theorem dX2_digestClerks_120 : decode cX2_digestClerks 120 = .ok (.lreturn, 1) := by decide +kernel
theorem dX2_digestClosings_0 : decode cX2_digestClosings 0 = .ok (.lload_n 1, 1) := by decide +kernel
theorem dX2_digestClosings_1 : decode cX2_digestClosings 1 = .ok (.lstore_n 3, 1) := by decide +kernel
theorem dX2_digestClosings_2 : decode cX2_digestClosings 2 = .ok (.aload_n 0, 1) := by decide +kernel
theorem dX2_digestClosings_3 : decode cX2_digestClosings 3 = .ok (.getfield 10, 3) := by decide +kernel
theorem dX2_digestClosings_6 : decode cX2_digestClosings 6 = .ok (.invokevirtual 131, 3) := by decide +kernel
theorem dX2_digestClosings_9 : decode cX2_digestClosings 9 = .ok (.istore 5, 2) := by decide +kernel
theorem dX2_digestClosings_11 : decode cX2_digestClosings 11 = .ok (.iconst 0, 1) := by decide +kernel
theorem dX2_digestClosings_12 : decode cX2_digestClosings 12 = .ok (.istore 6, 2) := by decide +kernel
theorem dX2_digestClosings_14 : decode cX2_digestClosings 14 = .ok (.iload 6, 2) := by decide +kernel
theorem dX2_digestClosings_16 : decode cX2_digestClosings 16 = .ok (.iload 5, 2) := by decide +kernel
theorem dX2_digestClosings_18 : decode cX2_digestClosings 18 = .ok (.if_icmp .ge 43, 3) := by decide +kernel
theorem dX2_digestClosings_21 : decode cX2_digestClosings 21 = .ok (.iconst 0, 1) := by decide +kernel
theorem dX2_digestClosings_22 : decode cX2_digestClosings 22 = .ok (.istore 7, 2) := by decide +kernel
theorem dX2_digestClosings_24 : decode cX2_digestClosings 24 = .ok (.iload 7, 2) := by decide +kernel
theorem dX2_digestClosings_26 : decode cX2_digestClosings 26 = .ok (.iconst 3, 1) := by decide +kernel
theorem dX2_digestClosings_27 : decode cX2_digestClosings 27 = .ok (.if_icmp .ge 28, 3) := by decide +kernel
theorem dX2_digestClosings_30 : decode cX2_digestClosings 30 = .ok (.lload_n 3, 1) := by decide +kernel
theorem dX2_digestClosings_31 : decode cX2_digestClosings 31 = .ok (.ldc2_w 167, 3) := by decide +kernel
theorem dX2_digestClosings_34 : decode cX2_digestClosings 34 = .ok (.lmul, 1) := by decide +kernel
theorem dX2_digestClosings_35 : decode cX2_digestClosings 35 = .ok (.aload_n 0, 1) := by decide +kernel
theorem dX2_digestClosings_36 : decode cX2_digestClosings 36 = .ok (.getfield 10, 3) := by decide +kernel
theorem dX2_digestClosings_39 : decode cX2_digestClosings 39 = .ok (.iload 6, 2) := by decide +kernel
theorem dX2_digestClosings_41 : decode cX2_digestClosings 41 = .ok (.iload 7, 2) := by decide +kernel
theorem dX2_digestClosings_43 : decode cX2_digestClosings 43 = .ok (.invokevirtual 136, 3) := by decide +kernel
theorem dX2_digestClosings_46 : decode cX2_digestClosings 46 = .ok (.i2l, 1) := by decide +kernel
theorem dX2_digestClosings_47 : decode cX2_digestClosings 47 = .ok (.ladd, 1) := by decide +kernel
theorem dX2_digestClosings_48 : decode cX2_digestClosings 48 = .ok (.lstore_n 3, 1) := by decide +kernel
theorem dX2_digestClosings_49 : decode cX2_digestClosings 49 = .ok (.iinc 7 1, 3) := by decide +kernel
theorem dX2_digestClosings_52 : decode cX2_digestClosings 52 = .ok (.goto (-28), 3) := by decide +kernel
theorem dX2_digestClosings_55 : decode cX2_digestClosings 55 = .ok (.iinc 6 1, 3) := by decide +kernel
theorem dX2_digestClosings_58 : decode cX2_digestClosings 58 = .ok (.goto (-44), 3) := by decide +kernel
theorem dX2_digestClosings_61 : decode cX2_digestClosings 61 = .ok (.lload_n 3, 1) := by decide +kernel
theorem dX2_digestClosings_62 : decode cX2_digestClosings 62 = .ok (.lreturn, 1) := by decide +kernel
theorem dX2_fitsKind_0 : decode cX2_fitsKind 0 = .ok (.iload_n 3, 1) := by decide +kernel
theorem dX2_fitsKind_1 : decode cX2_fitsKind 1 = .ok (.sipush (-999), 3) := by decide +kernel
theorem dX2_fitsKind_4 : decode cX2_fitsKind 4 = .ok (.if_icmp .lt 10, 3) := by decide +kernel
theorem dX2_fitsKind_7 : decode cX2_fitsKind 7 = .ok (.iload_n 3, 1) := by decide +kernel
theorem dX2_fitsKind_8 : decode cX2_fitsKind 8 = .ok (.sipush 999, 3) := by decide +kernel
theorem dX2_fitsKind_11 : decode cX2_fitsKind 11 = .ok (.if_icmp .le 5, 3) := by decide +kernel
theorem dX2_fitsKind_14 : decode cX2_fitsKind 14 = .ok (.iconst 0, 1) := by decide +kernel
theorem dX2_fitsKind_15 : decode cX2_fitsKind 15 = .ok (.ireturn, 1) := by decide +kernel
theorem dX2_fitsKind_16 : decode cX2_fitsKind 16 = .ok (.iload_n 0, 1) := by decide +kernel
theorem dX2_fitsKind_17 : decode cX2_fitsKind 17 = .ok (.iconst 1, 1) := by decide +kernel
theorem dX2_fitsKind_18 : decode cX2_fitsKind 18 = .ok (.if_icmp .ne 13, 3) := by decide +kernel
theorem dX2_fitsKind_21 : decode cX2_fitsKind 21 = .ok (.iload_n 3, 1) := by decide +kernel
theorem dX2_fitsKind_22 : decode cX2_fitsKind 22 = .ok (.ifCond .lt 7, 3) := by decide +kernel
theorem dX2_fitsKind_25 : decode cX2_fitsKind 25 = .ok (.iconst 1, 1) := by decide +kernel
theorem dX2_fitsKind_26 : decode cX2_fitsKind 26 = .ok (.goto 4, 3) := by decide +kernel
theorem dX2_fitsKind_29 : decode cX2_fitsKind 29 = .ok (.iconst 0, 1) := by decide +kernel
theorem dX2_fitsKind_30 : decode cX2_fitsKind 30 = .ok (.ireturn, 1) := by decide +kernel
theorem dX2_fitsKind_31 : decode cX2_fitsKind 31 = .ok (.iload_n 0, 1) := by decide +kernel
theorem dX2_fitsKind_32 : decode cX2_fitsKind 32 = .ok (.iconst 3, 1) := by decide +kernel
theorem dX2_fitsKind_33 : decode cX2_fitsKind 33 = .ok (.if_icmp .ne 19, 3) := by decide +kernel
theorem dX2_fitsKind_36 : decode cX2_fitsKind 36 = .ok (.iload_n 3, 1) := by decide +kernel
theorem dX2_fitsKind_37 : decode cX2_fitsKind 37 = .ok (.iconst 1, 1) := by decide +kernel
theorem dX2_fitsKind_38 : decode cX2_fitsKind 38 = .ok (.if_icmp .lt 12, 3) := by decide +kernel
theorem dX2_fitsKind_41 : decode cX2_fitsKind 41 = .ok (.iload_n 1, 1) := by decide +kernel
theorem dX2_fitsKind_42 : decode cX2_fitsKind 42 = .ok (.iload_n 2, 1) := by decide +kernel
theorem dX2_fitsKind_43 : decode cX2_fitsKind 43 = .ok (.if_icmp .eq 7, 3) := by decide +kernel
theorem dX2_fitsKind_46 : decode cX2_fitsKind 46 = .ok (.iconst 1, 1) := by decide +kernel
theorem dX2_fitsKind_47 : decode cX2_fitsKind 47 = .ok (.goto 4, 3) := by decide +kernel
theorem dX2_fitsKind_50 : decode cX2_fitsKind 50 = .ok (.iconst 0, 1) := by decide +kernel
theorem dX2_fitsKind_51 : decode cX2_fitsKind 51 = .ok (.ireturn, 1) := by decide +kernel
theorem dX2_fitsKind_52 : decode cX2_fitsKind 52 = .ok (.iconst 1, 1) := by decide +kernel
theorem dX2_fitsKind_53 : decode cX2_fitsKind 53 = .ok (.ireturn, 1) := by decide +kernel
theorem dX2_needDrawer_0 : decode cX2_needDrawer 0 = .ok (.iload_n 1, 1) := by decide +kernel
theorem dX2_needDrawer_1 : decode cX2_needDrawer 1 = .ok (.ifCond .lt 14, 3) := by decide +kernel
theorem dX2_needDrawer_4 : decode cX2_needDrawer 4 = .ok (.iload_n 1, 1) := by decide +kernel
theorem dX2_needDrawer_5 : decode cX2_needDrawer 5 = .ok (.aload_n 0, 1) := by decide +kernel
theorem dX2_needDrawer_6 : decode cX2_needDrawer 6 = .ok (.getfield 10, 3) := by decide +kernel
theorem dX2_needDrawer_9 : decode cX2_needDrawer 9 = .ok (.getfield 26, 3) := by decide +kernel
theorem dX2_needDrawer_12 : decode cX2_needDrawer 12 = .ok (.if_icmp .lt 13, 3) := by decide +kernel
theorem dX2_needDrawer_15 : decode cX2_needDrawer 15 = .ok (.new 123, 3) := by decide +kernel
theorem dX2_needDrawer_18 : decode cX2_needDrawer 18 = .ok (.dup, 1) := by decide +kernel
theorem dX2_needDrawer_19 : decode cX2_needDrawer 19 = .ok (.ldc 179, 2) := by decide +kernel
theorem dX2_needDrawer_21 : decode cX2_needDrawer 21 = .ok (.invokespecial 127, 3) := by decide +kernel
theorem dX2_needDrawer_24 : decode cX2_needDrawer 24 = .ok (.athrow, 1) := by decide +kernel
theorem dX2_needDrawer_25 : decode cX2_needDrawer 25 = .ok (.return_, 1) := by decide +kernel
theorem dX2_needClerk_0 : decode cX2_needClerk 0 = .ok (.iload_n 1, 1) := by decide +kernel
theorem dX2_needClerk_1 : decode cX2_needClerk 1 = .ok (.ifCond .lt 14, 3) := by decide +kernel
theorem dX2_needClerk_4 : decode cX2_needClerk 4 = .ok (.iload_n 1, 1) := by decide +kernel
theorem dX2_needClerk_5 : decode cX2_needClerk 5 = .ok (.aload_n 0, 1) := by decide +kernel
theorem dX2_needClerk_6 : decode cX2_needClerk 6 = .ok (.getfield 10, 3) := by decide +kernel
theorem dX2_needClerk_9 : decode cX2_needClerk 9 = .ok (.getfield 47, 3) := by decide +kernel
theorem dX2_needClerk_12 : decode cX2_needClerk 12 = .ok (.if_icmp .lt 13, 3) := by decide +kernel
theorem dX2_needClerk_15 : decode cX2_needClerk 15 = .ok (.new 123, 3) := by decide +kernel
theorem dX2_needClerk_18 : decode cX2_needClerk 18 = .ok (.dup, 1) := by decide +kernel
theorem dX2_needClerk_19 : decode cX2_needClerk 19 = .ok (.ldc 181, 2) := by decide +kernel
theorem dX2_needClerk_21 : decode cX2_needClerk 21 = .ok (.invokespecial 127, 3) := by decide +kernel
theorem dX2_needClerk_24 : decode cX2_needClerk 24 = .ok (.athrow, 1) := by decide +kernel
theorem dX2_needClerk_25 : decode cX2_needClerk 25 = .ok (.return_, 1) := by decide +kernel
theorem dX2_needWhat_0 : decode cX2_needWhat 0 = .ok (.iload_n 0, 1) := by decide +kernel
theorem dX2_needWhat_1 : decode cX2_needWhat 1 = .ok (.iload_n 1, 1) := by decide +kernel
theorem dX2_needWhat_2 : decode cX2_needWhat 2 = .ok (.if_icmp .lt 8, 3) := by decide +kernel
theorem dX2_needWhat_5 : decode cX2_needWhat 5 = .ok (.iload_n 0, 1) := by decide +kernel
theorem dX2_needWhat_6 : decode cX2_needWhat 6 = .ok (.iload_n 2, 1) := by decide +kernel
theorem dX2_needWhat_7 : decode cX2_needWhat 7 = .ok (.if_icmp .le 13, 3) := by decide +kernel
theorem dX2_needWhat_10 : decode cX2_needWhat 10 = .ok (.new 123, 3) := by decide +kernel
theorem dX2_needWhat_13 : decode cX2_needWhat 13 = .ok (.dup, 1) := by decide +kernel
theorem dX2_needWhat_14 : decode cX2_needWhat 14 = .ok (.ldc 183, 2) := by decide +kernel
theorem dX2_needWhat_16 : decode cX2_needWhat 16 = .ok (.invokespecial 127, 3) := by decide +kernel
theorem dX2_needWhat_19 : decode cX2_needWhat 19 = .ok (.athrow, 1) := by decide +kernel
theorem dX2_needWhat_20 : decode cX2_needWhat 20 = .ok (.return_, 1) := by decide +kernel
theorem dX2_needRounds_0 : decode cX2_needRounds 0 = .ok (.iload_n 0, 1) := by decide +kernel
theorem dX2_needRounds_1 : decode cX2_needRounds 1 = .ok (.iconst 1, 1) := by decide +kernel
theorem dX2_needRounds_2 : decode cX2_needRounds 2 = .ok (.if_icmp .lt 9, 3) := by decide +kernel
theorem dX2_needRounds_5 : decode cX2_needRounds 5 = .ok (.iload_n 0, 1) := by decide +kernel
theorem dX2_needRounds_6 : decode cX2_needRounds 6 = .ok (.bipush 50, 2) := by decide +kernel
theorem dX2_needRounds_8 : decode cX2_needRounds 8 = .ok (.if_icmp .le 13, 3) := by decide +kernel
theorem dX2_needRounds_11 : decode cX2_needRounds 11 = .ok (.new 19, 3) := by decide +kernel
theorem dX2_needRounds_14 : decode cX2_needRounds 14 = .ok (.dup, 1) := by decide +kernel
theorem dX2_needRounds_15 : decode cX2_needRounds 15 = .ok (.ldc 185, 2) := by decide +kernel
theorem dX2_needRounds_17 : decode cX2_needRounds 17 = .ok (.invokespecial 23, 3) := by decide +kernel
theorem dX2_needRounds_20 : decode cX2_needRounds 20 = .ok (.athrow, 1) := by decide +kernel
theorem dX2_needRounds_21 : decode cX2_needRounds 21 = .ok (.return_, 1) := by decide +kernel
theorem dX3_init_0 : decode cX3_init 0 = .ok (.aload_n 0, 1) := by decide +kernel
theorem dX3_init_1 : decode cX3_init 1 = .ok (.invokespecial 3, 3) := by decide +kernel
theorem dX3_init_4 : decode cX3_init 4 = .ok (.aload_n 0, 1) := by decide +kernel
theorem dX3_init_5 : decode cX3_init 5 = .ok (.bipush 6, 2) := by decide +kernel
theorem dX3_init_7 : decode cX3_init 7 = .ok (.putfield 9, 3) := by decide +kernel
theorem dX3_init_10 : decode cX3_init 10 = .ok (.aload_n 0, 1) := by decide +kernel
theorem dX3_init_11 : decode cX3_init 11 = .ok (.bipush 8, 2) := by decide +kernel
theorem dX3_init_13 : decode cX3_init 13 = .ok (.newarray .int, 2) := by decide +kernel
theorem dX3_init_15 : decode cX3_init 15 = .ok (.putfield 15, 3) := by decide +kernel
theorem dX3_init_18 : decode cX3_init 18 = .ok (.aload_n 0, 1) := by decide +kernel
theorem dX3_init_19 : decode cX3_init 19 = .ok (.bipush 8, 2) := by decide +kernel
theorem dX3_init_21 : decode cX3_init 21 = .ok (.newarray .int, 2) := by decide +kernel
theorem dX3_init_23 : decode cX3_init 23 = .ok (.putfield 19, 3) := by decide +kernel
theorem dX3_init_26 : decode cX3_init 26 = .ok (.aload_n 0, 1) := by decide +kernel
theorem dX3_init_27 : decode cX3_init 27 = .ok (.sipush 192, 3) := by decide +kernel
theorem dX3_init_30 : decode cX3_init 30 = .ok (.newarray .int, 2) := by decide +kernel
theorem dX3_init_32 : decode cX3_init 32 = .ok (.putfield 22, 3) := by decide +kernel
theorem dX3_init_35 : decode cX3_init 35 = .ok (.aload_n 0, 1) := by decide +kernel
theorem dX3_init_36 : decode cX3_init 36 = .ok (.bipush 6, 2) := by decide +kernel
theorem dX3_init_38 : decode cX3_init 38 = .ok (.newarray .int, 2) := by decide +kernel
theorem dX3_init_40 : decode cX3_init 40 = .ok (.putfield 25, 3) := by decide +kernel
theorem dX3_init_43 : decode cX3_init 43 = .ok (.aload_n 0, 1) := by decide +kernel
theorem dX3_init_44 : decode cX3_init 44 = .ok (.bipush 6, 2) := by decide +kernel
theorem dX3_init_46 : decode cX3_init 46 = .ok (.newarray .int, 2) := by decide +kernel
theorem dX3_init_48 : decode cX3_init 48 = .ok (.putfield 28, 3) := by decide +kernel
theorem dX3_init_51 : decode cX3_init 51 = .ok (.aload_n 0, 1) := by decide +kernel
theorem dX3_init_52 : decode cX3_init 52 = .ok (.bipush 6, 2) := by decide +kernel
theorem dX3_init_54 : decode cX3_init 54 = .ok (.newarray .int, 2) := by decide +kernel
theorem dX3_init_56 : decode cX3_init 56 = .ok (.putfield 31, 3) := by decide +kernel
theorem dX3_init_59 : decode cX3_init 59 = .ok (.aload_n 0, 1) := by decide +kernel
theorem dX3_init_60 : decode cX3_init 60 = .ok (.bipush 6, 2) := by decide +kernel
theorem dX3_init_62 : decode cX3_init 62 = .ok (.newarray .int, 2) := by decide +kernel
theorem dX3_init_64 : decode cX3_init 64 = .ok (.putfield 34, 3) := by decide +kernel
theorem dX3_init_67 : decode cX3_init 67 = .ok (.aload_n 0, 1) := by decide +kernel
theorem dX3_init_68 : decode cX3_init 68 = .ok (.bipush 48, 2) := by decide +kernel
theorem dX3_init_70 : decode cX3_init 70 = .ok (.newarray .int, 2) := by decide +kernel
theorem dX3_init_72 : decode cX3_init 72 = .ok (.putfield 37, 3) := by decide +kernel
theorem dX3_init_75 : decode cX3_init 75 = .ok (.aload_n 0, 1) := by decide +kernel
theorem dX3_init_76 : decode cX3_init 76 = .ok (.bipush 48, 2) := by decide +kernel
theorem dX3_init_78 : decode cX3_init 78 = .ok (.newarray .int, 2) := by decide +kernel
theorem dX3_init_80 : decode cX3_init 80 = .ok (.putfield 40, 3) := by decide +kernel
theorem dX3_init_83 : decode cX3_init 83 = .ok (.aload_n 0, 1) := by decide +kernel
theorem dX3_init_84 : decode cX3_init 84 = .ok (.bipush 48, 2) := by decide +kernel
theorem dX3_init_86 : decode cX3_init 86 = .ok (.newarray .int, 2) := by decide +kernel
theorem dX3_init_88 : decode cX3_init 88 = .ok (.putfield 43, 3) := by decide +kernel
theorem dX3_init_91 : decode cX3_init 91 = .ok (.aload_n 0, 1) := by decide +kernel
theorem dX3_init_92 : decode cX3_init 92 = .ok (.bipush 10, 2) := by decide +kernel
theorem dX3_init_94 : decode cX3_init 94 = .ok (.newarray .int, 2) := by decide +kernel
theorem dX3_init_96 : decode cX3_init 96 = .ok (.putfield 46, 3) := by decide +kernel
theorem dX3_init_99 : decode cX3_init 99 = .ok (.aload_n 0, 1) := by decide +kernel
theorem dX3_init_100 : decode cX3_init 100 = .ok (.bipush 10, 2) := by decide +kernel
theorem dX3_init_102 : decode cX3_init 102 = .ok (.newarray .int, 2) := by decide +kernel
theorem dX3_init_104 : decode cX3_init 104 = .ok (.putfield 49, 3) := by decide +kernel
theorem dX3_init_107 : decode cX3_init 107 = .ok (.aload_n 0, 1) := by decide +kernel
theorem dX3_init_108 : decode cX3_init 108 = .ok (.bipush 10, 2) := by decide +kernel
theorem dX3_init_110 : decode cX3_init 110 = .ok (.newarray .int, 2) := by decide +kernel
theorem dX3_init_112 : decode cX3_init 112 = .ok (.putfield 52, 3) := by decide +kernel
theorem dX3_init_115 : decode cX3_init 115 = .ok (.return_, 1) := by decide +kernel
theorem dX3_copy_0 : decode cX3_copy 0 = .ok (.aload_n 0, 1) := by decide +kernel
theorem dX3_copy_1 : decode cX3_copy 1 = .ok (.iconst 0, 1) := by decide +kernel
theorem dX3_copy_2 : decode cX3_copy 2 = .ok (.aload_n 1, 1) := by decide +kernel
theorem dX3_copy_3 : decode cX3_copy 3 = .ok (.iconst 0, 1) := by decide +kernel
theorem dX3_copy_4 : decode cX3_copy 4 = .ok (.aload_n 1, 1) := by decide +kernel
theorem dX3_copy_5 : decode cX3_copy 5 = .ok (.arraylength, 1) := by decide +kernel
theorem dX3_copy_6 : decode cX3_copy 6 = .ok (.invokestatic 55, 3) := by decide +kernel
theorem dX3_copy_9 : decode cX3_copy 9 = .ok (.return_, 1) := by decide +kernel
theorem dX3_become_0 : decode cX3_become 0 = .ok (.aload_n 0, 1) := by decide +kernel
theorem dX3_become_1 : decode cX3_become 1 = .ok (.aload_n 1, 1) := by decide +kernel
theorem dX3_become_2 : decode cX3_become 2 = .ok (.getfield 9, 3) := by decide +kernel
theorem dX3_become_5 : decode cX3_become 5 = .ok (.putfield 9, 3) := by decide +kernel
theorem dX3_become_8 : decode cX3_become 8 = .ok (.aload_n 0, 1) := by decide +kernel
theorem dX3_become_9 : decode cX3_become 9 = .ok (.aload_n 1, 1) := by decide +kernel
theorem dX3_become_10 : decode cX3_become 10 = .ok (.getfield 61, 3) := by decide +kernel
theorem dX3_become_13 : decode cX3_become 13 = .ok (.putfield 61, 3) := by decide +kernel
theorem dX3_become_16 : decode cX3_become 16 = .ok (.aload_n 0, 1) := by decide +kernel
theorem dX3_become_17 : decode cX3_become 17 = .ok (.aload_n 1, 1) := by decide +kernel
theorem dX3_become_18 : decode cX3_become 18 = .ok (.getfield 64, 3) := by decide +kernel
theorem dX3_become_21 : decode cX3_become 21 = .ok (.putfield 64, 3) := by decide +kernel
theorem dX3_become_24 : decode cX3_become 24 = .ok (.aload_n 1, 1) := by decide +kernel
theorem dX3_become_25 : decode cX3_become 25 = .ok (.getfield 15, 3) := by decide +kernel
theorem dX3_become_28 : decode cX3_become 28 = .ok (.aload_n 0, 1) := by decide +kernel
theorem dX3_become_29 : decode cX3_become 29 = .ok (.getfield 15, 3) := by decide +kernel
theorem dX3_become_32 : decode cX3_become 32 = .ok (.invokestatic 67, 3) := by decide +kernel
theorem dX3_become_35 : decode cX3_become 35 = .ok (.aload_n 1, 1) := by decide +kernel
theorem dX3_become_36 : decode cX3_become 36 = .ok (.getfield 19, 3) := by decide +kernel
theorem dX3_become_39 : decode cX3_become 39 = .ok (.aload_n 0, 1) := by decide +kernel
theorem dX3_become_40 : decode cX3_become 40 = .ok (.getfield 19, 3) := by decide +kernel
theorem dX3_become_43 : decode cX3_become 43 = .ok (.invokestatic 67, 3) := by decide +kernel
theorem dX3_become_46 : decode cX3_become 46 = .ok (.aload_n 1, 1) := by decide +kernel
theorem dX3_become_47 : decode cX3_become 47 = .ok (.getfield 22, 3) := by decide +kernel
theorem dX3_become_50 : decode cX3_become 50 = .ok (.aload_n 0, 1) := by decide +kernel
theorem dX3_become_51 : decode cX3_become 51 = .ok (.getfield 22, 3) := by decide +kernel
theorem dX3_become_54 : decode cX3_become 54 = .ok (.invokestatic 67, 3) := by decide +kernel
theorem dX3_become_57 : decode cX3_become 57 = .ok (.aload_n 1, 1) := by decide +kernel
theorem dX3_become_58 : decode cX3_become 58 = .ok (.getfield 25, 3) := by decide +kernel
theorem dX3_become_61 : decode cX3_become 61 = .ok (.aload_n 0, 1) := by decide +kernel
theorem dX3_become_62 : decode cX3_become 62 = .ok (.getfield 25, 3) := by decide +kernel
theorem dX3_become_65 : decode cX3_become 65 = .ok (.invokestatic 67, 3) := by decide +kernel
theorem dX3_become_68 : decode cX3_become 68 = .ok (.aload_n 1, 1) := by decide +kernel
theorem dX3_become_69 : decode cX3_become 69 = .ok (.getfield 28, 3) := by decide +kernel
theorem dX3_become_72 : decode cX3_become 72 = .ok (.aload_n 0, 1) := by decide +kernel
theorem dX3_become_73 : decode cX3_become 73 = .ok (.getfield 28, 3) := by decide +kernel
theorem dX3_become_76 : decode cX3_become 76 = .ok (.invokestatic 67, 3) := by decide +kernel
theorem dX3_become_79 : decode cX3_become 79 = .ok (.aload_n 1, 1) := by decide +kernel
theorem dX3_become_80 : decode cX3_become 80 = .ok (.getfield 31, 3) := by decide +kernel
theorem dX3_become_83 : decode cX3_become 83 = .ok (.aload_n 0, 1) := by decide +kernel
theorem dX3_become_84 : decode cX3_become 84 = .ok (.getfield 31, 3) := by decide +kernel
theorem dX3_become_87 : decode cX3_become 87 = .ok (.invokestatic 67, 3) := by decide +kernel
theorem dX3_become_90 : decode cX3_become 90 = .ok (.aload_n 1, 1) := by decide +kernel
theorem dX3_become_91 : decode cX3_become 91 = .ok (.getfield 34, 3) := by decide +kernel
theorem dX3_become_94 : decode cX3_become 94 = .ok (.aload_n 0, 1) := by decide +kernel
theorem dX3_become_95 : decode cX3_become 95 = .ok (.getfield 34, 3) := by decide +kernel
theorem dX3_become_98 : decode cX3_become 98 = .ok (.invokestatic 67, 3) := by decide +kernel
theorem dX3_become_101 : decode cX3_become 101 = .ok (.aload_n 1, 1) := by decide +kernel
theorem dX3_become_102 : decode cX3_become 102 = .ok (.getfield 37, 3) := by decide +kernel
theorem dX3_become_105 : decode cX3_become 105 = .ok (.aload_n 0, 1) := by decide +kernel
theorem dX3_become_106 : decode cX3_become 106 = .ok (.getfield 37, 3) := by decide +kernel
theorem dX3_become_109 : decode cX3_become 109 = .ok (.invokestatic 67, 3) := by decide +kernel
theorem dX3_become_112 : decode cX3_become 112 = .ok (.aload_n 1, 1) := by decide +kernel
theorem dX3_become_113 : decode cX3_become 113 = .ok (.getfield 40, 3) := by decide +kernel
theorem dX3_become_116 : decode cX3_become 116 = .ok (.aload_n 0, 1) := by decide +kernel
theorem dX3_become_117 : decode cX3_become 117 = .ok (.getfield 40, 3) := by decide +kernel
theorem dX3_become_120 : decode cX3_become 120 = .ok (.invokestatic 67, 3) := by decide +kernel
theorem dX3_become_123 : decode cX3_become 123 = .ok (.aload_n 1, 1) := by decide +kernel
theorem dX3_become_124 : decode cX3_become 124 = .ok (.getfield 43, 3) := by decide +kernel
theorem dX3_become_127 : decode cX3_become 127 = .ok (.aload_n 0, 1) := by decide +kernel
theorem dX3_become_128 : decode cX3_become 128 = .ok (.getfield 43, 3) := by decide +kernel
theorem dX3_become_131 : decode cX3_become 131 = .ok (.invokestatic 67, 3) := by decide +kernel
theorem dX3_become_134 : decode cX3_become 134 = .ok (.aload_n 1, 1) := by decide +kernel
theorem dX3_become_135 : decode cX3_become 135 = .ok (.getfield 46, 3) := by decide +kernel
theorem dX3_become_138 : decode cX3_become 138 = .ok (.aload_n 0, 1) := by decide +kernel
theorem dX3_become_139 : decode cX3_become 139 = .ok (.getfield 46, 3) := by decide +kernel
theorem dX3_become_142 : decode cX3_become 142 = .ok (.invokestatic 67, 3) := by decide +kernel
theorem dX3_become_145 : decode cX3_become 145 = .ok (.aload_n 1, 1) := by decide +kernel
theorem dX3_become_146 : decode cX3_become 146 = .ok (.getfield 49, 3) := by decide +kernel
theorem dX3_become_149 : decode cX3_become 149 = .ok (.aload_n 0, 1) := by decide +kernel
theorem dX3_become_150 : decode cX3_become 150 = .ok (.getfield 49, 3) := by decide +kernel
theorem dX3_become_153 : decode cX3_become 153 = .ok (.invokestatic 67, 3) := by decide +kernel
theorem dX3_become_156 : decode cX3_become 156 = .ok (.aload_n 1, 1) := by decide +kernel
theorem dX3_become_157 : decode cX3_become 157 = .ok (.getfield 52, 3) := by decide +kernel
theorem dX3_become_160 : decode cX3_become 160 = .ok (.aload_n 0, 1) := by decide +kernel
theorem dX3_become_161 : decode cX3_become 161 = .ok (.getfield 52, 3) := by decide +kernel
theorem dX3_become_164 : decode cX3_become 164 = .ok (.invokestatic 67, 3) := by decide +kernel
theorem dX3_become_167 : decode cX3_become 167 = .ok (.return_, 1) := by decide +kernel
theorem dX3_begin_0 : decode cX3_begin 0 = .ok (.aload_n 0, 1) := by decide +kernel
theorem dX3_begin_1 : decode cX3_begin 1 = .ok (.iload_n 1, 1) := by decide +kernel
theorem dX3_begin_2 : decode cX3_begin 2 = .ok (.putfield 9, 3) := by decide +kernel
theorem dX3_begin_5 : decode cX3_begin 5 = .ok (.aload_n 0, 1) := by decide +kernel
theorem dX3_begin_6 : decode cX3_begin 6 = .ok (.iconst 0, 1) := by decide +kernel
theorem dX3_begin_7 : decode cX3_begin 7 = .ok (.putfield 61, 3) := by decide +kernel
theorem dX3_begin_10 : decode cX3_begin 10 = .ok (.aload_n 0, 1) := by decide +kernel
theorem dX3_begin_11 : decode cX3_begin 11 = .ok (.iconst 0, 1) := by decide +kernel
theorem dX3_begin_12 : decode cX3_begin 12 = .ok (.putfield 64, 3) := by decide +kernel
theorem dX3_begin_15 : decode cX3_begin 15 = .ok (.iconst 0, 1) := by decide +kernel
theorem dX3_begin_16 : decode cX3_begin 16 = .ok (.istore_n 2, 1) := by decide +kernel
theorem dX3_begin_17 : decode cX3_begin 17 = .ok (.iload_n 2, 1) := by decide +kernel
theorem dX3_begin_18 : decode cX3_begin 18 = .ok (.bipush 8, 2) := by decide +kernel
theorem dX3_begin_20 : decode cX3_begin 20 = .ok (.if_icmp .ge 23, 3) := by decide +kernel
theorem dX3_begin_23 : decode cX3_begin 23 = .ok (.aload_n 0, 1) := by decide +kernel
theorem dX3_begin_24 : decode cX3_begin 24 = .ok (.getfield 15, 3) := by decide +kernel
theorem dX3_begin_27 : decode cX3_begin 27 = .ok (.iload_n 2, 1) := by decide +kernel
theorem dX3_begin_28 : decode cX3_begin 28 = .ok (.iconst 0, 1) := by decide +kernel
theorem dX3_begin_29 : decode cX3_begin 29 = .ok (.iastore, 1) := by decide +kernel
theorem dX3_begin_30 : decode cX3_begin 30 = .ok (.aload_n 0, 1) := by decide +kernel
theorem dX3_begin_31 : decode cX3_begin 31 = .ok (.getfield 19, 3) := by decide +kernel
theorem dX3_begin_34 : decode cX3_begin 34 = .ok (.iload_n 2, 1) := by decide +kernel
theorem dX3_begin_35 : decode cX3_begin 35 = .ok (.iconst 0, 1) := by decide +kernel
theorem dX3_begin_36 : decode cX3_begin 36 = .ok (.iastore, 1) := by decide +kernel
theorem dX3_begin_37 : decode cX3_begin 37 = .ok (.iinc 2 1, 3) := by decide +kernel
theorem dX3_begin_40 : decode cX3_begin 40 = .ok (.goto (-23), 3) := by decide +kernel
theorem dX3_begin_43 : decode cX3_begin 43 = .ok (.return_, 1) := by decide +kernel
theorem dX3_sum_0 : decode cX3_sum 0 = .ok (.iconst 0, 1) := by decide +kernel
theorem dX3_sum_1 : decode cX3_sum 1 = .ok (.istore_n 1, 1) := by decide +kernel
theorem dX3_sum_2 : decode cX3_sum 2 = .ok (.iconst 0, 1) := by decide +kernel
theorem dX3_sum_3 : decode cX3_sum 3 = .ok (.istore_n 2, 1) := by decide +kernel
theorem dX3_sum_4 : decode cX3_sum 4 = .ok (.iload_n 2, 1) := by decide +kernel
theorem dX3_sum_5 : decode cX3_sum 5 = .ok (.aload_n 0, 1) := by decide +kernel
theorem dX3_sum_6 : decode cX3_sum 6 = .ok (.getfield 9, 3) := by decide +kernel
theorem dX3_sum_9 : decode cX3_sum 9 = .ok (.if_icmp .ge 18, 3) := by decide +kernel
theorem dX3_sum_12 : decode cX3_sum 12 = .ok (.iload_n 1, 1) := by decide +kernel
theorem dX3_sum_13 : decode cX3_sum 13 = .ok (.aload_n 0, 1) := by decide +kernel
theorem dX3_sum_14 : decode cX3_sum 14 = .ok (.getfield 15, 3) := by decide +kernel
theorem dX3_sum_17 : decode cX3_sum 17 = .ok (.iload_n 2, 1) := by decide +kernel
theorem dX3_sum_18 : decode cX3_sum 18 = .ok (.iaload, 1) := by decide +kernel
theorem dX3_sum_19 : decode cX3_sum 19 = .ok (.iadd, 1) := by decide +kernel
theorem dX3_sum_20 : decode cX3_sum 20 = .ok (.istore_n 1, 1) := by decide +kernel
theorem dX3_sum_21 : decode cX3_sum 21 = .ok (.iinc 2 1, 3) := by decide +kernel
theorem dX3_sum_24 : decode cX3_sum 24 = .ok (.goto (-20), 3) := by decide +kernel
theorem dX3_sum_27 : decode cX3_sum 27 = .ok (.iload_n 1, 1) := by decide +kernel
theorem dX3_sum_28 : decode cX3_sum 28 = .ok (.ireturn, 1) := by decide +kernel
theorem dX3_clear_0 : decode cX3_clear 0 = .ok (.aload_n 0, 1) := by decide +kernel
theorem dX3_clear_1 : decode cX3_clear 1 = .ok (.getfield 28, 3) := by decide +kernel
theorem dX3_clear_4 : decode cX3_clear 4 = .ok (.iload_n 1, 1) := by decide +kernel
theorem dX3_clear_5 : decode cX3_clear 5 = .ok (.iconst 0, 1) := by decide +kernel
theorem dX3_clear_6 : decode cX3_clear 6 = .ok (.iastore, 1) := by decide +kernel
theorem dX3_clear_7 : decode cX3_clear 7 = .ok (.aload_n 0, 1) := by decide +kernel
theorem dX3_clear_8 : decode cX3_clear 8 = .ok (.getfield 31, 3) := by decide +kernel
theorem dX3_clear_11 : decode cX3_clear 11 = .ok (.iload_n 1, 1) := by decide +kernel
theorem dX3_clear_12 : decode cX3_clear 12 = .ok (.iconst 0, 1) := by decide +kernel
theorem dX3_clear_13 : decode cX3_clear 13 = .ok (.iastore, 1) := by decide +kernel
theorem dX3_clear_14 : decode cX3_clear 14 = .ok (.iconst 0, 1) := by decide +kernel
theorem dX3_clear_15 : decode cX3_clear 15 = .ok (.istore_n 2, 1) := by decide +kernel
theorem dX3_clear_16 : decode cX3_clear 16 = .ok (.iload_n 2, 1) := by decide +kernel
theorem dX3_clear_17 : decode cX3_clear 17 = .ok (.bipush 8, 2) := by decide +kernel
theorem dX3_clear_19 : decode cX3_clear 19 = .ok (.if_icmp .ge 45, 3) := by decide +kernel
theorem dX3_clear_22 : decode cX3_clear 22 = .ok (.aload_n 0, 1) := by decide +kernel
theorem dX3_clear_23 : decode cX3_clear 23 = .ok (.getfield 37, 3) := by decide +kernel
theorem dX3_clear_26 : decode cX3_clear 26 = .ok (.bipush 8, 2) := by decide +kernel
theorem dX3_clear_28 : decode cX3_clear 28 = .ok (.iload_n 1, 1) := by decide +kernel
theorem dX3_clear_29 : decode cX3_clear 29 = .ok (.imul, 1) := by decide +kernel
theorem dX3_clear_30 : decode cX3_clear 30 = .ok (.iload_n 2, 1) := by decide +kernel
theorem dX3_clear_31 : decode cX3_clear 31 = .ok (.iadd, 1) := by decide +kernel
theorem dX3_clear_32 : decode cX3_clear 32 = .ok (.iconst (-1), 1) := by decide +kernel
theorem dX3_clear_33 : decode cX3_clear 33 = .ok (.iastore, 1) := by decide +kernel
theorem dX3_clear_34 : decode cX3_clear 34 = .ok (.aload_n 0, 1) := by decide +kernel
theorem dX3_clear_35 : decode cX3_clear 35 = .ok (.getfield 40, 3) := by decide +kernel
theorem dX3_clear_38 : decode cX3_clear 38 = .ok (.bipush 8, 2) := by decide +kernel
theorem dX3_clear_40 : decode cX3_clear 40 = .ok (.iload_n 1, 1) := by decide +kernel
theorem dX3_clear_41 : decode cX3_clear 41 = .ok (.imul, 1) := by decide +kernel
theorem dX3_clear_42 : decode cX3_clear 42 = .ok (.iload_n 2, 1) := by decide +kernel
theorem dX3_clear_43 : decode cX3_clear 43 = .ok (.iadd, 1) := by decide +kernel
theorem dX3_clear_44 : decode cX3_clear 44 = .ok (.iconst (-1), 1) := by decide +kernel
theorem dX3_clear_45 : decode cX3_clear 45 = .ok (.iastore, 1) := by decide +kernel
theorem dX3_clear_46 : decode cX3_clear 46 = .ok (.aload_n 0, 1) := by decide +kernel
theorem dX3_clear_47 : decode cX3_clear 47 = .ok (.getfield 43, 3) := by decide +kernel
theorem dX3_clear_50 : decode cX3_clear 50 = .ok (.bipush 8, 2) := by decide +kernel
theorem dX3_clear_52 : decode cX3_clear 52 = .ok (.iload_n 1, 1) := by decide +kernel
theorem dX3_clear_53 : decode cX3_clear 53 = .ok (.imul, 1) := by decide +kernel
theorem dX3_clear_54 : decode cX3_clear 54 = .ok (.iload_n 2, 1) := by decide +kernel
theorem dX3_clear_55 : decode cX3_clear 55 = .ok (.iadd, 1) := by decide +kernel
theorem dX3_clear_56 : decode cX3_clear 56 = .ok (.iconst (-1), 1) := by decide +kernel
theorem dX3_clear_57 : decode cX3_clear 57 = .ok (.iastore, 1) := by decide +kernel
theorem dX3_clear_58 : decode cX3_clear 58 = .ok (.iinc 2 1, 3) := by decide +kernel
theorem dX3_clear_61 : decode cX3_clear 61 = .ok (.goto (-45), 3) := by decide +kernel
theorem dX3_clear_64 : decode cX3_clear 64 = .ok (.return_, 1) := by decide +kernel
theorem dX3_addClerk_0 : decode cX3_addClerk 0 = .ok (.aload_n 0, 1) := by decide +kernel
theorem dX3_addClerk_1 : decode cX3_addClerk 1 = .ok (.getfield 25, 3) := by decide +kernel
theorem dX3_addClerk_4 : decode cX3_addClerk 4 = .ok (.aload_n 0, 1) := by decide +kernel
theorem dX3_addClerk_5 : decode cX3_addClerk 5 = .ok (.getfield 61, 3) := by decide +kernel
theorem dX3_addClerk_8 : decode cX3_addClerk 8 = .ok (.iconst 0, 1) := by decide +kernel
theorem dX3_addClerk_9 : decode cX3_addClerk 9 = .ok (.iastore, 1) := by decide +kernel
theorem dX3_addClerk_10 : decode cX3_addClerk 10 = .ok (.aload_n 0, 1) := by decide +kernel
theorem dX3_addClerk_11 : decode cX3_addClerk 11 = .ok (.getfield 34, 3) := by decide +kernel
theorem dX3_addClerk_14 : decode cX3_addClerk 14 = .ok (.aload_n 0, 1) := by decide +kernel
theorem dX3_addClerk_15 : decode cX3_addClerk 15 = .ok (.getfield 61, 3) := by decide +kernel
theorem dX3_addClerk_18 : decode cX3_addClerk 18 = .ok (.iconst 0, 1) := by decide +kernel
theorem dX3_addClerk_19 : decode cX3_addClerk 19 = .ok (.iastore, 1) := by decide +kernel
theorem dX3_addClerk_20 : decode cX3_addClerk 20 = .ok (.aload_n 0, 1) := by decide +kernel
theorem dX3_addClerk_21 : decode cX3_addClerk 21 = .ok (.aload_n 0, 1) := by decide +kernel
theorem dX3_addClerk_22 : decode cX3_addClerk 22 = .ok (.getfield 61, 3) := by decide +kernel
theorem dX3_addClerk_25 : decode cX3_addClerk 25 = .ok (.invokevirtual 71, 3) := by decide +kernel
theorem dX3_addClerk_28 : decode cX3_addClerk 28 = .ok (.aload_n 0, 1) := by decide +kernel
theorem dX3_addClerk_29 : decode cX3_addClerk 29 = .ok (.dup, 1) := by decide +kernel
theorem dX3_addClerk_30 : decode cX3_addClerk 30 = .ok (.getfield 61, 3) := by decide +kernel
theorem dX3_addClerk_33 : decode cX3_addClerk 33 = .ok (.iconst 1, 1) := by decide +kernel
theorem dX3_addClerk_34 : decode cX3_addClerk 34 = .ok (.iadd, 1) := by decide +kernel
theorem dX3_addClerk_35 : decode cX3_addClerk 35 = .ok (.putfield 61, 3) := by decide +kernel
theorem dX3_addClerk_38 : decode cX3_addClerk 38 = .ok (.aload_n 0, 1) := by decide +kernel
theorem dX3_addClerk_39 : decode cX3_addClerk 39 = .ok (.getfield 61, 3) := by decide +kernel
theorem dX3_addClerk_42 : decode cX3_addClerk 42 = .ok (.iconst 1, 1) := by decide +kernel
theorem dX3_addClerk_43 : decode cX3_addClerk 43 = .ok (.isub, 1) := by decide +kernel
theorem dX3_addClerk_44 : decode cX3_addClerk 44 = .ok (.ireturn, 1) := by decide +kernel
theorem dX3_step_0 : decode cX3_step 0 = .ok (.aload_n 0, 1) := by decide +kernel
theorem dX3_step_1 : decode cX3_step 1 = .ok (.getfield 22, 3) := by decide +kernel
theorem dX3_step_4 : decode cX3_step 4 = .ok (.iconst 4, 1) := by decide +kernel
theorem dX3_step_5 : decode cX3_step 5 = .ok (.bipush 8, 2) := by decide +kernel
theorem dX3_step_7 : decode cX3_step 7 = .ok (.iload_n 1, 1) := by decide +kernel
theorem dX3_step_8 : decode cX3_step 8 = .ok (.imul, 1) := by decide +kernel
theorem dX3_step_9 : decode cX3_step 9 = .ok (.iload_n 2, 1) := by decide +kernel
theorem dX3_step_10 : decode cX3_step 10 = .ok (.iadd, 1) := by decide +kernel
theorem dX3_step_11 : decode cX3_step 11 = .ok (.imul, 1) := by decide +kernel
theorem dX3_step_12 : decode cX3_step 12 = .ok (.iload_n 3, 1) := by decide +kernel
theorem dX3_step_13 : decode cX3_step 13 = .ok (.iadd, 1) := by decide +kernel
theorem dX3_step_14 : decode cX3_step 14 = .ok (.iaload, 1) := by decide +kernel
theorem dX3_step_15 : decode cX3_step 15 = .ok (.ireturn, 1) := by decide +kernel
theorem dX3_goesOn_0 : decode cX3_goesOn 0 = .ok (.aload_n 0, 1) := by decide +kernel
theorem dX3_goesOn_1 : decode cX3_goesOn 1 = .ok (.getfield 31, 3) := by decide +kernel
theorem dX3_goesOn_4 : decode cX3_goesOn 4 = .ok (.iload_n 1, 1) := by decide +kernel
theorem dX3_goesOn_5 : decode cX3_goesOn 5 = .ok (.iaload, 1) := by decide +kernel
theorem dX3_goesOn_6 : decode cX3_goesOn 6 = .ok (.ifCond .ne 16, 3) := by decide +kernel
theorem dX3_goesOn_9 : decode cX3_goesOn 9 = .ok (.aload_n 0, 1) := by decide +kernel
theorem dX3_goesOn_10 : decode cX3_goesOn 10 = .ok (.getfield 25, 3) := by decide +kernel
theorem dX3_goesOn_13 : decode cX3_goesOn 13 = .ok (.iload_n 1, 1) := by decide +kernel
theorem dX3_goesOn_14 : decode cX3_goesOn 14 = .ok (.iaload, 1) := by decide +kernel
theorem dX3_goesOn_15 : decode cX3_goesOn 15 = .ok (.ifCond .le 7, 3) := by decide +kernel
theorem dX3_goesOn_18 : decode cX3_goesOn 18 = .ok (.iconst 1, 1) := by decide +kernel
theorem dX3_goesOn_19 : decode cX3_goesOn 19 = .ok (.goto 4, 3) := by decide +kernel
theorem dX3_goesOn_22 : decode cX3_goesOn 22 = .ok (.iconst 0, 1) := by decide +kernel
theorem dX3_goesOn_23 : decode cX3_goesOn 23 = .ok (.ireturn, 1) := by decide +kernel
theorem dX3_read_0 : decode cX3_read 0 = .ok (.bipush 8, 2) := by decide +kernel
theorem dX3_read_2 : decode cX3_read 2 = .ok (.iload_n 1, 1) := by decide +kernel
theorem dX3_read_3 : decode cX3_read 3 = .ok (.imul, 1) := by decide +kernel
theorem dX3_read_4 : decode cX3_read 4 = .ok (.iload_n 2, 1) := by decide +kernel
theorem dX3_read_5 : decode cX3_read 5 = .ok (.iadd, 1) := by decide +kernel
theorem dX3_read_6 : decode cX3_read 6 = .ok (.istore_n 3, 1) := by decide +kernel
theorem dX3_read_7 : decode cX3_read 7 = .ok (.aload_n 0, 1) := by decide +kernel
theorem dX3_read_8 : decode cX3_read 8 = .ok (.getfield 43, 3) := by decide +kernel
theorem dX3_read_11 : decode cX3_read 11 = .ok (.iload_n 3, 1) := by decide +kernel
theorem dX3_read_12 : decode cX3_read 12 = .ok (.iaload, 1) := by decide +kernel
theorem dX3_read_13 : decode cX3_read 13 = .ok (.iconst (-1), 1) := by decide +kernel
theorem dX3_read_14 : decode cX3_read 14 = .ok (.if_icmp .eq 10, 3) := by decide +kernel
theorem dX3_read_17 : decode cX3_read 17 = .ok (.aload_n 0, 1) := by decide +kernel
theorem dX3_read_18 : decode cX3_read 18 = .ok (.getfield 43, 3) := by decide +kernel
theorem dX3_read_21 : decode cX3_read 21 = .ok (.iload_n 3, 1) := by decide +kernel
theorem dX3_read_22 : decode cX3_read 22 = .ok (.iaload, 1) := by decide +kernel
theorem dX3_read_23 : decode cX3_read 23 = .ok (.ireturn, 1) := by decide +kernel
theorem dX3_read_24 : decode cX3_read 24 = .ok (.aload_n 0, 1) := by decide +kernel
theorem dX3_read_25 : decode cX3_read 25 = .ok (.getfield 37, 3) := by decide +kernel
theorem dX3_read_28 : decode cX3_read 28 = .ok (.iload_n 3, 1) := by decide +kernel
theorem dX3_read_29 : decode cX3_read 29 = .ok (.iaload, 1) := by decide +kernel
theorem dX3_read_30 : decode cX3_read 30 = .ok (.iconst (-1), 1) := by decide +kernel
theorem dX3_read_31 : decode cX3_read 31 = .ok (.if_icmp .ne 27, 3) := by decide +kernel
theorem dX3_read_34 : decode cX3_read 34 = .ok (.aload_n 0, 1) := by decide +kernel
theorem dX3_read_35 : decode cX3_read 35 = .ok (.getfield 37, 3) := by decide +kernel
theorem dX3_read_38 : decode cX3_read 38 = .ok (.iload_n 3, 1) := by decide +kernel
theorem dX3_read_39 : decode cX3_read 39 = .ok (.aload_n 0, 1) := by decide +kernel
theorem dX3_read_40 : decode cX3_read 40 = .ok (.getfield 15, 3) := by decide +kernel
theorem dX3_read_43 : decode cX3_read 43 = .ok (.iload_n 2, 1) := by decide +kernel
theorem dX3_read_44 : decode cX3_read 44 = .ok (.iaload, 1) := by decide +kernel
theorem dX3_read_45 : decode cX3_read 45 = .ok (.iastore, 1) := by decide +kernel
theorem dX3_read_46 : decode cX3_read 46 = .ok (.aload_n 0, 1) := by decide +kernel
theorem dX3_read_47 : decode cX3_read 47 = .ok (.getfield 40, 3) := by decide +kernel
theorem dX3_read_50 : decode cX3_read 50 = .ok (.iload_n 3, 1) := by decide +kernel
theorem dX3_read_51 : decode cX3_read 51 = .ok (.aload_n 0, 1) := by decide +kernel
theorem dX3_read_52 : decode cX3_read 52 = .ok (.getfield 19, 3) := by decide +kernel
theorem dX3_read_55 : decode cX3_read 55 = .ok (.iload_n 2, 1) := by decide +kernel
theorem dX3_read_56 : decode cX3_read 56 = .ok (.iaload, 1) := by decide +kernel
theorem dX3_read_57 : decode cX3_read 57 = .ok (.iastore, 1) := by decide +kernel
theorem dX3_read_58 : decode cX3_read 58 = .ok (.aload_n 0, 1) := by decide +kernel
theorem dX3_read_59 : decode cX3_read 59 = .ok (.getfield 37, 3) := by decide +kernel
theorem dX3_read_62 : decode cX3_read 62 = .ok (.iload_n 3, 1) := by decide +kernel
theorem dX3_read_63 : decode cX3_read 63 = .ok (.iaload, 1) := by decide +kernel
theorem dX3_read_64 : decode cX3_read 64 = .ok (.ireturn, 1) := by decide +kernel
theorem dX3_write_0 : decode cX3_write 0 = .ok (.aload_n 0, 1) := by decide +kernel
theorem dX3_write_1 : decode cX3_write 1 = .ok (.getfield 43, 3) := by decide +kernel
theorem dX3_write_4 : decode cX3_write 4 = .ok (.bipush 8, 2) := by decide +kernel
theorem dX3_write_6 : decode cX3_write 6 = .ok (.iload_n 1, 1) := by decide +kernel
theorem dX3_write_7 : decode cX3_write 7 = .ok (.imul, 1) := by decide +kernel
theorem dX3_write_8 : decode cX3_write 8 = .ok (.iload_n 2, 1) := by decide +kernel
theorem dX3_write_9 : decode cX3_write 9 = .ok (.iadd, 1) := by decide +kernel
theorem dX3_write_10 : decode cX3_write 10 = .ok (.iconst 0, 1) := by decide +kernel
theorem dX3_write_11 : decode cX3_write 11 = .ok (.sipush 9999, 3) := by decide +kernel
theorem dX3_write_14 : decode cX3_write 14 = .ok (.iload_n 3, 1) := by decide +kernel
theorem dX3_write_15 : decode cX3_write 15 = .ok (.invokestatic 75, 3) := by decide +kernel
theorem dX3_write_18 : decode cX3_write 18 = .ok (.invokestatic 81, 3) := by decide +kernel
theorem dX3_write_21 : decode cX3_write 21 = .ok (.iastore, 1) := by decide +kernel
theorem dX3_write_22 : decode cX3_write 22 = .ok (.return_, 1) := by decide +kernel
theorem dX3_act_0 : decode cX3_act 0 = .ok (.aload_n 0, 1) := by decide +kernel
theorem dX3_act_1 : decode cX3_act 1 = .ok (.iload_n 1, 1) := by decide +kernel
theorem dX3_act_2 : decode cX3_act 2 = .ok (.iload_n 2, 1) := by decide +kernel
theorem dX3_act_3 : decode cX3_act 3 = .ok (.iconst 1, 1) := by decide +kernel
theorem dX3_act_4 : decode cX3_act 4 = .ok (.invokevirtual 84, 3) := by decide +kernel
theorem dX3_act_7 : decode cX3_act 7 = .ok (.istore_n 3, 1) := by decide +kernel
theorem dX3_act_8 : decode cX3_act 8 = .ok (.aload_n 0, 1) := by decide +kernel
theorem dX3_act_9 : decode cX3_act 9 = .ok (.iload_n 1, 1) := by decide +kernel
theorem dX3_act_10 : decode cX3_act 10 = .ok (.iload_n 2, 1) := by decide +kernel
theorem dX3_act_11 : decode cX3_act 11 = .ok (.iconst 2, 1) := by decide +kernel
theorem dX3_act_12 : decode cX3_act 12 = .ok (.invokevirtual 84, 3) := by decide +kernel
theorem dX3_act_15 : decode cX3_act 15 = .ok (.istore 4, 2) := by decide +kernel
theorem dX3_act_17 : decode cX3_act 17 = .ok (.aload_n 0, 1) := by decide +kernel
theorem dX3_act_18 : decode cX3_act 18 = .ok (.iload_n 1, 1) := by decide +kernel
theorem dX3_act_19 : decode cX3_act 19 = .ok (.iload_n 2, 1) := by decide +kernel
theorem dX3_act_20 : decode cX3_act 20 = .ok (.iconst 3, 1) := by decide +kernel
theorem dX3_act_21 : decode cX3_act 21 = .ok (.invokevirtual 84, 3) := by decide +kernel
theorem dX3_act_24 : decode cX3_act 24 = .ok (.istore 5, 2) := by decide +kernel
theorem dX3_act_26 : decode cX3_act 26 = .ok (.aload_n 0, 1) := by decide +kernel
theorem dX3_act_27 : decode cX3_act 27 = .ok (.iload_n 1, 1) := by decide +kernel
theorem dX3_act_28 : decode cX3_act 28 = .ok (.iload_n 2, 1) := by decide +kernel
theorem dX3_act_29 : decode cX3_act 29 = .ok (.iconst 0, 1) := by decide +kernel
theorem dX3_act_30 : decode cX3_act 30 = .ok (.invokevirtual 84, 3) := by decide +kernel
theorem dX3_act_33 : decode cX3_act 33 = .ok (.tableswitch 66 0 2 #[27, 37, 48], 27) := by decide +kernel
theorem dX3_act_60 : decode cX3_act 60 = .ok (.aload_n 0, 1) := by decide +kernel
theorem dX3_act_61 : decode cX3_act 61 = .ok (.iload_n 1, 1) := by decide +kernel
theorem dX3_act_62 : decode cX3_act 62 = .ok (.iload_n 3, 1) := by decide +kernel
theorem dX3_act_63 : decode cX3_act 63 = .ok (.invokevirtual 88, 3) := by decide +kernel
theorem dX3_act_66 : decode cX3_act 66 = .ok (.pop, 1) := by decide +kernel
theorem dX3_act_67 : decode cX3_act 67 = .ok (.goto 80, 3) := by decide +kernel
theorem dX3_act_70 : decode cX3_act 70 = .ok (.aload_n 0, 1) := by decide +kernel
theorem dX3_act_71 : decode cX3_act 71 = .ok (.iload_n 1, 1) := by decide +kernel
theorem dX3_act_72 : decode cX3_act 72 = .ok (.iload_n 3, 1) := by decide +kernel
theorem dX3_act_73 : decode cX3_act 73 = .ok (.iload 5, 2) := by decide +kernel
theorem dX3_act_75 : decode cX3_act 75 = .ok (.invokevirtual 91, 3) := by decide +kernel
theorem dX3_act_78 : decode cX3_act 78 = .ok (.goto 69, 3) := by decide +kernel
theorem dX3_act_81 : decode cX3_act 81 = .ok (.aload_n 0, 1) := by decide +kernel
theorem dX3_act_82 : decode cX3_act 82 = .ok (.iload_n 1, 1) := by decide +kernel
theorem dX3_act_83 : decode cX3_act 83 = .ok (.iload_n 3, 1) := by decide +kernel
theorem dX3_act_84 : decode cX3_act 84 = .ok (.aload_n 0, 1) := by decide +kernel
theorem dX3_act_85 : decode cX3_act 85 = .ok (.iload_n 1, 1) := by decide +kernel
theorem dX3_act_86 : decode cX3_act 86 = .ok (.iload_n 3, 1) := by decide +kernel
theorem dX3_act_87 : decode cX3_act 87 = .ok (.invokevirtual 88, 3) := by decide +kernel
theorem dX3_act_90 : decode cX3_act 90 = .ok (.iload 5, 2) := by decide +kernel
theorem dX3_act_92 : decode cX3_act 92 = .ok (.iadd, 1) := by decide +kernel
theorem dX3_act_93 : decode cX3_act 93 = .ok (.invokevirtual 91, 3) := by decide +kernel
theorem dX3_act_96 : decode cX3_act 96 = .ok (.goto 51, 3) := by decide +kernel
theorem dX3_act_99 : decode cX3_act 99 = .ok (.aload_n 0, 1) := by decide +kernel
theorem dX3_act_100 : decode cX3_act 100 = .ok (.iload_n 1, 1) := by decide +kernel
theorem dX3_act_101 : decode cX3_act 101 = .ok (.iload_n 3, 1) := by decide +kernel
theorem dX3_act_102 : decode cX3_act 102 = .ok (.invokevirtual 88, 3) := by decide +kernel
theorem dX3_act_105 : decode cX3_act 105 = .ok (.istore 6, 2) := by decide +kernel
theorem dX3_act_107 : decode cX3_act 107 = .ok (.iload 6, 2) := by decide +kernel
theorem dX3_act_109 : decode cX3_act 109 = .ok (.iload 5, 2) := by decide +kernel
theorem dX3_act_111 : decode cX3_act 111 = .ok (.if_icmp .ge 4, 3) := by decide +kernel
theorem dX3_act_114 : decode cX3_act 114 = .ok (.return_, 1) := by decide +kernel
theorem dX3_act_115 : decode cX3_act 115 = .ok (.aload_n 0, 1) := by decide +kernel
theorem dX3_act_116 : decode cX3_act 116 = .ok (.iload_n 1, 1) := by decide +kernel
theorem dX3_act_117 : decode cX3_act 117 = .ok (.iload 4, 2) := by decide +kernel
theorem dX3_act_119 : decode cX3_act 119 = .ok (.invokevirtual 88, 3) := by decide +kernel
theorem dX3_act_122 : decode cX3_act 122 = .ok (.istore 7, 2) := by decide +kernel
theorem dX3_act_124 : decode cX3_act 124 = .ok (.aload_n 0, 1) := by decide +kernel
theorem dX3_act_125 : decode cX3_act 125 = .ok (.iload_n 1, 1) := by decide +kernel
theorem dX3_act_126 : decode cX3_act 126 = .ok (.iload_n 3, 1) := by decide +kernel
theorem dX3_act_127 : decode cX3_act 127 = .ok (.iload 6, 2) := by decide +kernel
theorem dX3_act_129 : decode cX3_act 129 = .ok (.iload 5, 2) := by decide +kernel
theorem dX3_act_131 : decode cX3_act 131 = .ok (.isub, 1) := by decide +kernel
theorem dX3_act_132 : decode cX3_act 132 = .ok (.invokevirtual 91, 3) := by decide +kernel
theorem dX3_act_135 : decode cX3_act 135 = .ok (.aload_n 0, 1) := by decide +kernel
theorem dX3_act_136 : decode cX3_act 136 = .ok (.iload_n 1, 1) := by decide +kernel
theorem dX3_act_137 : decode cX3_act 137 = .ok (.iload 4, 2) := by decide +kernel
theorem dX3_act_139 : decode cX3_act 139 = .ok (.iload 7, 2) := by decide +kernel
theorem dX3_act_141 : decode cX3_act 141 = .ok (.iload 5, 2) := by decide +kernel
theorem dX3_act_143 : decode cX3_act 143 = .ok (.iadd, 1) := by decide +kernel
theorem dX3_act_144 : decode cX3_act 144 = .ok (.invokevirtual 91, 3) := by decide +kernel
theorem dX3_act_147 : decode cX3_act 147 = .ok (.return_, 1) := by decide +kernel
theorem dX3_wouldLose_0 : decode cX3_wouldLose 0 = .ok (.iconst 0, 1) := by decide +kernel
theorem dX3_wouldLose_1 : decode cX3_wouldLose 1 = .ok (.istore_n 2, 1) := by decide +kernel
theorem dX3_wouldLose_2 : decode cX3_wouldLose 2 = .ok (.iload_n 2, 1) := by decide +kernel
theorem dX3_wouldLose_3 : decode cX3_wouldLose 3 = .ok (.aload_n 0, 1) := by decide +kernel
theorem dX3_wouldLose_4 : decode cX3_wouldLose 4 = .ok (.getfield 9, 3) := by decide +kernel
theorem dX3_wouldLose_7 : decode cX3_wouldLose 7 = .ok (.if_icmp .ge 46, 3) := by decide +kernel
theorem dX3_wouldLose_10 : decode cX3_wouldLose 10 = .ok (.aload_n 0, 1) := by decide +kernel
theorem dX3_wouldLose_11 : decode cX3_wouldLose 11 = .ok (.getfield 37, 3) := by decide +kernel
theorem dX3_wouldLose_14 : decode cX3_wouldLose 14 = .ok (.bipush 8, 2) := by decide +kernel
theorem dX3_wouldLose_16 : decode cX3_wouldLose 16 = .ok (.iload_n 1, 1) := by decide +kernel
theorem dX3_wouldLose_17 : decode cX3_wouldLose 17 = .ok (.imul, 1) := by decide +kernel
theorem dX3_wouldLose_18 : decode cX3_wouldLose 18 = .ok (.iload_n 2, 1) := by decide +kernel
theorem dX3_wouldLose_19 : decode cX3_wouldLose 19 = .ok (.iadd, 1) := by decide +kernel
theorem dX3_wouldLose_20 : decode cX3_wouldLose 20 = .ok (.iaload, 1) := by decide +kernel
theorem dX3_wouldLose_21 : decode cX3_wouldLose 21 = .ok (.iconst (-1), 1) := by decide +kernel
theorem dX3_wouldLose_22 : decode cX3_wouldLose 22 = .ok (.if_icmp .eq 25, 3) := by decide +kernel
theorem dX3_wouldLose_25 : decode cX3_wouldLose 25 = .ok (.aload_n 0, 1) := by decide +kernel
theorem dX3_wouldLose_26 : decode cX3_wouldLose 26 = .ok (.getfield 40, 3) := by decide +kernel
theorem dX3_wouldLose_29 : decode cX3_wouldLose 29 = .ok (.bipush 8, 2) := by decide +kernel
theorem dX3_wouldLose_31 : decode cX3_wouldLose 31 = .ok (.iload_n 1, 1) := by decide +kernel
theorem dX3_wouldLose_32 : decode cX3_wouldLose 32 = .ok (.imul, 1) := by decide +kernel
theorem dX3_wouldLose_33 : decode cX3_wouldLose 33 = .ok (.iload_n 2, 1) := by decide +kernel
theorem dX3_wouldLose_34 : decode cX3_wouldLose 34 = .ok (.iadd, 1) := by decide +kernel
theorem dX3_wouldLose_35 : decode cX3_wouldLose 35 = .ok (.iaload, 1) := by decide +kernel
theorem dX3_wouldLose_36 : decode cX3_wouldLose 36 = .ok (.aload_n 0, 1) := by decide +kernel
theorem dX3_wouldLose_37 : decode cX3_wouldLose 37 = .ok (.getfield 19, 3) := by decide +kernel
theorem dX3_wouldLose_40 : decode cX3_wouldLose 40 = .ok (.iload_n 2, 1) := by decide +kernel
theorem dX3_wouldLose_41 : decode cX3_wouldLose 41 = .ok (.iaload, 1) := by decide +kernel
theorem dX3_wouldLose_42 : decode cX3_wouldLose 42 = .ok (.if_icmp .eq 5, 3) := by decide +kernel
theorem dX3_wouldLose_45 : decode cX3_wouldLose 45 = .ok (.iconst 1, 1) := by decide +kernel
theorem dX3_wouldLose_46 : decode cX3_wouldLose 46 = .ok (.ireturn, 1) := by decide +kernel
theorem dX3_wouldLose_47 : decode cX3_wouldLose 47 = .ok (.iinc 2 1, 3) := by decide +kernel
theorem dX3_wouldLose_50 : decode cX3_wouldLose 50 = .ok (.goto (-48), 3) := by decide +kernel
theorem dX3_wouldLose_53 : decode cX3_wouldLose 53 = .ok (.iconst 0, 1) := by decide +kernel
theorem dX3_wouldLose_54 : decode cX3_wouldLose 54 = .ok (.ireturn, 1) := by decide +kernel
theorem dX3_record_0 : decode cX3_record 0 = .ok (.aload_n 0, 1) := by decide +kernel
theorem dX3_record_1 : decode cX3_record 1 = .ok (.getfield 46, 3) := by decide +kernel
theorem dX3_record_4 : decode cX3_record 4 = .ok (.aload_n 0, 1) := by decide +kernel
theorem dX3_record_5 : decode cX3_record 5 = .ok (.getfield 64, 3) := by decide +kernel
theorem dX3_record_8 : decode cX3_record 8 = .ok (.bipush 10, 2) := by decide +kernel
theorem dX3_record_10 : decode cX3_record 10 = .ok (.irem, 1) := by decide +kernel
theorem dX3_record_11 : decode cX3_record 11 = .ok (.iload_n 1, 1) := by decide +kernel
theorem dX3_record_12 : decode cX3_record 12 = .ok (.iastore, 1) := by decide +kernel
theorem dX3_record_13 : decode cX3_record 13 = .ok (.aload_n 0, 1) := by decide +kernel
theorem dX3_record_14 : decode cX3_record 14 = .ok (.getfield 49, 3) := by decide +kernel
theorem dX3_record_17 : decode cX3_record 17 = .ok (.aload_n 0, 1) := by decide +kernel
theorem dX3_record_18 : decode cX3_record 18 = .ok (.getfield 64, 3) := by decide +kernel
theorem dX3_record_21 : decode cX3_record 21 = .ok (.bipush 10, 2) := by decide +kernel
theorem dX3_record_23 : decode cX3_record 23 = .ok (.irem, 1) := by decide +kernel
theorem dX3_record_24 : decode cX3_record 24 = .ok (.iload_n 2, 1) := by decide +kernel
theorem dX3_record_25 : decode cX3_record 25 = .ok (.iastore, 1) := by decide +kernel
theorem dX3_record_26 : decode cX3_record 26 = .ok (.aload_n 0, 1) := by decide +kernel
theorem dX3_record_27 : decode cX3_record 27 = .ok (.getfield 52, 3) := by decide +kernel
theorem dX3_record_30 : decode cX3_record 30 = .ok (.aload_n 0, 1) := by decide +kernel
theorem dX3_record_31 : decode cX3_record 31 = .ok (.getfield 64, 3) := by decide +kernel
theorem dX3_record_34 : decode cX3_record 34 = .ok (.bipush 10, 2) := by decide +kernel
theorem dX3_record_36 : decode cX3_record 36 = .ok (.irem, 1) := by decide +kernel
theorem dX3_record_37 : decode cX3_record 37 = .ok (.aload_n 0, 1) := by decide +kernel
theorem dX3_record_38 : decode cX3_record 38 = .ok (.invokevirtual 95, 3) := by decide +kernel
theorem dX3_record_41 : decode cX3_record 41 = .ok (.iastore, 1) := by decide +kernel
theorem dX3_record_42 : decode cX3_record 42 = .ok (.return_, 1) := by decide +kernel
theorem dX3_close_0 : decode cX3_close 0 = .ok (.aload_n 0, 1) := by decide +kernel
theorem dX3_close_1 : decode cX3_close 1 = .ok (.dup, 1) := by decide +kernel
theorem dX3_close_2 : decode cX3_close 2 = .ok (.getfield 64, 3) := by decide +kernel
theorem dX3_close_5 : decode cX3_close 5 = .ok (.iconst 1, 1) := by decide +kernel
theorem dX3_close_6 : decode cX3_close 6 = .ok (.iadd, 1) := by decide +kernel
theorem dX3_close_7 : decode cX3_close 7 = .ok (.putfield 64, 3) := by decide +kernel
theorem dX3_close_10 : decode cX3_close 10 = .ok (.iconst 0, 1) := by decide +kernel
theorem dX3_close_11 : decode cX3_close 11 = .ok (.istore_n 2, 1) := by decide +kernel
theorem dX3_close_12 : decode cX3_close 12 = .ok (.iconst 0, 1) := by decide +kernel
theorem dX3_close_13 : decode cX3_close 13 = .ok (.istore_n 3, 1) := by decide +kernel
theorem dX3_close_14 : decode cX3_close 14 = .ok (.iload_n 3, 1) := by decide +kernel
theorem dX3_close_15 : decode cX3_close 15 = .ok (.aload_n 0, 1) := by decide +kernel
theorem dX3_close_16 : decode cX3_close 16 = .ok (.getfield 9, 3) := by decide +kernel
theorem dX3_close_19 : decode cX3_close 19 = .ok (.if_icmp .ge 57, 3) := by decide +kernel
theorem dX3_close_22 : decode cX3_close 22 = .ok (.aload_n 0, 1) := by decide +kernel
theorem dX3_close_23 : decode cX3_close 23 = .ok (.getfield 43, 3) := by decide +kernel
theorem dX3_close_26 : decode cX3_close 26 = .ok (.bipush 8, 2) := by decide +kernel
theorem dX3_close_28 : decode cX3_close 28 = .ok (.iload_n 1, 1) := by decide +kernel
theorem dX3_close_29 : decode cX3_close 29 = .ok (.imul, 1) := by decide +kernel
theorem dX3_close_30 : decode cX3_close 30 = .ok (.iload_n 3, 1) := by decide +kernel
theorem dX3_close_31 : decode cX3_close 31 = .ok (.iadd, 1) := by decide +kernel
theorem dX3_close_32 : decode cX3_close 32 = .ok (.iaload, 1) := by decide +kernel
theorem dX3_close_33 : decode cX3_close 33 = .ok (.iconst (-1), 1) := by decide +kernel
theorem dX3_close_34 : decode cX3_close 34 = .ok (.if_icmp .ne 6, 3) := by decide +kernel
theorem dX3_close_37 : decode cX3_close 37 = .ok (.goto 33, 3) := by decide +kernel
theorem dX3_close_40 : decode cX3_close 40 = .ok (.aload_n 0, 1) := by decide +kernel
theorem dX3_close_41 : decode cX3_close 41 = .ok (.getfield 15, 3) := by decide +kernel
theorem dX3_close_44 : decode cX3_close 44 = .ok (.iload_n 3, 1) := by decide +kernel
theorem dX3_close_45 : decode cX3_close 45 = .ok (.aload_n 0, 1) := by decide +kernel
theorem dX3_close_46 : decode cX3_close 46 = .ok (.getfield 43, 3) := by decide +kernel
theorem dX3_close_49 : decode cX3_close 49 = .ok (.bipush 8, 2) := by decide +kernel
theorem dX3_close_51 : decode cX3_close 51 = .ok (.iload_n 1, 1) := by decide +kernel
theorem dX3_close_52 : decode cX3_close 52 = .ok (.imul, 1) := by decide +kernel
theorem dX3_close_53 : decode cX3_close 53 = .ok (.iload_n 3, 1) := by decide +kernel
theorem dX3_close_54 : decode cX3_close 54 = .ok (.iadd, 1) := by decide +kernel
theorem dX3_close_55 : decode cX3_close 55 = .ok (.iaload, 1) := by decide +kernel
theorem dX3_close_56 : decode cX3_close 56 = .ok (.iastore, 1) := by decide +kernel
theorem dX3_close_57 : decode cX3_close 57 = .ok (.aload_n 0, 1) := by decide +kernel
theorem dX3_close_58 : decode cX3_close 58 = .ok (.getfield 19, 3) := by decide +kernel
theorem dX3_close_61 : decode cX3_close 61 = .ok (.iload_n 3, 1) := by decide +kernel
theorem dX3_close_62 : decode cX3_close 62 = .ok (.aload_n 0, 1) := by decide +kernel
theorem dX3_close_63 : decode cX3_close 63 = .ok (.getfield 64, 3) := by decide +kernel
theorem dX3_close_66 : decode cX3_close 66 = .ok (.iastore, 1) := by decide +kernel
theorem dX3_close_67 : decode cX3_close 67 = .ok (.iinc 2 1, 3) := by decide +kernel
theorem dX3_close_70 : decode cX3_close 70 = .ok (.iinc 3 1, 3) := by decide +kernel
theorem dX3_close_73 : decode cX3_close 73 = .ok (.goto (-59), 3) := by decide +kernel
theorem dX3_close_76 : decode cX3_close 76 = .ok (.aload_n 0, 1) := by decide +kernel
theorem dX3_close_77 : decode cX3_close 77 = .ok (.getfield 31, 3) := by decide +kernel
theorem dX3_close_80 : decode cX3_close 80 = .ok (.iload_n 1, 1) := by decide +kernel
theorem dX3_close_81 : decode cX3_close 81 = .ok (.iconst 1, 1) := by decide +kernel
theorem dX3_close_82 : decode cX3_close 82 = .ok (.iastore, 1) := by decide +kernel
theorem dX3_close_83 : decode cX3_close 83 = .ok (.aload_n 0, 1) := by decide +kernel
theorem dX3_close_84 : decode cX3_close 84 = .ok (.iload_n 1, 1) := by decide +kernel
theorem dX3_close_85 : decode cX3_close 85 = .ok (.iload_n 2, 1) := by decide +kernel
theorem dX3_close_86 : decode cX3_close 86 = .ok (.invokevirtual 99, 3) := by decide +kernel
theorem dX3_close_89 : decode cX3_close 89 = .ok (.return_, 1) := by decide +kernel
theorem dX3_pay_0 : decode cX3_pay 0 = .ok (.aload_n 0, 1) := by decide +kernel
theorem dX3_pay_1 : decode cX3_pay 1 = .ok (.dup, 1) := by decide +kernel
theorem dX3_pay_2 : decode cX3_pay 2 = .ok (.getfield 64, 3) := by decide +kernel
theorem dX3_pay_5 : decode cX3_pay 5 = .ok (.iconst 1, 1) := by decide +kernel
theorem dX3_pay_6 : decode cX3_pay 6 = .ok (.iadd, 1) := by decide +kernel
theorem dX3_pay_7 : decode cX3_pay 7 = .ok (.putfield 64, 3) := by decide +kernel
theorem dX3_pay_10 : decode cX3_pay 10 = .ok (.aload_n 0, 1) := by decide +kernel
theorem dX3_pay_11 : decode cX3_pay 11 = .ok (.getfield 15, 3) := by decide +kernel
theorem dX3_pay_14 : decode cX3_pay 14 = .ok (.iload_n 1, 1) := by decide +kernel
theorem dX3_pay_15 : decode cX3_pay 15 = .ok (.iload_n 2, 1) := by decide +kernel
theorem dX3_pay_16 : decode cX3_pay 16 = .ok (.iastore, 1) := by decide +kernel
theorem dX3_pay_17 : decode cX3_pay 17 = .ok (.aload_n 0, 1) := by decide +kernel
theorem dX3_pay_18 : decode cX3_pay 18 = .ok (.getfield 19, 3) := by decide +kernel
theorem dX3_pay_21 : decode cX3_pay 21 = .ok (.iload_n 1, 1) := by decide +kernel
theorem dX3_pay_22 : decode cX3_pay 22 = .ok (.aload_n 0, 1) := by decide +kernel
theorem dX3_pay_23 : decode cX3_pay 23 = .ok (.getfield 64, 3) := by decide +kernel
theorem dX3_pay_26 : decode cX3_pay 26 = .ok (.iastore, 1) := by decide +kernel
theorem dX3_pay_27 : decode cX3_pay 27 = .ok (.aload_n 0, 1) := by decide +kernel
theorem dX3_pay_28 : decode cX3_pay 28 = .ok (.iconst (-1), 1) := by decide +kernel
theorem dX3_pay_29 : decode cX3_pay 29 = .ok (.iconst 1, 1) := by decide +kernel
theorem dX3_pay_30 : decode cX3_pay 30 = .ok (.invokevirtual 99, 3) := by decide +kernel
theorem dX3_pay_33 : decode cX3_pay 33 = .ok (.return_, 1) := by decide +kernel
theorem dX3_turn_0 : decode cX3_turn 0 = .ok (.aload_n 0, 1) := by decide +kernel
theorem dX3_turn_1 : decode cX3_turn 1 = .ok (.getfield 28, 3) := by decide +kernel
theorem dX3_turn_4 : decode cX3_turn 4 = .ok (.iload_n 1, 1) := by decide +kernel
theorem dX3_turn_5 : decode cX3_turn 5 = .ok (.iaload, 1) := by decide +kernel
theorem dX3_turn_6 : decode cX3_turn 6 = .ok (.aload_n 0, 1) := by decide +kernel
theorem dX3_turn_7 : decode cX3_turn 7 = .ok (.getfield 25, 3) := by decide +kernel
theorem dX3_turn_10 : decode cX3_turn 10 = .ok (.iload_n 1, 1) := by decide +kernel
theorem dX3_turn_11 : decode cX3_turn 11 = .ok (.iaload, 1) := by decide +kernel
theorem dX3_turn_12 : decode cX3_turn 12 = .ok (.if_icmp .ge 26, 3) := by decide +kernel
theorem dX3_turn_15 : decode cX3_turn 15 = .ok (.aload_n 0, 1) := by decide +kernel
theorem dX3_turn_16 : decode cX3_turn 16 = .ok (.iload_n 1, 1) := by decide +kernel
theorem dX3_turn_17 : decode cX3_turn 17 = .ok (.aload_n 0, 1) := by decide +kernel
theorem dX3_turn_18 : decode cX3_turn 18 = .ok (.getfield 28, 3) := by decide +kernel
theorem dX3_turn_21 : decode cX3_turn 21 = .ok (.iload_n 1, 1) := by decide +kernel
theorem dX3_turn_22 : decode cX3_turn 22 = .ok (.iaload, 1) := by decide +kernel
theorem dX3_turn_23 : decode cX3_turn 23 = .ok (.invokevirtual 103, 3) := by decide +kernel
theorem dX3_turn_26 : decode cX3_turn 26 = .ok (.aload_n 0, 1) := by decide +kernel
theorem dX3_turn_27 : decode cX3_turn 27 = .ok (.getfield 28, 3) := by decide +kernel
theorem dX3_turn_30 : decode cX3_turn 30 = .ok (.iload_n 1, 1) := by decide +kernel
theorem dX3_turn_31 : decode cX3_turn 31 = .ok (.dup2, 1) := by decide +kernel
theorem dX3_turn_32 : decode cX3_turn 32 = .ok (.iaload, 1) := by decide +kernel
theorem dX3_turn_33 : decode cX3_turn 33 = .ok (.iconst 1, 1) := by decide +kernel
theorem dX3_turn_34 : decode cX3_turn 34 = .ok (.iadd, 1) := by decide +kernel
theorem dX3_turn_35 : decode cX3_turn 35 = .ok (.iastore, 1) := by decide +kernel
theorem dX3_turn_36 : decode cX3_turn 36 = .ok (.iconst 0, 1) := by decide +kernel
theorem dX3_turn_37 : decode cX3_turn 37 = .ok (.ireturn, 1) := by decide +kernel
theorem dX3_turn_38 : decode cX3_turn 38 = .ok (.aload_n 0, 1) := by decide +kernel
theorem dX3_turn_39 : decode cX3_turn 39 = .ok (.iload_n 1, 1) := by decide +kernel
theorem dX3_turn_40 : decode cX3_turn 40 = .ok (.invokevirtual 106, 3) := by decide +kernel
theorem dX3_turn_43 : decode cX3_turn 43 = .ok (.ifCond .eq 20, 3) := by decide +kernel
theorem dX3_turn_46 : decode cX3_turn 46 = .ok (.aload_n 0, 1) := by decide +kernel
theorem dX3_turn_47 : decode cX3_turn 47 = .ok (.getfield 34, 3) := by decide +kernel
theorem dX3_turn_50 : decode cX3_turn 50 = .ok (.iload_n 1, 1) := by decide +kernel
theorem dX3_turn_51 : decode cX3_turn 51 = .ok (.dup2, 1) := by decide +kernel
theorem dX3_turn_52 : decode cX3_turn 52 = .ok (.iaload, 1) := by decide +kernel
theorem dX3_turn_53 : decode cX3_turn 53 = .ok (.iconst 1, 1) := by decide +kernel
theorem dX3_turn_54 : decode cX3_turn 54 = .ok (.iadd, 1) := by decide +kernel
theorem dX3_turn_55 : decode cX3_turn 55 = .ok (.iastore, 1) := by decide +kernel
theorem dX3_turn_56 : decode cX3_turn 56 = .ok (.aload_n 0, 1) := by decide +kernel
theorem dX3_turn_57 : decode cX3_turn 57 = .ok (.iload_n 1, 1) := by decide +kernel
theorem dX3_turn_58 : decode cX3_turn 58 = .ok (.invokevirtual 71, 3) := by decide +kernel
theorem dX3_turn_61 : decode cX3_turn 61 = .ok (.iconst 2, 1) := by decide +kernel
theorem dX3_turn_62 : decode cX3_turn 62 = .ok (.ireturn, 1) := by decide +kernel
theorem dX3_turn_63 : decode cX3_turn 63 = .ok (.aload_n 0, 1) := by decide +kernel
theorem dX3_turn_64 : decode cX3_turn 64 = .ok (.iload_n 1, 1) := by decide +kernel
theorem dX3_turn_65 : decode cX3_turn 65 = .ok (.invokevirtual 110, 3) := by decide +kernel
theorem dX3_turn_68 : decode cX3_turn 68 = .ok (.iconst 1, 1) := by decide +kernel
theorem dX3_turn_69 : decode cX3_turn 69 = .ok (.ireturn, 1) := by decide +kernel
theorem dX3_round_0 : decode cX3_round 0 = .ok (.iconst 0, 1) := by decide +kernel
theorem dX3_round_1 : decode cX3_round 1 = .ok (.istore_n 1, 1) := by decide +kernel
theorem dX3_round_2 : decode cX3_round 2 = .ok (.iconst 0, 1) := by decide +kernel
theorem dX3_round_3 : decode cX3_round 3 = .ok (.istore_n 2, 1) := by decide +kernel
theorem dX3_round_4 : decode cX3_round 4 = .ok (.iload_n 2, 1) := by decide +kernel
theorem dX3_round_5 : decode cX3_round 5 = .ok (.aload_n 0, 1) := by decide +kernel
theorem dX3_round_6 : decode cX3_round 6 = .ok (.getfield 61, 3) := by decide +kernel
theorem dX3_round_9 : decode cX3_round 9 = .ok (.if_icmp .ge 34, 3) := by decide +kernel
theorem dX3_round_12 : decode cX3_round 12 = .ok (.aload_n 0, 1) := by decide +kernel
theorem dX3_round_13 : decode cX3_round 13 = .ok (.iload_n 2, 1) := by decide +kernel
theorem dX3_round_14 : decode cX3_round 14 = .ok (.invokevirtual 113, 3) := by decide +kernel
theorem dX3_round_17 : decode cX3_round 17 = .ok (.ifCond .eq 20, 3) := by decide +kernel
theorem dX3_round_20 : decode cX3_round 20 = .ok (.iload_n 1, 1) := by decide +kernel
theorem dX3_round_21 : decode cX3_round 21 = .ok (.aload_n 0, 1) := by decide +kernel
theorem dX3_round_22 : decode cX3_round 22 = .ok (.iload_n 2, 1) := by decide +kernel
theorem dX3_round_23 : decode cX3_round 23 = .ok (.invokevirtual 116, 3) := by decide +kernel
theorem dX3_round_26 : decode cX3_round 26 = .ok (.iconst 1, 1) := by decide +kernel
theorem dX3_round_27 : decode cX3_round 27 = .ok (.if_icmp .ne 7, 3) := by decide +kernel
theorem dX3_round_30 : decode cX3_round 30 = .ok (.iconst 1, 1) := by decide +kernel
theorem dX3_round_31 : decode cX3_round 31 = .ok (.goto 4, 3) := by decide +kernel
theorem dX3_round_34 : decode cX3_round 34 = .ok (.iconst 0, 1) := by decide +kernel
theorem dX3_round_35 : decode cX3_round 35 = .ok (.iadd, 1) := by decide +kernel
theorem dX3_round_36 : decode cX3_round 36 = .ok (.istore_n 1, 1) := by decide +kernel
theorem dX3_round_37 : decode cX3_round 37 = .ok (.iinc 2 1, 3) := by decide +kernel
theorem dX3_round_40 : decode cX3_round 40 = .ok (.goto (-36), 3) := by decide +kernel
theorem dX3_round_43 : decode cX3_round 43 = .ok (.iload_n 1, 1) := by decide +kernel
theorem dX3_round_44 : decode cX3_round 44 = .ok (.ireturn, 1) := by decide +kernel
theorem dX3_areDone_0 : decode cX3_areDone 0 = .ok (.iconst 0, 1) := by decide +kernel
theorem dX3_areDone_1 : decode cX3_areDone 1 = .ok (.istore_n 1, 1) := by decide +kernel
theorem dX3_areDone_2 : decode cX3_areDone 2 = .ok (.iload_n 1, 1) := by decide +kernel
theorem dX3_areDone_3 : decode cX3_areDone 3 = .ok (.aload_n 0, 1) := by decide +kernel
theorem dX3_areDone_4 : decode cX3_areDone 4 = .ok (.getfield 61, 3) := by decide +kernel
theorem dX3_areDone_7 : decode cX3_areDone 7 = .ok (.if_icmp .ge 19, 3) := by decide +kernel
theorem dX3_areDone_10 : decode cX3_areDone 10 = .ok (.aload_n 0, 1) := by decide +kernel
theorem dX3_areDone_11 : decode cX3_areDone 11 = .ok (.iload_n 1, 1) := by decide +kernel
theorem dX3_areDone_12 : decode cX3_areDone 12 = .ok (.invokevirtual 113, 3) := by decide +kernel
theorem dX3_areDone_15 : decode cX3_areDone 15 = .ok (.ifCond .eq 5, 3) := by decide +kernel
theorem dX3_areDone_18 : decode cX3_areDone 18 = .ok (.iconst 0, 1) := by decide +kernel
theorem dX3_areDone_19 : decode cX3_areDone 19 = .ok (.ireturn, 1) := by decide +kernel
theorem dX3_areDone_20 : decode cX3_areDone 20 = .ok (.iinc 1 1, 3) := by decide +kernel
theorem dX3_areDone_23 : decode cX3_areDone 23 = .ok (.goto (-21), 3) := by decide +kernel
theorem dX3_areDone_26 : decode cX3_areDone 26 = .ok (.iconst 1, 1) := by decide +kernel
theorem dX3_areDone_27 : decode cX3_areDone 27 = .ok (.ireturn, 1) := by decide +kernel
theorem dX3_counted_0 : decode cX3_counted 0 = .ok (.iconst 0, 1) := by decide +kernel
theorem dX3_counted_1 : decode cX3_counted 1 = .ok (.istore_n 2, 1) := by decide +kernel
theorem dX3_counted_2 : decode cX3_counted 2 = .ok (.iconst 0, 1) := by decide +kernel
theorem dX3_counted_3 : decode cX3_counted 3 = .ok (.istore_n 3, 1) := by decide +kernel
theorem dX3_counted_4 : decode cX3_counted 4 = .ok (.iconst 0, 1) := by decide +kernel
theorem dX3_counted_5 : decode cX3_counted 5 = .ok (.istore 4, 2) := by decide +kernel
theorem dX3_counted_7 : decode cX3_counted 7 = .ok (.iconst 0, 1) := by decide +kernel
theorem dX3_counted_8 : decode cX3_counted 8 = .ok (.istore 5, 2) := by decide +kernel
theorem dX3_counted_10 : decode cX3_counted 10 = .ok (.iload 5, 2) := by decide +kernel
theorem dX3_counted_12 : decode cX3_counted 12 = .ok (.aload_n 0, 1) := by decide +kernel
theorem dX3_counted_13 : decode cX3_counted 13 = .ok (.getfield 61, 3) := by decide +kernel
theorem dX3_counted_16 : decode cX3_counted 16 = .ok (.if_icmp .ge 58, 3) := by decide +kernel
theorem dX3_counted_19 : decode cX3_counted 19 = .ok (.iload_n 2, 1) := by decide +kernel
theorem dX3_counted_20 : decode cX3_counted 20 = .ok (.aload_n 0, 1) := by decide +kernel
theorem dX3_counted_21 : decode cX3_counted 21 = .ok (.getfield 31, 3) := by decide +kernel
theorem dX3_counted_24 : decode cX3_counted 24 = .ok (.iload 5, 2) := by decide +kernel
theorem dX3_counted_26 : decode cX3_counted 26 = .ok (.iaload, 1) := by decide +kernel
theorem dX3_counted_27 : decode cX3_counted 27 = .ok (.iadd, 1) := by decide +kernel
theorem dX3_counted_28 : decode cX3_counted 28 = .ok (.istore_n 2, 1) := by decide +kernel
theorem dX3_counted_29 : decode cX3_counted 29 = .ok (.iload_n 3, 1) := by decide +kernel
theorem dX3_counted_30 : decode cX3_counted 30 = .ok (.aload_n 0, 1) := by decide +kernel
theorem dX3_counted_31 : decode cX3_counted 31 = .ok (.getfield 34, 3) := by decide +kernel
theorem dX3_counted_34 : decode cX3_counted 34 = .ok (.iload 5, 2) := by decide +kernel
theorem dX3_counted_36 : decode cX3_counted 36 = .ok (.iaload, 1) := by decide +kernel
theorem dX3_counted_37 : decode cX3_counted 37 = .ok (.iadd, 1) := by decide +kernel
theorem dX3_counted_38 : decode cX3_counted 38 = .ok (.istore_n 3, 1) := by decide +kernel
theorem dX3_counted_39 : decode cX3_counted 39 = .ok (.iload 4, 2) := by decide +kernel
theorem dX3_counted_41 : decode cX3_counted 41 = .ok (.aload_n 0, 1) := by decide +kernel
theorem dX3_counted_42 : decode cX3_counted 42 = .ok (.getfield 31, 3) := by decide +kernel
theorem dX3_counted_45 : decode cX3_counted 45 = .ok (.iload 5, 2) := by decide +kernel
theorem dX3_counted_47 : decode cX3_counted 47 = .ok (.iaload, 1) := by decide +kernel
theorem dX3_counted_48 : decode cX3_counted 48 = .ok (.ifCond .ne 16, 3) := by decide +kernel
theorem dX3_counted_51 : decode cX3_counted 51 = .ok (.aload_n 0, 1) := by decide +kernel
theorem dX3_counted_52 : decode cX3_counted 52 = .ok (.iload 5, 2) := by decide +kernel
theorem dX3_counted_54 : decode cX3_counted 54 = .ok (.invokevirtual 106, 3) := by decide +kernel
theorem dX3_counted_57 : decode cX3_counted 57 = .ok (.ifCond .eq 7, 3) := by decide +kernel
theorem dX3_counted_60 : decode cX3_counted 60 = .ok (.iconst 1, 1) := by decide +kernel
theorem dX3_counted_61 : decode cX3_counted 61 = .ok (.goto 4, 3) := by decide +kernel
theorem dX3_counted_64 : decode cX3_counted 64 = .ok (.iconst 0, 1) := by decide +kernel
theorem dX3_counted_65 : decode cX3_counted 65 = .ok (.iadd, 1) := by decide +kernel
theorem dX3_counted_66 : decode cX3_counted 66 = .ok (.istore 4, 2) := by decide +kernel
theorem dX3_counted_68 : decode cX3_counted 68 = .ok (.iinc 5 1, 3) := by decide +kernel
theorem dX3_counted_71 : decode cX3_counted 71 = .ok (.goto (-61), 3) := by decide +kernel
theorem dX3_counted_74 : decode cX3_counted 74 = .ok (.iload_n 1, 1) := by decide +kernel
theorem dX3_counted_75 : decode cX3_counted 75 = .ok (.tableswitch 61 0 5 #[37, 42, 47, 49, 54, 56], 37) := by decide +kernel
theorem dX3_counted_112 : decode cX3_counted 112 = .ok (.aload_n 0, 1) := by decide +kernel
theorem dX3_counted_113 : decode cX3_counted 113 = .ok (.getfield 9, 3) := by decide +kernel
theorem dX3_counted_116 : decode cX3_counted 116 = .ok (.ireturn, 1) := by decide +kernel
theorem dX3_counted_117 : decode cX3_counted 117 = .ok (.aload_n 0, 1) := by decide +kernel
theorem dX3_counted_118 : decode cX3_counted 118 = .ok (.getfield 61, 3) := by decide +kernel
theorem dX3_counted_121 : decode cX3_counted 121 = .ok (.ireturn, 1) := by decide +kernel
theorem dX3_counted_122 : decode cX3_counted 122 = .ok (.iload_n 2, 1) := by decide +kernel
theorem dX3_counted_123 : decode cX3_counted 123 = .ok (.ireturn, 1) := by decide +kernel
theorem dX3_counted_124 : decode cX3_counted 124 = .ok (.aload_n 0, 1) := by decide +kernel
theorem dX3_counted_125 : decode cX3_counted 125 = .ok (.getfield 64, 3) := by decide +kernel
theorem dX3_counted_128 : decode cX3_counted 128 = .ok (.ireturn, 1) := by decide +kernel
theorem dX3_counted_129 : decode cX3_counted 129 = .ok (.iload_n 3, 1) := by decide +kernel
theorem dX3_counted_130 : decode cX3_counted 130 = .ok (.ireturn, 1) := by decide +kernel
theorem dX3_counted_131 : decode cX3_counted 131 = .ok (.aload_n 0, 1) := by decide +kernel
theorem dX3_counted_132 : decode cX3_counted 132 = .ok (.invokevirtual 95, 3) := by decide +kernel
theorem dX3_counted_135 : decode cX3_counted 135 = .ok (.ireturn, 1) := by decide +kernel
theorem dX3_counted_136 : decode cX3_counted 136 = .ok (.iload 4, 2) := by decide +kernel
theorem dX3_counted_138 : decode cX3_counted 138 = .ok (.ireturn, 1) := by decide +kernel
theorem dX4_init_0 : decode cX4_init 0 = .ok (.aload_n 0, 1) := by decide +kernel
theorem dX4_init_1 : decode cX4_init 1 = .ok (.invokespecial 1, 3) := by decide +kernel
theorem dX4_init_4 : decode cX4_init 4 = .ok (.aload_n 0, 1) := by decide +kernel
theorem dX4_init_5 : decode cX4_init 5 = .ok (.new 7, 3) := by decide +kernel
theorem dX4_init_8 : decode cX4_init 8 = .ok (.dup, 1) := by decide +kernel
theorem dX4_init_9 : decode cX4_init 9 = .ok (.invokespecial 9, 3) := by decide +kernel
theorem dX4_init_12 : decode cX4_init 12 = .ok (.putfield 10, 3) := by decide +kernel
theorem dX4_init_15 : decode cX4_init 15 = .ok (.aload_n 0, 1) := by decide +kernel
theorem dX4_init_16 : decode cX4_init 16 = .ok (.new 7, 3) := by decide +kernel
theorem dX4_init_19 : decode cX4_init 19 = .ok (.dup, 1) := by decide +kernel
theorem dX4_init_20 : decode cX4_init 20 = .ok (.invokespecial 9, 3) := by decide +kernel
theorem dX4_init_23 : decode cX4_init 23 = .ok (.putfield 16, 3) := by decide +kernel
theorem dX4_init_26 : decode cX4_init 26 = .ok (.return_, 1) := by decide +kernel
theorem dX4_thrown_0 : decode cX4_thrown 0 = .ok (.aload_n 0, 1) := by decide +kernel
theorem dX4_thrown_1 : decode cX4_thrown 1 = .ok (.getfield 19, 3) := by decide +kernel
theorem dX4_thrown_4 : decode cX4_thrown 4 = .ok (.ireturn, 1) := by decide +kernel
theorem dX4_no_0 : decode cX4_no 0 = .ok (.aload_n 0, 1) := by decide +kernel
theorem dX4_no_1 : decode cX4_no 1 = .ok (.iload_n 1, 1) := by decide +kernel
theorem dX4_no_2 : decode cX4_no 2 = .ok (.putfield 19, 3) := by decide +kernel
theorem dX4_no_5 : decode cX4_no 5 = .ok (.iconst 0, 1) := by decide +kernel
theorem dX4_no_6 : decode cX4_no 6 = .ok (.ireturn, 1) := by decide +kernel
theorem dX4_isIn_0 : decode cX4_isIn 0 = .ok (.iload_n 0, 1) := by decide +kernel
theorem dX4_isIn_1 : decode cX4_isIn 1 = .ok (.iload_n 1, 1) := by decide +kernel
theorem dX4_isIn_2 : decode cX4_isIn 2 = .ok (.if_icmp .lt 12, 3) := by decide +kernel
theorem dX4_isIn_5 : decode cX4_isIn 5 = .ok (.iload_n 0, 1) := by decide +kernel
theorem dX4_isIn_6 : decode cX4_isIn 6 = .ok (.iload_n 2, 1) := by decide +kernel
theorem dX4_isIn_7 : decode cX4_isIn 7 = .ok (.if_icmp .gt 7, 3) := by decide +kernel
theorem dX4_isIn_10 : decode cX4_isIn 10 = .ok (.iconst 1, 1) := by decide +kernel
theorem dX4_isIn_11 : decode cX4_isIn 11 = .ok (.goto 4, 3) := by decide +kernel
theorem dX4_isIn_14 : decode cX4_isIn 14 = .ok (.iconst 0, 1) := by decide +kernel
theorem dX4_isIn_15 : decode cX4_isIn 15 = .ok (.ireturn, 1) := by decide +kernel
theorem dX4_isDrawer_0 : decode cX4_isDrawer 0 = .ok (.iload_n 1, 1) := by decide +kernel
theorem dX4_isDrawer_1 : decode cX4_isDrawer 1 = .ok (.iconst 0, 1) := by decide +kernel
theorem dX4_isDrawer_2 : decode cX4_isDrawer 2 = .ok (.aload_n 0, 1) := by decide +kernel
theorem dX4_isDrawer_3 : decode cX4_isDrawer 3 = .ok (.getfield 10, 3) := by decide +kernel
theorem dX4_isDrawer_6 : decode cX4_isDrawer 6 = .ok (.getfield 23, 3) := by decide +kernel
theorem dX4_isDrawer_9 : decode cX4_isDrawer 9 = .ok (.iconst 1, 1) := by decide +kernel
theorem dX4_isDrawer_10 : decode cX4_isDrawer 10 = .ok (.isub, 1) := by decide +kernel
theorem dX4_isDrawer_11 : decode cX4_isDrawer 11 = .ok (.invokestatic 26, 3) := by decide +kernel
theorem dX4_isDrawer_14 : decode cX4_isDrawer 14 = .ok (.ireturn, 1) := by decide +kernel
theorem dX4_isClerk_0 : decode cX4_isClerk 0 = .ok (.iload_n 1, 1) := by decide +kernel
theorem dX4_isClerk_1 : decode cX4_isClerk 1 = .ok (.iconst 0, 1) := by decide +kernel
theorem dX4_isClerk_2 : decode cX4_isClerk 2 = .ok (.aload_n 0, 1) := by decide +kernel
theorem dX4_isClerk_3 : decode cX4_isClerk 3 = .ok (.getfield 10, 3) := by decide +kernel
theorem dX4_isClerk_6 : decode cX4_isClerk 6 = .ok (.getfield 30, 3) := by decide +kernel
theorem dX4_isClerk_9 : decode cX4_isClerk 9 = .ok (.iconst 1, 1) := by decide +kernel
theorem dX4_isClerk_10 : decode cX4_isClerk 10 = .ok (.isub, 1) := by decide +kernel
theorem dX4_isClerk_11 : decode cX4_isClerk 11 = .ok (.invokestatic 26, 3) := by decide +kernel
theorem dX4_isClerk_14 : decode cX4_isClerk 14 = .ok (.ireturn, 1) := by decide +kernel
theorem dX4_till_0 : decode cX4_till 0 = .ok (.aload_n 0, 1) := by decide +kernel
theorem dX4_till_1 : decode cX4_till 1 = .ok (.iconst 0, 1) := by decide +kernel
theorem dX4_till_2 : decode cX4_till 2 = .ok (.putfield 19, 3) := by decide +kernel
theorem dX4_till_5 : decode cX4_till 5 = .ok (.iload_n 1, 1) := by decide +kernel
theorem dX4_till_6 : decode cX4_till 6 = .ok (.iconst 1, 1) := by decide +kernel
theorem dX4_till_7 : decode cX4_till 7 = .ok (.bipush 8, 2) := by decide +kernel
theorem dX4_till_9 : decode cX4_till 9 = .ok (.invokestatic 26, 3) := by decide +kernel
theorem dX4_till_12 : decode cX4_till 12 = .ok (.ifCond .ne 9, 3) := by decide +kernel
theorem dX4_till_15 : decode cX4_till 15 = .ok (.aload_n 0, 1) := by decide +kernel
theorem dX4_till_16 : decode cX4_till 16 = .ok (.iconst 1, 1) := by decide +kernel
theorem dX4_till_17 : decode cX4_till 17 = .ok (.invokevirtual 33, 3) := by decide +kernel
theorem dX4_till_20 : decode cX4_till 20 = .ok (.ireturn, 1) := by decide +kernel
theorem dX4_till_21 : decode cX4_till 21 = .ok (.aload_n 0, 1) := by decide +kernel
theorem dX4_till_22 : decode cX4_till 22 = .ok (.getfield 10, 3) := by decide +kernel
theorem dX4_till_25 : decode cX4_till 25 = .ok (.getfield 23, 3) := by decide +kernel
theorem dX4_till_28 : decode cX4_till 28 = .ok (.istore_n 2, 1) := by decide +kernel
theorem dX4_till_29 : decode cX4_till 29 = .ok (.aload_n 0, 1) := by decide +kernel
theorem dX4_till_30 : decode cX4_till 30 = .ok (.getfield 10, 3) := by decide +kernel
theorem dX4_till_33 : decode cX4_till 33 = .ok (.iload_n 1, 1) := by decide +kernel
theorem dX4_till_34 : decode cX4_till 34 = .ok (.invokevirtual 37, 3) := by decide +kernel
theorem dX4_till_37 : decode cX4_till 37 = .ok (.iload_n 2, 1) := by decide +kernel
theorem dX4_till_38 : decode cX4_till 38 = .ok (.ireturn, 1) := by decide +kernel
theorem dX4_pay_0 : decode cX4_pay 0 = .ok (.aload_n 0, 1) := by decide +kernel
theorem dX4_pay_1 : decode cX4_pay 1 = .ok (.iconst 0, 1) := by decide +kernel
theorem dX4_pay_2 : decode cX4_pay 2 = .ok (.putfield 19, 3) := by decide +kernel
theorem dX4_pay_5 : decode cX4_pay 5 = .ok (.aload_n 0, 1) := by decide +kernel
theorem dX4_pay_6 : decode cX4_pay 6 = .ok (.iload_n 1, 1) := by decide +kernel
theorem dX4_pay_7 : decode cX4_pay 7 = .ok (.invokevirtual 41, 3) := by decide +kernel
theorem dX4_pay_10 : decode cX4_pay 10 = .ok (.ifCond .ne 9, 3) := by decide +kernel
theorem dX4_pay_13 : decode cX4_pay 13 = .ok (.aload_n 0, 1) := by decide +kernel
theorem dX4_pay_14 : decode cX4_pay 14 = .ok (.iconst 1, 1) := by decide +kernel
theorem dX4_pay_15 : decode cX4_pay 15 = .ok (.invokevirtual 33, 3) := by decide +kernel
theorem dX4_pay_18 : decode cX4_pay 18 = .ok (.ireturn, 1) := by decide +kernel
theorem dX4_pay_19 : decode cX4_pay 19 = .ok (.iload_n 2, 1) := by decide +kernel
theorem dX4_pay_20 : decode cX4_pay 20 = .ok (.iconst 0, 1) := by decide +kernel
theorem dX4_pay_21 : decode cX4_pay 21 = .ok (.sipush 9999, 3) := by decide +kernel
theorem dX4_pay_24 : decode cX4_pay 24 = .ok (.invokestatic 26, 3) := by decide +kernel
theorem dX4_pay_27 : decode cX4_pay 27 = .ok (.ifCond .ne 9, 3) := by decide +kernel
theorem dX4_pay_30 : decode cX4_pay 30 = .ok (.aload_n 0, 1) := by decide +kernel
theorem dX4_pay_31 : decode cX4_pay 31 = .ok (.iconst 2, 1) := by decide +kernel
theorem dX4_pay_32 : decode cX4_pay 32 = .ok (.invokevirtual 33, 3) := by decide +kernel
theorem dX4_pay_35 : decode cX4_pay 35 = .ok (.ireturn, 1) := by decide +kernel
theorem dX4_pay_36 : decode cX4_pay 36 = .ok (.aload_n 0, 1) := by decide +kernel
theorem dX4_pay_37 : decode cX4_pay 37 = .ok (.getfield 10, 3) := by decide +kernel
theorem dX4_pay_40 : decode cX4_pay 40 = .ok (.getfield 45, 3) := by decide +kernel
theorem dX4_pay_43 : decode cX4_pay 43 = .ok (.iload_n 1, 1) := by decide +kernel
theorem dX4_pay_44 : decode cX4_pay 44 = .ok (.iaload, 1) := by decide +kernel
theorem dX4_pay_45 : decode cX4_pay 45 = .ok (.istore_n 3, 1) := by decide +kernel
theorem dX4_pay_46 : decode cX4_pay 46 = .ok (.aload_n 0, 1) := by decide +kernel
theorem dX4_pay_47 : decode cX4_pay 47 = .ok (.getfield 10, 3) := by decide +kernel
theorem dX4_pay_50 : decode cX4_pay 50 = .ok (.iload_n 1, 1) := by decide +kernel
theorem dX4_pay_51 : decode cX4_pay 51 = .ok (.iload_n 2, 1) := by decide +kernel
theorem dX4_pay_52 : decode cX4_pay 52 = .ok (.invokevirtual 49, 3) := by decide +kernel
theorem dX4_pay_55 : decode cX4_pay 55 = .ok (.iload_n 3, 1) := by decide +kernel
theorem dX4_pay_56 : decode cX4_pay 56 = .ok (.ireturn, 1) := by decide +kernel
theorem dX4_clerk_0 : decode cX4_clerk 0 = .ok (.aload_n 0, 1) := by decide +kernel
theorem dX4_clerk_1 : decode cX4_clerk 1 = .ok (.iconst 0, 1) := by decide +kernel
theorem dX4_clerk_2 : decode cX4_clerk 2 = .ok (.putfield 19, 3) := by decide +kernel
theorem dX4_clerk_5 : decode cX4_clerk 5 = .ok (.aload_n 0, 1) := by decide +kernel
theorem dX4_clerk_6 : decode cX4_clerk 6 = .ok (.getfield 10, 3) := by decide +kernel
theorem dX4_clerk_9 : decode cX4_clerk 9 = .ok (.getfield 30, 3) := by decide +kernel
theorem dX4_clerk_12 : decode cX4_clerk 12 = .ok (.bipush 6, 2) := by decide +kernel
theorem dX4_clerk_14 : decode cX4_clerk 14 = .ok (.if_icmp .ge 13, 3) := by decide +kernel
theorem dX4_clerk_17 : decode cX4_clerk 17 = .ok (.aload_n 0, 1) := by decide +kernel
theorem dX4_clerk_18 : decode cX4_clerk 18 = .ok (.getfield 10, 3) := by decide +kernel
theorem dX4_clerk_21 : decode cX4_clerk 21 = .ok (.invokevirtual 53, 3) := by decide +kernel
theorem dX4_clerk_24 : decode cX4_clerk 24 = .ok (.goto 8, 3) := by decide +kernel
theorem dX4_clerk_27 : decode cX4_clerk 27 = .ok (.aload_n 0, 1) := by decide +kernel
theorem dX4_clerk_28 : decode cX4_clerk 28 = .ok (.iconst 1, 1) := by decide +kernel
theorem dX4_clerk_29 : decode cX4_clerk 29 = .ok (.invokevirtual 33, 3) := by decide +kernel
theorem dX4_clerk_32 : decode cX4_clerk 32 = .ok (.ireturn, 1) := by decide +kernel
theorem dX4_say_0 : decode cX4_say 0 = .ok (.aload_n 0, 1) := by decide +kernel
theorem dX4_say_1 : decode cX4_say 1 = .ok (.iconst 0, 1) := by decide +kernel
theorem dX4_say_2 : decode cX4_say 2 = .ok (.putfield 19, 3) := by decide +kernel
theorem dX4_say_5 : decode cX4_say 5 = .ok (.aload_n 0, 1) := by decide +kernel
theorem dX4_say_6 : decode cX4_say 6 = .ok (.iload_n 1, 1) := by decide +kernel
theorem dX4_say_7 : decode cX4_say 7 = .ok (.invokevirtual 57, 3) := by decide +kernel
theorem dX4_say_10 : decode cX4_say 10 = .ok (.ifCond .eq 29, 3) := by decide +kernel
theorem dX4_say_13 : decode cX4_say 13 = .ok (.iload_n 2, 1) := by decide +kernel
theorem dX4_say_14 : decode cX4_say 14 = .ok (.iconst 0, 1) := by decide +kernel
theorem dX4_say_15 : decode cX4_say 15 = .ok (.iconst 3, 1) := by decide +kernel
theorem dX4_say_16 : decode cX4_say 16 = .ok (.invokestatic 26, 3) := by decide +kernel
theorem dX4_say_19 : decode cX4_say 19 = .ok (.ifCond .eq 20, 3) := by decide +kernel
theorem dX4_say_22 : decode cX4_say 22 = .ok (.aload_n 0, 1) := by decide +kernel
theorem dX4_say_23 : decode cX4_say 23 = .ok (.iload_n 3, 1) := by decide +kernel
theorem dX4_say_24 : decode cX4_say 24 = .ok (.invokevirtual 41, 3) := by decide +kernel
theorem dX4_say_27 : decode cX4_say 27 = .ok (.ifCond .eq 12, 3) := by decide +kernel
theorem dX4_say_30 : decode cX4_say 30 = .ok (.aload_n 0, 1) := by decide +kernel
theorem dX4_say_31 : decode cX4_say 31 = .ok (.iload 4, 2) := by decide +kernel
theorem dX4_say_33 : decode cX4_say 33 = .ok (.invokevirtual 41, 3) := by decide +kernel
theorem dX4_say_36 : decode cX4_say 36 = .ok (.ifCond .ne 9, 3) := by decide +kernel
theorem dX4_say_39 : decode cX4_say 39 = .ok (.aload_n 0, 1) := by decide +kernel
theorem dX4_say_40 : decode cX4_say 40 = .ok (.iconst 1, 1) := by decide +kernel
theorem dX4_say_41 : decode cX4_say 41 = .ok (.invokevirtual 33, 3) := by decide +kernel
theorem dX4_say_44 : decode cX4_say 44 = .ok (.ireturn, 1) := by decide +kernel
theorem dX4_say_45 : decode cX4_say 45 = .ok (.iload 5, 2) := by decide +kernel
theorem dX4_say_47 : decode cX4_say 47 = .ok (.sipush (-999), 3) := by decide +kernel
theorem dX4_say_50 : decode cX4_say 50 = .ok (.sipush 999, 3) := by decide +kernel
theorem dX4_say_53 : decode cX4_say 53 = .ok (.invokestatic 26, 3) := by decide +kernel
theorem dX4_say_56 : decode cX4_say 56 = .ok (.ifCond .eq 30, 3) := by decide +kernel
theorem dX4_say_59 : decode cX4_say 59 = .ok (.iload_n 2, 1) := by decide +kernel
theorem dX4_say_60 : decode cX4_say 60 = .ok (.iconst 1, 1) := by decide +kernel
theorem dX4_say_61 : decode cX4_say 61 = .ok (.if_icmp .ne 8, 3) := by decide +kernel
theorem dX4_say_64 : decode cX4_say 64 = .ok (.iload 5, 2) := by decide +kernel
theorem dX4_say_66 : decode cX4_say 66 = .ok (.ifCond .lt 20, 3) := by decide +kernel
theorem dX4_say_69 : decode cX4_say 69 = .ok (.iload_n 2, 1) := by decide +kernel
theorem dX4_say_70 : decode cX4_say 70 = .ok (.iconst 3, 1) := by decide +kernel
theorem dX4_say_71 : decode cX4_say 71 = .ok (.if_icmp .ne 21, 3) := by decide +kernel
theorem dX4_say_74 : decode cX4_say 74 = .ok (.iload 5, 2) := by decide +kernel
theorem dX4_say_76 : decode cX4_say 76 = .ok (.iconst 1, 1) := by decide +kernel
theorem dX4_say_77 : decode cX4_say 77 = .ok (.if_icmp .lt 9, 3) := by decide +kernel
theorem dX4_say_80 : decode cX4_say 80 = .ok (.iload_n 3, 1) := by decide +kernel
theorem dX4_say_81 : decode cX4_say 81 = .ok (.iload 4, 2) := by decide +kernel
theorem dX4_say_83 : decode cX4_say 83 = .ok (.if_icmp .ne 9, 3) := by decide +kernel
theorem dX4_say_86 : decode cX4_say 86 = .ok (.aload_n 0, 1) := by decide +kernel
theorem dX4_say_87 : decode cX4_say 87 = .ok (.iconst 2, 1) := by decide +kernel
theorem dX4_say_88 : decode cX4_say 88 = .ok (.invokevirtual 33, 3) := by decide +kernel
theorem dX4_say_91 : decode cX4_say 91 = .ok (.ireturn, 1) := by decide +kernel
theorem dX4_say_92 : decode cX4_say 92 = .ok (.aload_n 0, 1) := by decide +kernel
theorem dX4_say_93 : decode cX4_say 93 = .ok (.getfield 10, 3) := by decide +kernel
theorem dX4_say_96 : decode cX4_say 96 = .ok (.getfield 60, 3) := by decide +kernel
theorem dX4_say_99 : decode cX4_say 99 = .ok (.iload_n 1, 1) := by decide +kernel
theorem dX4_say_100 : decode cX4_say 100 = .ok (.iaload, 1) := by decide +kernel
theorem dX4_say_101 : decode cX4_say 101 = .ok (.iconst 1, 1) := by decide +kernel
theorem dX4_say_102 : decode cX4_say 102 = .ok (.if_icmp .eq 29, 3) := by decide +kernel
theorem dX4_say_105 : decode cX4_say 105 = .ok (.aload_n 0, 1) := by decide +kernel
theorem dX4_say_106 : decode cX4_say 106 = .ok (.getfield 10, 3) := by decide +kernel
theorem dX4_say_109 : decode cX4_say 109 = .ok (.getfield 63, 3) := by decide +kernel
theorem dX4_say_112 : decode cX4_say 112 = .ok (.iload_n 1, 1) := by decide +kernel
theorem dX4_say_113 : decode cX4_say 113 = .ok (.iaload, 1) := by decide +kernel
theorem dX4_say_114 : decode cX4_say 114 = .ok (.ifCond .ne 17, 3) := by decide +kernel
theorem dX4_say_117 : decode cX4_say 117 = .ok (.aload_n 0, 1) := by decide +kernel
theorem dX4_say_118 : decode cX4_say 118 = .ok (.getfield 10, 3) := by decide +kernel
theorem dX4_say_121 : decode cX4_say 121 = .ok (.getfield 66, 3) := by decide +kernel
theorem dX4_say_124 : decode cX4_say 124 = .ok (.iload_n 1, 1) := by decide +kernel
theorem dX4_say_125 : decode cX4_say 125 = .ok (.iaload, 1) := by decide +kernel
theorem dX4_say_126 : decode cX4_say 126 = .ok (.bipush 8, 2) := by decide +kernel
theorem dX4_say_128 : decode cX4_say 128 = .ok (.if_icmp .ne 9, 3) := by decide +kernel
theorem dX4_say_131 : decode cX4_say 131 = .ok (.aload_n 0, 1) := by decide +kernel
theorem dX4_say_132 : decode cX4_say 132 = .ok (.iconst 3, 1) := by decide +kernel
theorem dX4_say_133 : decode cX4_say 133 = .ok (.invokevirtual 33, 3) := by decide +kernel
theorem dX4_say_136 : decode cX4_say 136 = .ok (.ireturn, 1) := by decide +kernel
theorem dX4_say_137 : decode cX4_say 137 = .ok (.iconst 4, 1) := by decide +kernel
theorem dX4_say_138 : decode cX4_say 138 = .ok (.newarray .int, 2) := by decide +kernel
theorem dX4_say_140 : decode cX4_say 140 = .ok (.dup, 1) := by decide +kernel
theorem dX4_say_141 : decode cX4_say 141 = .ok (.iconst 0, 1) := by decide +kernel
theorem dX4_say_142 : decode cX4_say 142 = .ok (.iload_n 2, 1) := by decide +kernel
theorem dX4_say_143 : decode cX4_say 143 = .ok (.iastore, 1) := by decide +kernel
theorem dX4_say_144 : decode cX4_say 144 = .ok (.dup, 1) := by decide +kernel
theorem dX4_say_145 : decode cX4_say 145 = .ok (.iconst 1, 1) := by decide +kernel
theorem dX4_say_146 : decode cX4_say 146 = .ok (.iload_n 3, 1) := by decide +kernel
theorem dX4_say_147 : decode cX4_say 147 = .ok (.iastore, 1) := by decide +kernel
theorem dX4_say_148 : decode cX4_say 148 = .ok (.dup, 1) := by decide +kernel
theorem dX4_say_149 : decode cX4_say 149 = .ok (.iconst 2, 1) := by decide +kernel
theorem dX4_say_150 : decode cX4_say 150 = .ok (.iload 4, 2) := by decide +kernel
theorem dX4_say_152 : decode cX4_say 152 = .ok (.iastore, 1) := by decide +kernel
theorem dX4_say_153 : decode cX4_say 153 = .ok (.dup, 1) := by decide +kernel
theorem dX4_say_154 : decode cX4_say 154 = .ok (.iconst 3, 1) := by decide +kernel
theorem dX4_say_155 : decode cX4_say 155 = .ok (.iload 5, 2) := by decide +kernel
theorem dX4_say_157 : decode cX4_say 157 = .ok (.iastore, 1) := by decide +kernel
theorem dX4_say_158 : decode cX4_say 158 = .ok (.astore 6, 2) := by decide +kernel
theorem dX4_say_160 : decode cX4_say 160 = .ok (.aload 6, 2) := by decide +kernel
theorem dX4_say_162 : decode cX4_say 162 = .ok (.iconst 0, 1) := by decide +kernel
theorem dX4_say_163 : decode cX4_say 163 = .ok (.aload_n 0, 1) := by decide +kernel
theorem dX4_say_164 : decode cX4_say 164 = .ok (.getfield 10, 3) := by decide +kernel
theorem dX4_say_167 : decode cX4_say 167 = .ok (.getfield 69, 3) := by decide +kernel
theorem dX4_say_170 : decode cX4_say 170 = .ok (.iconst 4, 1) := by decide +kernel
theorem dX4_say_171 : decode cX4_say 171 = .ok (.bipush 8, 2) := by decide +kernel
theorem dX4_say_173 : decode cX4_say 173 = .ok (.iload_n 1, 1) := by decide +kernel
theorem dX4_say_174 : decode cX4_say 174 = .ok (.imul, 1) := by decide +kernel
theorem dX4_say_175 : decode cX4_say 175 = .ok (.aload_n 0, 1) := by decide +kernel
theorem dX4_say_176 : decode cX4_say 176 = .ok (.getfield 10, 3) := by decide +kernel
theorem dX4_say_179 : decode cX4_say 179 = .ok (.getfield 66, 3) := by decide +kernel
theorem dX4_say_182 : decode cX4_say 182 = .ok (.iload_n 1, 1) := by decide +kernel
theorem dX4_say_183 : decode cX4_say 183 = .ok (.iaload, 1) := by decide +kernel
theorem dX4_say_184 : decode cX4_say 184 = .ok (.iadd, 1) := by decide +kernel
theorem dX4_say_185 : decode cX4_say 185 = .ok (.imul, 1) := by decide +kernel
theorem dX4_say_186 : decode cX4_say 186 = .ok (.iconst 4, 1) := by decide +kernel
theorem dX4_say_187 : decode cX4_say 187 = .ok (.invokestatic 72, 3) := by decide +kernel
theorem dX4_say_190 : decode cX4_say 190 = .ok (.aload_n 0, 1) := by decide +kernel
theorem dX4_say_191 : decode cX4_say 191 = .ok (.getfield 10, 3) := by decide +kernel
theorem dX4_say_194 : decode cX4_say 194 = .ok (.getfield 66, 3) := by decide +kernel
theorem dX4_say_197 : decode cX4_say 197 = .ok (.iload_n 1, 1) := by decide +kernel
theorem dX4_say_198 : decode cX4_say 198 = .ok (.dup2, 1) := by decide +kernel
theorem dX4_say_199 : decode cX4_say 199 = .ok (.iaload, 1) := by decide +kernel
theorem dX4_say_200 : decode cX4_say 200 = .ok (.iconst 1, 1) := by decide +kernel
theorem dX4_say_201 : decode cX4_say 201 = .ok (.iadd, 1) := by decide +kernel
theorem dX4_say_202 : decode cX4_say 202 = .ok (.iastore, 1) := by decide +kernel
theorem dX4_say_203 : decode cX4_say 203 = .ok (.aload_n 0, 1) := by decide +kernel
theorem dX4_say_204 : decode cX4_say 204 = .ok (.getfield 10, 3) := by decide +kernel
theorem dX4_say_207 : decode cX4_say 207 = .ok (.getfield 66, 3) := by decide +kernel
theorem dX4_say_210 : decode cX4_say 210 = .ok (.iload_n 1, 1) := by decide +kernel
theorem dX4_say_211 : decode cX4_say 211 = .ok (.iaload, 1) := by decide +kernel
theorem dX4_say_212 : decode cX4_say 212 = .ok (.ireturn, 1) := by decide +kernel
theorem dX4_turn_0 : decode cX4_turn 0 = .ok (.aload_n 0, 1) := by decide +kernel
theorem dX4_turn_1 : decode cX4_turn 1 = .ok (.iconst 0, 1) := by decide +kernel
theorem dX4_turn_2 : decode cX4_turn 2 = .ok (.putfield 19, 3) := by decide +kernel
theorem dX4_turn_5 : decode cX4_turn 5 = .ok (.aload_n 0, 1) := by decide +kernel
theorem dX4_turn_6 : decode cX4_turn 6 = .ok (.iload_n 1, 1) := by decide +kernel
theorem dX4_turn_7 : decode cX4_turn 7 = .ok (.invokevirtual 57, 3) := by decide +kernel
theorem dX4_turn_10 : decode cX4_turn 10 = .ok (.ifCond .ne 9, 3) := by decide +kernel
theorem dX4_turn_13 : decode cX4_turn 13 = .ok (.aload_n 0, 1) := by decide +kernel
theorem dX4_turn_14 : decode cX4_turn 14 = .ok (.iconst 1, 1) := by decide +kernel
theorem dX4_turn_15 : decode cX4_turn 15 = .ok (.invokevirtual 33, 3) := by decide +kernel
theorem dX4_turn_18 : decode cX4_turn 18 = .ok (.ireturn, 1) := by decide +kernel
theorem dX4_turn_19 : decode cX4_turn 19 = .ok (.aload_n 0, 1) := by decide +kernel
theorem dX4_turn_20 : decode cX4_turn 20 = .ok (.getfield 10, 3) := by decide +kernel
theorem dX4_turn_23 : decode cX4_turn 23 = .ok (.iload_n 1, 1) := by decide +kernel
theorem dX4_turn_24 : decode cX4_turn 24 = .ok (.invokevirtual 78, 3) := by decide +kernel
theorem dX4_turn_27 : decode cX4_turn 27 = .ok (.ifCond .eq 14, 3) := by decide +kernel
theorem dX4_turn_30 : decode cX4_turn 30 = .ok (.aload_n 0, 1) := by decide +kernel
theorem dX4_turn_31 : decode cX4_turn 31 = .ok (.getfield 10, 3) := by decide +kernel
theorem dX4_turn_34 : decode cX4_turn 34 = .ok (.iload_n 1, 1) := by decide +kernel
theorem dX4_turn_35 : decode cX4_turn 35 = .ok (.invokevirtual 81, 3) := by decide +kernel
theorem dX4_turn_38 : decode cX4_turn 38 = .ok (.goto 8, 3) := by decide +kernel
theorem dX4_turn_41 : decode cX4_turn 41 = .ok (.aload_n 0, 1) := by decide +kernel
theorem dX4_turn_42 : decode cX4_turn 42 = .ok (.iconst 2, 1) := by decide +kernel
theorem dX4_turn_43 : decode cX4_turn 43 = .ok (.invokevirtual 33, 3) := by decide +kernel
theorem dX4_turn_46 : decode cX4_turn 46 = .ok (.ireturn, 1) := by decide +kernel
theorem dX4_drop_0 : decode cX4_drop 0 = .ok (.aload_n 0, 1) := by decide +kernel
theorem dX4_drop_1 : decode cX4_drop 1 = .ok (.iconst 0, 1) := by decide +kernel
theorem dX4_drop_2 : decode cX4_drop 2 = .ok (.putfield 19, 3) := by decide +kernel
theorem dX4_drop_5 : decode cX4_drop 5 = .ok (.aload_n 0, 1) := by decide +kernel
theorem dX4_drop_6 : decode cX4_drop 6 = .ok (.iload_n 1, 1) := by decide +kernel
theorem dX4_drop_7 : decode cX4_drop 7 = .ok (.invokevirtual 57, 3) := by decide +kernel
theorem dX4_drop_10 : decode cX4_drop 10 = .ok (.ifCond .ne 9, 3) := by decide +kernel
theorem dX4_drop_13 : decode cX4_drop 13 = .ok (.aload_n 0, 1) := by decide +kernel
theorem dX4_drop_14 : decode cX4_drop 14 = .ok (.iconst 1, 1) := by decide +kernel
theorem dX4_drop_15 : decode cX4_drop 15 = .ok (.invokevirtual 33, 3) := by decide +kernel
theorem dX4_drop_18 : decode cX4_drop 18 = .ok (.ireturn, 1) := by decide +kernel
theorem dX4_drop_19 : decode cX4_drop 19 = .ok (.aload_n 0, 1) := by decide +kernel
theorem dX4_drop_20 : decode cX4_drop 20 = .ok (.getfield 10, 3) := by decide +kernel
theorem dX4_drop_23 : decode cX4_drop 23 = .ok (.getfield 63, 3) := by decide +kernel
theorem dX4_drop_26 : decode cX4_drop 26 = .ok (.iload_n 1, 1) := by decide +kernel
theorem dX4_drop_27 : decode cX4_drop 27 = .ok (.iaload, 1) := by decide +kernel
theorem dX4_drop_28 : decode cX4_drop 28 = .ok (.istore_n 2, 1) := by decide +kernel
theorem dX4_drop_29 : decode cX4_drop 29 = .ok (.aload_n 0, 1) := by decide +kernel
theorem dX4_drop_30 : decode cX4_drop 30 = .ok (.getfield 10, 3) := by decide +kernel
theorem dX4_drop_33 : decode cX4_drop 33 = .ok (.iload_n 1, 1) := by decide +kernel
theorem dX4_drop_34 : decode cX4_drop 34 = .ok (.invokevirtual 84, 3) := by decide +kernel
theorem dX4_drop_37 : decode cX4_drop 37 = .ok (.iload_n 2, 1) := by decide +kernel
theorem dX4_drop_38 : decode cX4_drop 38 = .ok (.ireturn, 1) := by decide +kernel
theorem dX4_pass_0 : decode cX4_pass 0 = .ok (.aload_n 0, 1) := by decide +kernel
theorem dX4_pass_1 : decode cX4_pass 1 = .ok (.iconst 0, 1) := by decide +kernel
theorem dX4_pass_2 : decode cX4_pass 2 = .ok (.putfield 19, 3) := by decide +kernel
theorem dX4_pass_5 : decode cX4_pass 5 = .ok (.iload_n 1, 1) := by decide +kernel
theorem dX4_pass_6 : decode cX4_pass 6 = .ok (.iconst 1, 1) := by decide +kernel
theorem dX4_pass_7 : decode cX4_pass 7 = .ok (.bipush 50, 2) := by decide +kernel
theorem dX4_pass_9 : decode cX4_pass 9 = .ok (.invokestatic 26, 3) := by decide +kernel
theorem dX4_pass_12 : decode cX4_pass 12 = .ok (.ifCond .ne 9, 3) := by decide +kernel
theorem dX4_pass_15 : decode cX4_pass 15 = .ok (.aload_n 0, 1) := by decide +kernel
theorem dX4_pass_16 : decode cX4_pass 16 = .ok (.iconst 1, 1) := by decide +kernel
theorem dX4_pass_17 : decode cX4_pass 17 = .ok (.invokevirtual 33, 3) := by decide +kernel
theorem dX4_pass_20 : decode cX4_pass 20 = .ok (.ireturn, 1) := by decide +kernel
theorem dX4_pass_21 : decode cX4_pass 21 = .ok (.iconst 0, 1) := by decide +kernel
theorem dX4_pass_22 : decode cX4_pass 22 = .ok (.istore_n 2, 1) := by decide +kernel
theorem dX4_pass_23 : decode cX4_pass 23 = .ok (.iconst 0, 1) := by decide +kernel
theorem dX4_pass_24 : decode cX4_pass 24 = .ok (.istore_n 3, 1) := by decide +kernel
theorem dX4_pass_25 : decode cX4_pass 25 = .ok (.iload_n 3, 1) := by decide +kernel
theorem dX4_pass_26 : decode cX4_pass 26 = .ok (.iload_n 1, 1) := by decide +kernel
theorem dX4_pass_27 : decode cX4_pass 27 = .ok (.if_icmp .ge 19, 3) := by decide +kernel
theorem dX4_pass_30 : decode cX4_pass 30 = .ok (.iload_n 2, 1) := by decide +kernel
theorem dX4_pass_31 : decode cX4_pass 31 = .ok (.aload_n 0, 1) := by decide +kernel
theorem dX4_pass_32 : decode cX4_pass 32 = .ok (.getfield 10, 3) := by decide +kernel
theorem dX4_pass_35 : decode cX4_pass 35 = .ok (.invokevirtual 87, 3) := by decide +kernel
theorem dX4_pass_38 : decode cX4_pass 38 = .ok (.iadd, 1) := by decide +kernel
theorem dX4_pass_39 : decode cX4_pass 39 = .ok (.istore_n 2, 1) := by decide +kernel
theorem dX4_pass_40 : decode cX4_pass 40 = .ok (.iinc 3 1, 3) := by decide +kernel
theorem dX4_pass_43 : decode cX4_pass 43 = .ok (.goto (-18), 3) := by decide +kernel
theorem dX4_pass_46 : decode cX4_pass 46 = .ok (.iload_n 2, 1) := by decide +kernel
theorem dX4_pass_47 : decode cX4_pass 47 = .ok (.ireturn, 1) := by decide +kernel
theorem dX4_drawerTold_0 : decode cX4_drawerTold 0 = .ok (.iload_n 2, 1) := by decide +kernel
theorem dX4_drawerTold_1 : decode cX4_drawerTold 1 = .ok (.iconst 2, 1) := by decide +kernel
theorem dX4_drawerTold_2 : decode cX4_drawerTold 2 = .ok (.if_icmp .ge 29, 3) := by decide +kernel
theorem dX4_drawerTold_5 : decode cX4_drawerTold 5 = .ok (.iload_n 2, 1) := by decide +kernel
theorem dX4_drawerTold_6 : decode cX4_drawerTold 6 = .ok (.ifCond .ne 15, 3) := by decide +kernel
theorem dX4_drawerTold_9 : decode cX4_drawerTold 9 = .ok (.aload_n 0, 1) := by decide +kernel
theorem dX4_drawerTold_10 : decode cX4_drawerTold 10 = .ok (.getfield 10, 3) := by decide +kernel
theorem dX4_drawerTold_13 : decode cX4_drawerTold 13 = .ok (.getfield 45, 3) := by decide +kernel
theorem dX4_drawerTold_16 : decode cX4_drawerTold 16 = .ok (.iload_n 1, 1) := by decide +kernel
theorem dX4_drawerTold_17 : decode cX4_drawerTold 17 = .ok (.iaload, 1) := by decide +kernel
theorem dX4_drawerTold_18 : decode cX4_drawerTold 18 = .ok (.goto 12, 3) := by decide +kernel
theorem dX4_drawerTold_21 : decode cX4_drawerTold 21 = .ok (.aload_n 0, 1) := by decide +kernel
theorem dX4_drawerTold_22 : decode cX4_drawerTold 22 = .ok (.getfield 10, 3) := by decide +kernel
theorem dX4_drawerTold_25 : decode cX4_drawerTold 25 = .ok (.getfield 90, 3) := by decide +kernel
theorem dX4_drawerTold_28 : decode cX4_drawerTold 28 = .ok (.iload_n 1, 1) := by decide +kernel
theorem dX4_drawerTold_29 : decode cX4_drawerTold 29 = .ok (.iaload, 1) := by decide +kernel
theorem dX4_drawerTold_30 : decode cX4_drawerTold 30 = .ok (.ireturn, 1) := by decide +kernel
theorem dX4_drawerTold_31 : decode cX4_drawerTold 31 = .ok (.iconst 0, 1) := by decide +kernel
theorem dX4_drawerTold_32 : decode cX4_drawerTold 32 = .ok (.istore_n 3, 1) := by decide +kernel
theorem dX4_drawerTold_33 : decode cX4_drawerTold 33 = .ok (.iconst 0, 1) := by decide +kernel
theorem dX4_drawerTold_34 : decode cX4_drawerTold 34 = .ok (.istore 4, 2) := by decide +kernel
theorem dX4_drawerTold_36 : decode cX4_drawerTold 36 = .ok (.iload 4, 2) := by decide +kernel
theorem dX4_drawerTold_38 : decode cX4_drawerTold 38 = .ok (.aload_n 0, 1) := by decide +kernel
theorem dX4_drawerTold_39 : decode cX4_drawerTold 39 = .ok (.getfield 10, 3) := by decide +kernel
theorem dX4_drawerTold_42 : decode cX4_drawerTold 42 = .ok (.getfield 30, 3) := by decide +kernel
theorem dX4_drawerTold_45 : decode cX4_drawerTold 45 = .ok (.if_icmp .ge 64, 3) := by decide +kernel
theorem dX4_drawerTold_48 : decode cX4_drawerTold 48 = .ok (.iload_n 3, 1) := by decide +kernel
theorem dX4_drawerTold_49 : decode cX4_drawerTold 49 = .ok (.aload_n 0, 1) := by decide +kernel
theorem dX4_drawerTold_50 : decode cX4_drawerTold 50 = .ok (.getfield 10, 3) := by decide +kernel
theorem dX4_drawerTold_53 : decode cX4_drawerTold 53 = .ok (.getfield 60, 3) := by decide +kernel
theorem dX4_drawerTold_56 : decode cX4_drawerTold 56 = .ok (.iload 4, 2) := by decide +kernel
theorem dX4_drawerTold_58 : decode cX4_drawerTold 58 = .ok (.iaload, 1) := by decide +kernel
theorem dX4_drawerTold_59 : decode cX4_drawerTold 59 = .ok (.ifCond .ne 41, 3) := by decide +kernel
theorem dX4_drawerTold_62 : decode cX4_drawerTold 62 = .ok (.iload_n 2, 1) := by decide +kernel
theorem dX4_drawerTold_63 : decode cX4_drawerTold 63 = .ok (.iconst 2, 1) := by decide +kernel
theorem dX4_drawerTold_64 : decode cX4_drawerTold 64 = .ok (.if_icmp .ne 13, 3) := by decide +kernel
theorem dX4_drawerTold_67 : decode cX4_drawerTold 67 = .ok (.aload_n 0, 1) := by decide +kernel
theorem dX4_drawerTold_68 : decode cX4_drawerTold 68 = .ok (.getfield 10, 3) := by decide +kernel
theorem dX4_drawerTold_71 : decode cX4_drawerTold 71 = .ok (.getfield 93, 3) := by decide +kernel
theorem dX4_drawerTold_74 : decode cX4_drawerTold 74 = .ok (.goto 10, 3) := by decide +kernel
theorem dX4_drawerTold_77 : decode cX4_drawerTold 77 = .ok (.aload_n 0, 1) := by decide +kernel
theorem dX4_drawerTold_78 : decode cX4_drawerTold 78 = .ok (.getfield 10, 3) := by decide +kernel
theorem dX4_drawerTold_81 : decode cX4_drawerTold 81 = .ok (.getfield 96, 3) := by decide +kernel
theorem dX4_drawerTold_84 : decode cX4_drawerTold 84 = .ok (.bipush 8, 2) := by decide +kernel
theorem dX4_drawerTold_86 : decode cX4_drawerTold 86 = .ok (.iload 4, 2) := by decide +kernel
theorem dX4_drawerTold_88 : decode cX4_drawerTold 88 = .ok (.imul, 1) := by decide +kernel
theorem dX4_drawerTold_89 : decode cX4_drawerTold 89 = .ok (.iload_n 1, 1) := by decide +kernel
theorem dX4_drawerTold_90 : decode cX4_drawerTold 90 = .ok (.iadd, 1) := by decide +kernel
theorem dX4_drawerTold_91 : decode cX4_drawerTold 91 = .ok (.iaload, 1) := by decide +kernel
theorem dX4_drawerTold_92 : decode cX4_drawerTold 92 = .ok (.iconst (-1), 1) := by decide +kernel
theorem dX4_drawerTold_93 : decode cX4_drawerTold 93 = .ok (.if_icmp .eq 7, 3) := by decide +kernel
theorem dX4_drawerTold_96 : decode cX4_drawerTold 96 = .ok (.iconst 1, 1) := by decide +kernel
theorem dX4_drawerTold_97 : decode cX4_drawerTold 97 = .ok (.goto 4, 3) := by decide +kernel
theorem dX4_drawerTold_100 : decode cX4_drawerTold 100 = .ok (.iconst 0, 1) := by decide +kernel
theorem dX4_drawerTold_101 : decode cX4_drawerTold 101 = .ok (.iadd, 1) := by decide +kernel
theorem dX4_drawerTold_102 : decode cX4_drawerTold 102 = .ok (.istore_n 3, 1) := by decide +kernel
theorem dX4_drawerTold_103 : decode cX4_drawerTold 103 = .ok (.iinc 4 1, 3) := by decide +kernel
theorem dX4_drawerTold_106 : decode cX4_drawerTold 106 = .ok (.goto (-70), 3) := by decide +kernel
theorem dX4_drawerTold_109 : decode cX4_drawerTold 109 = .ok (.iload_n 3, 1) := by decide +kernel
theorem dX4_drawerTold_110 : decode cX4_drawerTold 110 = .ok (.ireturn, 1) := by decide +kernel
theorem dX4_drawer_0 : decode cX4_drawer 0 = .ok (.aload_n 0, 1) := by decide +kernel
theorem dX4_drawer_1 : decode cX4_drawer 1 = .ok (.iconst 0, 1) := by decide +kernel
theorem dX4_drawer_2 : decode cX4_drawer 2 = .ok (.putfield 19, 3) := by decide +kernel
theorem dX4_drawer_5 : decode cX4_drawer 5 = .ok (.aload_n 0, 1) := by decide +kernel
theorem dX4_drawer_6 : decode cX4_drawer 6 = .ok (.iload_n 1, 1) := by decide +kernel
theorem dX4_drawer_7 : decode cX4_drawer 7 = .ok (.invokevirtual 41, 3) := by decide +kernel
theorem dX4_drawer_10 : decode cX4_drawer 10 = .ok (.ifCond .eq 21, 3) := by decide +kernel
theorem dX4_drawer_13 : decode cX4_drawer 13 = .ok (.iload_n 2, 1) := by decide +kernel
theorem dX4_drawer_14 : decode cX4_drawer 14 = .ok (.iconst 0, 1) := by decide +kernel
theorem dX4_drawer_15 : decode cX4_drawer 15 = .ok (.iconst 3, 1) := by decide +kernel
theorem dX4_drawer_16 : decode cX4_drawer 16 = .ok (.invokestatic 26, 3) := by decide +kernel
theorem dX4_drawer_19 : decode cX4_drawer 19 = .ok (.ifCond .eq 12, 3) := by decide +kernel
theorem dX4_drawer_22 : decode cX4_drawer 22 = .ok (.aload_n 0, 1) := by decide +kernel
theorem dX4_drawer_23 : decode cX4_drawer 23 = .ok (.iload_n 1, 1) := by decide +kernel
theorem dX4_drawer_24 : decode cX4_drawer 24 = .ok (.iload_n 2, 1) := by decide +kernel
theorem dX4_drawer_25 : decode cX4_drawer 25 = .ok (.invokevirtual 99, 3) := by decide +kernel
theorem dX4_drawer_28 : decode cX4_drawer 28 = .ok (.goto 8, 3) := by decide +kernel
theorem dX4_drawer_31 : decode cX4_drawer 31 = .ok (.aload_n 0, 1) := by decide +kernel
theorem dX4_drawer_32 : decode cX4_drawer 32 = .ok (.iconst 1, 1) := by decide +kernel
theorem dX4_drawer_33 : decode cX4_drawer 33 = .ok (.invokevirtual 33, 3) := by decide +kernel
theorem dX4_drawer_36 : decode cX4_drawer 36 = .ok (.ireturn, 1) := by decide +kernel
theorem dX4_many_0 : decode cX4_many 0 = .ok (.iconst 0, 1) := by decide +kernel
theorem dX4_many_1 : decode cX4_many 1 = .ok (.istore_n 3, 1) := by decide +kernel
theorem dX4_many_2 : decode cX4_many 2 = .ok (.iconst 0, 1) := by decide +kernel
theorem dX4_many_3 : decode cX4_many 3 = .ok (.istore 4, 2) := by decide +kernel
theorem dX4_many_5 : decode cX4_many 5 = .ok (.iload 4, 2) := by decide +kernel
theorem dX4_many_7 : decode cX4_many 7 = .ok (.aload_n 0, 1) := by decide +kernel
theorem dX4_many_8 : decode cX4_many 8 = .ok (.getfield 10, 3) := by decide +kernel
theorem dX4_many_11 : decode cX4_many 11 = .ok (.getfield 23, 3) := by decide +kernel
theorem dX4_many_14 : decode cX4_many 14 = .ok (.if_icmp .ge 30, 3) := by decide +kernel
theorem dX4_many_17 : decode cX4_many 17 = .ok (.iload_n 3, 1) := by decide +kernel
theorem dX4_many_18 : decode cX4_many 18 = .ok (.aload_n 1, 1) := by decide +kernel
theorem dX4_many_19 : decode cX4_many 19 = .ok (.bipush 8, 2) := by decide +kernel
theorem dX4_many_21 : decode cX4_many 21 = .ok (.iload_n 2, 1) := by decide +kernel
theorem dX4_many_22 : decode cX4_many 22 = .ok (.imul, 1) := by decide +kernel
theorem dX4_many_23 : decode cX4_many 23 = .ok (.iload 4, 2) := by decide +kernel
theorem dX4_many_25 : decode cX4_many 25 = .ok (.iadd, 1) := by decide +kernel
theorem dX4_many_26 : decode cX4_many 26 = .ok (.iaload, 1) := by decide +kernel
theorem dX4_many_27 : decode cX4_many 27 = .ok (.iconst (-1), 1) := by decide +kernel
theorem dX4_many_28 : decode cX4_many 28 = .ok (.if_icmp .eq 7, 3) := by decide +kernel
theorem dX4_many_31 : decode cX4_many 31 = .ok (.iconst 1, 1) := by decide +kernel
theorem dX4_many_32 : decode cX4_many 32 = .ok (.goto 4, 3) := by decide +kernel
theorem dX4_many_35 : decode cX4_many 35 = .ok (.iconst 0, 1) := by decide +kernel
theorem dX4_many_36 : decode cX4_many 36 = .ok (.iadd, 1) := by decide +kernel
theorem dX4_many_37 : decode cX4_many 37 = .ok (.istore_n 3, 1) := by decide +kernel
theorem dX4_many_38 : decode cX4_many 38 = .ok (.iinc 4 1, 3) := by decide +kernel
theorem dX4_many_41 : decode cX4_many 41 = .ok (.goto (-36), 3) := by decide +kernel
theorem dX4_many_44 : decode cX4_many 44 = .ok (.iload_n 3, 1) := by decide +kernel
theorem dX4_many_45 : decode cX4_many 45 = .ok (.ireturn, 1) := by decide +kernel
theorem dX4_clerkTold_0 : decode cX4_clerkTold 0 = .ok (.iload_n 2, 1) := by decide +kernel
theorem dX4_clerkTold_1 : decode cX4_clerkTold 1 = .ok (.tableswitch 105 0 5 #[39, 49, 59, 69, 79, 92], 39) := by decide +kernel
theorem dX4_clerkTold_40 : decode cX4_clerkTold 40 = .ok (.aload_n 0, 1) := by decide +kernel
theorem dX4_clerkTold_41 : decode cX4_clerkTold 41 = .ok (.getfield 10, 3) := by decide +kernel
theorem dX4_clerkTold_44 : decode cX4_clerkTold 44 = .ok (.getfield 66, 3) := by decide +kernel
theorem dX4_clerkTold_47 : decode cX4_clerkTold 47 = .ok (.iload_n 1, 1) := by decide +kernel
theorem dX4_clerkTold_48 : decode cX4_clerkTold 48 = .ok (.iaload, 1) := by decide +kernel
theorem dX4_clerkTold_49 : decode cX4_clerkTold 49 = .ok (.ireturn, 1) := by decide +kernel
theorem dX4_clerkTold_50 : decode cX4_clerkTold 50 = .ok (.aload_n 0, 1) := by decide +kernel
theorem dX4_clerkTold_51 : decode cX4_clerkTold 51 = .ok (.getfield 10, 3) := by decide +kernel
theorem dX4_clerkTold_54 : decode cX4_clerkTold 54 = .ok (.getfield 63, 3) := by decide +kernel
theorem dX4_clerkTold_57 : decode cX4_clerkTold 57 = .ok (.iload_n 1, 1) := by decide +kernel
theorem dX4_clerkTold_58 : decode cX4_clerkTold 58 = .ok (.iaload, 1) := by decide +kernel
theorem dX4_clerkTold_59 : decode cX4_clerkTold 59 = .ok (.ireturn, 1) := by decide +kernel
theorem dX4_clerkTold_60 : decode cX4_clerkTold 60 = .ok (.aload_n 0, 1) := by decide +kernel
theorem dX4_clerkTold_61 : decode cX4_clerkTold 61 = .ok (.getfield 10, 3) := by decide +kernel
theorem dX4_clerkTold_64 : decode cX4_clerkTold 64 = .ok (.getfield 60, 3) := by decide +kernel
theorem dX4_clerkTold_67 : decode cX4_clerkTold 67 = .ok (.iload_n 1, 1) := by decide +kernel
theorem dX4_clerkTold_68 : decode cX4_clerkTold 68 = .ok (.iaload, 1) := by decide +kernel
theorem dX4_clerkTold_69 : decode cX4_clerkTold 69 = .ok (.ireturn, 1) := by decide +kernel
theorem dX4_clerkTold_70 : decode cX4_clerkTold 70 = .ok (.aload_n 0, 1) := by decide +kernel
theorem dX4_clerkTold_71 : decode cX4_clerkTold 71 = .ok (.getfield 10, 3) := by decide +kernel
theorem dX4_clerkTold_74 : decode cX4_clerkTold 74 = .ok (.getfield 103, 3) := by decide +kernel
theorem dX4_clerkTold_77 : decode cX4_clerkTold 77 = .ok (.iload_n 1, 1) := by decide +kernel
theorem dX4_clerkTold_78 : decode cX4_clerkTold 78 = .ok (.iaload, 1) := by decide +kernel
theorem dX4_clerkTold_79 : decode cX4_clerkTold 79 = .ok (.ireturn, 1) := by decide +kernel
theorem dX4_clerkTold_80 : decode cX4_clerkTold 80 = .ok (.aload_n 0, 1) := by decide +kernel
theorem dX4_clerkTold_81 : decode cX4_clerkTold 81 = .ok (.aload_n 0, 1) := by decide +kernel
theorem dX4_clerkTold_82 : decode cX4_clerkTold 82 = .ok (.getfield 10, 3) := by decide +kernel
theorem dX4_clerkTold_85 : decode cX4_clerkTold 85 = .ok (.getfield 93, 3) := by decide +kernel
theorem dX4_clerkTold_88 : decode cX4_clerkTold 88 = .ok (.iload_n 1, 1) := by decide +kernel
theorem dX4_clerkTold_89 : decode cX4_clerkTold 89 = .ok (.invokevirtual 106, 3) := by decide +kernel
theorem dX4_clerkTold_92 : decode cX4_clerkTold 92 = .ok (.ireturn, 1) := by decide +kernel
theorem dX4_clerkTold_93 : decode cX4_clerkTold 93 = .ok (.aload_n 0, 1) := by decide +kernel
theorem dX4_clerkTold_94 : decode cX4_clerkTold 94 = .ok (.aload_n 0, 1) := by decide +kernel
theorem dX4_clerkTold_95 : decode cX4_clerkTold 95 = .ok (.getfield 10, 3) := by decide +kernel
theorem dX4_clerkTold_98 : decode cX4_clerkTold 98 = .ok (.getfield 96, 3) := by decide +kernel
theorem dX4_clerkTold_101 : decode cX4_clerkTold 101 = .ok (.iload_n 1, 1) := by decide +kernel
theorem dX4_clerkTold_102 : decode cX4_clerkTold 102 = .ok (.invokevirtual 106, 3) := by decide +kernel
theorem dX4_clerkTold_105 : decode cX4_clerkTold 105 = .ok (.ireturn, 1) := by decide +kernel
theorem dX4_clerkTold_106 : decode cX4_clerkTold 106 = .ok (.aload_n 0, 1) := by decide +kernel
theorem dX4_clerkTold_107 : decode cX4_clerkTold 107 = .ok (.getfield 10, 3) := by decide +kernel
theorem dX4_clerkTold_110 : decode cX4_clerkTold 110 = .ok (.getfield 60, 3) := by decide +kernel
theorem dX4_clerkTold_113 : decode cX4_clerkTold 113 = .ok (.iload_n 1, 1) := by decide +kernel
theorem dX4_clerkTold_114 : decode cX4_clerkTold 114 = .ok (.iaload, 1) := by decide +kernel
theorem dX4_clerkTold_115 : decode cX4_clerkTold 115 = .ok (.ifCond .ne 18, 3) := by decide +kernel
theorem dX4_clerkTold_118 : decode cX4_clerkTold 118 = .ok (.aload_n 0, 1) := by decide +kernel
theorem dX4_clerkTold_119 : decode cX4_clerkTold 119 = .ok (.getfield 10, 3) := by decide +kernel
theorem dX4_clerkTold_122 : decode cX4_clerkTold 122 = .ok (.iload_n 1, 1) := by decide +kernel
theorem dX4_clerkTold_123 : decode cX4_clerkTold 123 = .ok (.invokevirtual 110, 3) := by decide +kernel
theorem dX4_clerkTold_126 : decode cX4_clerkTold 126 = .ok (.ifCond .eq 7, 3) := by decide +kernel
theorem dX4_clerkTold_129 : decode cX4_clerkTold 129 = .ok (.iconst 1, 1) := by decide +kernel
theorem dX4_clerkTold_130 : decode cX4_clerkTold 130 = .ok (.goto 4, 3) := by decide +kernel
theorem dX4_clerkTold_133 : decode cX4_clerkTold 133 = .ok (.iconst 0, 1) := by decide +kernel
theorem dX4_clerkTold_134 : decode cX4_clerkTold 134 = .ok (.ireturn, 1) := by decide +kernel
theorem dX4_told_0 : decode cX4_told 0 = .ok (.aload_n 0, 1) := by decide +kernel
theorem dX4_told_1 : decode cX4_told 1 = .ok (.iconst 0, 1) := by decide +kernel
theorem dX4_told_2 : decode cX4_told 2 = .ok (.putfield 19, 3) := by decide +kernel
theorem dX4_told_5 : decode cX4_told 5 = .ok (.aload_n 0, 1) := by decide +kernel
theorem dX4_told_6 : decode cX4_told 6 = .ok (.iload_n 1, 1) := by decide +kernel
theorem dX4_told_7 : decode cX4_told 7 = .ok (.invokevirtual 57, 3) := by decide +kernel
theorem dX4_told_10 : decode cX4_told 10 = .ok (.ifCond .eq 22, 3) := by decide +kernel
theorem dX4_told_13 : decode cX4_told 13 = .ok (.iload_n 2, 1) := by decide +kernel
theorem dX4_told_14 : decode cX4_told 14 = .ok (.iconst 0, 1) := by decide +kernel
theorem dX4_told_15 : decode cX4_told 15 = .ok (.bipush 6, 2) := by decide +kernel
theorem dX4_told_17 : decode cX4_told 17 = .ok (.invokestatic 26, 3) := by decide +kernel
theorem dX4_told_20 : decode cX4_told 20 = .ok (.ifCond .eq 12, 3) := by decide +kernel
theorem dX4_told_23 : decode cX4_told 23 = .ok (.aload_n 0, 1) := by decide +kernel
theorem dX4_told_24 : decode cX4_told 24 = .ok (.iload_n 1, 1) := by decide +kernel
theorem dX4_told_25 : decode cX4_told 25 = .ok (.iload_n 2, 1) := by decide +kernel
theorem dX4_told_26 : decode cX4_told 26 = .ok (.invokevirtual 113, 3) := by decide +kernel
theorem dX4_told_29 : decode cX4_told 29 = .ok (.goto 8, 3) := by decide +kernel
theorem dX4_told_32 : decode cX4_told 32 = .ok (.aload_n 0, 1) := by decide +kernel
theorem dX4_told_33 : decode cX4_told 33 = .ok (.iconst 1, 1) := by decide +kernel
theorem dX4_told_34 : decode cX4_told 34 = .ok (.invokevirtual 33, 3) := by decide +kernel
theorem dX4_told_37 : decode cX4_told 37 = .ok (.ireturn, 1) := by decide +kernel
theorem dX4_slipTold_0 : decode cX4_slipTold 0 = .ok (.bipush 8, 2) := by decide +kernel
theorem dX4_slipTold_2 : decode cX4_slipTold 2 = .ok (.iload_n 1, 1) := by decide +kernel
theorem dX4_slipTold_3 : decode cX4_slipTold 3 = .ok (.imul, 1) := by decide +kernel
theorem dX4_slipTold_4 : decode cX4_slipTold 4 = .ok (.iload_n 2, 1) := by decide +kernel
theorem dX4_slipTold_5 : decode cX4_slipTold 5 = .ok (.iadd, 1) := by decide +kernel
theorem dX4_slipTold_6 : decode cX4_slipTold 6 = .ok (.istore 4, 2) := by decide +kernel
theorem dX4_slipTold_8 : decode cX4_slipTold 8 = .ok (.iload_n 3, 1) := by decide +kernel
theorem dX4_slipTold_9 : decode cX4_slipTold 9 = .ok (.ifCond .ne 16, 3) := by decide +kernel
theorem dX4_slipTold_12 : decode cX4_slipTold 12 = .ok (.aload_n 0, 1) := by decide +kernel
theorem dX4_slipTold_13 : decode cX4_slipTold 13 = .ok (.getfield 10, 3) := by decide +kernel
theorem dX4_slipTold_16 : decode cX4_slipTold 16 = .ok (.getfield 93, 3) := by decide +kernel
theorem dX4_slipTold_19 : decode cX4_slipTold 19 = .ok (.iload 4, 2) := by decide +kernel
theorem dX4_slipTold_21 : decode cX4_slipTold 21 = .ok (.iaload, 1) := by decide +kernel
theorem dX4_slipTold_22 : decode cX4_slipTold 22 = .ok (.goto 31, 3) := by decide +kernel
theorem dX4_slipTold_25 : decode cX4_slipTold 25 = .ok (.iload_n 3, 1) := by decide +kernel
theorem dX4_slipTold_26 : decode cX4_slipTold 26 = .ok (.iconst 1, 1) := by decide +kernel
theorem dX4_slipTold_27 : decode cX4_slipTold 27 = .ok (.if_icmp .ne 16, 3) := by decide +kernel
theorem dX4_slipTold_30 : decode cX4_slipTold 30 = .ok (.aload_n 0, 1) := by decide +kernel
theorem dX4_slipTold_31 : decode cX4_slipTold 31 = .ok (.getfield 10, 3) := by decide +kernel
theorem dX4_slipTold_34 : decode cX4_slipTold 34 = .ok (.getfield 116, 3) := by decide +kernel
theorem dX4_slipTold_37 : decode cX4_slipTold 37 = .ok (.iload 4, 2) := by decide +kernel
theorem dX4_slipTold_39 : decode cX4_slipTold 39 = .ok (.iaload, 1) := by decide +kernel
theorem dX4_slipTold_40 : decode cX4_slipTold 40 = .ok (.goto 13, 3) := by decide +kernel
theorem dX4_slipTold_43 : decode cX4_slipTold 43 = .ok (.aload_n 0, 1) := by decide +kernel
theorem dX4_slipTold_44 : decode cX4_slipTold 44 = .ok (.getfield 10, 3) := by decide +kernel
theorem dX4_slipTold_47 : decode cX4_slipTold 47 = .ok (.getfield 96, 3) := by decide +kernel
theorem dX4_slipTold_50 : decode cX4_slipTold 50 = .ok (.iload 4, 2) := by decide +kernel
theorem dX4_slipTold_52 : decode cX4_slipTold 52 = .ok (.iaload, 1) := by decide +kernel
theorem dX4_slipTold_53 : decode cX4_slipTold 53 = .ok (.ireturn, 1) := by decide +kernel
theorem dX4_slip_0 : decode cX4_slip 0 = .ok (.aload_n 0, 1) := by decide +kernel
theorem dX4_slip_1 : decode cX4_slip 1 = .ok (.iconst 0, 1) := by decide +kernel
theorem dX4_slip_2 : decode cX4_slip 2 = .ok (.putfield 19, 3) := by decide +kernel
theorem dX4_slip_5 : decode cX4_slip 5 = .ok (.aload_n 0, 1) := by decide +kernel
theorem dX4_slip_6 : decode cX4_slip 6 = .ok (.iload_n 1, 1) := by decide +kernel
theorem dX4_slip_7 : decode cX4_slip 7 = .ok (.invokevirtual 57, 3) := by decide +kernel
theorem dX4_slip_10 : decode cX4_slip 10 = .ok (.ifCond .eq 30, 3) := by decide +kernel
theorem dX4_slip_13 : decode cX4_slip 13 = .ok (.aload_n 0, 1) := by decide +kernel
theorem dX4_slip_14 : decode cX4_slip 14 = .ok (.iload_n 2, 1) := by decide +kernel
theorem dX4_slip_15 : decode cX4_slip 15 = .ok (.invokevirtual 41, 3) := by decide +kernel
theorem dX4_slip_18 : decode cX4_slip 18 = .ok (.ifCond .eq 22, 3) := by decide +kernel
theorem dX4_slip_21 : decode cX4_slip 21 = .ok (.iload_n 3, 1) := by decide +kernel
theorem dX4_slip_22 : decode cX4_slip 22 = .ok (.iconst 0, 1) := by decide +kernel
theorem dX4_slip_23 : decode cX4_slip 23 = .ok (.iconst 2, 1) := by decide +kernel
theorem dX4_slip_24 : decode cX4_slip 24 = .ok (.invokestatic 26, 3) := by decide +kernel
theorem dX4_slip_27 : decode cX4_slip 27 = .ok (.ifCond .eq 13, 3) := by decide +kernel
theorem dX4_slip_30 : decode cX4_slip 30 = .ok (.aload_n 0, 1) := by decide +kernel
theorem dX4_slip_31 : decode cX4_slip 31 = .ok (.iload_n 1, 1) := by decide +kernel
theorem dX4_slip_32 : decode cX4_slip 32 = .ok (.iload_n 2, 1) := by decide +kernel
theorem dX4_slip_33 : decode cX4_slip 33 = .ok (.iload_n 3, 1) := by decide +kernel
theorem dX4_slip_34 : decode cX4_slip 34 = .ok (.invokevirtual 119, 3) := by decide +kernel
theorem dX4_slip_37 : decode cX4_slip 37 = .ok (.goto 8, 3) := by decide +kernel
theorem dX4_slip_40 : decode cX4_slip 40 = .ok (.aload_n 0, 1) := by decide +kernel
theorem dX4_slip_41 : decode cX4_slip 41 = .ok (.iconst 1, 1) := by decide +kernel
theorem dX4_slip_42 : decode cX4_slip 42 = .ok (.invokevirtual 33, 3) := by decide +kernel
theorem dX4_slip_45 : decode cX4_slip 45 = .ok (.ireturn, 1) := by decide +kernel
theorem dX4_step_0 : decode cX4_step 0 = .ok (.aload_n 0, 1) := by decide +kernel
theorem dX4_step_1 : decode cX4_step 1 = .ok (.iconst 0, 1) := by decide +kernel
theorem dX4_step_2 : decode cX4_step 2 = .ok (.putfield 19, 3) := by decide +kernel
theorem dX4_step_5 : decode cX4_step 5 = .ok (.aload_n 0, 1) := by decide +kernel
theorem dX4_step_6 : decode cX4_step 6 = .ok (.iload_n 1, 1) := by decide +kernel
theorem dX4_step_7 : decode cX4_step 7 = .ok (.invokevirtual 57, 3) := by decide +kernel
theorem dX4_step_10 : decode cX4_step 10 = .ok (.ifCond .eq 44, 3) := by decide +kernel
theorem dX4_step_13 : decode cX4_step 13 = .ok (.iload_n 2, 1) := by decide +kernel
theorem dX4_step_14 : decode cX4_step 14 = .ok (.iconst 0, 1) := by decide +kernel
theorem dX4_step_15 : decode cX4_step 15 = .ok (.aload_n 0, 1) := by decide +kernel
theorem dX4_step_16 : decode cX4_step 16 = .ok (.getfield 10, 3) := by decide +kernel
theorem dX4_step_19 : decode cX4_step 19 = .ok (.getfield 66, 3) := by decide +kernel
theorem dX4_step_22 : decode cX4_step 22 = .ok (.iload_n 1, 1) := by decide +kernel
theorem dX4_step_23 : decode cX4_step 23 = .ok (.iaload, 1) := by decide +kernel
theorem dX4_step_24 : decode cX4_step 24 = .ok (.iconst 1, 1) := by decide +kernel
theorem dX4_step_25 : decode cX4_step 25 = .ok (.isub, 1) := by decide +kernel
theorem dX4_step_26 : decode cX4_step 26 = .ok (.invokestatic 26, 3) := by decide +kernel
theorem dX4_step_29 : decode cX4_step 29 = .ok (.ifCond .eq 25, 3) := by decide +kernel
theorem dX4_step_32 : decode cX4_step 32 = .ok (.iload_n 3, 1) := by decide +kernel
theorem dX4_step_33 : decode cX4_step 33 = .ok (.iconst 0, 1) := by decide +kernel
theorem dX4_step_34 : decode cX4_step 34 = .ok (.iconst 3, 1) := by decide +kernel
theorem dX4_step_35 : decode cX4_step 35 = .ok (.invokestatic 26, 3) := by decide +kernel
theorem dX4_step_38 : decode cX4_step 38 = .ok (.ifCond .eq 16, 3) := by decide +kernel
theorem dX4_step_41 : decode cX4_step 41 = .ok (.aload_n 0, 1) := by decide +kernel
theorem dX4_step_42 : decode cX4_step 42 = .ok (.getfield 10, 3) := by decide +kernel
theorem dX4_step_45 : decode cX4_step 45 = .ok (.iload_n 1, 1) := by decide +kernel
theorem dX4_step_46 : decode cX4_step 46 = .ok (.iload_n 2, 1) := by decide +kernel
theorem dX4_step_47 : decode cX4_step 47 = .ok (.iload_n 3, 1) := by decide +kernel
theorem dX4_step_48 : decode cX4_step 48 = .ok (.invokevirtual 123, 3) := by decide +kernel
theorem dX4_step_51 : decode cX4_step 51 = .ok (.goto 8, 3) := by decide +kernel
theorem dX4_step_54 : decode cX4_step 54 = .ok (.aload_n 0, 1) := by decide +kernel
theorem dX4_step_55 : decode cX4_step 55 = .ok (.iconst 1, 1) := by decide +kernel
theorem dX4_step_56 : decode cX4_step 56 = .ok (.invokevirtual 33, 3) := by decide +kernel
theorem dX4_step_59 : decode cX4_step 59 = .ok (.ireturn, 1) := by decide +kernel
theorem dX4_closingTold_0 : decode cX4_closingTold 0 = .ok (.aload_n 0, 1) := by decide +kernel
theorem dX4_closingTold_1 : decode cX4_closingTold 1 = .ok (.getfield 10, 3) := by decide +kernel
theorem dX4_closingTold_4 : decode cX4_closingTold 4 = .ok (.getfield 126, 3) := by decide +kernel
theorem dX4_closingTold_7 : decode cX4_closingTold 7 = .ok (.iload_n 1, 1) := by decide +kernel
theorem dX4_closingTold_8 : decode cX4_closingTold 8 = .ok (.isub, 1) := by decide +kernel
theorem dX4_closingTold_9 : decode cX4_closingTold 9 = .ok (.bipush 10, 2) := by decide +kernel
theorem dX4_closingTold_11 : decode cX4_closingTold 11 = .ok (.irem, 1) := by decide +kernel
theorem dX4_closingTold_12 : decode cX4_closingTold 12 = .ok (.istore_n 3, 1) := by decide +kernel
theorem dX4_closingTold_13 : decode cX4_closingTold 13 = .ok (.iload_n 2, 1) := by decide +kernel
theorem dX4_closingTold_14 : decode cX4_closingTold 14 = .ok (.ifCond .ne 15, 3) := by decide +kernel
theorem dX4_closingTold_17 : decode cX4_closingTold 17 = .ok (.aload_n 0, 1) := by decide +kernel
theorem dX4_closingTold_18 : decode cX4_closingTold 18 = .ok (.getfield 10, 3) := by decide +kernel
theorem dX4_closingTold_21 : decode cX4_closingTold 21 = .ok (.getfield 129, 3) := by decide +kernel
theorem dX4_closingTold_24 : decode cX4_closingTold 24 = .ok (.iload_n 3, 1) := by decide +kernel
theorem dX4_closingTold_25 : decode cX4_closingTold 25 = .ok (.iaload, 1) := by decide +kernel
theorem dX4_closingTold_26 : decode cX4_closingTold 26 = .ok (.goto 29, 3) := by decide +kernel
theorem dX4_closingTold_29 : decode cX4_closingTold 29 = .ok (.iload_n 2, 1) := by decide +kernel
theorem dX4_closingTold_30 : decode cX4_closingTold 30 = .ok (.iconst 1, 1) := by decide +kernel
theorem dX4_closingTold_31 : decode cX4_closingTold 31 = .ok (.if_icmp .ne 15, 3) := by decide +kernel
theorem dX4_closingTold_34 : decode cX4_closingTold 34 = .ok (.aload_n 0, 1) := by decide +kernel
theorem dX4_closingTold_35 : decode cX4_closingTold 35 = .ok (.getfield 10, 3) := by decide +kernel
theorem dX4_closingTold_38 : decode cX4_closingTold 38 = .ok (.getfield 132, 3) := by decide +kernel
theorem dX4_closingTold_41 : decode cX4_closingTold 41 = .ok (.iload_n 3, 1) := by decide +kernel
theorem dX4_closingTold_42 : decode cX4_closingTold 42 = .ok (.iaload, 1) := by decide +kernel
theorem dX4_closingTold_43 : decode cX4_closingTold 43 = .ok (.goto 12, 3) := by decide +kernel
theorem dX4_closingTold_46 : decode cX4_closingTold 46 = .ok (.aload_n 0, 1) := by decide +kernel
theorem dX4_closingTold_47 : decode cX4_closingTold 47 = .ok (.getfield 10, 3) := by decide +kernel
theorem dX4_closingTold_50 : decode cX4_closingTold 50 = .ok (.getfield 135, 3) := by decide +kernel
theorem dX4_closingTold_53 : decode cX4_closingTold 53 = .ok (.iload_n 3, 1) := by decide +kernel
theorem dX4_closingTold_54 : decode cX4_closingTold 54 = .ok (.iaload, 1) := by decide +kernel
theorem dX4_closingTold_55 : decode cX4_closingTold 55 = .ok (.ireturn, 1) := by decide +kernel
theorem dX4_closing_0 : decode cX4_closing 0 = .ok (.aload_n 0, 1) := by decide +kernel
theorem dX4_closing_1 : decode cX4_closing 1 = .ok (.iconst 0, 1) := by decide +kernel
theorem dX4_closing_2 : decode cX4_closing 2 = .ok (.putfield 19, 3) := by decide +kernel
theorem dX4_closing_5 : decode cX4_closing 5 = .ok (.iload_n 1, 1) := by decide +kernel
theorem dX4_closing_6 : decode cX4_closing 6 = .ok (.iconst 0, 1) := by decide +kernel
theorem dX4_closing_7 : decode cX4_closing 7 = .ok (.bipush 10, 2) := by decide +kernel
theorem dX4_closing_9 : decode cX4_closing 9 = .ok (.aload_n 0, 1) := by decide +kernel
theorem dX4_closing_10 : decode cX4_closing 10 = .ok (.getfield 10, 3) := by decide +kernel
theorem dX4_closing_13 : decode cX4_closing 13 = .ok (.getfield 126, 3) := by decide +kernel
theorem dX4_closing_16 : decode cX4_closing 16 = .ok (.invokestatic 138, 3) := by decide +kernel
theorem dX4_closing_19 : decode cX4_closing 19 = .ok (.iconst 1, 1) := by decide +kernel
theorem dX4_closing_20 : decode cX4_closing 20 = .ok (.isub, 1) := by decide +kernel
theorem dX4_closing_21 : decode cX4_closing 21 = .ok (.invokestatic 26, 3) := by decide +kernel
theorem dX4_closing_24 : decode cX4_closing 24 = .ok (.ifCond .eq 21, 3) := by decide +kernel
theorem dX4_closing_27 : decode cX4_closing 27 = .ok (.iload_n 2, 1) := by decide +kernel
theorem dX4_closing_28 : decode cX4_closing 28 = .ok (.iconst 0, 1) := by decide +kernel
theorem dX4_closing_29 : decode cX4_closing 29 = .ok (.iconst 2, 1) := by decide +kernel
theorem dX4_closing_30 : decode cX4_closing 30 = .ok (.invokestatic 26, 3) := by decide +kernel
theorem dX4_closing_33 : decode cX4_closing 33 = .ok (.ifCond .eq 12, 3) := by decide +kernel
theorem dX4_closing_36 : decode cX4_closing 36 = .ok (.aload_n 0, 1) := by decide +kernel
theorem dX4_closing_37 : decode cX4_closing 37 = .ok (.iload_n 1, 1) := by decide +kernel
theorem dX4_closing_38 : decode cX4_closing 38 = .ok (.iload_n 2, 1) := by decide +kernel
theorem dX4_closing_39 : decode cX4_closing 39 = .ok (.invokevirtual 143, 3) := by decide +kernel
theorem dX4_closing_42 : decode cX4_closing 42 = .ok (.goto 8, 3) := by decide +kernel
theorem dX4_closing_45 : decode cX4_closing 45 = .ok (.aload_n 0, 1) := by decide +kernel
theorem dX4_closing_46 : decode cX4_closing 46 = .ok (.iconst 1, 1) := by decide +kernel
theorem dX4_closing_47 : decode cX4_closing 47 = .ok (.invokevirtual 33, 3) := by decide +kernel
theorem dX4_closing_50 : decode cX4_closing 50 = .ok (.ireturn, 1) := by decide +kernel
theorem dX4_clashes_0 : decode cX4_clashes 0 = .ok (.iload_n 1, 1) := by decide +kernel
theorem dX4_clashes_1 : decode cX4_clashes 1 = .ok (.iload_n 2, 1) := by decide +kernel
theorem dX4_clashes_2 : decode cX4_clashes 2 = .ok (.if_icmp .eq 29, 3) := by decide +kernel
theorem dX4_clashes_5 : decode cX4_clashes 5 = .ok (.aload_n 0, 1) := by decide +kernel
theorem dX4_clashes_6 : decode cX4_clashes 6 = .ok (.getfield 10, 3) := by decide +kernel
theorem dX4_clashes_9 : decode cX4_clashes 9 = .ok (.getfield 60, 3) := by decide +kernel
theorem dX4_clashes_12 : decode cX4_clashes 12 = .ok (.iload_n 1, 1) := by decide +kernel
theorem dX4_clashes_13 : decode cX4_clashes 13 = .ok (.iaload, 1) := by decide +kernel
theorem dX4_clashes_14 : decode cX4_clashes 14 = .ok (.iconst 1, 1) := by decide +kernel
theorem dX4_clashes_15 : decode cX4_clashes 15 = .ok (.if_icmp .eq 16, 3) := by decide +kernel
theorem dX4_clashes_18 : decode cX4_clashes 18 = .ok (.aload_n 0, 1) := by decide +kernel
theorem dX4_clashes_19 : decode cX4_clashes 19 = .ok (.getfield 10, 3) := by decide +kernel
theorem dX4_clashes_22 : decode cX4_clashes 22 = .ok (.getfield 60, 3) := by decide +kernel
theorem dX4_clashes_25 : decode cX4_clashes 25 = .ok (.iload_n 2, 1) := by decide +kernel
theorem dX4_clashes_26 : decode cX4_clashes 26 = .ok (.iaload, 1) := by decide +kernel
theorem dX4_clashes_27 : decode cX4_clashes 27 = .ok (.iconst 1, 1) := by decide +kernel
theorem dX4_clashes_28 : decode cX4_clashes 28 = .ok (.if_icmp .ne 5, 3) := by decide +kernel
theorem dX4_clashes_31 : decode cX4_clashes 31 = .ok (.iconst 0, 1) := by decide +kernel
theorem dX4_clashes_32 : decode cX4_clashes 32 = .ok (.ireturn, 1) := by decide +kernel
theorem dX4_clashes_33 : decode cX4_clashes 33 = .ok (.iconst 0, 1) := by decide +kernel
theorem dX4_clashes_34 : decode cX4_clashes 34 = .ok (.istore_n 3, 1) := by decide +kernel
theorem dX4_clashes_35 : decode cX4_clashes 35 = .ok (.iload_n 3, 1) := by decide +kernel
theorem dX4_clashes_36 : decode cX4_clashes 36 = .ok (.aload_n 0, 1) := by decide +kernel
theorem dX4_clashes_37 : decode cX4_clashes 37 = .ok (.getfield 10, 3) := by decide +kernel
theorem dX4_clashes_40 : decode cX4_clashes 40 = .ok (.getfield 23, 3) := by decide +kernel
theorem dX4_clashes_43 : decode cX4_clashes 43 = .ok (.if_icmp .ge 47, 3) := by decide +kernel
theorem dX4_clashes_46 : decode cX4_clashes 46 = .ok (.aload_n 0, 1) := by decide +kernel
theorem dX4_clashes_47 : decode cX4_clashes 47 = .ok (.getfield 10, 3) := by decide +kernel
theorem dX4_clashes_50 : decode cX4_clashes 50 = .ok (.getfield 96, 3) := by decide +kernel
theorem dX4_clashes_53 : decode cX4_clashes 53 = .ok (.bipush 8, 2) := by decide +kernel
theorem dX4_clashes_55 : decode cX4_clashes 55 = .ok (.iload_n 1, 1) := by decide +kernel
theorem dX4_clashes_56 : decode cX4_clashes 56 = .ok (.imul, 1) := by decide +kernel
theorem dX4_clashes_57 : decode cX4_clashes 57 = .ok (.iload_n 3, 1) := by decide +kernel
theorem dX4_clashes_58 : decode cX4_clashes 58 = .ok (.iadd, 1) := by decide +kernel
theorem dX4_clashes_59 : decode cX4_clashes 59 = .ok (.iaload, 1) := by decide +kernel
theorem dX4_clashes_60 : decode cX4_clashes 60 = .ok (.iconst (-1), 1) := by decide +kernel
theorem dX4_clashes_61 : decode cX4_clashes 61 = .ok (.if_icmp .eq 23, 3) := by decide +kernel
theorem dX4_clashes_64 : decode cX4_clashes 64 = .ok (.aload_n 0, 1) := by decide +kernel
theorem dX4_clashes_65 : decode cX4_clashes 65 = .ok (.getfield 10, 3) := by decide +kernel
theorem dX4_clashes_68 : decode cX4_clashes 68 = .ok (.getfield 93, 3) := by decide +kernel
theorem dX4_clashes_71 : decode cX4_clashes 71 = .ok (.bipush 8, 2) := by decide +kernel
theorem dX4_clashes_73 : decode cX4_clashes 73 = .ok (.iload_n 2, 1) := by decide +kernel
theorem dX4_clashes_74 : decode cX4_clashes 74 = .ok (.imul, 1) := by decide +kernel
theorem dX4_clashes_75 : decode cX4_clashes 75 = .ok (.iload_n 3, 1) := by decide +kernel
theorem dX4_clashes_76 : decode cX4_clashes 76 = .ok (.iadd, 1) := by decide +kernel
theorem dX4_clashes_77 : decode cX4_clashes 77 = .ok (.iaload, 1) := by decide +kernel
theorem dX4_clashes_78 : decode cX4_clashes 78 = .ok (.iconst (-1), 1) := by decide +kernel
theorem dX4_clashes_79 : decode cX4_clashes 79 = .ok (.if_icmp .eq 5, 3) := by decide +kernel
theorem dX4_clashes_82 : decode cX4_clashes 82 = .ok (.iconst 1, 1) := by decide +kernel
theorem dX4_clashes_83 : decode cX4_clashes 83 = .ok (.ireturn, 1) := by decide +kernel
theorem dX4_clashes_84 : decode cX4_clashes 84 = .ok (.iinc 3 1, 3) := by decide +kernel
theorem dX4_clashes_87 : decode cX4_clashes 87 = .ok (.goto (-52), 3) := by decide +kernel
theorem dX4_clashes_90 : decode cX4_clashes 90 = .ok (.iconst 0, 1) := by decide +kernel
theorem dX4_clashes_91 : decode cX4_clashes 91 = .ok (.ireturn, 1) := by decide +kernel
theorem dX4_clash_0 : decode cX4_clash 0 = .ok (.aload_n 0, 1) := by decide +kernel
theorem dX4_clash_1 : decode cX4_clash 1 = .ok (.aload_n 0, 1) := by decide +kernel
theorem dX4_clash_2 : decode cX4_clash 2 = .ok (.iload_n 1, 1) := by decide +kernel
theorem dX4_clash_3 : decode cX4_clash 3 = .ok (.invokevirtual 57, 3) := by decide +kernel
theorem dX4_clash_6 : decode cX4_clash 6 = .ok (.ifCond .eq 15, 3) := by decide +kernel
theorem dX4_clash_9 : decode cX4_clash 9 = .ok (.aload_n 0, 1) := by decide +kernel
theorem dX4_clash_10 : decode cX4_clash 10 = .ok (.iload_n 2, 1) := by decide +kernel
theorem dX4_clash_11 : decode cX4_clash 11 = .ok (.invokevirtual 57, 3) := by decide +kernel
theorem dX4_clash_14 : decode cX4_clash 14 = .ok (.ifCond .eq 7, 3) := by decide +kernel
theorem dX4_clash_17 : decode cX4_clash 17 = .ok (.iconst 0, 1) := by decide +kernel
theorem dX4_clash_18 : decode cX4_clash 18 = .ok (.goto 4, 3) := by decide +kernel
theorem dX4_clash_21 : decode cX4_clash 21 = .ok (.iconst 1, 1) := by decide +kernel
theorem dX4_clash_22 : decode cX4_clash 22 = .ok (.putfield 19, 3) := by decide +kernel
theorem dX4_clash_25 : decode cX4_clash 25 = .ok (.aload_n 0, 1) := by decide +kernel
theorem dX4_clash_26 : decode cX4_clash 26 = .ok (.getfield 19, 3) := by decide +kernel
theorem dX4_clash_29 : decode cX4_clash 29 = .ok (.ifCond .ne 16, 3) := by decide +kernel
theorem dX4_clash_32 : decode cX4_clash 32 = .ok (.aload_n 0, 1) := by decide +kernel
theorem dX4_clash_33 : decode cX4_clash 33 = .ok (.iload_n 1, 1) := by decide +kernel
theorem dX4_clash_34 : decode cX4_clash 34 = .ok (.iload_n 2, 1) := by decide +kernel
theorem dX4_clash_35 : decode cX4_clash 35 = .ok (.invokevirtual 146, 3) := by decide +kernel
theorem dX4_clash_38 : decode cX4_clash 38 = .ok (.ifCond .eq 7, 3) := by decide +kernel
theorem dX4_clash_41 : decode cX4_clash 41 = .ok (.iconst 1, 1) := by decide +kernel
theorem dX4_clash_42 : decode cX4_clash 42 = .ok (.goto 4, 3) := by decide +kernel
theorem dX4_clash_45 : decode cX4_clash 45 = .ok (.iconst 0, 1) := by decide +kernel
theorem dX4_clash_46 : decode cX4_clash 46 = .ok (.ireturn, 1) := by decide +kernel
theorem dX4_count_0 : decode cX4_count 0 = .ok (.aload_n 0, 1) := by decide +kernel
theorem dX4_count_1 : decode cX4_count 1 = .ok (.iconst 0, 1) := by decide +kernel
theorem dX4_count_2 : decode cX4_count 2 = .ok (.putfield 19, 3) := by decide +kernel
theorem dX4_count_5 : decode cX4_count 5 = .ok (.iload_n 1, 1) := by decide +kernel
theorem dX4_count_6 : decode cX4_count 6 = .ok (.iconst 0, 1) := by decide +kernel
theorem dX4_count_7 : decode cX4_count 7 = .ok (.bipush 6, 2) := by decide +kernel
theorem dX4_count_9 : decode cX4_count 9 = .ok (.invokestatic 26, 3) := by decide +kernel
theorem dX4_count_12 : decode cX4_count 12 = .ok (.ifCond .eq 14, 3) := by decide +kernel
theorem dX4_count_15 : decode cX4_count 15 = .ok (.aload_n 0, 1) := by decide +kernel
theorem dX4_count_16 : decode cX4_count 16 = .ok (.getfield 10, 3) := by decide +kernel
theorem dX4_count_19 : decode cX4_count 19 = .ok (.iload_n 1, 1) := by decide +kernel
theorem dX4_count_20 : decode cX4_count 20 = .ok (.invokevirtual 150, 3) := by decide +kernel
theorem dX4_count_23 : decode cX4_count 23 = .ok (.goto 8, 3) := by decide +kernel
theorem dX4_count_26 : decode cX4_count 26 = .ok (.aload_n 0, 1) := by decide +kernel
theorem dX4_count_27 : decode cX4_count 27 = .ok (.iconst 1, 1) := by decide +kernel
theorem dX4_count_28 : decode cX4_count 28 = .ok (.invokevirtual 33, 3) := by decide +kernel
theorem dX4_count_31 : decode cX4_count 31 = .ok (.ireturn, 1) := by decide +kernel
theorem dX4_alone_0 : decode cX4_alone 0 = .ok (.aload_n 0, 1) := by decide +kernel
theorem dX4_alone_1 : decode cX4_alone 1 = .ok (.iconst 0, 1) := by decide +kernel
theorem dX4_alone_2 : decode cX4_alone 2 = .ok (.putfield 19, 3) := by decide +kernel
theorem dX4_alone_5 : decode cX4_alone 5 = .ok (.aload_n 0, 1) := by decide +kernel
theorem dX4_alone_6 : decode cX4_alone 6 = .ok (.iload_n 1, 1) := by decide +kernel
theorem dX4_alone_7 : decode cX4_alone 7 = .ok (.invokevirtual 57, 3) := by decide +kernel
theorem dX4_alone_10 : decode cX4_alone 10 = .ok (.ifCond .eq 11, 3) := by decide +kernel
theorem dX4_alone_13 : decode cX4_alone 13 = .ok (.aload_n 0, 1) := by decide +kernel
theorem dX4_alone_14 : decode cX4_alone 14 = .ok (.iload_n 2, 1) := by decide +kernel
theorem dX4_alone_15 : decode cX4_alone 15 = .ok (.invokevirtual 41, 3) := by decide +kernel
theorem dX4_alone_18 : decode cX4_alone 18 = .ok (.ifCond .ne 9, 3) := by decide +kernel
theorem dX4_alone_21 : decode cX4_alone 21 = .ok (.aload_n 0, 1) := by decide +kernel
theorem dX4_alone_22 : decode cX4_alone 22 = .ok (.iconst 1, 1) := by decide +kernel
theorem dX4_alone_23 : decode cX4_alone 23 = .ok (.invokevirtual 33, 3) := by decide +kernel
theorem dX4_alone_26 : decode cX4_alone 26 = .ok (.ireturn, 1) := by decide +kernel
theorem dX4_alone_27 : decode cX4_alone 27 = .ok (.aload_n 0, 1) := by decide +kernel
theorem dX4_alone_28 : decode cX4_alone 28 = .ok (.getfield 16, 3) := by decide +kernel
theorem dX4_alone_31 : decode cX4_alone 31 = .ok (.aload_n 0, 1) := by decide +kernel
theorem dX4_alone_32 : decode cX4_alone 32 = .ok (.getfield 10, 3) := by decide +kernel
theorem dX4_alone_35 : decode cX4_alone 35 = .ok (.invokevirtual 153, 3) := by decide +kernel
theorem dX4_alone_38 : decode cX4_alone 38 = .ok (.aload_n 0, 1) := by decide +kernel
theorem dX4_alone_39 : decode cX4_alone 39 = .ok (.getfield 16, 3) := by decide +kernel
theorem dX4_alone_42 : decode cX4_alone 42 = .ok (.iload_n 1, 1) := by decide +kernel
theorem dX4_alone_43 : decode cX4_alone 43 = .ok (.invokevirtual 84, 3) := by decide +kernel
theorem dX4_alone_46 : decode cX4_alone 46 = .ok (.iconst 0, 1) := by decide +kernel
theorem dX4_alone_47 : decode cX4_alone 47 = .ok (.istore_n 3, 1) := by decide +kernel
theorem dX4_alone_48 : decode cX4_alone 48 = .ok (.iload_n 3, 1) := by decide +kernel
theorem dX4_alone_49 : decode cX4_alone 49 = .ok (.aload_n 0, 1) := by decide +kernel
theorem dX4_alone_50 : decode cX4_alone 50 = .ok (.getfield 16, 3) := by decide +kernel
theorem dX4_alone_53 : decode cX4_alone 53 = .ok (.getfield 66, 3) := by decide +kernel
theorem dX4_alone_56 : decode cX4_alone 56 = .ok (.iload_n 1, 1) := by decide +kernel
theorem dX4_alone_57 : decode cX4_alone 57 = .ok (.iaload, 1) := by decide +kernel
theorem dX4_alone_58 : decode cX4_alone 58 = .ok (.if_icmp .ge 18, 3) := by decide +kernel
theorem dX4_alone_61 : decode cX4_alone 61 = .ok (.aload_n 0, 1) := by decide +kernel
theorem dX4_alone_62 : decode cX4_alone 62 = .ok (.getfield 16, 3) := by decide +kernel
theorem dX4_alone_65 : decode cX4_alone 65 = .ok (.iload_n 1, 1) := by decide +kernel
theorem dX4_alone_66 : decode cX4_alone 66 = .ok (.invokevirtual 81, 3) := by decide +kernel
theorem dX4_alone_69 : decode cX4_alone 69 = .ok (.pop, 1) := by decide +kernel
theorem dX4_alone_70 : decode cX4_alone 70 = .ok (.iinc 3 1, 3) := by decide +kernel
theorem dX4_alone_73 : decode cX4_alone 73 = .ok (.goto (-25), 3) := by decide +kernel
theorem dX4_alone_76 : decode cX4_alone 76 = .ok (.aload_n 0, 1) := by decide +kernel
theorem dX4_alone_77 : decode cX4_alone 77 = .ok (.getfield 16, 3) := by decide +kernel
theorem dX4_alone_80 : decode cX4_alone 80 = .ok (.iload_n 1, 1) := by decide +kernel
theorem dX4_alone_81 : decode cX4_alone 81 = .ok (.invokevirtual 81, 3) := by decide +kernel
theorem dX4_alone_84 : decode cX4_alone 84 = .ok (.pop, 1) := by decide +kernel
theorem dX4_alone_85 : decode cX4_alone 85 = .ok (.aload_n 0, 1) := by decide +kernel
theorem dX4_alone_86 : decode cX4_alone 86 = .ok (.getfield 16, 3) := by decide +kernel
theorem dX4_alone_89 : decode cX4_alone 89 = .ok (.getfield 45, 3) := by decide +kernel
theorem dX4_alone_92 : decode cX4_alone 92 = .ok (.iload_n 2, 1) := by decide +kernel
theorem dX4_alone_93 : decode cX4_alone 93 = .ok (.iaload, 1) := by decide +kernel
theorem dX4_alone_94 : decode cX4_alone 94 = .ok (.ireturn, 1) := by decide +kernel
theorem dX4_until_0 : decode cX4_until 0 = .ok (.aload_n 0, 1) := by decide +kernel
theorem dX4_until_1 : decode cX4_until 1 = .ok (.iconst 0, 1) := by decide +kernel
theorem dX4_until_2 : decode cX4_until 2 = .ok (.putfield 19, 3) := by decide +kernel
theorem dX4_until_5 : decode cX4_until 5 = .ok (.aload_n 0, 1) := by decide +kernel
theorem dX4_until_6 : decode cX4_until 6 = .ok (.getfield 16, 3) := by decide +kernel
theorem dX4_until_9 : decode cX4_until 9 = .ok (.aload_n 0, 1) := by decide +kernel
theorem dX4_until_10 : decode cX4_until 10 = .ok (.getfield 10, 3) := by decide +kernel
theorem dX4_until_13 : decode cX4_until 13 = .ok (.invokevirtual 153, 3) := by decide +kernel
theorem dX4_until_16 : decode cX4_until 16 = .ok (.iconst 0, 1) := by decide +kernel
theorem dX4_until_17 : decode cX4_until 17 = .ok (.istore_n 1, 1) := by decide +kernel
theorem dX4_until_18 : decode cX4_until 18 = .ok (.iload_n 1, 1) := by decide +kernel
theorem dX4_until_19 : decode cX4_until 19 = .ok (.sipush 200, 3) := by decide +kernel
theorem dX4_until_22 : decode cX4_until 22 = .ok (.if_icmp .gt 29, 3) := by decide +kernel
theorem dX4_until_25 : decode cX4_until 25 = .ok (.aload_n 0, 1) := by decide +kernel
theorem dX4_until_26 : decode cX4_until 26 = .ok (.getfield 16, 3) := by decide +kernel
theorem dX4_until_29 : decode cX4_until 29 = .ok (.invokevirtual 157, 3) := by decide +kernel
theorem dX4_until_32 : decode cX4_until 32 = .ok (.ifCond .eq 5, 3) := by decide +kernel
theorem dX4_until_35 : decode cX4_until 35 = .ok (.iload_n 1, 1) := by decide +kernel
theorem dX4_until_36 : decode cX4_until 36 = .ok (.ireturn, 1) := by decide +kernel
theorem dX4_until_37 : decode cX4_until 37 = .ok (.aload_n 0, 1) := by decide +kernel
theorem dX4_until_38 : decode cX4_until 38 = .ok (.getfield 16, 3) := by decide +kernel
theorem dX4_until_41 : decode cX4_until 41 = .ok (.invokevirtual 87, 3) := by decide +kernel
theorem dX4_until_44 : decode cX4_until 44 = .ok (.pop, 1) := by decide +kernel
theorem dX4_until_45 : decode cX4_until 45 = .ok (.iinc 1 1, 3) := by decide +kernel
theorem dX4_until_48 : decode cX4_until 48 = .ok (.goto (-30), 3) := by decide +kernel
theorem dX4_until_51 : decode cX4_until 51 = .ok (.iconst (-1), 1) := by decide +kernel
theorem dX4_until_52 : decode cX4_until 52 = .ok (.ireturn, 1) := by decide +kernel
theorem dX4_foresee_0 : decode cX4_foresee 0 = .ok (.aload_n 0, 1) := by decide +kernel
theorem dX4_foresee_1 : decode cX4_foresee 1 = .ok (.iconst 0, 1) := by decide +kernel
theorem dX4_foresee_2 : decode cX4_foresee 2 = .ok (.putfield 19, 3) := by decide +kernel
theorem dX4_foresee_5 : decode cX4_foresee 5 = .ok (.iload_n 1, 1) := by decide +kernel
theorem dX4_foresee_6 : decode cX4_foresee 6 = .ok (.iconst 1, 1) := by decide +kernel
theorem dX4_foresee_7 : decode cX4_foresee 7 = .ok (.bipush 50, 2) := by decide +kernel
theorem dX4_foresee_9 : decode cX4_foresee 9 = .ok (.invokestatic 26, 3) := by decide +kernel
theorem dX4_foresee_12 : decode cX4_foresee 12 = .ok (.ifCond .ne 9, 3) := by decide +kernel
theorem dX4_foresee_15 : decode cX4_foresee 15 = .ok (.aload_n 0, 1) := by decide +kernel
theorem dX4_foresee_16 : decode cX4_foresee 16 = .ok (.iconst 1, 1) := by decide +kernel
theorem dX4_foresee_17 : decode cX4_foresee 17 = .ok (.invokevirtual 33, 3) := by decide +kernel
theorem dX4_foresee_20 : decode cX4_foresee 20 = .ok (.ireturn, 1) := by decide +kernel
theorem dX4_foresee_21 : decode cX4_foresee 21 = .ok (.iload_n 2, 1) := by decide +kernel
theorem dX4_foresee_22 : decode cX4_foresee 22 = .ok (.iconst 2, 1) := by decide +kernel
theorem dX4_foresee_23 : decode cX4_foresee 23 = .ok (.bipush 6, 2) := by decide +kernel
theorem dX4_foresee_25 : decode cX4_foresee 25 = .ok (.invokestatic 26, 3) := by decide +kernel
theorem dX4_foresee_28 : decode cX4_foresee 28 = .ok (.ifCond .ne 9, 3) := by decide +kernel
theorem dX4_foresee_31 : decode cX4_foresee 31 = .ok (.aload_n 0, 1) := by decide +kernel
theorem dX4_foresee_32 : decode cX4_foresee 32 = .ok (.iconst 2, 1) := by decide +kernel
theorem dX4_foresee_33 : decode cX4_foresee 33 = .ok (.invokevirtual 33, 3) := by decide +kernel
theorem dX4_foresee_36 : decode cX4_foresee 36 = .ok (.ireturn, 1) := by decide +kernel
theorem dX4_foresee_37 : decode cX4_foresee 37 = .ok (.aload_n 0, 1) := by decide +kernel
theorem dX4_foresee_38 : decode cX4_foresee 38 = .ok (.getfield 16, 3) := by decide +kernel
theorem dX4_foresee_41 : decode cX4_foresee 41 = .ok (.aload_n 0, 1) := by decide +kernel
theorem dX4_foresee_42 : decode cX4_foresee 42 = .ok (.getfield 10, 3) := by decide +kernel
theorem dX4_foresee_45 : decode cX4_foresee 45 = .ok (.invokevirtual 153, 3) := by decide +kernel
theorem dX4_foresee_48 : decode cX4_foresee 48 = .ok (.iconst 0, 1) := by decide +kernel
theorem dX4_foresee_49 : decode cX4_foresee 49 = .ok (.istore_n 3, 1) := by decide +kernel
theorem dX4_foresee_50 : decode cX4_foresee 50 = .ok (.iload_n 3, 1) := by decide +kernel
theorem dX4_foresee_51 : decode cX4_foresee 51 = .ok (.iload_n 1, 1) := by decide +kernel
theorem dX4_foresee_52 : decode cX4_foresee 52 = .ok (.if_icmp .ge 17, 3) := by decide +kernel
theorem dX4_foresee_55 : decode cX4_foresee 55 = .ok (.aload_n 0, 1) := by decide +kernel
theorem dX4_foresee_56 : decode cX4_foresee 56 = .ok (.getfield 16, 3) := by decide +kernel
theorem dX4_foresee_59 : decode cX4_foresee 59 = .ok (.invokevirtual 87, 3) := by decide +kernel
theorem dX4_foresee_62 : decode cX4_foresee 62 = .ok (.pop, 1) := by decide +kernel
theorem dX4_foresee_63 : decode cX4_foresee 63 = .ok (.iinc 3 1, 3) := by decide +kernel
theorem dX4_foresee_66 : decode cX4_foresee 66 = .ok (.goto (-16), 3) := by decide +kernel
theorem dX4_foresee_69 : decode cX4_foresee 69 = .ok (.aload_n 0, 1) := by decide +kernel
theorem dX4_foresee_70 : decode cX4_foresee 70 = .ok (.getfield 16, 3) := by decide +kernel
theorem dX4_foresee_73 : decode cX4_foresee 73 = .ok (.iload_n 2, 1) := by decide +kernel
theorem dX4_foresee_74 : decode cX4_foresee 74 = .ok (.invokevirtual 150, 3) := by decide +kernel
theorem dX4_foresee_77 : decode cX4_foresee 77 = .ok (.ireturn, 1) := by decide +kernel
theorem dX4_clashesOf_0 : decode cX4_clashesOf 0 = .ok (.iconst 0, 1) := by decide +kernel
theorem dX4_clashesOf_1 : decode cX4_clashesOf 1 = .ok (.istore_n 2, 1) := by decide +kernel
theorem dX4_clashesOf_2 : decode cX4_clashesOf 2 = .ok (.iconst 0, 1) := by decide +kernel
theorem dX4_clashesOf_3 : decode cX4_clashesOf 3 = .ok (.istore_n 3, 1) := by decide +kernel
theorem dX4_clashesOf_4 : decode cX4_clashesOf 4 = .ok (.iload_n 3, 1) := by decide +kernel
theorem dX4_clashesOf_5 : decode cX4_clashesOf 5 = .ok (.aload_n 0, 1) := by decide +kernel
theorem dX4_clashesOf_6 : decode cX4_clashesOf 6 = .ok (.getfield 10, 3) := by decide +kernel
theorem dX4_clashesOf_9 : decode cX4_clashesOf 9 = .ok (.getfield 30, 3) := by decide +kernel
theorem dX4_clashesOf_12 : decode cX4_clashesOf 12 = .ok (.if_icmp .ge 26, 3) := by decide +kernel
theorem dX4_clashesOf_15 : decode cX4_clashesOf 15 = .ok (.iload_n 2, 1) := by decide +kernel
theorem dX4_clashesOf_16 : decode cX4_clashesOf 16 = .ok (.aload_n 0, 1) := by decide +kernel
theorem dX4_clashesOf_17 : decode cX4_clashesOf 17 = .ok (.iload_n 1, 1) := by decide +kernel
theorem dX4_clashesOf_18 : decode cX4_clashesOf 18 = .ok (.iload_n 3, 1) := by decide +kernel
theorem dX4_clashesOf_19 : decode cX4_clashesOf 19 = .ok (.invokevirtual 146, 3) := by decide +kernel
theorem dX4_clashesOf_22 : decode cX4_clashesOf 22 = .ok (.ifCond .eq 7, 3) := by decide +kernel
theorem dX4_clashesOf_25 : decode cX4_clashesOf 25 = .ok (.iconst 1, 1) := by decide +kernel
theorem dX4_clashesOf_26 : decode cX4_clashesOf 26 = .ok (.goto 4, 3) := by decide +kernel
theorem dX4_clashesOf_29 : decode cX4_clashesOf 29 = .ok (.iconst 0, 1) := by decide +kernel
theorem dX4_clashesOf_30 : decode cX4_clashesOf 30 = .ok (.iadd, 1) := by decide +kernel
theorem dX4_clashesOf_31 : decode cX4_clashesOf 31 = .ok (.istore_n 2, 1) := by decide +kernel
theorem dX4_clashesOf_32 : decode cX4_clashesOf 32 = .ok (.iinc 3 1, 3) := by decide +kernel
theorem dX4_clashesOf_35 : decode cX4_clashesOf 35 = .ok (.goto (-31), 3) := by decide +kernel
theorem dX4_clashesOf_38 : decode cX4_clashesOf 38 = .ok (.iload_n 2, 1) := by decide +kernel
theorem dX4_clashesOf_39 : decode cX4_clashesOf 39 = .ok (.ireturn, 1) := by decide +kernel
theorem dX4_advise_0 : decode cX4_advise 0 = .ok (.aload_n 0, 1) := by decide +kernel
theorem dX4_advise_1 : decode cX4_advise 1 = .ok (.iconst 0, 1) := by decide +kernel
theorem dX4_advise_2 : decode cX4_advise 2 = .ok (.putfield 19, 3) := by decide +kernel
theorem dX4_advise_5 : decode cX4_advise 5 = .ok (.iconst (-1), 1) := by decide +kernel
theorem dX4_advise_6 : decode cX4_advise 6 = .ok (.istore_n 1, 1) := by decide +kernel
theorem dX4_advise_7 : decode cX4_advise 7 = .ok (.iconst 0, 1) := by decide +kernel
theorem dX4_advise_8 : decode cX4_advise 8 = .ok (.istore_n 2, 1) := by decide +kernel
theorem dX4_advise_9 : decode cX4_advise 9 = .ok (.iload_n 2, 1) := by decide +kernel
theorem dX4_advise_10 : decode cX4_advise 10 = .ok (.aload_n 0, 1) := by decide +kernel
theorem dX4_advise_11 : decode cX4_advise 11 = .ok (.getfield 10, 3) := by decide +kernel
theorem dX4_advise_14 : decode cX4_advise 14 = .ok (.getfield 30, 3) := by decide +kernel
theorem dX4_advise_17 : decode cX4_advise 17 = .ok (.if_icmp .ge 75, 3) := by decide +kernel
theorem dX4_advise_20 : decode cX4_advise 20 = .ok (.aload_n 0, 1) := by decide +kernel
theorem dX4_advise_21 : decode cX4_advise 21 = .ok (.getfield 10, 3) := by decide +kernel
theorem dX4_advise_24 : decode cX4_advise 24 = .ok (.iload_n 2, 1) := by decide +kernel
theorem dX4_advise_25 : decode cX4_advise 25 = .ok (.invokevirtual 78, 3) := by decide +kernel
theorem dX4_advise_28 : decode cX4_advise 28 = .ok (.ifCond .ne 6, 3) := by decide +kernel
theorem dX4_advise_31 : decode cX4_advise 31 = .ok (.goto 55, 3) := by decide +kernel
theorem dX4_advise_34 : decode cX4_advise 34 = .ok (.iload_n 1, 1) := by decide +kernel
theorem dX4_advise_35 : decode cX4_advise 35 = .ok (.iconst (-1), 1) := by decide +kernel
theorem dX4_advise_36 : decode cX4_advise 36 = .ok (.if_icmp .ne 7, 3) := by decide +kernel
theorem dX4_advise_39 : decode cX4_advise 39 = .ok (.iconst 1, 1) := by decide +kernel
theorem dX4_advise_40 : decode cX4_advise 40 = .ok (.goto 14, 3) := by decide +kernel
theorem dX4_advise_43 : decode cX4_advise 43 = .ok (.aload_n 0, 1) := by decide +kernel
theorem dX4_advise_44 : decode cX4_advise 44 = .ok (.iload_n 1, 1) := by decide +kernel
theorem dX4_advise_45 : decode cX4_advise 45 = .ok (.invokevirtual 161, 3) := by decide +kernel
theorem dX4_advise_48 : decode cX4_advise 48 = .ok (.aload_n 0, 1) := by decide +kernel
theorem dX4_advise_49 : decode cX4_advise 49 = .ok (.iload_n 2, 1) := by decide +kernel
theorem dX4_advise_50 : decode cX4_advise 50 = .ok (.invokevirtual 161, 3) := by decide +kernel
theorem dX4_advise_53 : decode cX4_advise 53 = .ok (.isub, 1) := by decide +kernel
theorem dX4_advise_54 : decode cX4_advise 54 = .ok (.istore_n 3, 1) := by decide +kernel
theorem dX4_advise_55 : decode cX4_advise 55 = .ok (.iload_n 3, 1) := by decide +kernel
theorem dX4_advise_56 : decode cX4_advise 56 = .ok (.ifCond .gt 28, 3) := by decide +kernel
theorem dX4_advise_59 : decode cX4_advise 59 = .ok (.iload_n 3, 1) := by decide +kernel
theorem dX4_advise_60 : decode cX4_advise 60 = .ok (.ifCond .ne 26, 3) := by decide +kernel
theorem dX4_advise_63 : decode cX4_advise 63 = .ok (.aload_n 0, 1) := by decide +kernel
theorem dX4_advise_64 : decode cX4_advise 64 = .ok (.getfield 10, 3) := by decide +kernel
theorem dX4_advise_67 : decode cX4_advise 67 = .ok (.getfield 63, 3) := by decide +kernel
theorem dX4_advise_70 : decode cX4_advise 70 = .ok (.iload_n 2, 1) := by decide +kernel
theorem dX4_advise_71 : decode cX4_advise 71 = .ok (.iaload, 1) := by decide +kernel
theorem dX4_advise_72 : decode cX4_advise 72 = .ok (.aload_n 0, 1) := by decide +kernel
theorem dX4_advise_73 : decode cX4_advise 73 = .ok (.getfield 10, 3) := by decide +kernel
theorem dX4_advise_76 : decode cX4_advise 76 = .ok (.getfield 63, 3) := by decide +kernel
theorem dX4_advise_79 : decode cX4_advise 79 = .ok (.iload_n 1, 1) := by decide +kernel
theorem dX4_advise_80 : decode cX4_advise 80 = .ok (.iaload, 1) := by decide +kernel
theorem dX4_advise_81 : decode cX4_advise 81 = .ok (.if_icmp .le 5, 3) := by decide +kernel
theorem dX4_advise_84 : decode cX4_advise 84 = .ok (.iload_n 2, 1) := by decide +kernel
theorem dX4_advise_85 : decode cX4_advise 85 = .ok (.istore_n 1, 1) := by decide +kernel
theorem dX4_advise_86 : decode cX4_advise 86 = .ok (.iinc 2 1, 3) := by decide +kernel
theorem dX4_advise_89 : decode cX4_advise 89 = .ok (.goto (-80), 3) := by decide +kernel
theorem dX4_advise_92 : decode cX4_advise 92 = .ok (.iload_n 1, 1) := by decide +kernel
theorem dX4_advise_93 : decode cX4_advise 93 = .ok (.ireturn, 1) := by decide +kernel
theorem dX4_mean_0 : decode cX4_mean 0 = .ok (.aload_n 0, 1) := by decide +kernel
theorem dX4_mean_1 : decode cX4_mean 1 = .ok (.iconst 0, 1) := by decide +kernel
theorem dX4_mean_2 : decode cX4_mean 2 = .ok (.putfield 19, 3) := by decide +kernel
theorem dX4_mean_5 : decode cX4_mean 5 = .ok (.aload_n 0, 1) := by decide +kernel
theorem dX4_mean_6 : decode cX4_mean 6 = .ok (.getfield 10, 3) := by decide +kernel
theorem dX4_mean_9 : decode cX4_mean 9 = .ok (.getfield 30, 3) := by decide +kernel
theorem dX4_mean_12 : decode cX4_mean 12 = .ok (.ifCond .ne 7, 3) := by decide +kernel
theorem dX4_mean_15 : decode cX4_mean 15 = .ok (.dconst 0, 1) := by decide +kernel
theorem dX4_mean_16 : decode cX4_mean 16 = .ok (.goto 21, 3) := by decide +kernel
theorem dX4_mean_19 : decode cX4_mean 19 = .ok (.aload_n 0, 1) := by decide +kernel
theorem dX4_mean_20 : decode cX4_mean 20 = .ok (.getfield 10, 3) := by decide +kernel
theorem dX4_mean_23 : decode cX4_mean 23 = .ok (.iconst 4, 1) := by decide +kernel
theorem dX4_mean_24 : decode cX4_mean 24 = .ok (.invokevirtual 150, 3) := by decide +kernel
theorem dX4_mean_27 : decode cX4_mean 27 = .ok (.i2d, 1) := by decide +kernel
theorem dX4_mean_28 : decode cX4_mean 28 = .ok (.aload_n 0, 1) := by decide +kernel
theorem dX4_mean_29 : decode cX4_mean 29 = .ok (.getfield 10, 3) := by decide +kernel
theorem dX4_mean_32 : decode cX4_mean 32 = .ok (.getfield 30, 3) := by decide +kernel
theorem dX4_mean_35 : decode cX4_mean 35 = .ok (.i2d, 1) := by decide +kernel
theorem dX4_mean_36 : decode cX4_mean 36 = .ok (.ddiv, 1) := by decide +kernel
theorem dX4_mean_37 : decode cX4_mean 37 = .ok (.dreturn, 1) := by decide +kernel
theorem dX4_digest_0 : decode cX4_digest 0 = .ok (.aload_n 0, 1) := by decide +kernel
theorem dX4_digest_1 : decode cX4_digest 1 = .ok (.iconst 0, 1) := by decide +kernel
theorem dX4_digest_2 : decode cX4_digest 2 = .ok (.putfield 19, 3) := by decide +kernel
theorem dX4_digest_5 : decode cX4_digest 5 = .ok (.ldc2_w 164, 3) := by decide +kernel
theorem dX4_digest_8 : decode cX4_digest 8 = .ok (.lstore_n 1, 1) := by decide +kernel
theorem dX4_digest_9 : decode cX4_digest 9 = .ok (.iconst 0, 1) := by decide +kernel
theorem dX4_digest_10 : decode cX4_digest 10 = .ok (.istore_n 3, 1) := by decide +kernel
theorem dX4_digest_11 : decode cX4_digest 11 = .ok (.iload_n 3, 1) := by decide +kernel
theorem dX4_digest_12 : decode cX4_digest 12 = .ok (.bipush 6, 2) := by decide +kernel
theorem dX4_digest_14 : decode cX4_digest 14 = .ok (.if_icmp .gt 25, 3) := by decide +kernel
theorem dX4_digest_17 : decode cX4_digest 17 = .ok (.lload_n 1, 1) := by decide +kernel
theorem dX4_digest_18 : decode cX4_digest 18 = .ok (.ldc2_w 166, 3) := by decide +kernel
theorem dX4_digest_21 : decode cX4_digest 21 = .ok (.lmul, 1) := by decide +kernel
theorem dX4_digest_22 : decode cX4_digest 22 = .ok (.aload_n 0, 1) := by decide +kernel
theorem dX4_digest_23 : decode cX4_digest 23 = .ok (.getfield 10, 3) := by decide +kernel
theorem dX4_digest_26 : decode cX4_digest 26 = .ok (.iload_n 3, 1) := by decide +kernel
theorem dX4_digest_27 : decode cX4_digest 27 = .ok (.invokevirtual 150, 3) := by decide +kernel
theorem dX4_digest_30 : decode cX4_digest 30 = .ok (.i2l, 1) := by decide +kernel
theorem dX4_digest_31 : decode cX4_digest 31 = .ok (.ladd, 1) := by decide +kernel
theorem dX4_digest_32 : decode cX4_digest 32 = .ok (.lstore_n 1, 1) := by decide +kernel
theorem dX4_digest_33 : decode cX4_digest 33 = .ok (.iinc 3 1, 3) := by decide +kernel
theorem dX4_digest_36 : decode cX4_digest 36 = .ok (.goto (-25), 3) := by decide +kernel
theorem dX4_digest_39 : decode cX4_digest 39 = .ok (.iconst 0, 1) := by decide +kernel
theorem dX4_digest_40 : decode cX4_digest 40 = .ok (.istore_n 3, 1) := by decide +kernel
theorem dX4_digest_41 : decode cX4_digest 41 = .ok (.iload_n 3, 1) := by decide +kernel
theorem dX4_digest_42 : decode cX4_digest 42 = .ok (.aload_n 0, 1) := by decide +kernel
theorem dX4_digest_43 : decode cX4_digest 43 = .ok (.getfield 10, 3) := by decide +kernel
theorem dX4_digest_46 : decode cX4_digest 46 = .ok (.getfield 23, 3) := by decide +kernel
theorem dX4_digest_49 : decode cX4_digest 49 = .ok (.if_icmp .ge 39, 3) := by decide +kernel
theorem dX4_digest_52 : decode cX4_digest 52 = .ok (.iconst 0, 1) := by decide +kernel
theorem dX4_digest_53 : decode cX4_digest 53 = .ok (.istore 4, 2) := by decide +kernel
theorem dX4_digest_55 : decode cX4_digest 55 = .ok (.iload 4, 2) := by decide +kernel
theorem dX4_digest_57 : decode cX4_digest 57 = .ok (.iconst 3, 1) := by decide +kernel
theorem dX4_digest_58 : decode cX4_digest 58 = .ok (.if_icmp .gt 24, 3) := by decide +kernel
theorem dX4_digest_61 : decode cX4_digest 61 = .ok (.lload_n 1, 1) := by decide +kernel
theorem dX4_digest_62 : decode cX4_digest 62 = .ok (.ldc2_w 166, 3) := by decide +kernel
theorem dX4_digest_65 : decode cX4_digest 65 = .ok (.lmul, 1) := by decide +kernel
theorem dX4_digest_66 : decode cX4_digest 66 = .ok (.aload_n 0, 1) := by decide +kernel
theorem dX4_digest_67 : decode cX4_digest 67 = .ok (.iload_n 3, 1) := by decide +kernel
theorem dX4_digest_68 : decode cX4_digest 68 = .ok (.iload 4, 2) := by decide +kernel
theorem dX4_digest_70 : decode cX4_digest 70 = .ok (.invokevirtual 99, 3) := by decide +kernel
theorem dX4_digest_73 : decode cX4_digest 73 = .ok (.i2l, 1) := by decide +kernel
theorem dX4_digest_74 : decode cX4_digest 74 = .ok (.ladd, 1) := by decide +kernel
theorem dX4_digest_75 : decode cX4_digest 75 = .ok (.lstore_n 1, 1) := by decide +kernel
theorem dX4_digest_76 : decode cX4_digest 76 = .ok (.iinc 4 1, 3) := by decide +kernel
theorem dX4_digest_79 : decode cX4_digest 79 = .ok (.goto (-24), 3) := by decide +kernel
theorem dX4_digest_82 : decode cX4_digest 82 = .ok (.iinc 3 1, 3) := by decide +kernel
theorem dX4_digest_85 : decode cX4_digest 85 = .ok (.goto (-44), 3) := by decide +kernel
theorem dX4_digest_88 : decode cX4_digest 88 = .ok (.iconst 0, 1) := by decide +kernel
theorem dX4_digest_89 : decode cX4_digest 89 = .ok (.istore_n 3, 1) := by decide +kernel
theorem dX4_digest_90 : decode cX4_digest 90 = .ok (.iload_n 3, 1) := by decide +kernel
theorem dX4_digest_91 : decode cX4_digest 91 = .ok (.aload_n 0, 1) := by decide +kernel
theorem dX4_digest_92 : decode cX4_digest 92 = .ok (.getfield 10, 3) := by decide +kernel
theorem dX4_digest_95 : decode cX4_digest 95 = .ok (.getfield 30, 3) := by decide +kernel
theorem dX4_digest_98 : decode cX4_digest 98 = .ok (.if_icmp .ge 93, 3) := by decide +kernel
theorem dX4_digest_101 : decode cX4_digest 101 = .ok (.iconst 0, 1) := by decide +kernel
theorem dX4_digest_102 : decode cX4_digest 102 = .ok (.istore 4, 2) := by decide +kernel
theorem dX4_digest_104 : decode cX4_digest 104 = .ok (.iload 4, 2) := by decide +kernel
theorem dX4_digest_106 : decode cX4_digest 106 = .ok (.bipush 6, 2) := by decide +kernel
theorem dX4_digest_108 : decode cX4_digest 108 = .ok (.if_icmp .gt 24, 3) := by decide +kernel
theorem dX4_digest_111 : decode cX4_digest 111 = .ok (.lload_n 1, 1) := by decide +kernel
theorem dX4_digest_112 : decode cX4_digest 112 = .ok (.ldc2_w 166, 3) := by decide +kernel
theorem dX4_digest_115 : decode cX4_digest 115 = .ok (.lmul, 1) := by decide +kernel
theorem dX4_digest_116 : decode cX4_digest 116 = .ok (.aload_n 0, 1) := by decide +kernel
theorem dX4_digest_117 : decode cX4_digest 117 = .ok (.iload_n 3, 1) := by decide +kernel
theorem dX4_digest_118 : decode cX4_digest 118 = .ok (.iload 4, 2) := by decide +kernel
theorem dX4_digest_120 : decode cX4_digest 120 = .ok (.invokevirtual 113, 3) := by decide +kernel
theorem dX4_digest_123 : decode cX4_digest 123 = .ok (.i2l, 1) := by decide +kernel
theorem dX4_digest_124 : decode cX4_digest 124 = .ok (.ladd, 1) := by decide +kernel
theorem dX4_digest_125 : decode cX4_digest 125 = .ok (.lstore_n 1, 1) := by decide +kernel
theorem dX4_digest_126 : decode cX4_digest 126 = .ok (.iinc 4 1, 3) := by decide +kernel
theorem dX4_digest_129 : decode cX4_digest 129 = .ok (.goto (-25), 3) := by decide +kernel
theorem dX4_digest_132 : decode cX4_digest 132 = .ok (.iconst 0, 1) := by decide +kernel
theorem dX4_digest_133 : decode cX4_digest 133 = .ok (.istore 4, 2) := by decide +kernel
theorem dX4_digest_135 : decode cX4_digest 135 = .ok (.iload 4, 2) := by decide +kernel
theorem dX4_digest_137 : decode cX4_digest 137 = .ok (.aload_n 0, 1) := by decide +kernel
theorem dX4_digest_138 : decode cX4_digest 138 = .ok (.getfield 10, 3) := by decide +kernel
theorem dX4_digest_141 : decode cX4_digest 141 = .ok (.getfield 23, 3) := by decide +kernel
theorem dX4_digest_144 : decode cX4_digest 144 = .ok (.if_icmp .ge 41, 3) := by decide +kernel
theorem dX4_digest_147 : decode cX4_digest 147 = .ok (.iconst 0, 1) := by decide +kernel
theorem dX4_digest_148 : decode cX4_digest 148 = .ok (.istore 5, 2) := by decide +kernel
theorem dX4_digest_150 : decode cX4_digest 150 = .ok (.iload 5, 2) := by decide +kernel
theorem dX4_digest_152 : decode cX4_digest 152 = .ok (.iconst 2, 1) := by decide +kernel
theorem dX4_digest_153 : decode cX4_digest 153 = .ok (.if_icmp .gt 26, 3) := by decide +kernel
theorem dX4_digest_156 : decode cX4_digest 156 = .ok (.lload_n 1, 1) := by decide +kernel
theorem dX4_digest_157 : decode cX4_digest 157 = .ok (.ldc2_w 166, 3) := by decide +kernel
theorem dX4_digest_160 : decode cX4_digest 160 = .ok (.lmul, 1) := by decide +kernel
theorem dX4_digest_161 : decode cX4_digest 161 = .ok (.aload_n 0, 1) := by decide +kernel
theorem dX4_digest_162 : decode cX4_digest 162 = .ok (.iload_n 3, 1) := by decide +kernel
theorem dX4_digest_163 : decode cX4_digest 163 = .ok (.iload 4, 2) := by decide +kernel
theorem dX4_digest_165 : decode cX4_digest 165 = .ok (.iload 5, 2) := by decide +kernel
theorem dX4_digest_167 : decode cX4_digest 167 = .ok (.invokevirtual 119, 3) := by decide +kernel
theorem dX4_digest_170 : decode cX4_digest 170 = .ok (.i2l, 1) := by decide +kernel
theorem dX4_digest_171 : decode cX4_digest 171 = .ok (.ladd, 1) := by decide +kernel
theorem dX4_digest_172 : decode cX4_digest 172 = .ok (.lstore_n 1, 1) := by decide +kernel
theorem dX4_digest_173 : decode cX4_digest 173 = .ok (.iinc 5 1, 3) := by decide +kernel
theorem dX4_digest_176 : decode cX4_digest 176 = .ok (.goto (-26), 3) := by decide +kernel
theorem dX4_digest_179 : decode cX4_digest 179 = .ok (.iinc 4 1, 3) := by decide +kernel
theorem dX4_digest_182 : decode cX4_digest 182 = .ok (.goto (-47), 3) := by decide +kernel
theorem dX4_digest_185 : decode cX4_digest 185 = .ok (.iinc 3 1, 3) := by decide +kernel
theorem dX4_digest_188 : decode cX4_digest 188 = .ok (.goto (-98), 3) := by decide +kernel
theorem dX4_digest_191 : decode cX4_digest 191 = .ok (.iconst 0, 1) := by decide +kernel
theorem dX4_digest_192 : decode cX4_digest 192 = .ok (.istore_n 3, 1) := by decide +kernel
theorem dX4_digest_193 : decode cX4_digest 193 = .ok (.iload_n 3, 1) := by decide +kernel
theorem dX4_digest_194 : decode cX4_digest 194 = .ok (.bipush 10, 2) := by decide +kernel
theorem dX4_digest_196 : decode cX4_digest 196 = .ok (.aload_n 0, 1) := by decide +kernel
theorem dX4_digest_197 : decode cX4_digest 197 = .ok (.getfield 10, 3) := by decide +kernel
theorem dX4_digest_200 : decode cX4_digest 200 = .ok (.getfield 126, 3) := by decide +kernel
theorem dX4_digest_203 : decode cX4_digest 203 = .ok (.invokestatic 138, 3) := by decide +kernel
theorem dX4_digest_206 : decode cX4_digest 206 = .ok (.if_icmp .ge 39, 3) := by decide +kernel
theorem dX4_digest_209 : decode cX4_digest 209 = .ok (.iconst 0, 1) := by decide +kernel
theorem dX4_digest_210 : decode cX4_digest 210 = .ok (.istore 4, 2) := by decide +kernel
theorem dX4_digest_212 : decode cX4_digest 212 = .ok (.iload 4, 2) := by decide +kernel
theorem dX4_digest_214 : decode cX4_digest 214 = .ok (.iconst 2, 1) := by decide +kernel
theorem dX4_digest_215 : decode cX4_digest 215 = .ok (.if_icmp .gt 24, 3) := by decide +kernel
theorem dX4_digest_218 : decode cX4_digest 218 = .ok (.lload_n 1, 1) := by decide +kernel
theorem dX4_digest_219 : decode cX4_digest 219 = .ok (.ldc2_w 166, 3) := by decide +kernel
theorem dX4_digest_222 : decode cX4_digest 222 = .ok (.lmul, 1) := by decide +kernel
theorem dX4_digest_223 : decode cX4_digest 223 = .ok (.aload_n 0, 1) := by decide +kernel
theorem dX4_digest_224 : decode cX4_digest 224 = .ok (.iload_n 3, 1) := by decide +kernel
theorem dX4_digest_225 : decode cX4_digest 225 = .ok (.iload 4, 2) := by decide +kernel
theorem dX4_digest_227 : decode cX4_digest 227 = .ok (.invokevirtual 143, 3) := by decide +kernel
theorem dX4_digest_230 : decode cX4_digest 230 = .ok (.i2l, 1) := by decide +kernel
theorem dX4_digest_231 : decode cX4_digest 231 = .ok (.ladd, 1) := by decide +kernel
theorem dX4_digest_232 : decode cX4_digest 232 = .ok (.lstore_n 1, 1) := by decide +kernel
theorem dX4_digest_233 : decode cX4_digest 233 = .ok (.iinc 4 1, 3) := by decide +kernel
theorem dX4_digest_236 : decode cX4_digest 236 = .ok (.goto (-24), 3) := by decide +kernel
theorem dX4_digest_239 : decode cX4_digest 239 = .ok (.iinc 3 1, 3) := by decide +kernel
theorem dX4_digest_242 : decode cX4_digest 242 = .ok (.goto (-49), 3) := by decide +kernel
theorem dX4_digest_245 : decode cX4_digest 245 = .ok (.lload_n 1, 1) := by decide +kernel
theorem dX4_digest_246 : decode cX4_digest 246 = .ok (.lreturn, 1) := by decide +kernel
theorem dJ9_max_7cf53_0 : decode cJ9_max_7cf53 0 = .ok (.iload_n 0, 1) := by decide +kernel
theorem dJ9_max_7cf53_1 : decode cJ9_max_7cf53 1 = .ok (.iload_n 1, 1) := by decide +kernel
theorem dJ9_max_7cf53_2 : decode cJ9_max_7cf53 2 = .ok (.if_icmp .lt 7, 3) := by decide +kernel
theorem dJ9_max_7cf53_5 : decode cJ9_max_7cf53 5 = .ok (.iload_n 0, 1) := by decide +kernel
theorem dJ9_max_7cf53_6 : decode cJ9_max_7cf53 6 = .ok (.goto 4, 3) := by decide +kernel
theorem dJ9_max_7cf53_9 : decode cJ9_max_7cf53 9 = .ok (.iload_n 1, 1) := by decide +kernel
theorem dJ9_max_7cf53_10 : decode cJ9_max_7cf53 10 = .ok (.ireturn, 1) := by decide +kernel
theorem dJ9_min_7cf53_0 : decode cJ9_min_7cf53 0 = .ok (.iload_n 0, 1) := by decide +kernel
theorem dJ9_min_7cf53_1 : decode cJ9_min_7cf53 1 = .ok (.iload_n 1, 1) := by decide +kernel
theorem dJ9_min_7cf53_2 : decode cJ9_min_7cf53 2 = .ok (.if_icmp .gt 7, 3) := by decide +kernel
theorem dJ9_min_7cf53_5 : decode cJ9_min_7cf53 5 = .ok (.iload_n 0, 1) := by decide +kernel
theorem dJ9_min_7cf53_6 : decode cJ9_min_7cf53 6 = .ok (.goto 4, 3) := by decide +kernel
theorem dJ9_min_7cf53_9 : decode cJ9_min_7cf53 9 = .ok (.iload_n 1, 1) := by decide +kernel
theorem dJ9_min_7cf53_10 : decode cJ9_min_7cf53 10 = .ok (.ireturn, 1) := by decide +kernel
theorem dL_till_0 : decode cL_till 0 = .ok (.aload_n 2, 1) := by decide +kernel
theorem dL_till_1 : decode cL_till 1 = .ok (.iconst 0, 1) := by decide +kernel
theorem dL_till_2 : decode cL_till 2 = .ok (.aload_n 0, 1) := by decide +kernel
theorem dL_till_3 : decode cL_till 3 = .ok (.iload_n 1, 1) := by decide +kernel
theorem dL_till_4 : decode cL_till 4 = .ok (.invokevirtual 7, 3) := by decide +kernel
theorem dL_till_7 : decode cL_till 7 = .ok (.i2l, 1) := by decide +kernel
theorem dL_till_8 : decode cL_till 8 = .ok (.lastore, 1) := by decide +kernel
theorem dL_till_9 : decode cL_till 9 = .ok (.goto 6, 3) := by decide +kernel
theorem dL_till_12 : decode cL_till 12 = .ok (.astore_n 3, 1) := by decide +kernel
theorem dL_till_13 : decode cL_till 13 = .ok (.iconst 1, 1) := by decide +kernel
theorem dL_till_14 : decode cL_till 14 = .ok (.ireturn, 1) := by decide +kernel
theorem dL_till_15 : decode cL_till 15 = .ok (.iconst 0, 1) := by decide +kernel
theorem dL_till_16 : decode cL_till 16 = .ok (.ireturn, 1) := by decide +kernel
theorem dL_pay_0 : decode cL_pay 0 = .ok (.aload_n 3, 1) := by decide +kernel
theorem dL_pay_1 : decode cL_pay 1 = .ok (.iconst 0, 1) := by decide +kernel
theorem dL_pay_2 : decode cL_pay 2 = .ok (.aload_n 0, 1) := by decide +kernel
theorem dL_pay_3 : decode cL_pay 3 = .ok (.iload_n 1, 1) := by decide +kernel
theorem dL_pay_4 : decode cL_pay 4 = .ok (.iload_n 2, 1) := by decide +kernel
theorem dL_pay_5 : decode cL_pay 5 = .ok (.invokevirtual 15, 3) := by decide +kernel
theorem dL_pay_8 : decode cL_pay 8 = .ok (.i2l, 1) := by decide +kernel
theorem dL_pay_9 : decode cL_pay 9 = .ok (.lastore, 1) := by decide +kernel
theorem dL_pay_10 : decode cL_pay 10 = .ok (.goto 11, 3) := by decide +kernel
theorem dL_pay_13 : decode cL_pay 13 = .ok (.astore 4, 2) := by decide +kernel
theorem dL_pay_15 : decode cL_pay 15 = .ok (.iconst 1, 1) := by decide +kernel
theorem dL_pay_16 : decode cL_pay 16 = .ok (.ireturn, 1) := by decide +kernel
theorem dL_pay_17 : decode cL_pay 17 = .ok (.astore 4, 2) := by decide +kernel
theorem dL_pay_19 : decode cL_pay 19 = .ok (.iconst 2, 1) := by decide +kernel
theorem dL_pay_20 : decode cL_pay 20 = .ok (.ireturn, 1) := by decide +kernel
theorem dL_pay_21 : decode cL_pay 21 = .ok (.iconst 0, 1) := by decide +kernel
theorem dL_pay_22 : decode cL_pay 22 = .ok (.ireturn, 1) := by decide +kernel
theorem dL_clerk_0 : decode cL_clerk 0 = .ok (.aload_n 1, 1) := by decide +kernel
theorem dL_clerk_1 : decode cL_clerk 1 = .ok (.iconst 0, 1) := by decide +kernel
theorem dL_clerk_2 : decode cL_clerk 2 = .ok (.aload_n 0, 1) := by decide +kernel
theorem dL_clerk_3 : decode cL_clerk 3 = .ok (.invokevirtual 21, 3) := by decide +kernel
theorem dL_clerk_6 : decode cL_clerk 6 = .ok (.i2l, 1) := by decide +kernel
theorem dL_clerk_7 : decode cL_clerk 7 = .ok (.lastore, 1) := by decide +kernel
theorem dL_clerk_8 : decode cL_clerk 8 = .ok (.goto 6, 3) := by decide +kernel
theorem dL_clerk_11 : decode cL_clerk 11 = .ok (.astore_n 2, 1) := by decide +kernel
theorem dL_clerk_12 : decode cL_clerk 12 = .ok (.iconst 1, 1) := by decide +kernel
theorem dL_clerk_13 : decode cL_clerk 13 = .ok (.ireturn, 1) := by decide +kernel
theorem dL_clerk_14 : decode cL_clerk 14 = .ok (.iconst 0, 1) := by decide +kernel
theorem dL_clerk_15 : decode cL_clerk 15 = .ok (.ireturn, 1) := by decide +kernel
theorem dL_say_0 : decode cL_say 0 = .ok (.aload 6, 2) := by decide +kernel
theorem dL_say_2 : decode cL_say 2 = .ok (.iconst 0, 1) := by decide +kernel
theorem dL_say_3 : decode cL_say 3 = .ok (.aload_n 0, 1) := by decide +kernel
theorem dL_say_4 : decode cL_say 4 = .ok (.iload_n 1, 1) := by decide +kernel
theorem dL_say_5 : decode cL_say 5 = .ok (.iload_n 2, 1) := by decide +kernel
theorem dL_say_6 : decode cL_say 6 = .ok (.iload_n 3, 1) := by decide +kernel
theorem dL_say_7 : decode cL_say 7 = .ok (.iload 4, 2) := by decide +kernel
theorem dL_say_9 : decode cL_say 9 = .ok (.iload 5, 2) := by decide +kernel
theorem dL_say_11 : decode cL_say 11 = .ok (.invokevirtual 27, 3) := by decide +kernel
theorem dL_say_14 : decode cL_say 14 = .ok (.i2l, 1) := by decide +kernel
theorem dL_say_15 : decode cL_say 15 = .ok (.lastore, 1) := by decide +kernel
theorem dL_say_16 : decode cL_say 16 = .ok (.goto 15, 3) := by decide +kernel
theorem dL_say_19 : decode cL_say 19 = .ok (.astore 7, 2) := by decide +kernel
theorem dL_say_21 : decode cL_say 21 = .ok (.iconst 1, 1) := by decide +kernel
theorem dL_say_22 : decode cL_say 22 = .ok (.ireturn, 1) := by decide +kernel
theorem dL_say_23 : decode cL_say 23 = .ok (.astore 7, 2) := by decide +kernel
theorem dL_say_25 : decode cL_say 25 = .ok (.iconst 2, 1) := by decide +kernel
theorem dL_say_26 : decode cL_say 26 = .ok (.ireturn, 1) := by decide +kernel
theorem dL_say_27 : decode cL_say 27 = .ok (.astore 7, 2) := by decide +kernel
theorem dL_say_29 : decode cL_say 29 = .ok (.iconst 3, 1) := by decide +kernel
theorem dL_say_30 : decode cL_say 30 = .ok (.ireturn, 1) := by decide +kernel
theorem dL_say_31 : decode cL_say 31 = .ok (.iconst 0, 1) := by decide +kernel
theorem dL_say_32 : decode cL_say 32 = .ok (.ireturn, 1) := by decide +kernel
theorem dL_turn_0 : decode cL_turn 0 = .ok (.aload_n 2, 1) := by decide +kernel
theorem dL_turn_1 : decode cL_turn 1 = .ok (.iconst 0, 1) := by decide +kernel
theorem dL_turn_2 : decode cL_turn 2 = .ok (.aload_n 0, 1) := by decide +kernel
theorem dL_turn_3 : decode cL_turn 3 = .ok (.iload_n 1, 1) := by decide +kernel
theorem dL_turn_4 : decode cL_turn 4 = .ok (.invokevirtual 31, 3) := by decide +kernel
theorem dL_turn_7 : decode cL_turn 7 = .ok (.i2l, 1) := by decide +kernel
theorem dL_turn_8 : decode cL_turn 8 = .ok (.lastore, 1) := by decide +kernel
theorem dL_turn_9 : decode cL_turn 9 = .ok (.goto 9, 3) := by decide +kernel
theorem dL_turn_12 : decode cL_turn 12 = .ok (.astore_n 3, 1) := by decide +kernel
theorem dL_turn_13 : decode cL_turn 13 = .ok (.iconst 1, 1) := by decide +kernel
theorem dL_turn_14 : decode cL_turn 14 = .ok (.ireturn, 1) := by decide +kernel
theorem dL_turn_15 : decode cL_turn 15 = .ok (.astore_n 3, 1) := by decide +kernel
theorem dL_turn_16 : decode cL_turn 16 = .ok (.iconst 2, 1) := by decide +kernel
theorem dL_turn_17 : decode cL_turn 17 = .ok (.ireturn, 1) := by decide +kernel
theorem dL_turn_18 : decode cL_turn 18 = .ok (.iconst 0, 1) := by decide +kernel
theorem dL_turn_19 : decode cL_turn 19 = .ok (.ireturn, 1) := by decide +kernel
theorem dL_drop_0 : decode cL_drop 0 = .ok (.aload_n 2, 1) := by decide +kernel
theorem dL_drop_1 : decode cL_drop 1 = .ok (.iconst 0, 1) := by decide +kernel
theorem dL_drop_2 : decode cL_drop 2 = .ok (.aload_n 0, 1) := by decide +kernel
theorem dL_drop_3 : decode cL_drop 3 = .ok (.iload_n 1, 1) := by decide +kernel
theorem dL_drop_4 : decode cL_drop 4 = .ok (.invokevirtual 34, 3) := by decide +kernel
theorem dL_drop_7 : decode cL_drop 7 = .ok (.i2l, 1) := by decide +kernel
theorem dL_drop_8 : decode cL_drop 8 = .ok (.lastore, 1) := by decide +kernel
theorem dL_drop_9 : decode cL_drop 9 = .ok (.goto 6, 3) := by decide +kernel
theorem dL_drop_12 : decode cL_drop 12 = .ok (.astore_n 3, 1) := by decide +kernel
theorem dL_drop_13 : decode cL_drop 13 = .ok (.iconst 1, 1) := by decide +kernel
theorem dL_drop_14 : decode cL_drop 14 = .ok (.ireturn, 1) := by decide +kernel
theorem dL_drop_15 : decode cL_drop 15 = .ok (.iconst 0, 1) := by decide +kernel
theorem dL_drop_16 : decode cL_drop 16 = .ok (.ireturn, 1) := by decide +kernel
theorem dL_pass_0 : decode cL_pass 0 = .ok (.aload_n 2, 1) := by decide +kernel
theorem dL_pass_1 : decode cL_pass 1 = .ok (.iconst 0, 1) := by decide +kernel
theorem dL_pass_2 : decode cL_pass 2 = .ok (.aload_n 0, 1) := by decide +kernel
theorem dL_pass_3 : decode cL_pass 3 = .ok (.iload_n 1, 1) := by decide +kernel
theorem dL_pass_4 : decode cL_pass 4 = .ok (.invokevirtual 37, 3) := by decide +kernel
theorem dL_pass_7 : decode cL_pass 7 = .ok (.i2l, 1) := by decide +kernel
theorem dL_pass_8 : decode cL_pass 8 = .ok (.lastore, 1) := by decide +kernel
theorem dL_pass_9 : decode cL_pass 9 = .ok (.goto 6, 3) := by decide +kernel
theorem dL_pass_12 : decode cL_pass 12 = .ok (.astore_n 3, 1) := by decide +kernel
theorem dL_pass_13 : decode cL_pass 13 = .ok (.iconst 1, 1) := by decide +kernel
theorem dL_pass_14 : decode cL_pass 14 = .ok (.ireturn, 1) := by decide +kernel
theorem dL_pass_15 : decode cL_pass 15 = .ok (.iconst 0, 1) := by decide +kernel
theorem dL_pass_16 : decode cL_pass 16 = .ok (.ireturn, 1) := by decide +kernel
theorem dL_drawer_0 : decode cL_drawer 0 = .ok (.aload_n 3, 1) := by decide +kernel
theorem dL_drawer_1 : decode cL_drawer 1 = .ok (.iconst 0, 1) := by decide +kernel
theorem dL_drawer_2 : decode cL_drawer 2 = .ok (.aload_n 0, 1) := by decide +kernel
theorem dL_drawer_3 : decode cL_drawer 3 = .ok (.iload_n 1, 1) := by decide +kernel
theorem dL_drawer_4 : decode cL_drawer 4 = .ok (.iload_n 2, 1) := by decide +kernel
theorem dL_drawer_5 : decode cL_drawer 5 = .ok (.invokevirtual 40, 3) := by decide +kernel
theorem dL_drawer_8 : decode cL_drawer 8 = .ok (.i2l, 1) := by decide +kernel
theorem dL_drawer_9 : decode cL_drawer 9 = .ok (.lastore, 1) := by decide +kernel
theorem dL_drawer_10 : decode cL_drawer 10 = .ok (.goto 7, 3) := by decide +kernel
theorem dL_drawer_13 : decode cL_drawer 13 = .ok (.astore 4, 2) := by decide +kernel
theorem dL_drawer_15 : decode cL_drawer 15 = .ok (.iconst 1, 1) := by decide +kernel
theorem dL_drawer_16 : decode cL_drawer 16 = .ok (.ireturn, 1) := by decide +kernel
theorem dL_drawer_17 : decode cL_drawer 17 = .ok (.iconst 0, 1) := by decide +kernel
theorem dL_drawer_18 : decode cL_drawer 18 = .ok (.ireturn, 1) := by decide +kernel
theorem dL_told_0 : decode cL_told 0 = .ok (.aload_n 3, 1) := by decide +kernel
theorem dL_told_1 : decode cL_told 1 = .ok (.iconst 0, 1) := by decide +kernel
theorem dL_told_2 : decode cL_told 2 = .ok (.aload_n 0, 1) := by decide +kernel
theorem dL_told_3 : decode cL_told 3 = .ok (.iload_n 1, 1) := by decide +kernel
theorem dL_told_4 : decode cL_told 4 = .ok (.iload_n 2, 1) := by decide +kernel
theorem dL_told_5 : decode cL_told 5 = .ok (.invokevirtual 43, 3) := by decide +kernel
theorem dL_told_8 : decode cL_told 8 = .ok (.i2l, 1) := by decide +kernel
theorem dL_told_9 : decode cL_told 9 = .ok (.lastore, 1) := by decide +kernel
theorem dL_told_10 : decode cL_told 10 = .ok (.goto 7, 3) := by decide +kernel
theorem dL_told_13 : decode cL_told 13 = .ok (.astore 4, 2) := by decide +kernel
theorem dL_told_15 : decode cL_told 15 = .ok (.iconst 1, 1) := by decide +kernel
theorem dL_told_16 : decode cL_told 16 = .ok (.ireturn, 1) := by decide +kernel
theorem dL_told_17 : decode cL_told 17 = .ok (.iconst 0, 1) := by decide +kernel
theorem dL_told_18 : decode cL_told 18 = .ok (.ireturn, 1) := by decide +kernel
theorem dL_slip_0 : decode cL_slip 0 = .ok (.aload 4, 2) := by decide +kernel
theorem dL_slip_2 : decode cL_slip 2 = .ok (.iconst 0, 1) := by decide +kernel
theorem dL_slip_3 : decode cL_slip 3 = .ok (.aload_n 0, 1) := by decide +kernel
theorem dL_slip_4 : decode cL_slip 4 = .ok (.iload_n 1, 1) := by decide +kernel
theorem dL_slip_5 : decode cL_slip 5 = .ok (.iload_n 2, 1) := by decide +kernel
theorem dL_slip_6 : decode cL_slip 6 = .ok (.iload_n 3, 1) := by decide +kernel
theorem dL_slip_7 : decode cL_slip 7 = .ok (.invokevirtual 46, 3) := by decide +kernel
theorem dL_slip_10 : decode cL_slip 10 = .ok (.i2l, 1) := by decide +kernel
theorem dL_slip_11 : decode cL_slip 11 = .ok (.lastore, 1) := by decide +kernel
theorem dL_slip_12 : decode cL_slip 12 = .ok (.goto 7, 3) := by decide +kernel
theorem dL_slip_15 : decode cL_slip 15 = .ok (.astore 5, 2) := by decide +kernel
theorem dL_slip_17 : decode cL_slip 17 = .ok (.iconst 1, 1) := by decide +kernel
theorem dL_slip_18 : decode cL_slip 18 = .ok (.ireturn, 1) := by decide +kernel
theorem dL_slip_19 : decode cL_slip 19 = .ok (.iconst 0, 1) := by decide +kernel
theorem dL_slip_20 : decode cL_slip 20 = .ok (.ireturn, 1) := by decide +kernel
theorem dL_step_0 : decode cL_step 0 = .ok (.aload 4, 2) := by decide +kernel
theorem dL_step_2 : decode cL_step 2 = .ok (.iconst 0, 1) := by decide +kernel
theorem dL_step_3 : decode cL_step 3 = .ok (.aload_n 0, 1) := by decide +kernel
theorem dL_step_4 : decode cL_step 4 = .ok (.iload_n 1, 1) := by decide +kernel
theorem dL_step_5 : decode cL_step 5 = .ok (.iload_n 2, 1) := by decide +kernel
theorem dL_step_6 : decode cL_step 6 = .ok (.iload_n 3, 1) := by decide +kernel
theorem dL_step_7 : decode cL_step 7 = .ok (.invokevirtual 50, 3) := by decide +kernel
theorem dL_step_10 : decode cL_step 10 = .ok (.i2l, 1) := by decide +kernel
theorem dL_step_11 : decode cL_step 11 = .ok (.lastore, 1) := by decide +kernel
theorem dL_step_12 : decode cL_step 12 = .ok (.goto 7, 3) := by decide +kernel
theorem dL_step_15 : decode cL_step 15 = .ok (.astore 5, 2) := by decide +kernel
theorem dL_step_17 : decode cL_step 17 = .ok (.iconst 1, 1) := by decide +kernel
theorem dL_step_18 : decode cL_step 18 = .ok (.ireturn, 1) := by decide +kernel
theorem dL_step_19 : decode cL_step 19 = .ok (.iconst 0, 1) := by decide +kernel
theorem dL_step_20 : decode cL_step 20 = .ok (.ireturn, 1) := by decide +kernel
theorem dL_closing_0 : decode cL_closing 0 = .ok (.aload_n 3, 1) := by decide +kernel
theorem dL_closing_1 : decode cL_closing 1 = .ok (.iconst 0, 1) := by decide +kernel
theorem dL_closing_2 : decode cL_closing 2 = .ok (.aload_n 0, 1) := by decide +kernel
theorem dL_closing_3 : decode cL_closing 3 = .ok (.iload_n 1, 1) := by decide +kernel
theorem dL_closing_4 : decode cL_closing 4 = .ok (.iload_n 2, 1) := by decide +kernel
theorem dL_closing_5 : decode cL_closing 5 = .ok (.invokevirtual 53, 3) := by decide +kernel
theorem dL_closing_8 : decode cL_closing 8 = .ok (.i2l, 1) := by decide +kernel
theorem dL_closing_9 : decode cL_closing 9 = .ok (.lastore, 1) := by decide +kernel
theorem dL_closing_10 : decode cL_closing 10 = .ok (.goto 7, 3) := by decide +kernel
theorem dL_closing_13 : decode cL_closing 13 = .ok (.astore 4, 2) := by decide +kernel
theorem dL_closing_15 : decode cL_closing 15 = .ok (.iconst 1, 1) := by decide +kernel
theorem dL_closing_16 : decode cL_closing 16 = .ok (.ireturn, 1) := by decide +kernel
theorem dL_closing_17 : decode cL_closing 17 = .ok (.iconst 0, 1) := by decide +kernel
theorem dL_closing_18 : decode cL_closing 18 = .ok (.ireturn, 1) := by decide +kernel
theorem dL_clash_0 : decode cL_clash 0 = .ok (.aload_n 3, 1) := by decide +kernel
theorem dL_clash_1 : decode cL_clash 1 = .ok (.iconst 0, 1) := by decide +kernel
theorem dL_clash_2 : decode cL_clash 2 = .ok (.aload_n 0, 1) := by decide +kernel
theorem dL_clash_3 : decode cL_clash 3 = .ok (.iload_n 1, 1) := by decide +kernel
theorem dL_clash_4 : decode cL_clash 4 = .ok (.iload_n 2, 1) := by decide +kernel
theorem dL_clash_5 : decode cL_clash 5 = .ok (.invokevirtual 56, 3) := by decide +kernel
theorem dL_clash_8 : decode cL_clash 8 = .ok (.ifCond .eq 7, 3) := by decide +kernel
theorem dL_clash_11 : decode cL_clash 11 = .ok (.lconst 1, 1) := by decide +kernel
theorem dL_clash_12 : decode cL_clash 12 = .ok (.goto 4, 3) := by decide +kernel
theorem dL_clash_15 : decode cL_clash 15 = .ok (.lconst 0, 1) := by decide +kernel
theorem dL_clash_16 : decode cL_clash 16 = .ok (.lastore, 1) := by decide +kernel
theorem dL_clash_17 : decode cL_clash 17 = .ok (.goto 7, 3) := by decide +kernel
theorem dL_clash_20 : decode cL_clash 20 = .ok (.astore 4, 2) := by decide +kernel
theorem dL_clash_22 : decode cL_clash 22 = .ok (.iconst 1, 1) := by decide +kernel
theorem dL_clash_23 : decode cL_clash 23 = .ok (.ireturn, 1) := by decide +kernel
theorem dL_clash_24 : decode cL_clash 24 = .ok (.iconst 0, 1) := by decide +kernel
theorem dL_clash_25 : decode cL_clash 25 = .ok (.ireturn, 1) := by decide +kernel
theorem dL_count_0 : decode cL_count 0 = .ok (.aload_n 2, 1) := by decide +kernel
theorem dL_count_1 : decode cL_count 1 = .ok (.iconst 0, 1) := by decide +kernel
theorem dL_count_2 : decode cL_count 2 = .ok (.aload_n 0, 1) := by decide +kernel
theorem dL_count_3 : decode cL_count 3 = .ok (.iload_n 1, 1) := by decide +kernel
theorem dL_count_4 : decode cL_count 4 = .ok (.invokevirtual 60, 3) := by decide +kernel
theorem dL_count_7 : decode cL_count 7 = .ok (.i2l, 1) := by decide +kernel
theorem dL_count_8 : decode cL_count 8 = .ok (.lastore, 1) := by decide +kernel
theorem dL_count_9 : decode cL_count 9 = .ok (.goto 6, 3) := by decide +kernel
theorem dL_count_12 : decode cL_count 12 = .ok (.astore_n 3, 1) := by decide +kernel
theorem dL_count_13 : decode cL_count 13 = .ok (.iconst 1, 1) := by decide +kernel
theorem dL_count_14 : decode cL_count 14 = .ok (.ireturn, 1) := by decide +kernel
theorem dL_count_15 : decode cL_count 15 = .ok (.iconst 0, 1) := by decide +kernel
theorem dL_count_16 : decode cL_count 16 = .ok (.ireturn, 1) := by decide +kernel
theorem dL_alone_0 : decode cL_alone 0 = .ok (.aload_n 3, 1) := by decide +kernel
theorem dL_alone_1 : decode cL_alone 1 = .ok (.iconst 0, 1) := by decide +kernel
theorem dL_alone_2 : decode cL_alone 2 = .ok (.aload_n 0, 1) := by decide +kernel
theorem dL_alone_3 : decode cL_alone 3 = .ok (.iload_n 1, 1) := by decide +kernel
theorem dL_alone_4 : decode cL_alone 4 = .ok (.iload_n 2, 1) := by decide +kernel
theorem dL_alone_5 : decode cL_alone 5 = .ok (.invokevirtual 63, 3) := by decide +kernel
theorem dL_alone_8 : decode cL_alone 8 = .ok (.i2l, 1) := by decide +kernel
theorem dL_alone_9 : decode cL_alone 9 = .ok (.lastore, 1) := by decide +kernel
theorem dL_alone_10 : decode cL_alone 10 = .ok (.goto 7, 3) := by decide +kernel
theorem dL_alone_13 : decode cL_alone 13 = .ok (.astore 4, 2) := by decide +kernel
theorem dL_alone_15 : decode cL_alone 15 = .ok (.iconst 1, 1) := by decide +kernel
theorem dL_alone_16 : decode cL_alone 16 = .ok (.ireturn, 1) := by decide +kernel
theorem dL_alone_17 : decode cL_alone 17 = .ok (.iconst 0, 1) := by decide +kernel
theorem dL_alone_18 : decode cL_alone 18 = .ok (.ireturn, 1) := by decide +kernel
theorem dL_foresee_0 : decode cL_foresee 0 = .ok (.aload_n 3, 1) := by decide +kernel
theorem dL_foresee_1 : decode cL_foresee 1 = .ok (.iconst 0, 1) := by decide +kernel
theorem dL_foresee_2 : decode cL_foresee 2 = .ok (.aload_n 0, 1) := by decide +kernel
theorem dL_foresee_3 : decode cL_foresee 3 = .ok (.iload_n 1, 1) := by decide +kernel
theorem dL_foresee_4 : decode cL_foresee 4 = .ok (.iload_n 2, 1) := by decide +kernel
theorem dL_foresee_5 : decode cL_foresee 5 = .ok (.invokevirtual 66, 3) := by decide +kernel
theorem dL_foresee_8 : decode cL_foresee 8 = .ok (.i2l, 1) := by decide +kernel
theorem dL_foresee_9 : decode cL_foresee 9 = .ok (.lastore, 1) := by decide +kernel
theorem dL_foresee_10 : decode cL_foresee 10 = .ok (.goto 11, 3) := by decide +kernel
theorem dL_foresee_13 : decode cL_foresee 13 = .ok (.astore 4, 2) := by decide +kernel
theorem dL_foresee_15 : decode cL_foresee 15 = .ok (.iconst 1, 1) := by decide +kernel
theorem dL_foresee_16 : decode cL_foresee 16 = .ok (.ireturn, 1) := by decide +kernel
theorem dL_foresee_17 : decode cL_foresee 17 = .ok (.astore 4, 2) := by decide +kernel
theorem dL_foresee_19 : decode cL_foresee 19 = .ok (.iconst 2, 1) := by decide +kernel
theorem dL_foresee_20 : decode cL_foresee 20 = .ok (.ireturn, 1) := by decide +kernel
theorem dL_foresee_21 : decode cL_foresee 21 = .ok (.iconst 0, 1) := by decide +kernel
theorem dL_foresee_22 : decode cL_foresee 22 = .ok (.ireturn, 1) := by decide +kernel
theorem dL_law_0 : decode cL_law 0 = .ok (.new 8, 3) := by decide +kernel
theorem dL_law_3 : decode cL_law 3 = .ok (.dup, 1) := by decide +kernel
theorem dL_law_4 : decode cL_law 4 = .ok (.invokespecial 69, 3) := by decide +kernel
theorem dL_law_7 : decode cL_law 7 = .ok (.astore_n 1, 1) := by decide +kernel
theorem dL_law_8 : decode cL_law 8 = .ok (.new 70, 3) := by decide +kernel
theorem dL_law_11 : decode cL_law 11 = .ok (.dup, 1) := by decide +kernel
theorem dL_law_12 : decode cL_law 12 = .ok (.invokespecial 72, 3) := by decide +kernel
theorem dL_law_15 : decode cL_law 15 = .ok (.astore_n 2, 1) := by decide +kernel
theorem dL_law_16 : decode cL_law 16 = .ok (.iconst 1, 1) := by decide +kernel
theorem dL_law_17 : decode cL_law 17 = .ok (.newarray .long, 2) := by decide +kernel
theorem dL_law_19 : decode cL_law 19 = .ok (.astore_n 3, 1) := by decide +kernel
theorem dL_law_20 : decode cL_law 20 = .ok (.iconst 0, 1) := by decide +kernel
theorem dL_law_21 : decode cL_law 21 = .ok (.istore 4, 2) := by decide +kernel
theorem dL_law_23 : decode cL_law 23 = .ok (.iload 4, 2) := by decide +kernel
theorem dL_law_25 : decode cL_law 25 = .ok (.aload_n 0, 1) := by decide +kernel
theorem dL_law_26 : decode cL_law 26 = .ok (.arraylength, 1) := by decide +kernel
theorem dL_law_27 : decode cL_law 27 = .ok (.bipush 6, 2) := by decide +kernel
theorem dL_law_29 : decode cL_law 29 = .ok (.isub, 1) := by decide +kernel
theorem dL_law_30 : decode cL_law 30 = .ok (.if_icmp .gt 1264, 3) := by decide +kernel
theorem dL_law_33 : decode cL_law 33 = .ok (.aload_n 0, 1) := by decide +kernel
theorem dL_law_34 : decode cL_law 34 = .ok (.iload 4, 2) := by decide +kernel
theorem dL_law_36 : decode cL_law 36 = .ok (.iaload, 1) := by decide +kernel
theorem dL_law_37 : decode cL_law 37 = .ok (.bipush 31, 2) := by decide +kernel
theorem dL_law_39 : decode cL_law 39 = .ok (.iand, 1) := by decide +kernel
theorem dL_law_40 : decode cL_law 40 = .ok (.tableswitch 1248 0 19 #[96, 152, 220, 264, 368, 424, 480, 536, 604, 672, 752, 832, 900, 975, 1031, 1099, 1112, 1180, 1193, 1234], 96) := by decide +kernel
theorem dL_law_136 : decode cL_law 136 = .ok (.aload_n 1, 1) := by decide +kernel
theorem dL_law_137 : decode cL_law 137 = .ok (.aload_n 0, 1) := by decide +kernel
theorem dL_law_138 : decode cL_law 138 = .ok (.iload 4, 2) := by decide +kernel
theorem dL_law_140 : decode cL_law 140 = .ok (.iconst 1, 1) := by decide +kernel
theorem dL_law_141 : decode cL_law 141 = .ok (.iadd, 1) := by decide +kernel
theorem dL_law_142 : decode cL_law 142 = .ok (.iaload, 1) := by decide +kernel
theorem dL_law_143 : decode cL_law 143 = .ok (.aload_n 3, 1) := by decide +kernel
theorem dL_law_144 : decode cL_law 144 = .ok (.invokestatic 73, 3) := by decide +kernel
theorem dL_law_147 : decode cL_law 147 = .ok (.istore 5, 2) := by decide +kernel
theorem dL_law_149 : decode cL_law 149 = .ok (.aload_n 2, 1) := by decide +kernel
theorem dL_law_150 : decode cL_law 150 = .ok (.aload_n 0, 1) := by decide +kernel
theorem dL_law_151 : decode cL_law 151 = .ok (.iload 4, 2) := by decide +kernel
theorem dL_law_153 : decode cL_law 153 = .ok (.iconst 1, 1) := by decide +kernel
theorem dL_law_154 : decode cL_law 154 = .ok (.iadd, 1) := by decide +kernel
theorem dL_law_155 : decode cL_law 155 = .ok (.iaload, 1) := by decide +kernel
theorem dL_law_156 : decode cL_law 156 = .ok (.invokevirtual 78, 3) := by decide +kernel
theorem dL_law_159 : decode cL_law 159 = .ok (.istore 6, 2) := by decide +kernel
theorem dL_law_161 : decode cL_law 161 = .ok (.aload_n 2, 1) := by decide +kernel
theorem dL_law_162 : decode cL_law 162 = .ok (.invokevirtual 79, 3) := by decide +kernel
theorem dL_law_165 : decode cL_law 165 = .ok (.iload 5, 2) := by decide +kernel
theorem dL_law_167 : decode cL_law 167 = .ok (.if_icmp .eq 5, 3) := by decide +kernel
theorem dL_law_170 : decode cL_law 170 = .ok (.iconst 0, 1) := by decide +kernel
theorem dL_law_171 : decode cL_law 171 = .ok (.ireturn, 1) := by decide +kernel
theorem dL_law_172 : decode cL_law 172 = .ok (.iload 5, 2) := by decide +kernel
theorem dL_law_174 : decode cL_law 174 = .ok (.ifCond .ne 15, 3) := by decide +kernel
theorem dL_law_177 : decode cL_law 177 = .ok (.aload_n 3, 1) := by decide +kernel
theorem dL_law_178 : decode cL_law 178 = .ok (.iconst 0, 1) := by decide +kernel
theorem dL_law_179 : decode cL_law 179 = .ok (.laload, 1) := by decide +kernel
theorem dL_law_180 : decode cL_law 180 = .ok (.iload 6, 2) := by decide +kernel
theorem dL_law_182 : decode cL_law 182 = .ok (.i2l, 1) := by decide +kernel
theorem dL_law_183 : decode cL_law 183 = .ok (.lcmp, 1) := by decide +kernel
theorem dL_law_184 : decode cL_law 184 = .ok (.ifCond .eq 5, 3) := by decide +kernel
theorem dL_law_187 : decode cL_law 187 = .ok (.iconst 0, 1) := by decide +kernel
theorem dL_law_188 : decode cL_law 188 = .ok (.ireturn, 1) := by decide +kernel
theorem dL_law_189 : decode cL_law 189 = .ok (.goto 1099, 3) := by decide +kernel
theorem dL_law_192 : decode cL_law 192 = .ok (.aload_n 1, 1) := by decide +kernel
theorem dL_law_193 : decode cL_law 193 = .ok (.aload_n 0, 1) := by decide +kernel
theorem dL_law_194 : decode cL_law 194 = .ok (.iload 4, 2) := by decide +kernel
theorem dL_law_196 : decode cL_law 196 = .ok (.iconst 1, 1) := by decide +kernel
theorem dL_law_197 : decode cL_law 197 = .ok (.iadd, 1) := by decide +kernel
theorem dL_law_198 : decode cL_law 198 = .ok (.iaload, 1) := by decide +kernel
theorem dL_law_199 : decode cL_law 199 = .ok (.aload_n 0, 1) := by decide +kernel
theorem dL_law_200 : decode cL_law 200 = .ok (.iload 4, 2) := by decide +kernel
theorem dL_law_202 : decode cL_law 202 = .ok (.iconst 2, 1) := by decide +kernel
theorem dL_law_203 : decode cL_law 203 = .ok (.iadd, 1) := by decide +kernel
theorem dL_law_204 : decode cL_law 204 = .ok (.iaload, 1) := by decide +kernel
theorem dL_law_205 : decode cL_law 205 = .ok (.aload_n 3, 1) := by decide +kernel
theorem dL_law_206 : decode cL_law 206 = .ok (.invokestatic 82, 3) := by decide +kernel
theorem dL_law_209 : decode cL_law 209 = .ok (.istore 5, 2) := by decide +kernel
theorem dL_law_211 : decode cL_law 211 = .ok (.aload_n 2, 1) := by decide +kernel
theorem dL_law_212 : decode cL_law 212 = .ok (.aload_n 0, 1) := by decide +kernel
theorem dL_law_213 : decode cL_law 213 = .ok (.iload 4, 2) := by decide +kernel
theorem dL_law_215 : decode cL_law 215 = .ok (.iconst 1, 1) := by decide +kernel
theorem dL_law_216 : decode cL_law 216 = .ok (.iadd, 1) := by decide +kernel
theorem dL_law_217 : decode cL_law 217 = .ok (.iaload, 1) := by decide +kernel
theorem dL_law_218 : decode cL_law 218 = .ok (.aload_n 0, 1) := by decide +kernel
theorem dL_law_219 : decode cL_law 219 = .ok (.iload 4, 2) := by decide +kernel
theorem dL_law_221 : decode cL_law 221 = .ok (.iconst 2, 1) := by decide +kernel
theorem dL_law_222 : decode cL_law 222 = .ok (.iadd, 1) := by decide +kernel
theorem dL_law_223 : decode cL_law 223 = .ok (.iaload, 1) := by decide +kernel
theorem dL_law_224 : decode cL_law 224 = .ok (.invokevirtual 85, 3) := by decide +kernel
theorem dL_law_227 : decode cL_law 227 = .ok (.istore 6, 2) := by decide +kernel
theorem dL_law_229 : decode cL_law 229 = .ok (.aload_n 2, 1) := by decide +kernel
theorem dL_law_230 : decode cL_law 230 = .ok (.invokevirtual 79, 3) := by decide +kernel
theorem dL_law_233 : decode cL_law 233 = .ok (.iload 5, 2) := by decide +kernel
theorem dL_law_235 : decode cL_law 235 = .ok (.if_icmp .eq 5, 3) := by decide +kernel
theorem dL_law_238 : decode cL_law 238 = .ok (.iconst 0, 1) := by decide +kernel
theorem dL_law_239 : decode cL_law 239 = .ok (.ireturn, 1) := by decide +kernel
theorem dL_law_240 : decode cL_law 240 = .ok (.iload 5, 2) := by decide +kernel
theorem dL_law_242 : decode cL_law 242 = .ok (.ifCond .ne 15, 3) := by decide +kernel
theorem dL_law_245 : decode cL_law 245 = .ok (.aload_n 3, 1) := by decide +kernel
theorem dL_law_246 : decode cL_law 246 = .ok (.iconst 0, 1) := by decide +kernel
theorem dL_law_247 : decode cL_law 247 = .ok (.laload, 1) := by decide +kernel
theorem dL_law_248 : decode cL_law 248 = .ok (.iload 6, 2) := by decide +kernel
theorem dL_law_250 : decode cL_law 250 = .ok (.i2l, 1) := by decide +kernel
theorem dL_law_251 : decode cL_law 251 = .ok (.lcmp, 1) := by decide +kernel
theorem dL_law_252 : decode cL_law 252 = .ok (.ifCond .eq 5, 3) := by decide +kernel
theorem dL_law_255 : decode cL_law 255 = .ok (.iconst 0, 1) := by decide +kernel
theorem dL_law_256 : decode cL_law 256 = .ok (.ireturn, 1) := by decide +kernel
theorem dL_law_257 : decode cL_law 257 = .ok (.goto 1031, 3) := by decide +kernel
theorem dL_law_260 : decode cL_law 260 = .ok (.aload_n 1, 1) := by decide +kernel
theorem dL_law_261 : decode cL_law 261 = .ok (.aload_n 3, 1) := by decide +kernel
theorem dL_law_262 : decode cL_law 262 = .ok (.invokestatic 86, 3) := by decide +kernel
theorem dL_law_265 : decode cL_law 265 = .ok (.istore 5, 2) := by decide +kernel
theorem dL_law_267 : decode cL_law 267 = .ok (.aload_n 2, 1) := by decide +kernel
theorem dL_law_268 : decode cL_law 268 = .ok (.invokevirtual 89, 3) := by decide +kernel
theorem dL_law_271 : decode cL_law 271 = .ok (.istore 6, 2) := by decide +kernel
theorem dL_law_273 : decode cL_law 273 = .ok (.aload_n 2, 1) := by decide +kernel
theorem dL_law_274 : decode cL_law 274 = .ok (.invokevirtual 79, 3) := by decide +kernel
theorem dL_law_277 : decode cL_law 277 = .ok (.iload 5, 2) := by decide +kernel
theorem dL_law_279 : decode cL_law 279 = .ok (.if_icmp .eq 5, 3) := by decide +kernel
theorem dL_law_282 : decode cL_law 282 = .ok (.iconst 0, 1) := by decide +kernel
theorem dL_law_283 : decode cL_law 283 = .ok (.ireturn, 1) := by decide +kernel
theorem dL_law_284 : decode cL_law 284 = .ok (.iload 5, 2) := by decide +kernel
theorem dL_law_286 : decode cL_law 286 = .ok (.ifCond .ne 15, 3) := by decide +kernel
theorem dL_law_289 : decode cL_law 289 = .ok (.aload_n 3, 1) := by decide +kernel
theorem dL_law_290 : decode cL_law 290 = .ok (.iconst 0, 1) := by decide +kernel
theorem dL_law_291 : decode cL_law 291 = .ok (.laload, 1) := by decide +kernel
theorem dL_law_292 : decode cL_law 292 = .ok (.iload 6, 2) := by decide +kernel
theorem dL_law_294 : decode cL_law 294 = .ok (.i2l, 1) := by decide +kernel
theorem dL_law_295 : decode cL_law 295 = .ok (.lcmp, 1) := by decide +kernel
theorem dL_law_296 : decode cL_law 296 = .ok (.ifCond .eq 5, 3) := by decide +kernel
theorem dL_law_299 : decode cL_law 299 = .ok (.iconst 0, 1) := by decide +kernel
theorem dL_law_300 : decode cL_law 300 = .ok (.ireturn, 1) := by decide +kernel
theorem dL_law_301 : decode cL_law 301 = .ok (.goto 987, 3) := by decide +kernel
theorem dL_law_304 : decode cL_law 304 = .ok (.aload_n 1, 1) := by decide +kernel
theorem dL_law_305 : decode cL_law 305 = .ok (.aload_n 0, 1) := by decide +kernel
theorem dL_law_306 : decode cL_law 306 = .ok (.iload 4, 2) := by decide +kernel
theorem dL_law_308 : decode cL_law 308 = .ok (.iconst 1, 1) := by decide +kernel
theorem dL_law_309 : decode cL_law 309 = .ok (.iadd, 1) := by decide +kernel
theorem dL_law_310 : decode cL_law 310 = .ok (.iaload, 1) := by decide +kernel
theorem dL_law_311 : decode cL_law 311 = .ok (.aload_n 0, 1) := by decide +kernel
theorem dL_law_312 : decode cL_law 312 = .ok (.iload 4, 2) := by decide +kernel
theorem dL_law_314 : decode cL_law 314 = .ok (.iconst 2, 1) := by decide +kernel
theorem dL_law_315 : decode cL_law 315 = .ok (.iadd, 1) := by decide +kernel
theorem dL_law_316 : decode cL_law 316 = .ok (.iaload, 1) := by decide +kernel
theorem dL_law_317 : decode cL_law 317 = .ok (.aload_n 0, 1) := by decide +kernel
theorem dL_law_318 : decode cL_law 318 = .ok (.iload 4, 2) := by decide +kernel
theorem dL_law_320 : decode cL_law 320 = .ok (.iconst 3, 1) := by decide +kernel
theorem dL_law_321 : decode cL_law 321 = .ok (.iadd, 1) := by decide +kernel
theorem dL_law_322 : decode cL_law 322 = .ok (.iaload, 1) := by decide +kernel
theorem dL_law_323 : decode cL_law 323 = .ok (.aload_n 0, 1) := by decide +kernel
theorem dL_law_324 : decode cL_law 324 = .ok (.iload 4, 2) := by decide +kernel
theorem dL_law_326 : decode cL_law 326 = .ok (.iconst 4, 1) := by decide +kernel
theorem dL_law_327 : decode cL_law 327 = .ok (.iadd, 1) := by decide +kernel
theorem dL_law_328 : decode cL_law 328 = .ok (.iaload, 1) := by decide +kernel
theorem dL_law_329 : decode cL_law 329 = .ok (.aload_n 0, 1) := by decide +kernel
theorem dL_law_330 : decode cL_law 330 = .ok (.iload 4, 2) := by decide +kernel
theorem dL_law_332 : decode cL_law 332 = .ok (.iconst 5, 1) := by decide +kernel
theorem dL_law_333 : decode cL_law 333 = .ok (.iadd, 1) := by decide +kernel
theorem dL_law_334 : decode cL_law 334 = .ok (.iaload, 1) := by decide +kernel
theorem dL_law_335 : decode cL_law 335 = .ok (.aload_n 3, 1) := by decide +kernel
theorem dL_law_336 : decode cL_law 336 = .ok (.invokestatic 90, 3) := by decide +kernel
theorem dL_law_339 : decode cL_law 339 = .ok (.istore 5, 2) := by decide +kernel
theorem dL_law_341 : decode cL_law 341 = .ok (.aload_n 2, 1) := by decide +kernel
theorem dL_law_342 : decode cL_law 342 = .ok (.aload_n 0, 1) := by decide +kernel
theorem dL_law_343 : decode cL_law 343 = .ok (.iload 4, 2) := by decide +kernel
theorem dL_law_345 : decode cL_law 345 = .ok (.iconst 1, 1) := by decide +kernel
theorem dL_law_346 : decode cL_law 346 = .ok (.iadd, 1) := by decide +kernel
theorem dL_law_347 : decode cL_law 347 = .ok (.iaload, 1) := by decide +kernel
theorem dL_law_348 : decode cL_law 348 = .ok (.aload_n 0, 1) := by decide +kernel
theorem dL_law_349 : decode cL_law 349 = .ok (.iload 4, 2) := by decide +kernel
theorem dL_law_351 : decode cL_law 351 = .ok (.iconst 2, 1) := by decide +kernel
theorem dL_law_352 : decode cL_law 352 = .ok (.iadd, 1) := by decide +kernel
theorem dL_law_353 : decode cL_law 353 = .ok (.iaload, 1) := by decide +kernel
theorem dL_law_354 : decode cL_law 354 = .ok (.aload_n 0, 1) := by decide +kernel
theorem dL_law_355 : decode cL_law 355 = .ok (.iload 4, 2) := by decide +kernel
theorem dL_law_357 : decode cL_law 357 = .ok (.iconst 3, 1) := by decide +kernel
theorem dL_law_358 : decode cL_law 358 = .ok (.iadd, 1) := by decide +kernel
theorem dL_law_359 : decode cL_law 359 = .ok (.iaload, 1) := by decide +kernel
theorem dL_law_360 : decode cL_law 360 = .ok (.aload_n 0, 1) := by decide +kernel
theorem dL_law_361 : decode cL_law 361 = .ok (.iload 4, 2) := by decide +kernel
theorem dL_law_363 : decode cL_law 363 = .ok (.iconst 4, 1) := by decide +kernel
theorem dL_law_364 : decode cL_law 364 = .ok (.iadd, 1) := by decide +kernel
theorem dL_law_365 : decode cL_law 365 = .ok (.iaload, 1) := by decide +kernel
theorem dL_law_366 : decode cL_law 366 = .ok (.aload_n 0, 1) := by decide +kernel
theorem dL_law_367 : decode cL_law 367 = .ok (.iload 4, 2) := by decide +kernel
theorem dL_law_369 : decode cL_law 369 = .ok (.iconst 5, 1) := by decide +kernel
theorem dL_law_370 : decode cL_law 370 = .ok (.iadd, 1) := by decide +kernel
theorem dL_law_371 : decode cL_law 371 = .ok (.iaload, 1) := by decide +kernel
theorem dL_law_372 : decode cL_law 372 = .ok (.invokevirtual 93, 3) := by decide +kernel
theorem dL_law_375 : decode cL_law 375 = .ok (.istore 6, 2) := by decide +kernel
theorem dL_law_377 : decode cL_law 377 = .ok (.aload_n 2, 1) := by decide +kernel
theorem dL_law_378 : decode cL_law 378 = .ok (.invokevirtual 79, 3) := by decide +kernel
theorem dL_law_381 : decode cL_law 381 = .ok (.iload 5, 2) := by decide +kernel
theorem dL_law_383 : decode cL_law 383 = .ok (.if_icmp .eq 5, 3) := by decide +kernel
theorem dL_law_386 : decode cL_law 386 = .ok (.iconst 0, 1) := by decide +kernel
theorem dL_law_387 : decode cL_law 387 = .ok (.ireturn, 1) := by decide +kernel
theorem dL_law_388 : decode cL_law 388 = .ok (.iload 5, 2) := by decide +kernel
theorem dL_law_390 : decode cL_law 390 = .ok (.ifCond .ne 15, 3) := by decide +kernel
theorem dL_law_393 : decode cL_law 393 = .ok (.aload_n 3, 1) := by decide +kernel
theorem dL_law_394 : decode cL_law 394 = .ok (.iconst 0, 1) := by decide +kernel
theorem dL_law_395 : decode cL_law 395 = .ok (.laload, 1) := by decide +kernel
theorem dL_law_396 : decode cL_law 396 = .ok (.iload 6, 2) := by decide +kernel
theorem dL_law_398 : decode cL_law 398 = .ok (.i2l, 1) := by decide +kernel
theorem dL_law_399 : decode cL_law 399 = .ok (.lcmp, 1) := by decide +kernel
theorem dL_law_400 : decode cL_law 400 = .ok (.ifCond .eq 5, 3) := by decide +kernel
theorem dL_law_403 : decode cL_law 403 = .ok (.iconst 0, 1) := by decide +kernel
theorem dL_law_404 : decode cL_law 404 = .ok (.ireturn, 1) := by decide +kernel
theorem dL_law_405 : decode cL_law 405 = .ok (.goto 883, 3) := by decide +kernel
theorem dL_law_408 : decode cL_law 408 = .ok (.aload_n 1, 1) := by decide +kernel
theorem dL_law_409 : decode cL_law 409 = .ok (.aload_n 0, 1) := by decide +kernel
theorem dL_law_410 : decode cL_law 410 = .ok (.iload 4, 2) := by decide +kernel
theorem dL_law_412 : decode cL_law 412 = .ok (.iconst 1, 1) := by decide +kernel
theorem dL_law_413 : decode cL_law 413 = .ok (.iadd, 1) := by decide +kernel
theorem dL_law_414 : decode cL_law 414 = .ok (.iaload, 1) := by decide +kernel
theorem dL_law_415 : decode cL_law 415 = .ok (.aload_n 3, 1) := by decide +kernel
theorem dL_law_416 : decode cL_law 416 = .ok (.invokestatic 94, 3) := by decide +kernel
theorem dL_law_419 : decode cL_law 419 = .ok (.istore 5, 2) := by decide +kernel
theorem dL_law_421 : decode cL_law 421 = .ok (.aload_n 2, 1) := by decide +kernel
theorem dL_law_422 : decode cL_law 422 = .ok (.aload_n 0, 1) := by decide +kernel
theorem dL_law_423 : decode cL_law 423 = .ok (.iload 4, 2) := by decide +kernel
theorem dL_law_425 : decode cL_law 425 = .ok (.iconst 1, 1) := by decide +kernel
theorem dL_law_426 : decode cL_law 426 = .ok (.iadd, 1) := by decide +kernel
theorem dL_law_427 : decode cL_law 427 = .ok (.iaload, 1) := by decide +kernel
theorem dL_law_428 : decode cL_law 428 = .ok (.invokevirtual 96, 3) := by decide +kernel
theorem dL_law_431 : decode cL_law 431 = .ok (.istore 6, 2) := by decide +kernel
theorem dL_law_433 : decode cL_law 433 = .ok (.aload_n 2, 1) := by decide +kernel
theorem dL_law_434 : decode cL_law 434 = .ok (.invokevirtual 79, 3) := by decide +kernel
theorem dL_law_437 : decode cL_law 437 = .ok (.iload 5, 2) := by decide +kernel
theorem dL_law_439 : decode cL_law 439 = .ok (.if_icmp .eq 5, 3) := by decide +kernel
theorem dL_law_442 : decode cL_law 442 = .ok (.iconst 0, 1) := by decide +kernel
theorem dL_law_443 : decode cL_law 443 = .ok (.ireturn, 1) := by decide +kernel
theorem dL_law_444 : decode cL_law 444 = .ok (.iload 5, 2) := by decide +kernel
theorem dL_law_446 : decode cL_law 446 = .ok (.ifCond .ne 15, 3) := by decide +kernel
theorem dL_law_449 : decode cL_law 449 = .ok (.aload_n 3, 1) := by decide +kernel
theorem dL_law_450 : decode cL_law 450 = .ok (.iconst 0, 1) := by decide +kernel
theorem dL_law_451 : decode cL_law 451 = .ok (.laload, 1) := by decide +kernel
theorem dL_law_452 : decode cL_law 452 = .ok (.iload 6, 2) := by decide +kernel
theorem dL_law_454 : decode cL_law 454 = .ok (.i2l, 1) := by decide +kernel
theorem dL_law_455 : decode cL_law 455 = .ok (.lcmp, 1) := by decide +kernel
theorem dL_law_456 : decode cL_law 456 = .ok (.ifCond .eq 5, 3) := by decide +kernel
theorem dL_law_459 : decode cL_law 459 = .ok (.iconst 0, 1) := by decide +kernel
theorem dL_law_460 : decode cL_law 460 = .ok (.ireturn, 1) := by decide +kernel
theorem dL_law_461 : decode cL_law 461 = .ok (.goto 827, 3) := by decide +kernel
theorem dL_law_464 : decode cL_law 464 = .ok (.aload_n 1, 1) := by decide +kernel
theorem dL_law_465 : decode cL_law 465 = .ok (.aload_n 0, 1) := by decide +kernel
theorem dL_law_466 : decode cL_law 466 = .ok (.iload 4, 2) := by decide +kernel
theorem dL_law_468 : decode cL_law 468 = .ok (.iconst 1, 1) := by decide +kernel
theorem dL_law_469 : decode cL_law 469 = .ok (.iadd, 1) := by decide +kernel
theorem dL_law_470 : decode cL_law 470 = .ok (.iaload, 1) := by decide +kernel
theorem dL_law_471 : decode cL_law 471 = .ok (.aload_n 3, 1) := by decide +kernel
theorem dL_law_472 : decode cL_law 472 = .ok (.invokestatic 97, 3) := by decide +kernel
theorem dL_law_475 : decode cL_law 475 = .ok (.istore 5, 2) := by decide +kernel
theorem dL_law_477 : decode cL_law 477 = .ok (.aload_n 2, 1) := by decide +kernel
theorem dL_law_478 : decode cL_law 478 = .ok (.aload_n 0, 1) := by decide +kernel
theorem dL_law_479 : decode cL_law 479 = .ok (.iload 4, 2) := by decide +kernel
theorem dL_law_481 : decode cL_law 481 = .ok (.iconst 1, 1) := by decide +kernel
theorem dL_law_482 : decode cL_law 482 = .ok (.iadd, 1) := by decide +kernel
theorem dL_law_483 : decode cL_law 483 = .ok (.iaload, 1) := by decide +kernel
theorem dL_law_484 : decode cL_law 484 = .ok (.invokevirtual 99, 3) := by decide +kernel
theorem dL_law_487 : decode cL_law 487 = .ok (.istore 6, 2) := by decide +kernel
theorem dL_law_489 : decode cL_law 489 = .ok (.aload_n 2, 1) := by decide +kernel
theorem dL_law_490 : decode cL_law 490 = .ok (.invokevirtual 79, 3) := by decide +kernel
theorem dL_law_493 : decode cL_law 493 = .ok (.iload 5, 2) := by decide +kernel
theorem dL_law_495 : decode cL_law 495 = .ok (.if_icmp .eq 5, 3) := by decide +kernel
theorem dL_law_498 : decode cL_law 498 = .ok (.iconst 0, 1) := by decide +kernel
theorem dL_law_499 : decode cL_law 499 = .ok (.ireturn, 1) := by decide +kernel
theorem dL_law_500 : decode cL_law 500 = .ok (.iload 5, 2) := by decide +kernel
theorem dL_law_502 : decode cL_law 502 = .ok (.ifCond .ne 15, 3) := by decide +kernel
theorem dL_law_505 : decode cL_law 505 = .ok (.aload_n 3, 1) := by decide +kernel
theorem dL_law_506 : decode cL_law 506 = .ok (.iconst 0, 1) := by decide +kernel
theorem dL_law_507 : decode cL_law 507 = .ok (.laload, 1) := by decide +kernel
theorem dL_law_508 : decode cL_law 508 = .ok (.iload 6, 2) := by decide +kernel
theorem dL_law_510 : decode cL_law 510 = .ok (.i2l, 1) := by decide +kernel
theorem dL_law_511 : decode cL_law 511 = .ok (.lcmp, 1) := by decide +kernel
theorem dL_law_512 : decode cL_law 512 = .ok (.ifCond .eq 5, 3) := by decide +kernel
theorem dL_law_515 : decode cL_law 515 = .ok (.iconst 0, 1) := by decide +kernel
theorem dL_law_516 : decode cL_law 516 = .ok (.ireturn, 1) := by decide +kernel
theorem dL_law_517 : decode cL_law 517 = .ok (.goto 771, 3) := by decide +kernel
theorem dL_law_520 : decode cL_law 520 = .ok (.aload_n 1, 1) := by decide +kernel
theorem dL_law_521 : decode cL_law 521 = .ok (.aload_n 0, 1) := by decide +kernel
theorem dL_law_522 : decode cL_law 522 = .ok (.iload 4, 2) := by decide +kernel
theorem dL_law_524 : decode cL_law 524 = .ok (.iconst 1, 1) := by decide +kernel
theorem dL_law_525 : decode cL_law 525 = .ok (.iadd, 1) := by decide +kernel
theorem dL_law_526 : decode cL_law 526 = .ok (.iaload, 1) := by decide +kernel
theorem dL_law_527 : decode cL_law 527 = .ok (.aload_n 3, 1) := by decide +kernel
theorem dL_law_528 : decode cL_law 528 = .ok (.invokestatic 100, 3) := by decide +kernel
theorem dL_law_531 : decode cL_law 531 = .ok (.istore 5, 2) := by decide +kernel
theorem dL_law_533 : decode cL_law 533 = .ok (.aload_n 2, 1) := by decide +kernel
theorem dL_law_534 : decode cL_law 534 = .ok (.aload_n 0, 1) := by decide +kernel
theorem dL_law_535 : decode cL_law 535 = .ok (.iload 4, 2) := by decide +kernel
theorem dL_law_537 : decode cL_law 537 = .ok (.iconst 1, 1) := by decide +kernel
theorem dL_law_538 : decode cL_law 538 = .ok (.iadd, 1) := by decide +kernel
theorem dL_law_539 : decode cL_law 539 = .ok (.iaload, 1) := by decide +kernel
theorem dL_law_540 : decode cL_law 540 = .ok (.invokevirtual 102, 3) := by decide +kernel
theorem dL_law_543 : decode cL_law 543 = .ok (.istore 6, 2) := by decide +kernel
theorem dL_law_545 : decode cL_law 545 = .ok (.aload_n 2, 1) := by decide +kernel
theorem dL_law_546 : decode cL_law 546 = .ok (.invokevirtual 79, 3) := by decide +kernel
theorem dL_law_549 : decode cL_law 549 = .ok (.iload 5, 2) := by decide +kernel
theorem dL_law_551 : decode cL_law 551 = .ok (.if_icmp .eq 5, 3) := by decide +kernel
theorem dL_law_554 : decode cL_law 554 = .ok (.iconst 0, 1) := by decide +kernel
theorem dL_law_555 : decode cL_law 555 = .ok (.ireturn, 1) := by decide +kernel
theorem dL_law_556 : decode cL_law 556 = .ok (.iload 5, 2) := by decide +kernel
theorem dL_law_558 : decode cL_law 558 = .ok (.ifCond .ne 15, 3) := by decide +kernel
theorem dL_law_561 : decode cL_law 561 = .ok (.aload_n 3, 1) := by decide +kernel
theorem dL_law_562 : decode cL_law 562 = .ok (.iconst 0, 1) := by decide +kernel
theorem dL_law_563 : decode cL_law 563 = .ok (.laload, 1) := by decide +kernel
theorem dL_law_564 : decode cL_law 564 = .ok (.iload 6, 2) := by decide +kernel
theorem dL_law_566 : decode cL_law 566 = .ok (.i2l, 1) := by decide +kernel
theorem dL_law_567 : decode cL_law 567 = .ok (.lcmp, 1) := by decide +kernel
theorem dL_law_568 : decode cL_law 568 = .ok (.ifCond .eq 5, 3) := by decide +kernel
theorem dL_law_571 : decode cL_law 571 = .ok (.iconst 0, 1) := by decide +kernel
theorem dL_law_572 : decode cL_law 572 = .ok (.ireturn, 1) := by decide +kernel
theorem dL_law_573 : decode cL_law 573 = .ok (.goto 715, 3) := by decide +kernel
theorem dL_law_576 : decode cL_law 576 = .ok (.aload_n 1, 1) := by decide +kernel
theorem dL_law_577 : decode cL_law 577 = .ok (.aload_n 0, 1) := by decide +kernel
theorem dL_law_578 : decode cL_law 578 = .ok (.iload 4, 2) := by decide +kernel
theorem dL_law_580 : decode cL_law 580 = .ok (.iconst 1, 1) := by decide +kernel
theorem dL_law_581 : decode cL_law 581 = .ok (.iadd, 1) := by decide +kernel
theorem dL_law_582 : decode cL_law 582 = .ok (.iaload, 1) := by decide +kernel
theorem dL_law_583 : decode cL_law 583 = .ok (.aload_n 0, 1) := by decide +kernel
theorem dL_law_584 : decode cL_law 584 = .ok (.iload 4, 2) := by decide +kernel
theorem dL_law_586 : decode cL_law 586 = .ok (.iconst 2, 1) := by decide +kernel
theorem dL_law_587 : decode cL_law 587 = .ok (.iadd, 1) := by decide +kernel
theorem dL_law_588 : decode cL_law 588 = .ok (.iaload, 1) := by decide +kernel
theorem dL_law_589 : decode cL_law 589 = .ok (.aload_n 3, 1) := by decide +kernel
theorem dL_law_590 : decode cL_law 590 = .ok (.invokestatic 103, 3) := by decide +kernel
theorem dL_law_593 : decode cL_law 593 = .ok (.istore 5, 2) := by decide +kernel
theorem dL_law_595 : decode cL_law 595 = .ok (.aload_n 2, 1) := by decide +kernel
theorem dL_law_596 : decode cL_law 596 = .ok (.aload_n 0, 1) := by decide +kernel
theorem dL_law_597 : decode cL_law 597 = .ok (.iload 4, 2) := by decide +kernel
theorem dL_law_599 : decode cL_law 599 = .ok (.iconst 1, 1) := by decide +kernel
theorem dL_law_600 : decode cL_law 600 = .ok (.iadd, 1) := by decide +kernel
theorem dL_law_601 : decode cL_law 601 = .ok (.iaload, 1) := by decide +kernel
theorem dL_law_602 : decode cL_law 602 = .ok (.aload_n 0, 1) := by decide +kernel
theorem dL_law_603 : decode cL_law 603 = .ok (.iload 4, 2) := by decide +kernel
theorem dL_law_605 : decode cL_law 605 = .ok (.iconst 2, 1) := by decide +kernel
theorem dL_law_606 : decode cL_law 606 = .ok (.iadd, 1) := by decide +kernel
theorem dL_law_607 : decode cL_law 607 = .ok (.iaload, 1) := by decide +kernel
theorem dL_law_608 : decode cL_law 608 = .ok (.invokevirtual 105, 3) := by decide +kernel
theorem dL_law_611 : decode cL_law 611 = .ok (.istore 6, 2) := by decide +kernel
theorem dL_law_613 : decode cL_law 613 = .ok (.aload_n 2, 1) := by decide +kernel
theorem dL_law_614 : decode cL_law 614 = .ok (.invokevirtual 79, 3) := by decide +kernel
theorem dL_law_617 : decode cL_law 617 = .ok (.iload 5, 2) := by decide +kernel
theorem dL_law_619 : decode cL_law 619 = .ok (.if_icmp .eq 5, 3) := by decide +kernel
theorem dL_law_622 : decode cL_law 622 = .ok (.iconst 0, 1) := by decide +kernel
theorem dL_law_623 : decode cL_law 623 = .ok (.ireturn, 1) := by decide +kernel
theorem dL_law_624 : decode cL_law 624 = .ok (.iload 5, 2) := by decide +kernel
theorem dL_law_626 : decode cL_law 626 = .ok (.ifCond .ne 15, 3) := by decide +kernel
theorem dL_law_629 : decode cL_law 629 = .ok (.aload_n 3, 1) := by decide +kernel
theorem dL_law_630 : decode cL_law 630 = .ok (.iconst 0, 1) := by decide +kernel
theorem dL_law_631 : decode cL_law 631 = .ok (.laload, 1) := by decide +kernel
theorem dL_law_632 : decode cL_law 632 = .ok (.iload 6, 2) := by decide +kernel
theorem dL_law_634 : decode cL_law 634 = .ok (.i2l, 1) := by decide +kernel
theorem dL_law_635 : decode cL_law 635 = .ok (.lcmp, 1) := by decide +kernel
theorem dL_law_636 : decode cL_law 636 = .ok (.ifCond .eq 5, 3) := by decide +kernel
theorem dL_law_639 : decode cL_law 639 = .ok (.iconst 0, 1) := by decide +kernel
theorem dL_law_640 : decode cL_law 640 = .ok (.ireturn, 1) := by decide +kernel
theorem dL_law_641 : decode cL_law 641 = .ok (.goto 647, 3) := by decide +kernel
theorem dL_law_644 : decode cL_law 644 = .ok (.aload_n 1, 1) := by decide +kernel
theorem dL_law_645 : decode cL_law 645 = .ok (.aload_n 0, 1) := by decide +kernel
theorem dL_law_646 : decode cL_law 646 = .ok (.iload 4, 2) := by decide +kernel
theorem dL_law_648 : decode cL_law 648 = .ok (.iconst 1, 1) := by decide +kernel
theorem dL_law_649 : decode cL_law 649 = .ok (.iadd, 1) := by decide +kernel
theorem dL_law_650 : decode cL_law 650 = .ok (.iaload, 1) := by decide +kernel
theorem dL_law_651 : decode cL_law 651 = .ok (.aload_n 0, 1) := by decide +kernel
theorem dL_law_652 : decode cL_law 652 = .ok (.iload 4, 2) := by decide +kernel
theorem dL_law_654 : decode cL_law 654 = .ok (.iconst 2, 1) := by decide +kernel
theorem dL_law_655 : decode cL_law 655 = .ok (.iadd, 1) := by decide +kernel
theorem dL_law_656 : decode cL_law 656 = .ok (.iaload, 1) := by decide +kernel
theorem dL_law_657 : decode cL_law 657 = .ok (.aload_n 3, 1) := by decide +kernel
theorem dL_law_658 : decode cL_law 658 = .ok (.invokestatic 106, 3) := by decide +kernel
theorem dL_law_661 : decode cL_law 661 = .ok (.istore 5, 2) := by decide +kernel
theorem dL_law_663 : decode cL_law 663 = .ok (.aload_n 2, 1) := by decide +kernel
theorem dL_law_664 : decode cL_law 664 = .ok (.aload_n 0, 1) := by decide +kernel
theorem dL_law_665 : decode cL_law 665 = .ok (.iload 4, 2) := by decide +kernel
theorem dL_law_667 : decode cL_law 667 = .ok (.iconst 1, 1) := by decide +kernel
theorem dL_law_668 : decode cL_law 668 = .ok (.iadd, 1) := by decide +kernel
theorem dL_law_669 : decode cL_law 669 = .ok (.iaload, 1) := by decide +kernel
theorem dL_law_670 : decode cL_law 670 = .ok (.aload_n 0, 1) := by decide +kernel
theorem dL_law_671 : decode cL_law 671 = .ok (.iload 4, 2) := by decide +kernel
theorem dL_law_673 : decode cL_law 673 = .ok (.iconst 2, 1) := by decide +kernel
theorem dL_law_674 : decode cL_law 674 = .ok (.iadd, 1) := by decide +kernel
theorem dL_law_675 : decode cL_law 675 = .ok (.iaload, 1) := by decide +kernel
theorem dL_law_676 : decode cL_law 676 = .ok (.invokevirtual 108, 3) := by decide +kernel
theorem dL_law_679 : decode cL_law 679 = .ok (.istore 6, 2) := by decide +kernel
theorem dL_law_681 : decode cL_law 681 = .ok (.aload_n 2, 1) := by decide +kernel
theorem dL_law_682 : decode cL_law 682 = .ok (.invokevirtual 79, 3) := by decide +kernel
theorem dL_law_685 : decode cL_law 685 = .ok (.iload 5, 2) := by decide +kernel
theorem dL_law_687 : decode cL_law 687 = .ok (.if_icmp .eq 5, 3) := by decide +kernel
theorem dL_law_690 : decode cL_law 690 = .ok (.iconst 0, 1) := by decide +kernel
theorem dL_law_691 : decode cL_law 691 = .ok (.ireturn, 1) := by decide +kernel
theorem dL_law_692 : decode cL_law 692 = .ok (.iload 5, 2) := by decide +kernel
theorem dL_law_694 : decode cL_law 694 = .ok (.ifCond .ne 15, 3) := by decide +kernel
theorem dL_law_697 : decode cL_law 697 = .ok (.aload_n 3, 1) := by decide +kernel
theorem dL_law_698 : decode cL_law 698 = .ok (.iconst 0, 1) := by decide +kernel
theorem dL_law_699 : decode cL_law 699 = .ok (.laload, 1) := by decide +kernel
theorem dL_law_700 : decode cL_law 700 = .ok (.iload 6, 2) := by decide +kernel
theorem dL_law_702 : decode cL_law 702 = .ok (.i2l, 1) := by decide +kernel
theorem dL_law_703 : decode cL_law 703 = .ok (.lcmp, 1) := by decide +kernel
theorem dL_law_704 : decode cL_law 704 = .ok (.ifCond .eq 5, 3) := by decide +kernel
theorem dL_law_707 : decode cL_law 707 = .ok (.iconst 0, 1) := by decide +kernel
theorem dL_law_708 : decode cL_law 708 = .ok (.ireturn, 1) := by decide +kernel
theorem dL_law_709 : decode cL_law 709 = .ok (.goto 579, 3) := by decide +kernel
theorem dL_law_712 : decode cL_law 712 = .ok (.aload_n 1, 1) := by decide +kernel
theorem dL_law_713 : decode cL_law 713 = .ok (.aload_n 0, 1) := by decide +kernel
theorem dL_law_714 : decode cL_law 714 = .ok (.iload 4, 2) := by decide +kernel
theorem dL_law_716 : decode cL_law 716 = .ok (.iconst 1, 1) := by decide +kernel
theorem dL_law_717 : decode cL_law 717 = .ok (.iadd, 1) := by decide +kernel
theorem dL_law_718 : decode cL_law 718 = .ok (.iaload, 1) := by decide +kernel
theorem dL_law_719 : decode cL_law 719 = .ok (.aload_n 0, 1) := by decide +kernel
theorem dL_law_720 : decode cL_law 720 = .ok (.iload 4, 2) := by decide +kernel
theorem dL_law_722 : decode cL_law 722 = .ok (.iconst 2, 1) := by decide +kernel
theorem dL_law_723 : decode cL_law 723 = .ok (.iadd, 1) := by decide +kernel
theorem dL_law_724 : decode cL_law 724 = .ok (.iaload, 1) := by decide +kernel
theorem dL_law_725 : decode cL_law 725 = .ok (.aload_n 0, 1) := by decide +kernel
theorem dL_law_726 : decode cL_law 726 = .ok (.iload 4, 2) := by decide +kernel
theorem dL_law_728 : decode cL_law 728 = .ok (.iconst 3, 1) := by decide +kernel
theorem dL_law_729 : decode cL_law 729 = .ok (.iadd, 1) := by decide +kernel
theorem dL_law_730 : decode cL_law 730 = .ok (.iaload, 1) := by decide +kernel
theorem dL_law_731 : decode cL_law 731 = .ok (.aload_n 3, 1) := by decide +kernel
theorem dL_law_732 : decode cL_law 732 = .ok (.invokestatic 109, 3) := by decide +kernel
theorem dL_law_735 : decode cL_law 735 = .ok (.istore 5, 2) := by decide +kernel
theorem dL_law_737 : decode cL_law 737 = .ok (.aload_n 2, 1) := by decide +kernel
theorem dL_law_738 : decode cL_law 738 = .ok (.aload_n 0, 1) := by decide +kernel
theorem dL_law_739 : decode cL_law 739 = .ok (.iload 4, 2) := by decide +kernel
theorem dL_law_741 : decode cL_law 741 = .ok (.iconst 1, 1) := by decide +kernel
theorem dL_law_742 : decode cL_law 742 = .ok (.iadd, 1) := by decide +kernel
theorem dL_law_743 : decode cL_law 743 = .ok (.iaload, 1) := by decide +kernel
theorem dL_law_744 : decode cL_law 744 = .ok (.aload_n 0, 1) := by decide +kernel
theorem dL_law_745 : decode cL_law 745 = .ok (.iload 4, 2) := by decide +kernel
theorem dL_law_747 : decode cL_law 747 = .ok (.iconst 2, 1) := by decide +kernel
theorem dL_law_748 : decode cL_law 748 = .ok (.iadd, 1) := by decide +kernel
theorem dL_law_749 : decode cL_law 749 = .ok (.iaload, 1) := by decide +kernel
theorem dL_law_750 : decode cL_law 750 = .ok (.aload_n 0, 1) := by decide +kernel
theorem dL_law_751 : decode cL_law 751 = .ok (.iload 4, 2) := by decide +kernel
theorem dL_law_753 : decode cL_law 753 = .ok (.iconst 3, 1) := by decide +kernel
theorem dL_law_754 : decode cL_law 754 = .ok (.iadd, 1) := by decide +kernel
theorem dL_law_755 : decode cL_law 755 = .ok (.iaload, 1) := by decide +kernel
theorem dL_law_756 : decode cL_law 756 = .ok (.invokevirtual 112, 3) := by decide +kernel
theorem dL_law_759 : decode cL_law 759 = .ok (.istore 6, 2) := by decide +kernel
theorem dL_law_761 : decode cL_law 761 = .ok (.aload_n 2, 1) := by decide +kernel
theorem dL_law_762 : decode cL_law 762 = .ok (.invokevirtual 79, 3) := by decide +kernel
theorem dL_law_765 : decode cL_law 765 = .ok (.iload 5, 2) := by decide +kernel
theorem dL_law_767 : decode cL_law 767 = .ok (.if_icmp .eq 5, 3) := by decide +kernel
theorem dL_law_770 : decode cL_law 770 = .ok (.iconst 0, 1) := by decide +kernel
theorem dL_law_771 : decode cL_law 771 = .ok (.ireturn, 1) := by decide +kernel
theorem dL_law_772 : decode cL_law 772 = .ok (.iload 5, 2) := by decide +kernel
theorem dL_law_774 : decode cL_law 774 = .ok (.ifCond .ne 15, 3) := by decide +kernel
theorem dL_law_777 : decode cL_law 777 = .ok (.aload_n 3, 1) := by decide +kernel
theorem dL_law_778 : decode cL_law 778 = .ok (.iconst 0, 1) := by decide +kernel
theorem dL_law_779 : decode cL_law 779 = .ok (.laload, 1) := by decide +kernel
theorem dL_law_780 : decode cL_law 780 = .ok (.iload 6, 2) := by decide +kernel
theorem dL_law_782 : decode cL_law 782 = .ok (.i2l, 1) := by decide +kernel
theorem dL_law_783 : decode cL_law 783 = .ok (.lcmp, 1) := by decide +kernel
theorem dL_law_784 : decode cL_law 784 = .ok (.ifCond .eq 5, 3) := by decide +kernel
theorem dL_law_787 : decode cL_law 787 = .ok (.iconst 0, 1) := by decide +kernel
theorem dL_law_788 : decode cL_law 788 = .ok (.ireturn, 1) := by decide +kernel
theorem dL_law_789 : decode cL_law 789 = .ok (.goto 499, 3) := by decide +kernel
theorem dL_law_792 : decode cL_law 792 = .ok (.aload_n 1, 1) := by decide +kernel
theorem dL_law_793 : decode cL_law 793 = .ok (.aload_n 0, 1) := by decide +kernel
theorem dL_law_794 : decode cL_law 794 = .ok (.iload 4, 2) := by decide +kernel
theorem dL_law_796 : decode cL_law 796 = .ok (.iconst 1, 1) := by decide +kernel
theorem dL_law_797 : decode cL_law 797 = .ok (.iadd, 1) := by decide +kernel
theorem dL_law_798 : decode cL_law 798 = .ok (.iaload, 1) := by decide +kernel
theorem dL_law_799 : decode cL_law 799 = .ok (.aload_n 0, 1) := by decide +kernel
theorem dL_law_800 : decode cL_law 800 = .ok (.iload 4, 2) := by decide +kernel
theorem dL_law_802 : decode cL_law 802 = .ok (.iconst 2, 1) := by decide +kernel
theorem dL_law_803 : decode cL_law 803 = .ok (.iadd, 1) := by decide +kernel
theorem dL_law_804 : decode cL_law 804 = .ok (.iaload, 1) := by decide +kernel
theorem dL_law_805 : decode cL_law 805 = .ok (.aload_n 0, 1) := by decide +kernel
theorem dL_law_806 : decode cL_law 806 = .ok (.iload 4, 2) := by decide +kernel
theorem dL_law_808 : decode cL_law 808 = .ok (.iconst 3, 1) := by decide +kernel
theorem dL_law_809 : decode cL_law 809 = .ok (.iadd, 1) := by decide +kernel
theorem dL_law_810 : decode cL_law 810 = .ok (.iaload, 1) := by decide +kernel
theorem dL_law_811 : decode cL_law 811 = .ok (.aload_n 3, 1) := by decide +kernel
theorem dL_law_812 : decode cL_law 812 = .ok (.invokestatic 113, 3) := by decide +kernel
theorem dL_law_815 : decode cL_law 815 = .ok (.istore 5, 2) := by decide +kernel
theorem dL_law_817 : decode cL_law 817 = .ok (.aload_n 2, 1) := by decide +kernel
theorem dL_law_818 : decode cL_law 818 = .ok (.aload_n 0, 1) := by decide +kernel
theorem dL_law_819 : decode cL_law 819 = .ok (.iload 4, 2) := by decide +kernel
theorem dL_law_821 : decode cL_law 821 = .ok (.iconst 1, 1) := by decide +kernel
theorem dL_law_822 : decode cL_law 822 = .ok (.iadd, 1) := by decide +kernel
theorem dL_law_823 : decode cL_law 823 = .ok (.iaload, 1) := by decide +kernel
theorem dL_law_824 : decode cL_law 824 = .ok (.aload_n 0, 1) := by decide +kernel
theorem dL_law_825 : decode cL_law 825 = .ok (.iload 4, 2) := by decide +kernel
theorem dL_law_827 : decode cL_law 827 = .ok (.iconst 2, 1) := by decide +kernel
theorem dL_law_828 : decode cL_law 828 = .ok (.iadd, 1) := by decide +kernel
theorem dL_law_829 : decode cL_law 829 = .ok (.iaload, 1) := by decide +kernel
theorem dL_law_830 : decode cL_law 830 = .ok (.aload_n 0, 1) := by decide +kernel
theorem dL_law_831 : decode cL_law 831 = .ok (.iload 4, 2) := by decide +kernel
theorem dL_law_833 : decode cL_law 833 = .ok (.iconst 3, 1) := by decide +kernel
theorem dL_law_834 : decode cL_law 834 = .ok (.iadd, 1) := by decide +kernel
theorem dL_law_835 : decode cL_law 835 = .ok (.iaload, 1) := by decide +kernel
theorem dL_law_836 : decode cL_law 836 = .ok (.invokevirtual 115, 3) := by decide +kernel
theorem dL_law_839 : decode cL_law 839 = .ok (.istore 6, 2) := by decide +kernel
theorem dL_law_841 : decode cL_law 841 = .ok (.aload_n 2, 1) := by decide +kernel
theorem dL_law_842 : decode cL_law 842 = .ok (.invokevirtual 79, 3) := by decide +kernel
theorem dL_law_845 : decode cL_law 845 = .ok (.iload 5, 2) := by decide +kernel
theorem dL_law_847 : decode cL_law 847 = .ok (.if_icmp .eq 5, 3) := by decide +kernel
theorem dL_law_850 : decode cL_law 850 = .ok (.iconst 0, 1) := by decide +kernel
theorem dL_law_851 : decode cL_law 851 = .ok (.ireturn, 1) := by decide +kernel
theorem dL_law_852 : decode cL_law 852 = .ok (.iload 5, 2) := by decide +kernel
theorem dL_law_854 : decode cL_law 854 = .ok (.ifCond .ne 15, 3) := by decide +kernel
theorem dL_law_857 : decode cL_law 857 = .ok (.aload_n 3, 1) := by decide +kernel
theorem dL_law_858 : decode cL_law 858 = .ok (.iconst 0, 1) := by decide +kernel
theorem dL_law_859 : decode cL_law 859 = .ok (.laload, 1) := by decide +kernel
theorem dL_law_860 : decode cL_law 860 = .ok (.iload 6, 2) := by decide +kernel
theorem dL_law_862 : decode cL_law 862 = .ok (.i2l, 1) := by decide +kernel
theorem dL_law_863 : decode cL_law 863 = .ok (.lcmp, 1) := by decide +kernel
theorem dL_law_864 : decode cL_law 864 = .ok (.ifCond .eq 5, 3) := by decide +kernel
theorem dL_law_867 : decode cL_law 867 = .ok (.iconst 0, 1) := by decide +kernel
theorem dL_law_868 : decode cL_law 868 = .ok (.ireturn, 1) := by decide +kernel
theorem dL_law_869 : decode cL_law 869 = .ok (.goto 419, 3) := by decide +kernel
theorem dL_law_872 : decode cL_law 872 = .ok (.aload_n 1, 1) := by decide +kernel
theorem dL_law_873 : decode cL_law 873 = .ok (.aload_n 0, 1) := by decide +kernel
theorem dL_law_874 : decode cL_law 874 = .ok (.iload 4, 2) := by decide +kernel
theorem dL_law_876 : decode cL_law 876 = .ok (.iconst 1, 1) := by decide +kernel
theorem dL_law_877 : decode cL_law 877 = .ok (.iadd, 1) := by decide +kernel
theorem dL_law_878 : decode cL_law 878 = .ok (.iaload, 1) := by decide +kernel
theorem dL_law_879 : decode cL_law 879 = .ok (.aload_n 0, 1) := by decide +kernel
theorem dL_law_880 : decode cL_law 880 = .ok (.iload 4, 2) := by decide +kernel
theorem dL_law_882 : decode cL_law 882 = .ok (.iconst 2, 1) := by decide +kernel
theorem dL_law_883 : decode cL_law 883 = .ok (.iadd, 1) := by decide +kernel
theorem dL_law_884 : decode cL_law 884 = .ok (.iaload, 1) := by decide +kernel
theorem dL_law_885 : decode cL_law 885 = .ok (.aload_n 3, 1) := by decide +kernel
theorem dL_law_886 : decode cL_law 886 = .ok (.invokestatic 116, 3) := by decide +kernel
theorem dL_law_889 : decode cL_law 889 = .ok (.istore 5, 2) := by decide +kernel
theorem dL_law_891 : decode cL_law 891 = .ok (.aload_n 2, 1) := by decide +kernel
theorem dL_law_892 : decode cL_law 892 = .ok (.aload_n 0, 1) := by decide +kernel
theorem dL_law_893 : decode cL_law 893 = .ok (.iload 4, 2) := by decide +kernel
theorem dL_law_895 : decode cL_law 895 = .ok (.iconst 1, 1) := by decide +kernel
theorem dL_law_896 : decode cL_law 896 = .ok (.iadd, 1) := by decide +kernel
theorem dL_law_897 : decode cL_law 897 = .ok (.iaload, 1) := by decide +kernel
theorem dL_law_898 : decode cL_law 898 = .ok (.aload_n 0, 1) := by decide +kernel
theorem dL_law_899 : decode cL_law 899 = .ok (.iload 4, 2) := by decide +kernel
theorem dL_law_901 : decode cL_law 901 = .ok (.iconst 2, 1) := by decide +kernel
theorem dL_law_902 : decode cL_law 902 = .ok (.iadd, 1) := by decide +kernel
theorem dL_law_903 : decode cL_law 903 = .ok (.iaload, 1) := by decide +kernel
theorem dL_law_904 : decode cL_law 904 = .ok (.invokevirtual 118, 3) := by decide +kernel
theorem dL_law_907 : decode cL_law 907 = .ok (.istore 6, 2) := by decide +kernel
theorem dL_law_909 : decode cL_law 909 = .ok (.aload_n 2, 1) := by decide +kernel
theorem dL_law_910 : decode cL_law 910 = .ok (.invokevirtual 79, 3) := by decide +kernel
theorem dL_law_913 : decode cL_law 913 = .ok (.iload 5, 2) := by decide +kernel
theorem dL_law_915 : decode cL_law 915 = .ok (.if_icmp .eq 5, 3) := by decide +kernel
theorem dL_law_918 : decode cL_law 918 = .ok (.iconst 0, 1) := by decide +kernel
theorem dL_law_919 : decode cL_law 919 = .ok (.ireturn, 1) := by decide +kernel
theorem dL_law_920 : decode cL_law 920 = .ok (.iload 5, 2) := by decide +kernel
theorem dL_law_922 : decode cL_law 922 = .ok (.ifCond .ne 15, 3) := by decide +kernel
theorem dL_law_925 : decode cL_law 925 = .ok (.aload_n 3, 1) := by decide +kernel
theorem dL_law_926 : decode cL_law 926 = .ok (.iconst 0, 1) := by decide +kernel
theorem dL_law_927 : decode cL_law 927 = .ok (.laload, 1) := by decide +kernel
theorem dL_law_928 : decode cL_law 928 = .ok (.iload 6, 2) := by decide +kernel
theorem dL_law_930 : decode cL_law 930 = .ok (.i2l, 1) := by decide +kernel
theorem dL_law_931 : decode cL_law 931 = .ok (.lcmp, 1) := by decide +kernel
theorem dL_law_932 : decode cL_law 932 = .ok (.ifCond .eq 5, 3) := by decide +kernel
theorem dL_law_935 : decode cL_law 935 = .ok (.iconst 0, 1) := by decide +kernel
theorem dL_law_936 : decode cL_law 936 = .ok (.ireturn, 1) := by decide +kernel
theorem dL_law_937 : decode cL_law 937 = .ok (.goto 351, 3) := by decide +kernel
theorem dL_law_940 : decode cL_law 940 = .ok (.aload_n 1, 1) := by decide +kernel
theorem dL_law_941 : decode cL_law 941 = .ok (.aload_n 0, 1) := by decide +kernel
theorem dL_law_942 : decode cL_law 942 = .ok (.iload 4, 2) := by decide +kernel
theorem dL_law_944 : decode cL_law 944 = .ok (.iconst 1, 1) := by decide +kernel
theorem dL_law_945 : decode cL_law 945 = .ok (.iadd, 1) := by decide +kernel
theorem dL_law_946 : decode cL_law 946 = .ok (.iaload, 1) := by decide +kernel
theorem dL_law_947 : decode cL_law 947 = .ok (.aload_n 0, 1) := by decide +kernel
theorem dL_law_948 : decode cL_law 948 = .ok (.iload 4, 2) := by decide +kernel
theorem dL_law_950 : decode cL_law 950 = .ok (.iconst 2, 1) := by decide +kernel
theorem dL_law_951 : decode cL_law 951 = .ok (.iadd, 1) := by decide +kernel
theorem dL_law_952 : decode cL_law 952 = .ok (.iaload, 1) := by decide +kernel
theorem dL_law_953 : decode cL_law 953 = .ok (.aload_n 3, 1) := by decide +kernel
theorem dL_law_954 : decode cL_law 954 = .ok (.invokestatic 119, 3) := by decide +kernel
theorem dL_law_957 : decode cL_law 957 = .ok (.istore 5, 2) := by decide +kernel
theorem dL_law_959 : decode cL_law 959 = .ok (.aload_n 2, 1) := by decide +kernel
theorem dL_law_960 : decode cL_law 960 = .ok (.aload_n 0, 1) := by decide +kernel
theorem dL_law_961 : decode cL_law 961 = .ok (.iload 4, 2) := by decide +kernel
theorem dL_law_963 : decode cL_law 963 = .ok (.iconst 1, 1) := by decide +kernel
theorem dL_law_964 : decode cL_law 964 = .ok (.iadd, 1) := by decide +kernel
theorem dL_law_965 : decode cL_law 965 = .ok (.iaload, 1) := by decide +kernel
theorem dL_law_966 : decode cL_law 966 = .ok (.aload_n 0, 1) := by decide +kernel
theorem dL_law_967 : decode cL_law 967 = .ok (.iload 4, 2) := by decide +kernel
theorem dL_law_969 : decode cL_law 969 = .ok (.iconst 2, 1) := by decide +kernel
theorem dL_law_970 : decode cL_law 970 = .ok (.iadd, 1) := by decide +kernel
theorem dL_law_971 : decode cL_law 971 = .ok (.iaload, 1) := by decide +kernel
theorem dL_law_972 : decode cL_law 972 = .ok (.invokevirtual 121, 3) := by decide +kernel
theorem dL_law_975 : decode cL_law 975 = .ok (.istore 6, 2) := by decide +kernel
theorem dL_law_977 : decode cL_law 977 = .ok (.aload_n 2, 1) := by decide +kernel
theorem dL_law_978 : decode cL_law 978 = .ok (.invokevirtual 79, 3) := by decide +kernel
theorem dL_law_981 : decode cL_law 981 = .ok (.iload 5, 2) := by decide +kernel
theorem dL_law_983 : decode cL_law 983 = .ok (.if_icmp .eq 5, 3) := by decide +kernel
theorem dL_law_986 : decode cL_law 986 = .ok (.iconst 0, 1) := by decide +kernel
theorem dL_law_987 : decode cL_law 987 = .ok (.ireturn, 1) := by decide +kernel
theorem dL_law_988 : decode cL_law 988 = .ok (.iload 5, 2) := by decide +kernel
theorem dL_law_990 : decode cL_law 990 = .ok (.ifCond .ne 22, 3) := by decide +kernel
theorem dL_law_993 : decode cL_law 993 = .ok (.aload_n 3, 1) := by decide +kernel
theorem dL_law_994 : decode cL_law 994 = .ok (.iconst 0, 1) := by decide +kernel
theorem dL_law_995 : decode cL_law 995 = .ok (.laload, 1) := by decide +kernel
theorem dL_law_996 : decode cL_law 996 = .ok (.iload 6, 2) := by decide +kernel
theorem dL_law_998 : decode cL_law 998 = .ok (.ifCond .eq 7, 3) := by decide +kernel
theorem dL_law_1001 : decode cL_law 1001 = .ok (.lconst 1, 1) := by decide +kernel
theorem dL_law_1002 : decode cL_law 1002 = .ok (.goto 4, 3) := by decide +kernel
theorem dL_law_1005 : decode cL_law 1005 = .ok (.lconst 0, 1) := by decide +kernel
theorem dL_law_1006 : decode cL_law 1006 = .ok (.lcmp, 1) := by decide +kernel
theorem dL_law_1007 : decode cL_law 1007 = .ok (.ifCond .eq 5, 3) := by decide +kernel
theorem dL_law_1010 : decode cL_law 1010 = .ok (.iconst 0, 1) := by decide +kernel
theorem dL_law_1011 : decode cL_law 1011 = .ok (.ireturn, 1) := by decide +kernel
theorem dL_law_1012 : decode cL_law 1012 = .ok (.goto 276, 3) := by decide +kernel
theorem dL_law_1015 : decode cL_law 1015 = .ok (.aload_n 1, 1) := by decide +kernel
theorem dL_law_1016 : decode cL_law 1016 = .ok (.aload_n 0, 1) := by decide +kernel
theorem dL_law_1017 : decode cL_law 1017 = .ok (.iload 4, 2) := by decide +kernel
theorem dL_law_1019 : decode cL_law 1019 = .ok (.iconst 1, 1) := by decide +kernel
theorem dL_law_1020 : decode cL_law 1020 = .ok (.iadd, 1) := by decide +kernel
theorem dL_law_1021 : decode cL_law 1021 = .ok (.iaload, 1) := by decide +kernel
theorem dL_law_1022 : decode cL_law 1022 = .ok (.aload_n 3, 1) := by decide +kernel
theorem dL_law_1023 : decode cL_law 1023 = .ok (.invokestatic 122, 3) := by decide +kernel
theorem dL_law_1026 : decode cL_law 1026 = .ok (.istore 5, 2) := by decide +kernel
theorem dL_law_1028 : decode cL_law 1028 = .ok (.aload_n 2, 1) := by decide +kernel
theorem dL_law_1029 : decode cL_law 1029 = .ok (.aload_n 0, 1) := by decide +kernel
theorem dL_law_1030 : decode cL_law 1030 = .ok (.iload 4, 2) := by decide +kernel
theorem dL_law_1032 : decode cL_law 1032 = .ok (.iconst 1, 1) := by decide +kernel
theorem dL_law_1033 : decode cL_law 1033 = .ok (.iadd, 1) := by decide +kernel
theorem dL_law_1034 : decode cL_law 1034 = .ok (.iaload, 1) := by decide +kernel
theorem dL_law_1035 : decode cL_law 1035 = .ok (.invokevirtual 124, 3) := by decide +kernel
theorem dL_law_1038 : decode cL_law 1038 = .ok (.istore 6, 2) := by decide +kernel
theorem dL_law_1040 : decode cL_law 1040 = .ok (.aload_n 2, 1) := by decide +kernel
theorem dL_law_1041 : decode cL_law 1041 = .ok (.invokevirtual 79, 3) := by decide +kernel
theorem dL_law_1044 : decode cL_law 1044 = .ok (.iload 5, 2) := by decide +kernel
theorem dL_law_1046 : decode cL_law 1046 = .ok (.if_icmp .eq 5, 3) := by decide +kernel
theorem dL_law_1049 : decode cL_law 1049 = .ok (.iconst 0, 1) := by decide +kernel
theorem dL_law_1050 : decode cL_law 1050 = .ok (.ireturn, 1) := by decide +kernel
theorem dL_law_1051 : decode cL_law 1051 = .ok (.iload 5, 2) := by decide +kernel
theorem dL_law_1053 : decode cL_law 1053 = .ok (.ifCond .ne 15, 3) := by decide +kernel
theorem dL_law_1056 : decode cL_law 1056 = .ok (.aload_n 3, 1) := by decide +kernel
theorem dL_law_1057 : decode cL_law 1057 = .ok (.iconst 0, 1) := by decide +kernel
theorem dL_law_1058 : decode cL_law 1058 = .ok (.laload, 1) := by decide +kernel
theorem dL_law_1059 : decode cL_law 1059 = .ok (.iload 6, 2) := by decide +kernel
theorem dL_law_1061 : decode cL_law 1061 = .ok (.i2l, 1) := by decide +kernel
theorem dL_law_1062 : decode cL_law 1062 = .ok (.lcmp, 1) := by decide +kernel
theorem dL_law_1063 : decode cL_law 1063 = .ok (.ifCond .eq 5, 3) := by decide +kernel
theorem dL_law_1066 : decode cL_law 1066 = .ok (.iconst 0, 1) := by decide +kernel
theorem dL_law_1067 : decode cL_law 1067 = .ok (.ireturn, 1) := by decide +kernel
theorem dL_law_1068 : decode cL_law 1068 = .ok (.goto 220, 3) := by decide +kernel
theorem dL_law_1071 : decode cL_law 1071 = .ok (.aload_n 1, 1) := by decide +kernel
theorem dL_law_1072 : decode cL_law 1072 = .ok (.aload_n 0, 1) := by decide +kernel
theorem dL_law_1073 : decode cL_law 1073 = .ok (.iload 4, 2) := by decide +kernel
theorem dL_law_1075 : decode cL_law 1075 = .ok (.iconst 1, 1) := by decide +kernel
theorem dL_law_1076 : decode cL_law 1076 = .ok (.iadd, 1) := by decide +kernel
theorem dL_law_1077 : decode cL_law 1077 = .ok (.iaload, 1) := by decide +kernel
theorem dL_law_1078 : decode cL_law 1078 = .ok (.aload_n 0, 1) := by decide +kernel
theorem dL_law_1079 : decode cL_law 1079 = .ok (.iload 4, 2) := by decide +kernel
theorem dL_law_1081 : decode cL_law 1081 = .ok (.iconst 2, 1) := by decide +kernel
theorem dL_law_1082 : decode cL_law 1082 = .ok (.iadd, 1) := by decide +kernel
theorem dL_law_1083 : decode cL_law 1083 = .ok (.iaload, 1) := by decide +kernel
theorem dL_law_1084 : decode cL_law 1084 = .ok (.aload_n 3, 1) := by decide +kernel
theorem dL_law_1085 : decode cL_law 1085 = .ok (.invokestatic 125, 3) := by decide +kernel
theorem dL_law_1088 : decode cL_law 1088 = .ok (.istore 5, 2) := by decide +kernel
theorem dL_law_1090 : decode cL_law 1090 = .ok (.aload_n 2, 1) := by decide +kernel
theorem dL_law_1091 : decode cL_law 1091 = .ok (.aload_n 0, 1) := by decide +kernel
theorem dL_law_1092 : decode cL_law 1092 = .ok (.iload 4, 2) := by decide +kernel
theorem dL_law_1094 : decode cL_law 1094 = .ok (.iconst 1, 1) := by decide +kernel
theorem dL_law_1095 : decode cL_law 1095 = .ok (.iadd, 1) := by decide +kernel
theorem dL_law_1096 : decode cL_law 1096 = .ok (.iaload, 1) := by decide +kernel
theorem dL_law_1097 : decode cL_law 1097 = .ok (.aload_n 0, 1) := by decide +kernel
theorem dL_law_1098 : decode cL_law 1098 = .ok (.iload 4, 2) := by decide +kernel
theorem dL_law_1100 : decode cL_law 1100 = .ok (.iconst 2, 1) := by decide +kernel
theorem dL_law_1101 : decode cL_law 1101 = .ok (.iadd, 1) := by decide +kernel
theorem dL_law_1102 : decode cL_law 1102 = .ok (.iaload, 1) := by decide +kernel
theorem dL_law_1103 : decode cL_law 1103 = .ok (.invokevirtual 127, 3) := by decide +kernel
theorem dL_law_1106 : decode cL_law 1106 = .ok (.istore 6, 2) := by decide +kernel
theorem dL_law_1108 : decode cL_law 1108 = .ok (.aload_n 2, 1) := by decide +kernel
theorem dL_law_1109 : decode cL_law 1109 = .ok (.invokevirtual 79, 3) := by decide +kernel
theorem dL_law_1112 : decode cL_law 1112 = .ok (.iload 5, 2) := by decide +kernel
theorem dL_law_1114 : decode cL_law 1114 = .ok (.if_icmp .eq 5, 3) := by decide +kernel
theorem dL_law_1117 : decode cL_law 1117 = .ok (.iconst 0, 1) := by decide +kernel
theorem dL_law_1118 : decode cL_law 1118 = .ok (.ireturn, 1) := by decide +kernel
theorem dL_law_1119 : decode cL_law 1119 = .ok (.iload 5, 2) := by decide +kernel
theorem dL_law_1121 : decode cL_law 1121 = .ok (.ifCond .ne 15, 3) := by decide +kernel
theorem dL_law_1124 : decode cL_law 1124 = .ok (.aload_n 3, 1) := by decide +kernel
theorem dL_law_1125 : decode cL_law 1125 = .ok (.iconst 0, 1) := by decide +kernel
theorem dL_law_1126 : decode cL_law 1126 = .ok (.laload, 1) := by decide +kernel
theorem dL_law_1127 : decode cL_law 1127 = .ok (.iload 6, 2) := by decide +kernel
theorem dL_law_1129 : decode cL_law 1129 = .ok (.i2l, 1) := by decide +kernel
theorem dL_law_1130 : decode cL_law 1130 = .ok (.lcmp, 1) := by decide +kernel
theorem dL_law_1131 : decode cL_law 1131 = .ok (.ifCond .eq 5, 3) := by decide +kernel
theorem dL_law_1134 : decode cL_law 1134 = .ok (.iconst 0, 1) := by decide +kernel
theorem dL_law_1135 : decode cL_law 1135 = .ok (.ireturn, 1) := by decide +kernel
theorem dL_law_1136 : decode cL_law 1136 = .ok (.goto 152, 3) := by decide +kernel
theorem dL_law_1139 : decode cL_law 1139 = .ok (.aload_n 1, 1) := by decide +kernel
theorem dL_law_1140 : decode cL_law 1140 = .ok (.invokevirtual 128, 3) := by decide +kernel
theorem dL_law_1143 : decode cL_law 1143 = .ok (.aload_n 2, 1) := by decide +kernel
theorem dL_law_1144 : decode cL_law 1144 = .ok (.invokevirtual 131, 3) := by decide +kernel
theorem dL_law_1147 : decode cL_law 1147 = .ok (.if_icmp .eq 141, 3) := by decide +kernel
theorem dL_law_1150 : decode cL_law 1150 = .ok (.iconst 0, 1) := by decide +kernel
theorem dL_law_1151 : decode cL_law 1151 = .ok (.ireturn, 1) := by decide +kernel
theorem dL_law_1152 : decode cL_law 1152 = .ok (.aload_n 1, 1) := by decide +kernel
theorem dL_law_1153 : decode cL_law 1153 = .ok (.aload_n 0, 1) := by decide +kernel
theorem dL_law_1154 : decode cL_law 1154 = .ok (.iload 4, 2) := by decide +kernel
theorem dL_law_1156 : decode cL_law 1156 = .ok (.iconst 1, 1) := by decide +kernel
theorem dL_law_1157 : decode cL_law 1157 = .ok (.iadd, 1) := by decide +kernel
theorem dL_law_1158 : decode cL_law 1158 = .ok (.iaload, 1) := by decide +kernel
theorem dL_law_1159 : decode cL_law 1159 = .ok (.aload_n 0, 1) := by decide +kernel
theorem dL_law_1160 : decode cL_law 1160 = .ok (.iload 4, 2) := by decide +kernel
theorem dL_law_1162 : decode cL_law 1162 = .ok (.iconst 2, 1) := by decide +kernel
theorem dL_law_1163 : decode cL_law 1163 = .ok (.iadd, 1) := by decide +kernel
theorem dL_law_1164 : decode cL_law 1164 = .ok (.iaload, 1) := by decide +kernel
theorem dL_law_1165 : decode cL_law 1165 = .ok (.aload_n 3, 1) := by decide +kernel
theorem dL_law_1166 : decode cL_law 1166 = .ok (.invokestatic 132, 3) := by decide +kernel
theorem dL_law_1169 : decode cL_law 1169 = .ok (.istore 5, 2) := by decide +kernel
theorem dL_law_1171 : decode cL_law 1171 = .ok (.aload_n 2, 1) := by decide +kernel
theorem dL_law_1172 : decode cL_law 1172 = .ok (.aload_n 0, 1) := by decide +kernel
theorem dL_law_1173 : decode cL_law 1173 = .ok (.iload 4, 2) := by decide +kernel
theorem dL_law_1175 : decode cL_law 1175 = .ok (.iconst 1, 1) := by decide +kernel
theorem dL_law_1176 : decode cL_law 1176 = .ok (.iadd, 1) := by decide +kernel
theorem dL_law_1177 : decode cL_law 1177 = .ok (.iaload, 1) := by decide +kernel
theorem dL_law_1178 : decode cL_law 1178 = .ok (.aload_n 0, 1) := by decide +kernel
theorem dL_law_1179 : decode cL_law 1179 = .ok (.iload 4, 2) := by decide +kernel
theorem dL_law_1181 : decode cL_law 1181 = .ok (.iconst 2, 1) := by decide +kernel
theorem dL_law_1182 : decode cL_law 1182 = .ok (.iadd, 1) := by decide +kernel
theorem dL_law_1183 : decode cL_law 1183 = .ok (.iaload, 1) := by decide +kernel
theorem dL_law_1184 : decode cL_law 1184 = .ok (.invokevirtual 134, 3) := by decide +kernel
theorem dL_law_1187 : decode cL_law 1187 = .ok (.istore 6, 2) := by decide +kernel
theorem dL_law_1189 : decode cL_law 1189 = .ok (.aload_n 2, 1) := by decide +kernel
theorem dL_law_1190 : decode cL_law 1190 = .ok (.invokevirtual 79, 3) := by decide +kernel
theorem dL_law_1193 : decode cL_law 1193 = .ok (.iload 5, 2) := by decide +kernel
theorem dL_law_1195 : decode cL_law 1195 = .ok (.if_icmp .eq 5, 3) := by decide +kernel
theorem dL_law_1198 : decode cL_law 1198 = .ok (.iconst 0, 1) := by decide +kernel
theorem dL_law_1199 : decode cL_law 1199 = .ok (.ireturn, 1) := by decide +kernel
theorem dL_law_1200 : decode cL_law 1200 = .ok (.iload 5, 2) := by decide +kernel
theorem dL_law_1202 : decode cL_law 1202 = .ok (.ifCond .ne 15, 3) := by decide +kernel
theorem dL_law_1205 : decode cL_law 1205 = .ok (.aload_n 3, 1) := by decide +kernel
theorem dL_law_1206 : decode cL_law 1206 = .ok (.iconst 0, 1) := by decide +kernel
theorem dL_law_1207 : decode cL_law 1207 = .ok (.laload, 1) := by decide +kernel
theorem dL_law_1208 : decode cL_law 1208 = .ok (.iload 6, 2) := by decide +kernel
theorem dL_law_1210 : decode cL_law 1210 = .ok (.i2l, 1) := by decide +kernel
theorem dL_law_1211 : decode cL_law 1211 = .ok (.lcmp, 1) := by decide +kernel
theorem dL_law_1212 : decode cL_law 1212 = .ok (.ifCond .eq 5, 3) := by decide +kernel
theorem dL_law_1215 : decode cL_law 1215 = .ok (.iconst 0, 1) := by decide +kernel
theorem dL_law_1216 : decode cL_law 1216 = .ok (.ireturn, 1) := by decide +kernel
theorem dL_law_1217 : decode cL_law 1217 = .ok (.goto 71, 3) := by decide +kernel
theorem dL_law_1220 : decode cL_law 1220 = .ok (.aload_n 1, 1) := by decide +kernel
theorem dL_law_1221 : decode cL_law 1221 = .ok (.invokevirtual 135, 3) := by decide +kernel
theorem dL_law_1224 : decode cL_law 1224 = .ok (.aload_n 2, 1) := by decide +kernel
theorem dL_law_1225 : decode cL_law 1225 = .ok (.invokevirtual 138, 3) := by decide +kernel
theorem dL_law_1228 : decode cL_law 1228 = .ok (.if_icmp .eq 60, 3) := by decide +kernel
theorem dL_law_1231 : decode cL_law 1231 = .ok (.iconst 0, 1) := by decide +kernel
theorem dL_law_1232 : decode cL_law 1232 = .ok (.ireturn, 1) := by decide +kernel
theorem dL_law_1233 : decode cL_law 1233 = .ok (.aload_n 1, 1) := by decide +kernel
theorem dL_law_1234 : decode cL_law 1234 = .ok (.invokevirtual 139, 3) := by decide +kernel
theorem dL_law_1237 : decode cL_law 1237 = .ok (.dstore 5, 2) := by decide +kernel
theorem dL_law_1239 : decode cL_law 1239 = .ok (.aload_n 2, 1) := by decide +kernel
theorem dL_law_1240 : decode cL_law 1240 = .ok (.invokevirtual 143, 3) := by decide +kernel
theorem dL_law_1243 : decode cL_law 1243 = .ok (.dstore 7, 2) := by decide +kernel
theorem dL_law_1245 : decode cL_law 1245 = .ok (.dload 5, 2) := by decide +kernel
theorem dL_law_1247 : decode cL_law 1247 = .ok (.dload 7, 2) := by decide +kernel
theorem dL_law_1249 : decode cL_law 1249 = .ok (.dcmp .l, 1) := by decide +kernel
theorem dL_law_1250 : decode cL_law 1250 = .ok (.ifCond .eq 21, 3) := by decide +kernel
theorem dL_law_1253 : decode cL_law 1253 = .ok (.dload 5, 2) := by decide +kernel
theorem dL_law_1255 : decode cL_law 1255 = .ok (.dload 5, 2) := by decide +kernel
theorem dL_law_1257 : decode cL_law 1257 = .ok (.dcmp .l, 1) := by decide +kernel
theorem dL_law_1258 : decode cL_law 1258 = .ok (.ifCond .eq 11, 3) := by decide +kernel
theorem dL_law_1261 : decode cL_law 1261 = .ok (.dload 7, 2) := by decide +kernel
theorem dL_law_1263 : decode cL_law 1263 = .ok (.dload 7, 2) := by decide +kernel
theorem dL_law_1265 : decode cL_law 1265 = .ok (.dcmp .l, 1) := by decide +kernel
theorem dL_law_1266 : decode cL_law 1266 = .ok (.ifCond .ne 5, 3) := by decide +kernel
theorem dL_law_1269 : decode cL_law 1269 = .ok (.iconst 0, 1) := by decide +kernel
theorem dL_law_1270 : decode cL_law 1270 = .ok (.ireturn, 1) := by decide +kernel
theorem dL_law_1271 : decode cL_law 1271 = .ok (.goto 17, 3) := by decide +kernel
theorem dL_law_1274 : decode cL_law 1274 = .ok (.aload_n 1, 1) := by decide +kernel
theorem dL_law_1275 : decode cL_law 1275 = .ok (.invokevirtual 144, 3) := by decide +kernel
theorem dL_law_1278 : decode cL_law 1278 = .ok (.aload_n 2, 1) := by decide +kernel
theorem dL_law_1279 : decode cL_law 1279 = .ok (.invokevirtual 148, 3) := by decide +kernel
theorem dL_law_1282 : decode cL_law 1282 = .ok (.lcmp, 1) := by decide +kernel
theorem dL_law_1283 : decode cL_law 1283 = .ok (.ifCond .eq 5, 3) := by decide +kernel
theorem dL_law_1286 : decode cL_law 1286 = .ok (.iconst 0, 1) := by decide +kernel
theorem dL_law_1287 : decode cL_law 1287 = .ok (.ireturn, 1) := by decide +kernel
theorem dL_law_1288 : decode cL_law 1288 = .ok (.iinc 4 6, 3) := by decide +kernel
theorem dL_law_1291 : decode cL_law 1291 = .ok (.goto (-1268), 3) := by decide +kernel
theorem dL_law_1294 : decode cL_law 1294 = .ok (.iconst 1, 1) := by decide +kernel
theorem dL_law_1295 : decode cL_law 1295 = .ok (.ireturn, 1) := by decide +kernel
abbrev vwCl : List vw_C := [(RX0, TX0, 11), (RX1, TX1, 9), (RX2, TX2, 2), (RX3, TX3, 16), (RX4, TX4, 3)]
end
section
/-! numbers: an int is iZ of an integer -/
def iZ (a : Int) : Int32 := Int32.ofInt a
def rg (a : Int) : Prop := -2147483648 ≤ a ∧ a < 2147483648
theorem iZ_toInt {a : Int} (h : rg a) : (iZ a).toInt = a := by
  obtain ⟨h1, h2⟩ := h
  unfold iZ
  rw [Int32.toInt_ofInt]
  show Int.bmod a 4294967296 = a
  simp only [Int.bmod]
  omega
theorem iZ_of (x : Int32) : iZ x.toInt = x := by unfold iZ; exact Int32.ofInt_toInt x
theorem rg_toInt (x : Int32) : rg x.toInt := ⟨Int32.le_toInt x, Int32.toInt_lt x⟩
theorem iZ_add (a b : Int) : iZ a + iZ b = iZ (a + b) := by unfold iZ; exact (Int32.ofInt_add a b).symm
theorem iZ_sub (a b : Int) : iZ a - iZ b = iZ (a - b) := by unfold iZ; exact (Int32.ofInt_sub a b).symm
theorem iZ_mul (a b : Int) : iZ a * iZ b = iZ (a * b) := by unfold iZ; exact (Int32.ofInt_mul a b).symm
theorem iZ_inj {a b : Int} (ha : rg a) (hb : rg b) (h : iZ a = iZ b) : a = b := by rw [← iZ_toInt ha, ← iZ_toInt hb, h]
theorem iZ_eq {a b : Int} (ha : rg a) (hb : rg b) : iZ a = iZ b ↔ a = b := ⟨iZ_inj ha hb, fun h => by rw [h]⟩
theorem iZ_lt {a b : Int} (ha : rg a) (hb : rg b) : iZ a < iZ b ↔ a < b := by rw [Int32.lt_iff_toInt_lt, iZ_toInt ha, iZ_toInt hb]
theorem iZ_le {a b : Int} (ha : rg a) (hb : rg b) : iZ a ≤ iZ b ↔ a ≤ b := by rw [Int32.le_iff_toInt_le, iZ_toInt ha, iZ_toInt hb]
theorem iZ_0 : iZ 0 = 0 := rfl
theorem rg_0 : rg 0 := ⟨by decide, by decide⟩
theorem iZ_clamp {a : Int} (h : rg a) : (iZ a).toNatClampNeg = a.toNat := by
  rw [← Int32.toNat_toInt, iZ_toInt h]
theorem iZ_in {a : Int} {n : Nat} (h0 : 0 ≤ a) (h1 : a < n) (h2 : n < 2147483648) : vp_in (iZ a) n := by
  have h : rg a := ⟨by omega, by omega⟩
  refine vp_in_iff.mpr ?_
  rw [iZ_toInt h]
  exact ⟨h0, h1⟩
/-! the tables' words that hold in every state of the run -/
def isN : Cond → Bool
  | .fieldLinkNest _ _ _ _ _ _ => true
  | .methodLinkNest _ _ _ _ => true
  | .castable _ _ => true
  | .declares _ => true
  | .arrayOver (.object _) => true
  | _ => false
def tbw (w : Cond) : Bool := goodWord w || isN w
def tbl : List Cond := lw_tbl.filter tbw
def TB (U : State) : Prop := ∀ (a : Array Value), ∀ w ∈ tbl, w.before a U = true
theorem TB.warm {s U : State} (hW : s.WarmedH U.vm) (h : TB s) : TB U := by
  intro a w hw
  have h1 := (List.mem_filter.mp hw).2
  unfold tbw at h1
  rw [Bool.or_eq_true] at h1
  rcases h1 with h1 | h1
  · exact word_at hW (good_of_word h1) (h #[] w hw)
  · cases w with
    | fieldLinkNest a1 a2 a3 a4 a5 a6 => exact va_Nw.use rfl (va_Nw.warmF hW (h #[] _ hw))
    | methodLinkNest a1 a2 a3 a4 => exact va_Nw.use rfl (va_Nw.warmM hW (h #[] _ hw))
    | castable a1 a2 => exact va_Nw.use rfl (va_Nw.warmC hW (h #[] _ hw))
    | declares a1 => exact va_Nw.use rfl (va_Nw.warmD hW (h #[] _ hw))
    | arrayOver ty =>
      cases ty with
      | object C => exact va_AO.use (va_AO.moved hW.alike (va_AO.of (h #[] _ hw)))
      | _ => exact absurd h1 (by simp [isN])
    | _ => exact absurd h1 (by simp [isN])
theorem TB.same {s U : State} (hv : s.vm = U.vm) (h : TB s) : TB U := TB.warm (by rw [← hv]; exact State.WarmedH.refl s) h
theorem TB.of {a : Array Value} {s : State} (h : ∀ w ∈ lw_tbl, w.before a s = true) : TB s := by
  intro a' w hw
  obtain ⟨h0, h1⟩ := List.mem_filter.mp hw
  unfold tbw at h1
  rw [Bool.or_eq_true] at h1
  rcases h1 with h1 | h1
  · exact word_at (State.WarmedH.refl s) (good_of_word h1) (h w h0)
  · have hb := h w h0
    cases w with
    | fieldLinkNest a1 a2 a3 a4 a5 a6 => exact va_Nw.use rfl (va_Nw.of rfl hb)
    | methodLinkNest a1 a2 a3 a4 => exact va_Nw.use rfl (va_Nw.of rfl hb)
    | castable a1 a2 => exact va_Nw.use rfl (va_Nw.of rfl hb)
    | declares a1 => exact va_Nw.use rfl (va_Nw.of rfl hb)
    | arrayOver ty =>
      cases ty with
      | object C => exact va_AO.use (va_AO.of hb)
      | _ => exact absurd h1 (by simp [isN])
    | _ => exact absurd h1 (by simp [isN])
theorem tin {w : Cond} (i : Nat) (h : lw_tbl[i]? = some w) (g : tbw w = true) : w ∈ tbl := List.mem_filter.mpr ⟨List.mem_of_getElem? h, g⟩
/-! the walk: a method's frame over a world -/
abbrev GT : Type := va_G × ClassId × ClassId
def tyl (g : GT) : List (ClassId × FieldType) := [(g.2.1, .int), (g.2.2, .object RX0)]
abbrev CT : Type := Program × Launch × Env × Room × State × MethodId × Array Value × List Frame × Method × Code × GT × Nat × (Nat → Prop) × Heap × (State → Prop)
def FX (x : CT) (l : Launch) (R : Room) (g : GT) (nL : Nat) (cc : ByteArray) (own : String) : Prop := match x with
  | (p, l', _, R', s, m, _, _, meth, c, g', nL', A, H0, _) => l' = l ∧ R' = R ∧ g' = g ∧ nL' = nL ∧ p.tables.exec = Jvm.exec ∧ c.code = cc ∧ c.maxLocals = nL ∧ s.vm.findClass own = some m.cls ∧ TB s ∧ va_K g.1 vwCl (tyl g) s ∧ meth.locks = false ∧ (∀ q, H0.size ≤ q → A q)
def V (x : CT) (k n : Nat) (ws : va_W) (pc : Nat) (lv : List (Nat × Value)) (st : List Value) : Prop := match x with
  | (p, l, e, R, s, m, args, below, meth, c, g, nL, A, H0, Q) => ∀ (H : Heap) (locs : List Loc) (ls : Array Slot), va_P g.1 vwCl ws H → va_D A ws → va_S A H0 H locs → lv_has ls nL lv →
      W p l e R s m args below meth c H locs k n Q (F0 m pc ls st)
section VR
variable {x : CT} {l : Launch} {R : Room} {g : GT} {nL : Nat} {cc : ByteArray} {own : String} {k n : Nat} {ws : va_W} {pc : Nat} {lv : List (Nat × Value)} {st : List Value}
theorem V_aload_n (hx : FX x l R g nL cc own) {i : Fin 4} {v : Nat} (hd : decode cc pc = .ok (.aload_n i, 1)) (j : Nat) (hl : lv[j]? = some ((i : Nat), .ref v)) (kk : V x k n ws (pc + 1) lv (.ref v :: st)) : V x k n ws pc lv st := by
  obtain ⟨p, l', e, R', s, m, args, below, meth, c, g', nL', A, H0, Q⟩ := x
  obtain ⟨rfl, rfl, rfl, rfl, hx, hb, hml, hown, hts, hK, hlk, hA⟩ := hx
  intro H locs ls hP hD hS h
  exact lv_aload_n hx hb hd rfl (lv_at h j hl) (kk H locs ls hP hD hS h)
theorem V_aload (hx : FX x l R g nL cc own) {i : Nat} {v : Nat} (hd : decode cc pc = .ok (.aload i, 2)) (j : Nat) (hl : lv[j]? = some (i, .ref v)) (kk : V x k n ws (pc + 2) lv (.ref v :: st)) : V x k n ws pc lv st := by
  obtain ⟨p, l', e, R', s, m, args, below, meth, c, g', nL', A, H0, Q⟩ := x
  obtain ⟨rfl, rfl, rfl, rfl, hx, hb, hml, hown, hts, hK, hlk, hA⟩ := hx
  intro H locs ls hP hD hS h
  exact lv_aload hx hb hd (lv_at h j hl) (kk H locs ls hP hD hS h)
theorem V_iload_n (hx : FX x l R g nL cc own) {i : Fin 4} {v : Int32} (hd : decode cc pc = .ok (.iload_n i, 1)) (j : Nat) (hl : lv[j]? = some ((i : Nat), .int v)) (kk : V x k n ws (pc + 1) lv (.int v :: st)) : V x k n ws pc lv st := by
  obtain ⟨p, l', e, R', s, m, args, below, meth, c, g', nL', A, H0, Q⟩ := x
  obtain ⟨rfl, rfl, rfl, rfl, hx, hb, hml, hown, hts, hK, hlk, hA⟩ := hx
  intro H locs ls hP hD hS h
  exact lv_iload_n hx hb hd rfl (lv_at h j hl) (kk H locs ls hP hD hS h)
theorem V_iload (hx : FX x l R g nL cc own) {i : Nat} {v : Int32} (hd : decode cc pc = .ok (.iload i, 2)) (j : Nat) (hl : lv[j]? = some (i, .int v)) (kk : V x k n ws (pc + 2) lv (.int v :: st)) : V x k n ws pc lv st := by
  obtain ⟨p, l', e, R', s, m, args, below, meth, c, g', nL', A, H0, Q⟩ := x
  obtain ⟨rfl, rfl, rfl, rfl, hx, hb, hml, hown, hts, hK, hlk, hA⟩ := hx
  intro H locs ls hP hD hS h
  exact lv_iload hx hb hd (lv_at h j hl) (kk H locs ls hP hD hS h)
theorem V_lload_n (hx : FX x l R g nL cc own) {i : Fin 4} {v : Int64} (hd : decode cc pc = .ok (.lload_n i, 1)) (j : Nat) (hl : lv[j]? = some ((i : Nat), .long v)) (kk : V x k n ws (pc + 1) lv (.long v :: st)) : V x k n ws pc lv st := by
  obtain ⟨p, l', e, R', s, m, args, below, meth, c, g', nL', A, H0, Q⟩ := x
  obtain ⟨rfl, rfl, rfl, rfl, hx, hb, hml, hown, hts, hK, hlk, hA⟩ := hx
  intro H locs ls hP hD hS h
  exact lv_lload_n hx hb hd rfl (lv_at h j hl) (kk H locs ls hP hD hS h)
theorem V_astore_n (hx : FX x l R g nL cc own) {i : Fin 4} {v : Nat} (hd : decode cc pc = .ok (.astore_n i, 1)) (lv' : List (Nat × Value)) (hn : (i : Nat) < nL) (hl : ((i : Nat), Value.ref v) :: lv.filter (fun q => !(q.1 == (i : Nat)) && !(q.1 + 1 == (i : Nat) && q.2.category == 2)) = lv') (kk : V x k n ws (pc + 1) lv' st) : V x k n ws pc lv (.ref v :: st) := by
  obtain ⟨p, l', e, R', s, m, args, below, meth, c, g', nL', A, H0, Q⟩ := x
  obtain ⟨rfl, rfl, rfl, rfl, hx, hb, hml, hown, hts, hK, hlk, hA⟩ := hx
  intro H locs ls hP hD hS h
  exact lv_astore_n hx hb hd rfl h hn hl (fun ls' h' => kk H locs ls' hP hD hS h')
theorem V_astore (hx : FX x l R g nL cc own) {i : Nat} {v : Nat} (hd : decode cc pc = .ok (.astore i, 2)) (lv' : List (Nat × Value)) (hn : i < nL) (hl : (i, Value.ref v) :: lv.filter (fun q => !(q.1 == i) && !(q.1 + 1 == i && q.2.category == 2)) = lv') (kk : V x k n ws (pc + 2) lv' st) : V x k n ws pc lv (.ref v :: st) := by
  obtain ⟨p, l', e, R', s, m, args, below, meth, c, g', nL', A, H0, Q⟩ := x
  obtain ⟨rfl, rfl, rfl, rfl, hx, hb, hml, hown, hts, hK, hlk, hA⟩ := hx
  intro H locs ls hP hD hS h
  exact lv_astore hx hb hd h hn hl (fun ls' h' => kk H locs ls' hP hD hS h')
theorem V_istore_n (hx : FX x l R g nL cc own) {i : Fin 4} {v : Int32} (hd : decode cc pc = .ok (.istore_n i, 1)) (lv' : List (Nat × Value)) (hn : (i : Nat) < nL) (hl : ((i : Nat), Value.int v) :: lv.filter (fun q => !(q.1 == (i : Nat)) && !(q.1 + 1 == (i : Nat) && q.2.category == 2)) = lv') (kk : V x k n ws (pc + 1) lv' st) : V x k n ws pc lv (.int v :: st) := by
  obtain ⟨p, l', e, R', s, m, args, below, meth, c, g', nL', A, H0, Q⟩ := x
  obtain ⟨rfl, rfl, rfl, rfl, hx, hb, hml, hown, hts, hK, hlk, hA⟩ := hx
  intro H locs ls hP hD hS h
  exact lv_istore_n hx hb hd rfl h hn hl (fun ls' h' => kk H locs ls' hP hD hS h')
theorem V_istore (hx : FX x l R g nL cc own) {i : Nat} {v : Int32} (hd : decode cc pc = .ok (.istore i, 2)) (lv' : List (Nat × Value)) (hn : i < nL) (hl : (i, Value.int v) :: lv.filter (fun q => !(q.1 == i) && !(q.1 + 1 == i && q.2.category == 2)) = lv') (kk : V x k n ws (pc + 2) lv' st) : V x k n ws pc lv (.int v :: st) := by
  obtain ⟨p, l', e, R', s, m, args, below, meth, c, g', nL', A, H0, Q⟩ := x
  obtain ⟨rfl, rfl, rfl, rfl, hx, hb, hml, hown, hts, hK, hlk, hA⟩ := hx
  intro H locs ls hP hD hS h
  exact lv_istore hx hb hd h hn hl (fun ls' h' => kk H locs ls' hP hD hS h')
theorem V_lstore_n (hx : FX x l R g nL cc own) {i : Fin 4} {v : Int64} (hd : decode cc pc = .ok (.lstore_n i, 1)) (lv' : List (Nat × Value)) (hn : (i : Nat) + 1 < nL) (hl : ((i : Nat), Value.long v) :: lv.filter (fun q => !(q.1 == (i : Nat)) && (!(q.1 == (i : Nat) + 1) && !(q.1 + 1 == (i : Nat) && q.2.category == 2))) = lv') (kk : V x k n ws (pc + 1) lv' st) : V x k n ws pc lv (.long v :: st) := by
  obtain ⟨p, l', e, R', s, m, args, below, meth, c, g', nL', A, H0, Q⟩ := x
  obtain ⟨rfl, rfl, rfl, rfl, hx, hb, hml, hown, hts, hK, hlk, hA⟩ := hx
  intro H locs ls hP hD hS h
  exact lv_lstore_n hx hb hd rfl h hn hl (fun ls' h' => kk H locs ls' hP hD hS h')
theorem V_iinc (hx : FX x l R g nL cc own) {i : Nat} {d : Int} {a : Int} (hd : decode cc pc = .ok (.iinc i d, 3)) (j : Nat) (hk : lv[j]? = some (i, .int (iZ a))) (lv' : List (Nat × Value)) (hn : i < nL) (hl : (i, Value.int (iZ (a + d))) :: lv.filter (fun q => !(q.1 == i) && !(q.1 + 1 == i && q.2.category == 2)) = lv') (kk : V x k n ws (pc + 3) lv' st) : V x k n ws pc lv st := by
  obtain ⟨p, l', e, R', s, m, args, below, meth, c, g', nL', A, H0, Q⟩ := x
  obtain ⟨rfl, rfl, rfl, rfl, hx, hb, hml, hown, hts, hK, hlk, hA⟩ := hx
  intro H locs ls hP hD hS h
  exact lv_iinc (v := iZ (a + d)) hx hb hd h hk (iZ_add a d) hn hl (fun ls' h' => kk H locs ls' hP hD hS h')
theorem V_iconst (hx : FX x l R g nL cc own) {d : Int} (hd : decode cc pc = .ok (.iconst d, 1)) (kk : V x k n ws (pc + 1) lv (.int (iZ d) :: st)) : V x k n ws pc lv st := by
  obtain ⟨p, l', e, R', s, m, args, below, meth, c, g', nL', A, H0, Q⟩ := x
  obtain ⟨rfl, rfl, rfl, rfl, hx, hb, hml, hown, hts, hK, hlk, hA⟩ := hx
  intro H locs ls hP hD hS h
  exact lv_iconst hx hb hd rfl (kk H locs ls hP hD hS h)
theorem V_bipush (hx : FX x l R g nL cc own) {d : Int} (hd : decode cc pc = .ok (.bipush d, 2)) (hv : (Int8.ofInt d).toInt32 = iZ d) (kk : V x k n ws (pc + 2) lv (.int (iZ d) :: st)) : V x k n ws pc lv st := by
  obtain ⟨p, l', e, R', s, m, args, below, meth, c, g', nL', A, H0, Q⟩ := x
  obtain ⟨rfl, rfl, rfl, rfl, hx, hb, hml, hown, hts, hK, hlk, hA⟩ := hx
  intro H locs ls hP hD hS h
  exact lv_bipush hx hb hd hv (kk H locs ls hP hD hS h)
theorem V_sipush (hx : FX x l R g nL cc own) {d : Int} (hd : decode cc pc = .ok (.sipush d, 3)) (hv : (Int16.ofInt d).toInt32 = iZ d) (kk : V x k n ws (pc + 3) lv (.int (iZ d) :: st)) : V x k n ws pc lv st := by
  obtain ⟨p, l', e, R', s, m, args, below, meth, c, g', nL', A, H0, Q⟩ := x
  obtain ⟨rfl, rfl, rfl, rfl, hx, hb, hml, hown, hts, hK, hlk, hA⟩ := hx
  intro H locs ls hP hD hS h
  exact lv_sipush hx hb hd hv (kk H locs ls hP hD hS h)
theorem V_lconst (hx : FX x l R g nL cc own) {d : Fin 2} {v : Int64} (hd : decode cc pc = .ok (.lconst d, 1)) (hv : Int64.ofNat (d : Nat) = v) (kk : V x k n ws (pc + 1) lv (.long v :: st)) : V x k n ws pc lv st := by
  obtain ⟨p, l', e, R', s, m, args, below, meth, c, g', nL', A, H0, Q⟩ := x
  obtain ⟨rfl, rfl, rfl, rfl, hx, hb, hml, hown, hts, hK, hlk, hA⟩ := hx
  intro H locs ls hP hD hS h
  exact lv_lconst hx hb hd hv (kk H locs ls hP hD hS h)
theorem V_ldc2 (hx : FX x l R g nL cc own) {i : Nat} {v : Int64} (hd : decode cc pc = .ok (.ldc2_w i, 3)) (hq : Cond.constantLong own i v ∈ tbl) (kk : V x k n ws (pc + 3) lv (.long v :: st)) : V x k n ws pc lv st := by
  obtain ⟨p, l', e, R', s, m, args, below, meth, c, g', nL', A, H0, Q⟩ := x
  obtain ⟨rfl, rfl, rfl, rfl, hx, hb, hml, hown, hts, hK, hlk, hA⟩ := hx
  intro H locs ls hP hD hS h
  exact lv_ldc2 hx hb hown (hts _ _ hq) hd (kk H locs ls hP hD hS h)
theorem V_iadd (hx : FX x l R g nL cc own) {a b : Int} (hd : decode cc pc = .ok (.iadd, 1)) (kk : V x k n ws (pc + 1) lv (.int (iZ (a + b)) :: st)) : V x k n ws pc lv (.int (iZ b) :: .int (iZ a) :: st) := by
  rw [← iZ_add] at kk
  obtain ⟨p, l', e, R', s, m, args, below, meth, c, g', nL', A, H0, Q⟩ := x
  obtain ⟨rfl, rfl, rfl, rfl, hx, hb, hml, hown, hts, hK, hlk, hA⟩ := hx
  intro H locs ls hP hD hS h
  exact lv_iadd hx hb hd (kk H locs ls hP hD hS h)
theorem V_isub (hx : FX x l R g nL cc own) {a b : Int} (hd : decode cc pc = .ok (.isub, 1)) (kk : V x k n ws (pc + 1) lv (.int (iZ (a - b)) :: st)) : V x k n ws pc lv (.int (iZ b) :: .int (iZ a) :: st) := by
  rw [← iZ_sub] at kk
  obtain ⟨p, l', e, R', s, m, args, below, meth, c, g', nL', A, H0, Q⟩ := x
  obtain ⟨rfl, rfl, rfl, rfl, hx, hb, hml, hown, hts, hK, hlk, hA⟩ := hx
  intro H locs ls hP hD hS h
  exact lv_isub hx hb hd (kk H locs ls hP hD hS h)
theorem V_imul (hx : FX x l R g nL cc own) {a b : Int} (hd : decode cc pc = .ok (.imul, 1)) (kk : V x k n ws (pc + 1) lv (.int (iZ (a * b)) :: st)) : V x k n ws pc lv (.int (iZ b) :: .int (iZ a) :: st) := by
  rw [← iZ_mul] at kk
  obtain ⟨p, l', e, R', s, m, args, below, meth, c, g', nL', A, H0, Q⟩ := x
  obtain ⟨rfl, rfl, rfl, rfl, hx, hb, hml, hown, hts, hK, hlk, hA⟩ := hx
  intro H locs ls hP hD hS h
  exact lv_imul hx hb hd (kk H locs ls hP hD hS h)
theorem V_dup (hx : FX x l R g nL cc own) {v : Value} (hd : decode cc pc = .ok (.dup, 1)) (hv : v.category = 1) (kk : V x k n ws (pc + 1) lv (v :: v :: st)) : V x k n ws pc lv (v :: st) := by
  obtain ⟨p, l', e, R', s, m, args, below, meth, c, g', nL', A, H0, Q⟩ := x
  obtain ⟨rfl, rfl, rfl, rfl, hx, hb, hml, hown, hts, hK, hlk, hA⟩ := hx
  intro H locs ls hP hD hS h
  exact lv_dup hx hb hd hv (kk H locs ls hP hD hS h)
theorem V_dup2 (hx : FX x l R g nL cc own) {v w : Value} (hd : decode cc pc = .ok (.dup2, 1)) (hv : v.category = 1) (hw : w.category = 1) (kk : V x k n ws (pc + 1) lv (v :: w :: v :: w :: st)) : V x k n ws pc lv (v :: w :: st) := by
  obtain ⟨p, l', e, R', s, m, args, below, meth, c, g', nL', A, H0, Q⟩ := x
  obtain ⟨rfl, rfl, rfl, rfl, hx, hb, hml, hown, hts, hK, hlk, hA⟩ := hx
  intro H locs ls hP hD hS h
  exact lv_dup2_11 hx hb hd hv hw (kk H locs ls hP hD hS h)
theorem V_pop (hx : FX x l R g nL cc own) {v : Value} (hd : decode cc pc = .ok (.pop, 1)) (hv : v.category = 1) (kk : V x k n ws (pc + 1) lv st) : V x k n ws pc lv (v :: st) := by
  obtain ⟨p, l', e, R', s, m, args, below, meth, c, g', nL', A, H0, Q⟩ := x
  obtain ⟨rfl, rfl, rfl, rfl, hx, hb, hml, hown, hts, hK, hlk, hA⟩ := hx
  intro H locs ls hP hD hS h
  exact lv_pop hx hb hd hv (kk H locs ls hP hD hS h)
theorem V_goto (hx : FX x l R g nL cc own) {off : Int} (hd : decode cc pc = .ok (.goto off, 3)) (tgt : Nat) (ht : (pc : Int) + off = (tgt : Int)) (kk : V x k n ws tgt lv st) : V x k n ws pc lv st := by
  obtain ⟨p, l', e, R', s, m, args, below, meth, c, g', nL', A, H0, Q⟩ := x
  obtain ⟨rfl, rfl, rfl, rfl, hx, hb, hml, hown, hts, hK, hlk, hA⟩ := hx
  intro H locs ls hP hD hS h
  exact lv_goto hx hb hd ht (kk H locs ls hP hD hS h)
theorem V_icmp_lt (hx : FX x l R g nL cc own) {a b : Int} {off : Int} (hd : decode cc pc = .ok (.if_icmp .lt off, 3)) (tgt : Nat) (ht : (pc : Int) + off = (tgt : Int)) (ha : rg a) (hb : rg b) (k1 : a < b → V x k n ws tgt lv st) (k2 : ¬ (a < b) → V x k n ws (pc + 3) lv st) : V x k n ws pc lv (.int (iZ b) :: .int (iZ a) :: st) := by
  have ha9 := ha
  have hb9 := hb
  obtain ⟨p, l', e, R', s, m, args, below, meth, c, g', nL', A, H0, Q⟩ := x
  obtain ⟨rfl, rfl, rfl, rfl, hx, hb0, hml, hown, hts, hK, hlk, hA⟩ := hx
  intro H locs ls hP hD hS h
  exact lv_icmp_lt hx hb0 hd ht (fun h9 => k1 ((iZ_lt ha9 hb9).mp h9) H locs ls hP hD hS h) (fun h9 => k2 (fun e9 => h9 ((iZ_lt ha9 hb9).mpr e9)) H locs ls hP hD hS h)
theorem V_icmp_ge (hx : FX x l R g nL cc own) {a b : Int} {off : Int} (hd : decode cc pc = .ok (.if_icmp .ge off, 3)) (tgt : Nat) (ht : (pc : Int) + off = (tgt : Int)) (ha : rg a) (hb : rg b) (k1 : b ≤ a → V x k n ws tgt lv st) (k2 : ¬ (b ≤ a) → V x k n ws (pc + 3) lv st) : V x k n ws pc lv (.int (iZ b) :: .int (iZ a) :: st) := by
  have ha9 := ha
  have hb9 := hb
  obtain ⟨p, l', e, R', s, m, args, below, meth, c, g', nL', A, H0, Q⟩ := x
  obtain ⟨rfl, rfl, rfl, rfl, hx, hb0, hml, hown, hts, hK, hlk, hA⟩ := hx
  intro H locs ls hP hD hS h
  exact lv_icmp_ge hx hb0 hd ht (fun h9 => k1 ((iZ_le hb9 ha9).mp h9) H locs ls hP hD hS h) (fun h9 => k2 (fun e9 => h9 ((iZ_le hb9 ha9).mpr e9)) H locs ls hP hD hS h)
theorem V_icmp_gt (hx : FX x l R g nL cc own) {a b : Int} {off : Int} (hd : decode cc pc = .ok (.if_icmp .gt off, 3)) (tgt : Nat) (ht : (pc : Int) + off = (tgt : Int)) (ha : rg a) (hb : rg b) (k1 : b < a → V x k n ws tgt lv st) (k2 : ¬ (b < a) → V x k n ws (pc + 3) lv st) : V x k n ws pc lv (.int (iZ b) :: .int (iZ a) :: st) := by
  have ha9 := ha
  have hb9 := hb
  obtain ⟨p, l', e, R', s, m, args, below, meth, c, g', nL', A, H0, Q⟩ := x
  obtain ⟨rfl, rfl, rfl, rfl, hx, hb0, hml, hown, hts, hK, hlk, hA⟩ := hx
  intro H locs ls hP hD hS h
  exact lv_icmp_gt hx hb0 hd ht (fun h9 => k1 ((iZ_lt hb9 ha9).mp h9) H locs ls hP hD hS h) (fun h9 => k2 (fun e9 => h9 ((iZ_lt hb9 ha9).mpr e9)) H locs ls hP hD hS h)
theorem V_icmp_le (hx : FX x l R g nL cc own) {a b : Int} {off : Int} (hd : decode cc pc = .ok (.if_icmp .le off, 3)) (tgt : Nat) (ht : (pc : Int) + off = (tgt : Int)) (ha : rg a) (hb : rg b) (k1 : a ≤ b → V x k n ws tgt lv st) (k2 : ¬ (a ≤ b) → V x k n ws (pc + 3) lv st) : V x k n ws pc lv (.int (iZ b) :: .int (iZ a) :: st) := by
  have ha9 := ha
  have hb9 := hb
  obtain ⟨p, l', e, R', s, m, args, below, meth, c, g', nL', A, H0, Q⟩ := x
  obtain ⟨rfl, rfl, rfl, rfl, hx, hb0, hml, hown, hts, hK, hlk, hA⟩ := hx
  intro H locs ls hP hD hS h
  exact lv_icmp_le hx hb0 hd ht (fun h9 => k1 ((iZ_le ha9 hb9).mp h9) H locs ls hP hD hS h) (fun h9 => k2 (fun e9 => h9 ((iZ_le ha9 hb9).mpr e9)) H locs ls hP hD hS h)
theorem V_icmp_eq (hx : FX x l R g nL cc own) {a b : Int} {off : Int} (hd : decode cc pc = .ok (.if_icmp .eq off, 3)) (tgt : Nat) (ht : (pc : Int) + off = (tgt : Int)) (ha : rg a) (hb : rg b) (k1 : a = b → V x k n ws tgt lv st) (k2 : ¬ (a = b) → V x k n ws (pc + 3) lv st) : V x k n ws pc lv (.int (iZ b) :: .int (iZ a) :: st) := by
  have ha9 := ha
  have hb9 := hb
  obtain ⟨p, l', e, R', s, m, args, below, meth, c, g', nL', A, H0, Q⟩ := x
  obtain ⟨rfl, rfl, rfl, rfl, hx, hb0, hml, hown, hts, hK, hlk, hA⟩ := hx
  intro H locs ls hP hD hS h
  exact lv_icmp_eq hx hb0 hd ht (fun h9 => k1 ((iZ_eq ha9 hb9).mp h9) H locs ls hP hD hS h) (fun h9 => k2 (fun e9 => h9 ((iZ_eq ha9 hb9).mpr e9)) H locs ls hP hD hS h)
theorem V_icmp_ne (hx : FX x l R g nL cc own) {a b : Int} {off : Int} (hd : decode cc pc = .ok (.if_icmp .ne off, 3)) (tgt : Nat) (ht : (pc : Int) + off = (tgt : Int)) (ha : rg a) (hb : rg b) (k1 : a ≠ b → V x k n ws tgt lv st) (k2 : a = b → V x k n ws (pc + 3) lv st) : V x k n ws pc lv (.int (iZ b) :: .int (iZ a) :: st) := by
  have ha9 := ha
  have hb9 := hb
  obtain ⟨p, l', e, R', s, m, args, below, meth, c, g', nL', A, H0, Q⟩ := x
  obtain ⟨rfl, rfl, rfl, rfl, hx, hb0, hml, hown, hts, hK, hlk, hA⟩ := hx
  intro H locs ls hP hD hS h
  exact lv_icmp_ne hx hb0 hd ht (fun h9 => k1 (fun e9 => h9 (by rw [e9])) H locs ls hP hD hS h) (fun h9 => k2 (iZ_inj ha9 hb9 h9) H locs ls hP hD hS h)
theorem V_if_lt (hx : FX x l R g nL cc own) {a : Int} {off : Int} (hd : decode cc pc = .ok (.ifCond .lt off, 3)) (tgt : Nat) (ht : (pc : Int) + off = (tgt : Int)) (ha : rg a) (k1 : a < 0 → V x k n ws tgt lv st) (k2 : ¬ (a < 0) → V x k n ws (pc + 3) lv st) : V x k n ws pc lv (.int (iZ a) :: st) := by
  have ha9 := ha
  obtain ⟨p, l', e, R', s, m, args, below, meth, c, g', nL', A, H0, Q⟩ := x
  obtain ⟨rfl, rfl, rfl, rfl, hx, hb0, hml, hown, hts, hK, hlk, hA⟩ := hx
  intro H locs ls hP hD hS h
  exact lv_if_lt hx hb0 hd ht (fun h9 => k1 ((iZ_lt ha9 rg_0).mp h9) H locs ls hP hD hS h) (fun h9 => k2 (fun e9 => h9 ((iZ_lt ha9 rg_0).mpr e9)) H locs ls hP hD hS h)
theorem V_if_ge (hx : FX x l R g nL cc own) {a : Int} {off : Int} (hd : decode cc pc = .ok (.ifCond .ge off, 3)) (tgt : Nat) (ht : (pc : Int) + off = (tgt : Int)) (ha : rg a) (k1 : 0 ≤ a → V x k n ws tgt lv st) (k2 : ¬ (0 ≤ a) → V x k n ws (pc + 3) lv st) : V x k n ws pc lv (.int (iZ a) :: st) := by
  have ha9 := ha
  obtain ⟨p, l', e, R', s, m, args, below, meth, c, g', nL', A, H0, Q⟩ := x
  obtain ⟨rfl, rfl, rfl, rfl, hx, hb0, hml, hown, hts, hK, hlk, hA⟩ := hx
  intro H locs ls hP hD hS h
  exact lv_if_ge hx hb0 hd ht (fun h9 => k1 ((iZ_le rg_0 ha9).mp h9) H locs ls hP hD hS h) (fun h9 => k2 (fun e9 => h9 ((iZ_le rg_0 ha9).mpr e9)) H locs ls hP hD hS h)
theorem V_if_gt (hx : FX x l R g nL cc own) {a : Int} {off : Int} (hd : decode cc pc = .ok (.ifCond .gt off, 3)) (tgt : Nat) (ht : (pc : Int) + off = (tgt : Int)) (ha : rg a) (k1 : 0 < a → V x k n ws tgt lv st) (k2 : ¬ (0 < a) → V x k n ws (pc + 3) lv st) : V x k n ws pc lv (.int (iZ a) :: st) := by
  have ha9 := ha
  obtain ⟨p, l', e, R', s, m, args, below, meth, c, g', nL', A, H0, Q⟩ := x
  obtain ⟨rfl, rfl, rfl, rfl, hx, hb0, hml, hown, hts, hK, hlk, hA⟩ := hx
  intro H locs ls hP hD hS h
  exact lv_if_gt hx hb0 hd ht (fun h9 => k1 ((iZ_lt rg_0 ha9).mp h9) H locs ls hP hD hS h) (fun h9 => k2 (fun e9 => h9 ((iZ_lt rg_0 ha9).mpr e9)) H locs ls hP hD hS h)
theorem V_if_le (hx : FX x l R g nL cc own) {a : Int} {off : Int} (hd : decode cc pc = .ok (.ifCond .le off, 3)) (tgt : Nat) (ht : (pc : Int) + off = (tgt : Int)) (ha : rg a) (k1 : a ≤ 0 → V x k n ws tgt lv st) (k2 : ¬ (a ≤ 0) → V x k n ws (pc + 3) lv st) : V x k n ws pc lv (.int (iZ a) :: st) := by
  have ha9 := ha
  obtain ⟨p, l', e, R', s, m, args, below, meth, c, g', nL', A, H0, Q⟩ := x
  obtain ⟨rfl, rfl, rfl, rfl, hx, hb0, hml, hown, hts, hK, hlk, hA⟩ := hx
  intro H locs ls hP hD hS h
  exact lv_if_le hx hb0 hd ht (fun h9 => k1 ((iZ_le ha9 rg_0).mp h9) H locs ls hP hD hS h) (fun h9 => k2 (fun e9 => h9 ((iZ_le ha9 rg_0).mpr e9)) H locs ls hP hD hS h)
theorem V_if_eq (hx : FX x l R g nL cc own) {a : Int} {off : Int} (hd : decode cc pc = .ok (.ifCond .eq off, 3)) (tgt : Nat) (ht : (pc : Int) + off = (tgt : Int)) (ha : rg a) (k1 : a = 0 → V x k n ws tgt lv st) (k2 : ¬ (a = 0) → V x k n ws (pc + 3) lv st) : V x k n ws pc lv (.int (iZ a) :: st) := by
  have ha9 := ha
  obtain ⟨p, l', e, R', s, m, args, below, meth, c, g', nL', A, H0, Q⟩ := x
  obtain ⟨rfl, rfl, rfl, rfl, hx, hb0, hml, hown, hts, hK, hlk, hA⟩ := hx
  intro H locs ls hP hD hS h
  exact lv_if_eq hx hb0 hd ht (fun h9 => k1 ((iZ_eq ha9 rg_0).mp h9) H locs ls hP hD hS h) (fun h9 => k2 (fun e9 => h9 ((iZ_eq ha9 rg_0).mpr e9)) H locs ls hP hD hS h)
theorem V_if_ne (hx : FX x l R g nL cc own) {a : Int} {off : Int} (hd : decode cc pc = .ok (.ifCond .ne off, 3)) (tgt : Nat) (ht : (pc : Int) + off = (tgt : Int)) (ha : rg a) (k1 : a ≠ 0 → V x k n ws tgt lv st) (k2 : a = 0 → V x k n ws (pc + 3) lv st) : V x k n ws pc lv (.int (iZ a) :: st) := by
  have ha9 := ha
  obtain ⟨p, l', e, R', s, m, args, below, meth, c, g', nL', A, H0, Q⟩ := x
  obtain ⟨rfl, rfl, rfl, rfl, hx, hb0, hml, hown, hts, hK, hlk, hA⟩ := hx
  intro H locs ls hP hD hS h
  exact lv_if_ne hx hb0 hd ht (fun h9 => k1 (fun e9 => h9 (by rw [e9]; exact iZ_0)) H locs ls hP hD hS h) (fun h9 => k2 (iZ_inj ha9 rg_0 (h9.trans iZ_0.symm)) H locs ls hP hD hS h)
end VR
end
section
/-! truth as a number -/
noncomputable def bz (c : Prop) : Int := @ite Int c (Classical.propDecidable c) 1 0
theorem bz_t {c : Prop} (h : c) : bz c = 1 := by unfold bz; exact if_pos h
theorem bz_f {c : Prop} (h : ¬ c) : bz c = 0 := by unfold bz; exact if_neg h
theorem bz_01 (c : Prop) : bz c = 0 ∨ bz c = 1 := (Classical.em c).elim (fun h => Or.inr (bz_t h)) (fun h => Or.inl (bz_f h))
theorem rg_bz (c : Prop) : rg (bz c) := by rcases bz_01 c with h | h <;> rw [h] <;> exact ⟨by decide, by decide⟩
theorem bz_c {c d : Prop} (h : c ↔ d) : bz c = bz d := by rw [propext h]
theorem bz_nz (c : Prop) : narrow .boolean (.int (iZ (bz c))) = .int (iZ (bz c)) := by rcases bz_01 c with h | h <;> rw [h] <;> rfl
section VH
variable {x : CT} {l : Launch} {R : Room} {g : GT} {nL : Nat} {cc : ByteArray} {own : String} {k n : Nat} {ws : va_W} {pc : Nat} {lv : List (Nat × Value)} {st : List Value}
theorem V_ws {ws' : va_W} (h : ws = ws') (kk : V x k n ws' pc lv st) : V x k n ws pc lv st := by rw [h]; exact kk
theorem V_get (hx : FX x l R g nL cc own) {ref C : String} {T : u_T} {N ci index a : Nat} {fs : List Value} {v : Value} (hc : vwCl[ci]? = some (C, T, N)) (hin : ∀ w ∈ u_ws C T N, w ∈ tbl) (j : Nat) (hj : j < N) (hq : Cond.fieldLink own index ref (T j).2.1 (T j).2.2.1 ∈ tbl) (hs : (T j).1 = ref)
    (i : Nat) (he : ws[i]? = some (a, .inr (ci, fs))) (hv : fs[j]? = some v) (hd : decode cc pc = .ok (.getfield index, 3)) (kk : V x k n ws (pc + 3) lv (v :: st)) : V x k n ws pc lv (.ref a :: st) := by
  obtain ⟨p, l', e, R', s, m, args, below, meth, c, g', nL', A, H0, Q⟩ := x
  obtain ⟨rfl, rfl, rfl, rfl, hx, hb, hml, hown, hts, hK, hlk, hA⟩ := hx
  intro H locs ls hP hD hS h
  exact va_get (D := g'.1) hx hb (hts args) hin hown hK hP i he hc j hj (hts args _ hq) (fun _ h9 => by rw [← hs]; exact h9) hv hd (kk H locs ls hP hD hS h)
theorem V_getN (hx : FX x l R g nL cc own) {ref C host : String} {T : u_T} {N ci index a : Nat} {fs : List Value} {v : Value} (hc : vwCl[ci]? = some (C, T, N)) (hin : ∀ w ∈ u_ws C T N, w ∈ tbl) (j : Nat) (hj : j < N) (hq : Cond.fieldLinkNest own index ref (T j).2.1 (T j).2.2.1 host ∈ tbl) (hs : (T j).1 = ref)
    (i : Nat) (he : ws[i]? = some (a, .inr (ci, fs))) (hv : fs[j]? = some v) (hd : decode cc pc = .ok (.getfield index, 3)) (kk : V x k n ws (pc + 3) lv (v :: st)) : V x k n ws pc lv (.ref a :: st) := by
  obtain ⟨p, l', e, R', s, m, args, below, meth, c, g', nL', A, H0, Q⟩ := x
  obtain ⟨rfl, rfl, rfl, rfl, hx, hb, hml, hown, hts, hK, hlk, hA⟩ := hx
  intro H locs ls hP hD hS h
  exact va_getN (D := g'.1) hx hb (hts args) hin hown hK hP i he hc j hj (hts args _ hq) (fun _ h9 => by rw [← hs]; exact h9) hv hd (kk H locs ls hP hD hS h)
theorem V_put (hx : FX x l R g nL cc own) {ref C : String} {T : u_T} {N ci index a : Nat} {fs : List Value} {v : Value} (hc : vwCl[ci]? = some (C, T, N)) (hin : ∀ w ∈ u_ws C T N, w ∈ tbl) (ty0 : Nat → FieldType) (hty : ∀ k, k < N → parseFieldDescriptor (T k).2.2.1 = some (ty0 k)) (hnm : ∀ a, a < N → ∀ b, b < N → a ≠ b → (T a).2.1 ≠ (T b).2.1) (j : Nat) (hj : j < N) (hq : Cond.fieldLink own index ref (T j).2.1 (T j).2.2.1 ∈ tbl) (hs : (T j).1 = ref) (hfin : (T j).2.2.2 = false)
    {ty : FieldType} (hdsc : parseFieldDescriptor (T j).2.2.1 = some ty) (hn : narrow ty v = v) (hfit : fits ty v = true) (i : Nat) (he : ws[i]? = some (a, .inr (ci, fs))) (hl : j < fs.length) (ws' : va_W) (hw : ws.set i (a, .inr (ci, fs.set j v)) = ws') (hd : decode cc pc = .ok (.putfield index, 3)) (kk : V x k n ws' (pc + 3) lv st) : V x k n ws pc lv (v :: .ref a :: st) := by
  subst hw
  obtain ⟨p, l', e, R', s, m, args, below, meth, c, g', nL', A, H0, Q⟩ := x
  obtain ⟨rfl, rfl, rfl, rfl, hx, hb, hml, hown, hts, hK, hlk, hA⟩ := hx
  intro H locs ls hP hD hS h
  exact va_put (D := g'.1) hx hb (hts args) hin ty0 hty hnm hown hK hP hD hS i he hc j hj (hts args _ hq) (fun _ h9 => by rw [← hs]; exact h9) hfin hdsc hn hfit hl hd (fun H1 locs1 hP1 hD1 hS1 => kk H1 locs1 ls hP1 hD1 hS1 h)
theorem V_putN (hx : FX x l R g nL cc own) {ref C host : String} {T : u_T} {N ci index a : Nat} {fs : List Value} {v : Value} (hc : vwCl[ci]? = some (C, T, N)) (hin : ∀ w ∈ u_ws C T N, w ∈ tbl) (ty0 : Nat → FieldType) (hty : ∀ k, k < N → parseFieldDescriptor (T k).2.2.1 = some (ty0 k)) (hnm : ∀ a, a < N → ∀ b, b < N → a ≠ b → (T a).2.1 ≠ (T b).2.1) (j : Nat) (hj : j < N) (hq : Cond.fieldLinkNest own index ref (T j).2.1 (T j).2.2.1 host ∈ tbl) (hs : (T j).1 = ref) (hfin : (T j).2.2.2 = false)
    {ty : FieldType} (hdsc : parseFieldDescriptor (T j).2.2.1 = some ty) (hn : narrow ty v = v) (hfit : fits ty v = true) (i : Nat) (he : ws[i]? = some (a, .inr (ci, fs))) (hl : j < fs.length) (ws' : va_W) (hw : ws.set i (a, .inr (ci, fs.set j v)) = ws') (hd : decode cc pc = .ok (.putfield index, 3)) (kk : V x k n ws' (pc + 3) lv st) : V x k n ws pc lv (v :: .ref a :: st) := by
  subst hw
  obtain ⟨p, l', e, R', s, m, args, below, meth, c, g', nL', A, H0, Q⟩ := x
  obtain ⟨rfl, rfl, rfl, rfl, hx, hb, hml, hown, hts, hK, hlk, hA⟩ := hx
  intro H locs ls hP hD hS h
  exact va_putN (D := g'.1) hx hb (hts args) hin ty0 hty hnm hown hK hP hD hS i he hc j hj (hts args _ hq) (fun _ h9 => by rw [← hs]; exact h9) hfin hdsc hn hfit hl hd (fun H1 locs1 hP1 hD1 hS1 => kk H1 locs1 ls hP1 hD1 hS1 h)
theorem V_iald (hx : FX x l R g nL cc own) {a N : Nat} {f : Nat → Int32} {z : Int} (h0 : 0 ≤ z) (h1 : z < N) (h2 : N < 2147483648) (i : Nat) (ha : ws[i]? = some (a, .inl (g.2.1, N, .inl f))) {v : Int} (hv : f z.toNat = iZ v) (hd : decode cc pc = .ok (.iaload, 1)) (kk : V x k n ws (pc + 1) lv (.int (iZ v) :: st)) : V x k n ws pc lv (.int (iZ z) :: .ref a :: st) := by
  obtain ⟨p, l', e, R', s, m, args, below, meth, c, g', nL', A, H0, Q⟩ := x
  obtain ⟨rfl, rfl, rfl, rfl, hx, hb, hml, hown, hts, hK, hlk, hA⟩ := hx
  intro H locs ls hP hD hS h
  refine va_iald (D := g'.1) hx hb hK hP i 0 ha rfl (iZ_in h0 h1 h2) hd ?_
  rw [iZ_clamp ⟨by omega, by omega⟩, hv]
  exact kk H locs ls hP hD hS h
theorem V_iast (hx : FX x l R g nL cc own) {a N : Nat} {f : Nat → Int32} {z v : Int} (h0 : 0 ≤ z) (h1 : z < N) (h2 : N < 2147483648) (i : Nat) (ha : ws[i]? = some (a, .inl (g.2.1, N, .inl f))) (ws' : va_W) (hw : ws.set i (a, .inl (g.2.1, N, .inl (upd f z.toNat (iZ v)))) = ws') (hd : decode cc pc = .ok (.iastore, 1)) (kk : V x k n ws' (pc + 1) lv st) : V x k n ws pc lv (.int (iZ v) :: .int (iZ z) :: .ref a :: st) := by
  subst hw
  obtain ⟨p, l', e, R', s, m, args, below, meth, c, g', nL', A, H0, Q⟩ := x
  obtain ⟨rfl, rfl, rfl, rfl, hx, hb, hml, hown, hts, hK, hlk, hA⟩ := hx
  intro H locs ls hP hD hS h
  refine va_iast (D := g'.1) hx hb hK hP hD hS i 0 ha rfl (iZ_in h0 h1 h2) hd (fun H1 locs1 hP1 hD1 hS1 => ?_)
  rw [iZ_clamp ⟨by omega, by omega⟩] at hP1 hD1
  exact kk H1 locs1 ls hP1 hD1 hS1 h
theorem V_aald (hx : FX x l R g nL cc own) {a N : Nat} {f : Nat → Option Nat} {z : Int} (h0 : 0 ≤ z) (h1 : z < N) (h2 : N < 2147483648) (i : Nat) (ha : ws[i]? = some (a, .inl (g.2.2, N, .inr (.inr (.inr (.inr f)))))) {r : Nat} (hv : f z.toNat = some r) (hd : decode cc pc = .ok (.aaload, 1)) (kk : V x k n ws (pc + 1) lv (.ref r :: st)) : V x k n ws pc lv (.int (iZ z) :: .ref a :: st) := by
  obtain ⟨p, l', e, R', s, m, args, below, meth, c, g', nL', A, H0, Q⟩ := x
  obtain ⟨rfl, rfl, rfl, rfl, hx, hb, hml, hown, hts, hK, hlk, hA⟩ := hx
  intro H locs ls hP hD hS h
  refine va_aldq (D := g'.1) hx hb hK hP i 1 ha rfl (iZ_in h0 h1 h2) hd ?_
  rw [iZ_clamp ⟨by omega, by omega⟩, hv]
  exact kk H locs ls hP hD hS h
theorem V_alen (hx : FX x l R g nL cc own) {a : Nat} {y : vp_A} (i : Nat) (ha : ws[i]? = some (a, .inl (g.2.1, y))) {v : Int} (hv : (y.1 : Int) = v) (hd : decode cc pc = .ok (.arraylength, 1)) (kk : V x k n ws (pc + 1) lv (.int (iZ v) :: st)) : V x k n ws pc lv (.ref a :: st) := by
  subst hv
  obtain ⟨p, l', e, R', s, m, args, below, meth, c, g', nL', A, H0, Q⟩ := x
  obtain ⟨rfl, rfl, rfl, rfl, hx, hb, hml, hown, hts, hK, hlk, hA⟩ := hx
  intro H locs ls hP hD hS h
  exact va_alen (D := g'.1) hx hb hK hP i 0 ha rfl (v := iZ (y.1 : Int)) rfl hd (kk H locs ls hP hD hS h)
theorem V_iincN (hx : FX x l R g nL cc own) {i a : Nat} (hd : decode cc pc = .ok (.iinc i 1, 3)) (j : Nat) (hk : lv[j]? = some (i, .int (iZ (a : Int)))) (lv' : List (Nat × Value)) (hn : i < nL) (hl : (i, Value.int (iZ ((a + 1 : Nat) : Int))) :: lv.filter (fun q => !(q.1 == i) && !(q.1 + 1 == i && q.2.category == 2)) = lv') (kk : V x k n ws (pc + 3) lv' st) : V x k n ws pc lv st := V_iinc hx hd j hk lv' hn (by rw [← hl]; rfl) kk
theorem V_ifb_eq (hx : FX x l R g nL cc own) {c : Prop} {off : Int} (hd : decode cc pc = .ok (.ifCond .eq off, 3)) (tgt : Nat) (ht : (pc : Int) + off = (tgt : Int)) (k1 : ¬ c → V x k n ws tgt lv st) (k2 : c → V x k n ws (pc + 3) lv st) : V x k n ws pc lv (.int (iZ (bz c)) :: st) := V_if_eq hx hd tgt ht (rg_bz c) (fun h => k1 (fun hc => by rw [bz_t hc] at h; exact absurd h (by decide))) (fun h => k2 (Classical.byContradiction (fun hc => h (bz_f hc))))
theorem V_ifb_ne (hx : FX x l R g nL cc own) {c : Prop} {off : Int} (hd : decode cc pc = .ok (.ifCond .ne off, 3)) (tgt : Nat) (ht : (pc : Int) + off = (tgt : Int)) (k1 : c → V x k n ws tgt lv st) (k2 : ¬ c → V x k n ws (pc + 3) lv st) : V x k n ws pc lv (.int (iZ (bz c)) :: st) := V_if_ne hx hd tgt ht (rg_bz c) (fun h => k1 (Classical.byContradiction (fun hc => h (bz_f hc)))) (fun h => k2 (fun hc => by rw [bz_t hc] at h; exact absurd h (by decide)))
theorem V_tabIn (hx : FX x l R g nL cc own) {dflt lo hi : Int} {offs : Array Int} {len : Nat} {a : Int} {off : Int} (hd : decode cc pc = .ok (.tableswitch dflt lo hi offs, len)) (ha : rg a) (h1 : lo ≤ a) (h2 : a ≤ hi) (ho : offs[(a - lo).toNat]? = some off) (tgt : Nat) (ht : (pc : Int) + off = (tgt : Int)) (kk : V x k n ws tgt lv st) : V x k n ws pc lv (.int (iZ a) :: st) := by
  have ha9 := iZ_toInt ha
  obtain ⟨p, l', e, R', s, m, args, below, meth, c, g', nL', A, H0, Q⟩ := x
  obtain ⟨rfl, rfl, rfl, rfl, hx, hb, hml, hown, hts, hK, hlk, hA⟩ := hx
  intro H locs ls hP hD hS h
  exact lv_tableIn hx hb hd (by rw [ha9]; omega) (by rw [ha9]; omega) (by rw [ha9]; exact ho) ht (kk H locs ls hP hD hS h)
theorem V_tabOut (hx : FX x l R g nL cc own) {dflt lo hi : Int} {offs : Array Int} {len : Nat} {a : Int} (hd : decode cc pc = .ok (.tableswitch dflt lo hi offs, len)) (ha : rg a) (h1 : a < lo ∨ hi < a) (tgt : Nat) (ht : (pc : Int) + dflt = (tgt : Int)) (kk : V x k n ws tgt lv st) : V x k n ws pc lv (.int (iZ a) :: st) := by
  have ha9 := iZ_toInt ha
  obtain ⟨p, l', e, R', s, m, args, below, meth, c, g', nL', A, H0, Q⟩ := x
  obtain ⟨rfl, rfl, rfl, rfl, hx, hb, hml, hown, hts, hK, hlk, hA⟩ := hx
  intro H locs ls hP hD hS h
  exact lv_tableOut hx hb hd (by rw [ha9]; exact h1) ht (kk H locs ls hP hD hS h)
theorem V_lookup (hx : FX x l R g nL cc own) {dflt : Int} {ps : Array (Int × Int)} {len : Nat} {a off : Int} (hd : decode cc pc = .ok (.lookupswitch dflt ps, len)) (hp : (ps.toList.zip (ps.toList.drop 1)).all (fun (a, next) => a.1 < next.1) = true) (ha : rg a) (ho : Op.lookupswitch.offset ps.toList dflt a = off) (tgt : Nat) (ht : (pc : Int) + off = (tgt : Int)) (kk : V x k n ws tgt lv st) : V x k n ws pc lv (.int (iZ a) :: st) := by
  have ha9 := iZ_toInt ha
  obtain ⟨p, l', e, R', s, m, args, below, meth, c, g', nL', A, H0, Q⟩ := x
  obtain ⟨rfl, rfl, rfl, rfl, hx, hb, hml, hown, hts, hK, hlk, hA⟩ := hx
  intro H locs ls hP hD hS h
  exact lv_lookup hx hb hd hp (by rw [ha9]; exact ho) ht (kk H locs ls hP hD hS h)
theorem V_widen {k' n' : Nat} (h1 : k ≤ k') (h2 : n ≤ n') (kk : V x k' n' ws pc lv st) : V x k n ws pc lv st := by
  obtain ⟨p, l', e, R', s, m, args, below, meth, c, g', nL', A, H0, Q⟩ := x
  intro H locs ls hP hD hS h
  exact W.widen h1 h2 (kk H locs ls hP hD hS h)
theorem V_lv {lv' : List (Nat × Value)} (h : lv = lv') (kk : V x k n ws pc lv' st) : V x k n ws pc lv st := by rw [h]; exact kk
theorem V_sub {lv' : List (Nat × Value)} (is : List Nat) (h9 : lv_pick lv is = lv') (kk : V x k n ws pc lv' st) : V x k n ws pc lv st := by
  obtain ⟨p, l', e, R', s, m, args, below, meth, c, g', nL', A, H0, Q⟩ := x
  intro H locs ls hP hD hS h
  exact kk H locs ls hP hD hS (lv_sub h is h9)
end VH
/-! contracts -/
def K0 (g : GT) (as : List Value) (sz : Nat) (ws : va_W) : Array Value → State → Prop := va_Pc as (fun U => U.heap.size = sz ∧ TB U ∧ va_P g.1 vwCl ws U.heap ∧ va_K g.1 vwCl (tyl g) U ∧ va_D (fun _ => True) ws)
def KB (g : GT) (ws : va_W) (sz : Nat) : va_W → State → Prop := fun ws' t => va_P g.1 vwCl ws' t.heap ∧ va_D (va_A ws sz) ws'
def MI (l : Launch) (y : MethodName) (cc : ByteArray) (maxL : Nat) (ty : FieldType) (rm : Room) (g : GT) (as : List Value) (ws : va_W) (post : Int → va_W → Prop) : Prop :=
  ∀ sz, Met l y [.code y cc maxL (some ty)] rm (K0 g as sz ws) (va_Qi (fun r ws' => ∃ z, r = iZ z ∧ post z ws') (KB g ws sz) (va_A ws sz)) rm.cells rm.slots (va_A ws sz)
def MV (l : Launch) (y : MethodName) (cc : ByteArray) (maxL : Nat) (rm : Room) (g : GT) (as : List Value) (ws : va_W) (post : va_W → Prop) : Prop :=
  ∀ sz, Met l y [.code y cc maxL none] rm (K0 g as sz ws) (va_Qv post (KB g ws sz) (va_A ws sz)) rm.cells rm.slots (va_A ws sz)
def ML (l : Launch) (y : MethodName) (cc : ByteArray) (maxL : Nat) (rm : Room) (g : GT) (as : List Value) (ws : va_W) (post : Int64 → va_W → Prop) : Prop :=
  ∀ sz, Met l y [.code y cc maxL (some .long)] rm (K0 g as sz ws) (va_Ql post (KB g ws sz) (va_A ws sz)) rm.cells rm.slots (va_A ws sz)
theorem K0_blind {g : GT} {as : List Value} {sz : Nat} {ws : va_W} : FrameBlind (K0 g as sz ws) := by
  intro a U gg mk h
  obtain ⟨h1, h2, h3, h4, h5, h6⟩ := h
  exact ⟨h1, h2, TB.same (s := U) (U := U.calling gg mk a) rfl h3, h4, va_K.moved (u := U) (U := U.calling gg mk a) (Vm.Alike.refl U.vm) h5, h6⟩
/-- an int's end -/
theorem MI.of {own : String} {l : Launch} {y : MethodName} {cc : ByteArray} {maxL : Nat} {ty : FieldType} {rm : Room} {g : GT} {as : List Value} {ws : va_W} {post : Int → va_W → Prop} (hy : plainName y.cls = true) (ho : y.cls = own) (hL : (lg_sl as).length ≤ maxL)
    (body : ∀ x : CT, FX x l rm g maxL cc own → (∀ (pc : Nat) (lv : List (Nat × Value)) (z : Int) (ws' : va_W), decode cc pc = .ok (.ireturn, 1) → narrow ty (.int (iZ z)) = .int (iZ z) → post z ws' → V x rm.cells rm.slots ws' pc lv [.int (iZ z)]) → V x 0 0 ws 0 (lv_args 0 as) []) : MI l y cc maxL ty rm g as ws post := by
  subst ho
  intro sz
  refine Met.ofW (cc := cc) (maxL := maxL) (ret := some ty) hy rfl ?_
  intro p e s m args below meth c s₁ B hml hv
  obtain ⟨rfl, hsz, hT, hP, hK, hD0⟩ := hv
  subst hsz
  have hx := B.exec
  have hb := B.bytes
  have hr := B.returns
  have hown : s.vm.findClass y.cls = some m.cls := findClass_of_methodNamed B.named
  have hlocks := B.notSynchronized
  have hD := hD0.self (sz := s.heap.size)
  have hS : va_S (va_A ws s.heap.size) s.heap s.heap [] := va_S.rf
  have hl := lv_entry as (n := maxL) hL
  rw [lg_entry_eq]
  refine body (p, l, e, (headSpec [.code y cc maxL (some ty)] rm).room, s, m, as.toArray, below, meth, c, g, maxL, va_A ws s.heap.size, s.heap, _) ⟨rfl, rfl, rfl, rfl, hx, hb, hml, hown, hT, hK, hlocks, fun q h => Or.inr h⟩ ?_ s.heap [] _ hP hD hS hl
  intro pc lv z ws' hd hn hp H locs ls hP hD hS h
  exact W.zret hx hb hr hn (fun t ht hW => ⟨⟨iZ z, ws', rfl, ⟨z, rfl, hp⟩, by rw [ht]; exact hP, hD⟩, hS.F ht⟩) hS.2.2 hd hlocks
theorem MV.of {own : String} {l : Launch} {y : MethodName} {cc : ByteArray} {maxL : Nat} {rm : Room} {g : GT} {as : List Value} {ws : va_W} {post : va_W → Prop} (hy : plainName y.cls = true) (ho : y.cls = own) (hL : (lg_sl as).length ≤ maxL)
    (body : ∀ x : CT, FX x l rm g maxL cc own → (∀ (pc : Nat) (lv : List (Nat × Value)) (ws' : va_W), decode cc pc = .ok (.return_, 1) → post ws' → V x rm.cells rm.slots ws' pc lv []) → V x 0 0 ws 0 (lv_args 0 as) []) : MV l y cc maxL rm g as ws post := by
  subst ho
  intro sz
  refine Met.ofW (cc := cc) (maxL := maxL) (ret := none) hy rfl ?_
  intro p e s m args below meth c s₁ B hml hv
  obtain ⟨rfl, hsz, hT, hP, hK, hD0⟩ := hv
  subst hsz
  have hx := B.exec
  have hb := B.bytes
  have hr := B.returns
  have hown : s.vm.findClass y.cls = some m.cls := findClass_of_methodNamed B.named
  have hlocks := B.notSynchronized
  have hD := hD0.self (sz := s.heap.size)
  have hS : va_S (va_A ws s.heap.size) s.heap s.heap [] := va_S.rf
  have hl := lv_entry as (n := maxL) hL
  rw [lg_entry_eq]
  refine body (p, l, e, (headSpec [.code y cc maxL none] rm).room, s, m, as.toArray, below, meth, c, g, maxL, va_A ws s.heap.size, s.heap, _) ⟨rfl, rfl, rfl, rfl, hx, hb, hml, hown, hT, hK, hlocks, fun q h => Or.inr h⟩ ?_ s.heap [] _ hP hD hS hl
  intro pc lv ws' hd hp H locs ls hP hD hS h
  exact W.vret hx hb hr (fun t ht hW => ⟨⟨ws', rfl, hp, by rw [ht]; exact hP, hD⟩, hS.F ht⟩) hS.2.2 hd hlocks
theorem ML.of {own : String} {l : Launch} {y : MethodName} {cc : ByteArray} {maxL : Nat} {rm : Room} {g : GT} {as : List Value} {ws : va_W} {post : Int64 → va_W → Prop} (hy : plainName y.cls = true) (ho : y.cls = own) (hL : (lg_sl as).length ≤ maxL)
    (body : ∀ x : CT, FX x l rm g maxL cc own → (∀ (pc : Nat) (lv : List (Nat × Value)) (z : Int64) (ws' : va_W), decode cc pc = .ok (.lreturn, 1) → post z ws' → V x rm.cells rm.slots ws' pc lv [.long z]) → V x 0 0 ws 0 (lv_args 0 as) []) : ML l y cc maxL rm g as ws post := by
  subst ho
  intro sz
  refine Met.ofW (cc := cc) (maxL := maxL) (ret := some .long) hy rfl ?_
  intro p e s m args below meth c s₁ B hml hv
  obtain ⟨rfl, hsz, hT, hP, hK, hD0⟩ := hv
  subst hsz
  have hx := B.exec
  have hb := B.bytes
  have hr := B.returns
  have hown : s.vm.findClass y.cls = some m.cls := findClass_of_methodNamed B.named
  have hlocks := B.notSynchronized
  have hD := hD0.self (sz := s.heap.size)
  have hS : va_S (va_A ws s.heap.size) s.heap s.heap [] := va_S.rf
  have hl := lv_entry as (n := maxL) hL
  rw [lg_entry_eq]
  refine body (p, l, e, (headSpec [.code y cc maxL (some .long)] rm).room, s, m, as.toArray, below, meth, c, g, maxL, va_A ws s.heap.size, s.heap, _) ⟨rfl, rfl, rfl, rfl, hx, hb, hml, hown, hT, hK, hlocks, fun q h => Or.inr h⟩ ?_ s.heap [] _ hP hD hS hl
  intro pc lv z ws' hd hp H locs ls hP hD hS h
  exact W.lret hx hb hr (fun t ht hW => ⟨⟨z, ws', rfl, hp, by rw [ht]; exact hP, hD⟩, hS.F ht⟩) hS.2.2 hd hlocks
/-! calls -/
def CWD (own : String) (index : Nat) (y : MethodName) (bytes : ByteArray) (maxL : Nat) (ret : Option FieldType) (np : Nat) : Prop :=
  Cond.methodLink own index y ∈ tbl ∧ Cond.instanceMethod y ∈ tbl ∧ Cond.selects y.cls y y ∈ tbl ∧ Cond.code y bytes maxL ret ∈ tbl ∧ Cond.initialized y.cls ∈ tbl ∧ (y.cls ≠ "java/lang/invoke/MethodHandle" ∧ y.cls ≠ "java/lang/invoke/VarHandle") ∧ (parseMethodDescriptor y.desc).map (fun d => d.parameters.length) = some np
def CND (own : String) (index : Nat) (y : MethodName) (host : String) (bytes : ByteArray) (maxL : Nat) (ret : Option FieldType) (np : Nat) : Prop :=
  Cond.methodLinkNest own index y host ∈ tbl ∧ Cond.instanceMethod y ∈ tbl ∧ Cond.selects y.cls y y ∈ tbl ∧ Cond.code y bytes maxL ret ∈ tbl ∧ Cond.initialized y.cls ∈ tbl ∧ (y.cls ≠ "java/lang/invoke/MethodHandle" ∧ y.cls ≠ "java/lang/invoke/VarHandle") ∧ (parseMethodDescriptor y.desc).map (fun d => d.parameters.length) = some np
def CSD (own : String) (index : Nat) (y : MethodName) (bytes : ByteArray) (maxL : Nat) (ret : Option FieldType) (np : Nat) : Prop :=
  Cond.methodLink own index y ∈ tbl ∧ Cond.static y ∈ tbl ∧ Cond.code y bytes maxL ret ∈ tbl ∧ Cond.initialized y.cls ∈ tbl ∧ (y.cls ≠ "java/lang/invoke/MethodHandle" ∧ y.cls ≠ "java/lang/invoke/VarHandle") ∧ (parseMethodDescriptor y.desc).map (fun d => d.parameters.length) = some np
/-- a callee's room in the caller's -/
def RM (R rm : Room) (maxL k n : Nat) : Prop := rm.frames + 1 ≤ R.frames ∧ 8 + (maxL + 11) + rm.locals ≤ R.locals ∧ k + rm.cells ≤ R.cells ∧ n + rm.slots ≤ R.slots
theorem tb_pay {s : State} (h : TB s) {w : Cond} (hw : w ∈ tbl) (a : Array Value) (U : State) (hW : s.WarmedH U.vm) : w.before a U = true := TB.warm hW h a w hw
theorem cwd_of {R : Room} {s : State} {args : Array Value} {own : String} {index : Nat} {y : MethodName} {bytes : ByteArray} {maxL : Nat} {ret : Option FieldType} {rm : Room} {np k n : Nat} (hT : TB s) (h : CWD own index y bytes maxL ret np) (hR : RM R rm maxL k n) : CallW R s args own y.cls index y bytes maxL ret [.code y bytes maxL ret] rm rm.cells rm.slots np := by
  obtain ⟨h1, h2, h3, h4, h5, h6, h7⟩ := h
  refine ⟨⟨rfl, rfl, hR.1, hR.2.1, fun w hw a U hW => ?_, List.mem_cons_self, hT _ _ h4, hT _ _ h5, h6, fun sig hs => ?_, hT _ _ h1⟩, hT _ _ h2, hT _ _ h3⟩
  · rw [List.mem_singleton.mp hw]; exact tb_pay hT h4 a U hW
  · rw [hs] at h7; exact (Option.some.inj h7).symm
theorem cnd_of {R : Room} {s : State} {args : Array Value} {own host : String} {index : Nat} {y : MethodName} {bytes : ByteArray} {maxL : Nat} {ret : Option FieldType} {rm : Room} {np k n : Nat} (hT : TB s) (h : CND own index y host bytes maxL ret np) (hR : RM R rm maxL k n) : va_CN R s args own index y host bytes maxL ret [.code y bytes maxL ret] rm rm.cells rm.slots np ∧ (Cond.instanceMethod y).before args s = true ∧ (Cond.selects y.cls y y).before args s = true := by
  obtain ⟨h1, h2, h3, h4, h5, h6, h7⟩ := h
  refine ⟨⟨⟨rfl, rfl, hR.1, hR.2.1, fun w hw a U hW => ?_, List.mem_cons_self⟩, hT _ _ h4, hT _ _ h5, h6, fun sig hs => ?_, hT _ _ h1⟩, hT _ _ h2, hT _ _ h3⟩
  · rw [List.mem_singleton.mp hw]; exact tb_pay hT h4 a U hW
  · rw [hs] at h7; exact (Option.some.inj h7).symm
theorem csd_of {R : Room} {s : State} {args : Array Value} {own : String} {index : Nat} {y : MethodName} {bytes : ByteArray} {maxL : Nat} {ret : Option FieldType} {rm : Room} {np k n : Nat} (hT : TB s) (h : CSD own index y bytes maxL ret np) (hR : RM R rm maxL k n) : CallB R s args own index y bytes maxL ret [.code y bytes maxL ret] rm rm.cells rm.slots np ∧ (Cond.static y).before args s = true := by
  obtain ⟨h1, h2, h4, h5, h6, h7⟩ := h
  refine ⟨⟨rfl, rfl, hR.1, hR.2.1, fun w hw a U hW => ?_, List.mem_cons_self, hT _ _ h4, hT _ _ h5, h6, fun sig hs => ?_, hT _ _ h1⟩, hT _ _ h2⟩
  · rw [List.mem_singleton.mp hw]; exact tb_pay hT h4 a U hW
  · rw [hs] at h7; exact (Option.some.inj h7).symm
theorem va_A_of {A : Nat → Prop} {ws : va_W} {H0 H : Heap} {locs : List Loc} (hD : va_D A ws) (hS : va_S A H0 H locs) (hA : ∀ q, H0.size ≤ q → A q) : ∀ q, va_A ws H.size q → A q := by
  intro q h
  rcases h with ⟨k, e, h⟩ | h
  · exact hD.2 k _ h
  · exact hA q (Nat.le_trans hS.1 h)
theorem K0_at {g : GT} {as : List Value} {ws : va_W} {A : Nat → Prop} {s : State} {H : Heap} (hT : TB s) (hK : va_K g.1 vwCl (tyl g) s) (hP : va_P g.1 vwCl ws H) (hD : va_D A ws) : ∀ U : State, U.heap = H → s.WarmedH U.vm → K0 g as H.size ws as.toArray U :=
  fun U hU hW => ⟨rfl, by rw [hU], TB.warm hW hT, by rw [hU]; exact hP, va_K.moved hW.alike hK, hD.weaken (fun _ _ _ _ => trivial)⟩
section VC
variable {x : CT} {l : Launch} {R : Room} {g : GT} {nL : Nat} {cc : ByteArray} {own : String} {k n : Nat} {ws : va_W} {pc : Nat} {lv : List (Nat × Value)} {st0 st : List Value}
variable {y : MethodName} {bytes : ByteArray} {maxL index np : Nat} {ty : FieldType} {rm : Room} {as : List Value} {b : Nat}
theorem V_recv {s : State} (hK : va_K g.1 vwCl (tyl g) s) {H : Heap} (hP : va_P g.1 vwCl ws H) {ci N : Nat} {T : u_T} {C : String} {fs : List Value} (hc : vwCl[ci]? = some (C, T, N)) (i : Nat) (he : ws[i]? = some (b, .inr (ci, fs))) : ∃ cell : Cell, H[b]? = some cell ∧ cell.vm.isStatics = false ∧ s.vm.findClass C = some cell.cls := va_recv hK hP hc he
theorem V_calli {post : Int → va_W → Prop} (hx : FX x l R g nL cc own) (hM : MI l y bytes maxL ty rm g (.ref b :: as) ws post) (cw : CWD own index y bytes maxL (some ty) np) (hR : RM R rm maxL k n) {ci N : Nat} {T : u_T} {fs : List Value} (hc : vwCl[ci]? = some (y.cls, T, N)) (i : Nat) (he : ws[i]? = some (b, .inr (ci, fs)))
    (hst : st0 = as.reverse ++ .ref b :: st) (hn : as.length = np) (hcat : (st.map fun v => v.category).sum ≤ 8) (hd : decode cc pc = .ok (.invokevirtual index, 3)) (k' n' : Nat) (hk' : k + rm.cells = k') (hn' : n + rm.slots = n') (kk : ∀ (z : Int) (ws' : va_W), post z ws' → V x k' n' ws' (pc + 3) lv (.int (iZ z) :: st)) : V x k n ws pc lv st0 := by
  subst hk' hn'
  obtain ⟨p, l', e, R', s, m, args, below, meth, c, g', nL', A, H0, Q⟩ := x
  obtain ⟨rfl, rfl, rfl, rfl, hx, hb, hml, hown, hts, hK, hlk, hA⟩ := hx
  intro H locs ls hP hD hS h
  have hF := va_A_of hD hS hA
  refine va_calli (va_runV (As := as) (rest := st) (Ts := []) ⟨hx, hb, hml, hown, fun _ h => by cases h⟩ (hM H.size) (cwd_of hts cw hR) ⟨K0_blind, V_recv hK hP hc i he, K0_at hts hK hP hD⟩ rfl hn h.1 hst (lv_room hcat) hd hR.2.2) hS (fun q _ h => hF q h) hF (fun r ws' t H1 locs1 ht hvm hw hB hz1 hk1 hS1 => ?_)
  obtain ⟨z, rfl, hw⟩ := hw
  exact kk z ws' hw H1 locs1 ls (ht ▸ hB.1) (hB.2.weaken (fun _ q _ h => hF q.1 h)) hS1 h
theorem V_callv {post : va_W → Prop} (hx : FX x l R g nL cc own) (hM : MV l y bytes maxL rm g (.ref b :: as) ws post) (cw : CWD own index y bytes maxL none np) (hR : RM R rm maxL k n) {ci N : Nat} {T : u_T} {fs : List Value} (hc : vwCl[ci]? = some (y.cls, T, N)) (i : Nat) (he : ws[i]? = some (b, .inr (ci, fs)))
    (hst : st0 = as.reverse ++ .ref b :: st) (hn : as.length = np) (hcat : (st.map fun v => v.category).sum ≤ 8) (hd : decode cc pc = .ok (.invokevirtual index, 3)) (k' n' : Nat) (hk' : k + rm.cells = k') (hn' : n + rm.slots = n') (kk : ∀ (ws' : va_W), post ws' → V x k' n' ws' (pc + 3) lv st) : V x k n ws pc lv st0 := by
  subst hk' hn'
  obtain ⟨p, l', e, R', s, m, args, below, meth, c, g', nL', A, H0, Q⟩ := x
  obtain ⟨rfl, rfl, rfl, rfl, hx, hb, hml, hown, hts, hK, hlk, hA⟩ := hx
  intro H locs ls hP hD hS h
  have hF := va_A_of hD hS hA
  refine va_callv (va_runV (As := as) (rest := st) (Ts := []) ⟨hx, hb, hml, hown, fun _ h => by cases h⟩ (hM H.size) (cwd_of hts cw hR) ⟨K0_blind, V_recv hK hP hc i he, K0_at hts hK hP hD⟩ rfl hn h.1 hst (lv_room hcat) hd hR.2.2) hS (fun q _ h => hF q h) hF (fun ws' t H1 locs1 ht hvm hw hB hz1 hk1 hS1 => ?_)
  exact kk ws' hw H1 locs1 ls (ht ▸ hB.1) (hB.2.weaken (fun _ q _ h => hF q.1 h)) hS1 h
theorem V_calll {post : Int64 → va_W → Prop} (hx : FX x l R g nL cc own) (hM : ML l y bytes maxL rm g (.ref b :: as) ws post) (cw : CWD own index y bytes maxL (some .long) np) (hR : RM R rm maxL k n) {ci N : Nat} {T : u_T} {fs : List Value} (hc : vwCl[ci]? = some (y.cls, T, N)) (i : Nat) (he : ws[i]? = some (b, .inr (ci, fs)))
    (hst : st0 = as.reverse ++ .ref b :: st) (hn : as.length = np) (hcat : (st.map fun v => v.category).sum ≤ 8) (hd : decode cc pc = .ok (.invokevirtual index, 3)) (k' n' : Nat) (hk' : k + rm.cells = k') (hn' : n + rm.slots = n') (kk : ∀ (z : Int64) (ws' : va_W), post z ws' → V x k' n' ws' (pc + 3) lv (.long z :: st)) : V x k n ws pc lv st0 := by
  subst hk' hn'
  obtain ⟨p, l', e, R', s, m, args, below, meth, c, g', nL', A, H0, Q⟩ := x
  obtain ⟨rfl, rfl, rfl, rfl, hx, hb, hml, hown, hts, hK, hlk, hA⟩ := hx
  intro H locs ls hP hD hS h
  have hF := va_A_of hD hS hA
  refine va_calll (va_runV (As := as) (rest := st) (Ts := []) ⟨hx, hb, hml, hown, fun _ h => by cases h⟩ (hM H.size) (cwd_of hts cw hR) ⟨K0_blind, V_recv hK hP hc i he, K0_at hts hK hP hD⟩ rfl hn h.1 hst (lv_room hcat) hd hR.2.2) hS (fun q _ h => hF q h) hF (fun r ws' t H1 locs1 ht hvm hw hB hz1 hk1 hS1 => ?_)
  exact kk r ws' hw H1 locs1 ls (ht ▸ hB.1) (hB.2.weaken (fun _ q _ h => hF q.1 h)) hS1 h
theorem V_callNi {host : String} {post : Int → va_W → Prop} (hx : FX x l R g nL cc own) (hM : MI l y bytes maxL ty rm g (.ref b :: as) ws post) (cw : CND own index y host bytes maxL (some ty) np) (hR : RM R rm maxL k n) {ci N : Nat} {T : u_T} {fs : List Value} (hc : vwCl[ci]? = some (y.cls, T, N)) (i : Nat) (he : ws[i]? = some (b, .inr (ci, fs)))
    (hst : st0 = as.reverse ++ .ref b :: st) (hn : as.length = np) (hcat : (st.map fun v => v.category).sum ≤ 8) (hd : decode cc pc = .ok (.invokevirtual index, 3)) (k' n' : Nat) (hk' : k + rm.cells = k') (hn' : n + rm.slots = n') (kk : ∀ (z : Int) (ws' : va_W), post z ws' → V x k' n' ws' (pc + 3) lv (.int (iZ z) :: st)) : V x k n ws pc lv st0 := by
  subst hk' hn'
  obtain ⟨p, l', e, R', s, m, args, below, meth, c, g', nL', A, H0, Q⟩ := x
  obtain ⟨rfl, rfl, rfl, rfl, hx, hb, hml, hown, hts, hK, hlk, hA⟩ := hx
  intro H locs ls hP hD hS h
  have hF := va_A_of hD hS hA
  refine va_calli (va_runVN (As := as) (rest := st) (Ts := []) ⟨hx, hb, hml, hown, fun _ h => by cases h⟩ (hM H.size) (cnd_of hts cw hR) ⟨K0_blind, V_recv hK hP hc i he, K0_at hts hK hP hD⟩ rfl hn h.1 hst (lv_room hcat) hd hR.2.2) hS (fun q _ h => hF q h) hF (fun r ws' t H1 locs1 ht hvm hw hB hz1 hk1 hS1 => ?_)
  obtain ⟨z, rfl, hw⟩ := hw
  exact kk z ws' hw H1 locs1 ls (ht ▸ hB.1) (hB.2.weaken (fun _ q _ h => hF q.1 h)) hS1 h
theorem V_callNv {host : String} {post : va_W → Prop} (hx : FX x l R g nL cc own) (hM : MV l y bytes maxL rm g (.ref b :: as) ws post) (cw : CND own index y host bytes maxL none np) (hR : RM R rm maxL k n) {ci N : Nat} {T : u_T} {fs : List Value} (hc : vwCl[ci]? = some (y.cls, T, N)) (i : Nat) (he : ws[i]? = some (b, .inr (ci, fs)))
    (hst : st0 = as.reverse ++ .ref b :: st) (hn : as.length = np) (hcat : (st.map fun v => v.category).sum ≤ 8) (hd : decode cc pc = .ok (.invokevirtual index, 3)) (k' n' : Nat) (hk' : k + rm.cells = k') (hn' : n + rm.slots = n') (kk : ∀ (ws' : va_W), post ws' → V x k' n' ws' (pc + 3) lv st) : V x k n ws pc lv st0 := by
  subst hk' hn'
  obtain ⟨p, l', e, R', s, m, args, below, meth, c, g', nL', A, H0, Q⟩ := x
  obtain ⟨rfl, rfl, rfl, rfl, hx, hb, hml, hown, hts, hK, hlk, hA⟩ := hx
  intro H locs ls hP hD hS h
  have hF := va_A_of hD hS hA
  refine va_callv (va_runVN (As := as) (rest := st) (Ts := []) ⟨hx, hb, hml, hown, fun _ h => by cases h⟩ (hM H.size) (cnd_of hts cw hR) ⟨K0_blind, V_recv hK hP hc i he, K0_at hts hK hP hD⟩ rfl hn h.1 hst (lv_room hcat) hd hR.2.2) hS (fun q _ h => hF q h) hF (fun ws' t H1 locs1 ht hvm hw hB hz1 hk1 hS1 => ?_)
  exact kk ws' hw H1 locs1 ls (ht ▸ hB.1) (hB.2.weaken (fun _ q _ h => hF q.1 h)) hS1 h
theorem V_callSi {post : Int → va_W → Prop} (hx : FX x l R g nL cc own) (hM : MI l y bytes maxL ty rm g as ws post) (cw : CSD own index y bytes maxL (some ty) np) (hR : RM R rm maxL k n)
    (hst : st0 = as.reverse ++ st) (hn : as.length = np) (hcat : (st.map fun v => v.category).sum ≤ 8) (hd : decode cc pc = .ok (.invokestatic index, 3)) (k' n' : Nat) (hk' : k + rm.cells = k') (hn' : n + rm.slots = n') (kk : ∀ (z : Int) (ws' : va_W), post z ws' → V x k' n' ws' (pc + 3) lv (.int (iZ z) :: st)) : V x k n ws pc lv st0 := by
  subst hk' hn'
  obtain ⟨p, l', e, R', s, m, args, below, meth, c, g', nL', A, H0, Q⟩ := x
  obtain ⟨rfl, rfl, rfl, rfl, hx, hb, hml, hown, hts, hK, hlk, hA⟩ := hx
  intro H locs ls hP hD hS h
  have hF := va_A_of hD hS hA
  refine va_calli (va_runS (As := as) (rest := st) (Ts := []) ⟨hx, hb, hml, hown, fun _ h => by cases h⟩ (hM H.size) (csd_of hts cw hR) ⟨K0_blind, K0_at hts hK hP hD⟩ rfl hn h.1 hst (lv_room hcat) hd hR.2.2) hS (fun q _ h => hF q h) hF (fun r ws' t H1 locs1 ht hvm hw hB hz1 hk1 hS1 => ?_)
  obtain ⟨z, rfl, hw⟩ := hw
  exact kk z ws' hw H1 locs1 ls (ht ▸ hB.1) (hB.2.weaken (fun _ q _ h => hF q.1 h)) hS1 h
theorem V_callSv {post : va_W → Prop} (hx : FX x l R g nL cc own) (hM : MV l y bytes maxL rm g as ws post) (cw : CSD own index y bytes maxL none np) (hR : RM R rm maxL k n)
    (hst : st0 = as.reverse ++ st) (hn : as.length = np) (hcat : (st.map fun v => v.category).sum ≤ 8) (hd : decode cc pc = .ok (.invokestatic index, 3)) (k' n' : Nat) (hk' : k + rm.cells = k') (hn' : n + rm.slots = n') (kk : ∀ (ws' : va_W), post ws' → V x k' n' ws' (pc + 3) lv st) : V x k n ws pc lv st0 := by
  subst hk' hn'
  obtain ⟨p, l', e, R', s, m, args, below, meth, c, g', nL', A, H0, Q⟩ := x
  obtain ⟨rfl, rfl, rfl, rfl, hx, hb, hml, hown, hts, hK, hlk, hA⟩ := hx
  intro H locs ls hP hD hS h
  have hF := va_A_of hD hS hA
  refine va_callv (va_runS (As := as) (rest := st) (Ts := []) ⟨hx, hb, hml, hown, fun _ h => by cases h⟩ (hM H.size) (csd_of hts cw hR) ⟨K0_blind, K0_at hts hK hP hD⟩ rfl hn h.1 hst (lv_room hcat) hd hR.2.2) hS (fun q _ h => hF q h) hF (fun ws' t H1 locs1 ht hvm hw hB hz1 hk1 hS1 => ?_)
  exact kk ws' hw H1 locs1 ls (ht ▸ hB.1) (hB.2.weaken (fun _ q _ h => hF q.1 h)) hS1 h
end VC
end
section
theorem inT0 : ∀ w ∈ u_ws RX0 TX0 11, w ∈ tbl := by
  have e : u_ws RX0 TX0 11 = [125, 127, 129, 131, 133, 135, 137, 139, 141, 143, 145].filterMap (fun i => lw_tbl[i]?) := by decide +kernel
  have h : (u_ws RX0 TX0 11).all tbw = true := by decide +kernel
  intro w hw
  have h1 := List.all_eq_true.mp h w hw
  rw [e] at hw
  obtain ⟨i, -, hi⟩ := List.mem_filterMap.mp hw
  exact tin i hi h1
theorem inT1 : ∀ w ∈ u_ws RX1 TX1 9, w ∈ tbl := by
  have e : u_ws RX1 TX1 9 = [162, 164, 166, 168, 170, 172, 174, 176, 178].filterMap (fun i => lw_tbl[i]?) := by decide +kernel
  have h : (u_ws RX1 TX1 9).all tbw = true := by decide +kernel
  intro w hw
  have h1 := List.all_eq_true.mp h w hw
  rw [e] at hw
  obtain ⟨i, -, hi⟩ := List.mem_filterMap.mp hw
  exact tin i hi h1
theorem inT2 : ∀ w ∈ u_ws RX2 TX2 2, w ∈ tbl := by
  have e : u_ws RX2 TX2 2 = [183, 185].filterMap (fun i => lw_tbl[i]?) := by decide +kernel
  have h : (u_ws RX2 TX2 2).all tbw = true := by decide +kernel
  intro w hw
  have h1 := List.all_eq_true.mp h w hw
  rw [e] at hw
  obtain ⟨i, -, hi⟩ := List.mem_filterMap.mp hw
  exact tin i hi h1
theorem inT3 : ∀ w ∈ u_ws RX3 TX3 16, w ∈ tbl := by
  have e : u_ws RX3 TX3 16 = [674, 676, 678, 680, 682, 684, 686, 688, 690, 692, 694, 696, 698, 700, 702, 704].filterMap (fun i => lw_tbl[i]?) := by decide +kernel
  have h : (u_ws RX3 TX3 16).all tbw = true := by decide +kernel
  intro w hw
  have h1 := List.all_eq_true.mp h w hw
  rw [e] at hw
  obtain ⟨i, -, hi⟩ := List.mem_filterMap.mp hw
  exact tin i hi h1
theorem inT4 : ∀ w ∈ u_ws RX4 TX4 3, w ∈ tbl := by
  have e : u_ws RX4 TX4 3 = [710, 712, 714].filterMap (fun i => lw_tbl[i]?) := by decide +kernel
  have h : (u_ws RX4 TX4 3).all tbw = true := by decide +kernel
  intro w hw
  have h1 := List.all_eq_true.mp h w hw
  rw [e] at hw
  obtain ⟨i, -, hi⟩ := List.mem_filterMap.mp hw
  exact tin i hi h1
section GF
variable {x : CT} {l : Launch} {R : Room} {g : GT} {nL : Nat} {cc : ByteArray} {k n : Nat} {ws : va_W} {pc : Nat} {lv : List (Nat × Value)} {st : List Value}
theorem q39 : Cond.fieldLink RX0 36 RX0 "steps" "I" ∈ tbl := tin 100 (by decide +kernel) rfl
theorem gf_X0_36 (hx : FX x l R g nL cc RX0) {a : Nat} {fs : List Value} {v : Value} (i : Nat) (he : ws[i]? = some (a, .inr (0, fs))) (hv : fs[0]? = some v) (hd : decode cc pc = .ok (.getfield 36, 3)) (kk : V x k n ws (pc + 3) lv (v :: st)) : V x k n ws pc lv (.ref a :: st) := V_get hx (T := TX0) (N := 11) (ci := 0) rfl inT0 0 (by decide) q39 rfl i he hv hd kk
theorem pf_X0_36 (hx : FX x l R g nL cc RX0) {a : Nat} {fs : List Value} {v : Int32} (i : Nat) (he : ws[i]? = some (a, .inr (0, fs))) (hl : 0 < fs.length) (ws' : va_W) (hw : ws.set i (a, .inr (0, fs.set 0 (.int v))) = ws') (hd : decode cc pc = .ok (.putfield 36, 3)) (kk : V x k n ws' (pc + 3) lv st) : V x k n ws pc lv (.int v :: .ref a :: st) := V_put hx (T := TX0) (N := 11) (ci := 0) rfl inT0 tyX0 tyX0_ok nmX0 0 (by decide) q39 rfl rfl (ty := .int) (by decide +kernel) rfl rfl i he hl ws' hw hd kk
theorem q40 : Cond.fieldLinkNest RX2 85 RX0 "steps" "I" RX2 ∈ tbl := tin 101 (by decide +kernel) rfl
theorem gf_X2_85 (hx : FX x l R g nL cc RX2) {a : Nat} {fs : List Value} {v : Value} (i : Nat) (he : ws[i]? = some (a, .inr (0, fs))) (hv : fs[0]? = some v) (hd : decode cc pc = .ok (.getfield 85, 3)) (kk : V x k n ws (pc + 3) lv (v :: st)) : V x k n ws pc lv (.ref a :: st) := V_getN hx (T := TX0) (N := 11) (ci := 0) rfl inT0 0 (by decide) q40 rfl i he hv hd kk
theorem pf_X2_85 (hx : FX x l R g nL cc RX2) {a : Nat} {fs : List Value} {v : Int32} (i : Nat) (he : ws[i]? = some (a, .inr (0, fs))) (hl : 0 < fs.length) (ws' : va_W) (hw : ws.set i (a, .inr (0, fs.set 0 (.int v))) = ws') (hd : decode cc pc = .ok (.putfield 85, 3)) (kk : V x k n ws' (pc + 3) lv st) : V x k n ws pc lv (.int v :: .ref a :: st) := V_putN hx (T := TX0) (N := 11) (ci := 0) rfl inT0 tyX0 tyX0_ok nmX0 0 (by decide) q40 rfl rfl (ty := .int) (by decide +kernel) rfl rfl i he hl ws' hw hd kk
theorem q41 : Cond.fieldLinkNest RX1 62 RX0 "steps" "I" RX2 ∈ tbl := tin 102 (by decide +kernel) rfl
theorem gf_X1_62 (hx : FX x l R g nL cc RX1) {a : Nat} {fs : List Value} {v : Value} (i : Nat) (he : ws[i]? = some (a, .inr (0, fs))) (hv : fs[0]? = some v) (hd : decode cc pc = .ok (.getfield 62, 3)) (kk : V x k n ws (pc + 3) lv (v :: st)) : V x k n ws pc lv (.ref a :: st) := V_getN hx (T := TX0) (N := 11) (ci := 0) rfl inT0 0 (by decide) q41 rfl i he hv hd kk
theorem pf_X1_62 (hx : FX x l R g nL cc RX1) {a : Nat} {fs : List Value} {v : Int32} (i : Nat) (he : ws[i]? = some (a, .inr (0, fs))) (hl : 0 < fs.length) (ws' : va_W) (hw : ws.set i (a, .inr (0, fs.set 0 (.int v))) = ws') (hd : decode cc pc = .ok (.putfield 62, 3)) (kk : V x k n ws' (pc + 3) lv st) : V x k n ws pc lv (.int v :: .ref a :: st) := V_putN hx (T := TX0) (N := 11) (ci := 0) rfl inT0 tyX0 tyX0_ok nmX0 0 (by decide) q41 rfl rfl (ty := .int) (by decide +kernel) rfl rfl i he hl ws' hw hd kk
theorem q42 : Cond.fieldLink RX0 9 RX0 "kinds" "[I" ∈ tbl := tin 103 (by decide +kernel) rfl
theorem gf_X0_9 (hx : FX x l R g nL cc RX0) {a : Nat} {fs : List Value} {v : Value} (i : Nat) (he : ws[i]? = some (a, .inr (0, fs))) (hv : fs[1]? = some v) (hd : decode cc pc = .ok (.getfield 9, 3)) (kk : V x k n ws (pc + 3) lv (v :: st)) : V x k n ws pc lv (.ref a :: st) := V_get hx (T := TX0) (N := 11) (ci := 0) rfl inT0 1 (by decide) q42 rfl i he hv hd kk
theorem q43 : Cond.fieldLinkNest RX1 88 RX0 "kinds" "[I" RX2 ∈ tbl := tin 104 (by decide +kernel) rfl
theorem gf_X1_88 (hx : FX x l R g nL cc RX1) {a : Nat} {fs : List Value} {v : Value} (i : Nat) (he : ws[i]? = some (a, .inr (0, fs))) (hv : fs[1]? = some v) (hd : decode cc pc = .ok (.getfield 88, 3)) (kk : V x k n ws (pc + 3) lv (v :: st)) : V x k n ws pc lv (.ref a :: st) := V_getN hx (T := TX0) (N := 11) (ci := 0) rfl inT0 1 (by decide) q43 rfl i he hv hd kk
theorem q44 : Cond.fieldLink RX0 15 RX0 "firsts" "[I" ∈ tbl := tin 105 (by decide +kernel) rfl
theorem gf_X0_15 (hx : FX x l R g nL cc RX0) {a : Nat} {fs : List Value} {v : Value} (i : Nat) (he : ws[i]? = some (a, .inr (0, fs))) (hv : fs[2]? = some v) (hd : decode cc pc = .ok (.getfield 15, 3)) (kk : V x k n ws (pc + 3) lv (v :: st)) : V x k n ws pc lv (.ref a :: st) := V_get hx (T := TX0) (N := 11) (ci := 0) rfl inT0 2 (by decide) q44 rfl i he hv hd kk
theorem q45 : Cond.fieldLinkNest RX1 82 RX0 "firsts" "[I" RX2 ∈ tbl := tin 106 (by decide +kernel) rfl
theorem gf_X1_82 (hx : FX x l R g nL cc RX1) {a : Nat} {fs : List Value} {v : Value} (i : Nat) (he : ws[i]? = some (a, .inr (0, fs))) (hv : fs[2]? = some v) (hd : decode cc pc = .ok (.getfield 82, 3)) (kk : V x k n ws (pc + 3) lv (v :: st)) : V x k n ws pc lv (.ref a :: st) := V_getN hx (T := TX0) (N := 11) (ci := 0) rfl inT0 2 (by decide) q45 rfl i he hv hd kk
theorem q46 : Cond.fieldLink RX0 18 RX0 "seconds" "[I" ∈ tbl := tin 107 (by decide +kernel) rfl
theorem gf_X0_18 (hx : FX x l R g nL cc RX0) {a : Nat} {fs : List Value} {v : Value} (i : Nat) (he : ws[i]? = some (a, .inr (0, fs))) (hv : fs[3]? = some v) (hd : decode cc pc = .ok (.getfield 18, 3)) (kk : V x k n ws (pc + 3) lv (v :: st)) : V x k n ws pc lv (.ref a :: st) := V_get hx (T := TX0) (N := 11) (ci := 0) rfl inT0 3 (by decide) q46 rfl i he hv hd kk
theorem q47 : Cond.fieldLinkNest RX1 102 RX0 "seconds" "[I" RX2 ∈ tbl := tin 108 (by decide +kernel) rfl
theorem gf_X1_102 (hx : FX x l R g nL cc RX1) {a : Nat} {fs : List Value} {v : Value} (i : Nat) (he : ws[i]? = some (a, .inr (0, fs))) (hv : fs[3]? = some v) (hd : decode cc pc = .ok (.getfield 102, 3)) (kk : V x k n ws (pc + 3) lv (v :: st)) : V x k n ws pc lv (.ref a :: st) := V_getN hx (T := TX0) (N := 11) (ci := 0) rfl inT0 3 (by decide) q47 rfl i he hv hd kk
theorem q48 : Cond.fieldLink RX0 21 RX0 "numbers" "[I" ∈ tbl := tin 109 (by decide +kernel) rfl
theorem gf_X0_21 (hx : FX x l R g nL cc RX0) {a : Nat} {fs : List Value} {v : Value} (i : Nat) (he : ws[i]? = some (a, .inr (0, fs))) (hv : fs[4]? = some v) (hd : decode cc pc = .ok (.getfield 21, 3)) (kk : V x k n ws (pc + 3) lv (v :: st)) : V x k n ws pc lv (.ref a :: st) := V_get hx (T := TX0) (N := 11) (ci := 0) rfl inT0 4 (by decide) q48 rfl i he hv hd kk
theorem q49 : Cond.fieldLinkNest RX1 85 RX0 "numbers" "[I" RX2 ∈ tbl := tin 110 (by decide +kernel) rfl
theorem gf_X1_85 (hx : FX x l R g nL cc RX1) {a : Nat} {fs : List Value} {v : Value} (i : Nat) (he : ws[i]? = some (a, .inr (0, fs))) (hv : fs[4]? = some v) (hd : decode cc pc = .ok (.getfield 85, 3)) (kk : V x k n ws (pc + 3) lv (v :: st)) : V x k n ws pc lv (.ref a :: st) := V_getN hx (T := TX0) (N := 11) (ci := 0) rfl inT0 4 (by decide) q49 rfl i he hv hd kk
theorem q50 : Cond.fieldLink RX0 43 RX0 "place" "I" ∈ tbl := tin 111 (by decide +kernel) rfl
theorem gf_X0_43 (hx : FX x l R g nL cc RX0) {a : Nat} {fs : List Value} {v : Value} (i : Nat) (he : ws[i]? = some (a, .inr (0, fs))) (hv : fs[5]? = some v) (hd : decode cc pc = .ok (.getfield 43, 3)) (kk : V x k n ws (pc + 3) lv (v :: st)) : V x k n ws pc lv (.ref a :: st) := V_get hx (T := TX0) (N := 11) (ci := 0) rfl inT0 5 (by decide) q50 rfl i he hv hd kk
theorem pf_X0_43 (hx : FX x l R g nL cc RX0) {a : Nat} {fs : List Value} {v : Int32} (i : Nat) (he : ws[i]? = some (a, .inr (0, fs))) (hl : 5 < fs.length) (ws' : va_W) (hw : ws.set i (a, .inr (0, fs.set 5 (.int v))) = ws') (hd : decode cc pc = .ok (.putfield 43, 3)) (kk : V x k n ws' (pc + 3) lv st) : V x k n ws pc lv (.int v :: .ref a :: st) := V_put hx (T := TX0) (N := 11) (ci := 0) rfl inT0 tyX0 tyX0_ok nmX0 5 (by decide) q50 rfl rfl (ty := .int) (by decide +kernel) rfl rfl i he hl ws' hw hd kk
theorem q51 : Cond.fieldLinkNest RX2 82 RX0 "place" "I" RX2 ∈ tbl := tin 112 (by decide +kernel) rfl
theorem gf_X2_82 (hx : FX x l R g nL cc RX2) {a : Nat} {fs : List Value} {v : Value} (i : Nat) (he : ws[i]? = some (a, .inr (0, fs))) (hv : fs[5]? = some v) (hd : decode cc pc = .ok (.getfield 82, 3)) (kk : V x k n ws (pc + 3) lv (v :: st)) : V x k n ws pc lv (.ref a :: st) := V_getN hx (T := TX0) (N := 11) (ci := 0) rfl inT0 5 (by decide) q51 rfl i he hv hd kk
theorem pf_X2_82 (hx : FX x l R g nL cc RX2) {a : Nat} {fs : List Value} {v : Int32} (i : Nat) (he : ws[i]? = some (a, .inr (0, fs))) (hl : 5 < fs.length) (ws' : va_W) (hw : ws.set i (a, .inr (0, fs.set 5 (.int v))) = ws') (hd : decode cc pc = .ok (.putfield 82, 3)) (kk : V x k n ws' (pc + 3) lv st) : V x k n ws pc lv (.int v :: .ref a :: st) := V_putN hx (T := TX0) (N := 11) (ci := 0) rfl inT0 tyX0 tyX0_ok nmX0 5 (by decide) q51 rfl rfl (ty := .int) (by decide +kernel) rfl rfl i he hl ws' hw hd kk
theorem q52 : Cond.fieldLinkNest RX1 59 RX0 "place" "I" RX2 ∈ tbl := tin 113 (by decide +kernel) rfl
theorem gf_X1_59 (hx : FX x l R g nL cc RX1) {a : Nat} {fs : List Value} {v : Value} (i : Nat) (he : ws[i]? = some (a, .inr (0, fs))) (hv : fs[5]? = some v) (hd : decode cc pc = .ok (.getfield 59, 3)) (kk : V x k n ws (pc + 3) lv (v :: st)) : V x k n ws pc lv (.ref a :: st) := V_getN hx (T := TX0) (N := 11) (ci := 0) rfl inT0 5 (by decide) q52 rfl i he hv hd kk
theorem pf_X1_59 (hx : FX x l R g nL cc RX1) {a : Nat} {fs : List Value} {v : Int32} (i : Nat) (he : ws[i]? = some (a, .inr (0, fs))) (hl : 5 < fs.length) (ws' : va_W) (hw : ws.set i (a, .inr (0, fs.set 5 (.int v))) = ws') (hd : decode cc pc = .ok (.putfield 59, 3)) (kk : V x k n ws' (pc + 3) lv st) : V x k n ws pc lv (.int v :: .ref a :: st) := V_putN hx (T := TX0) (N := 11) (ci := 0) rfl inT0 tyX0 tyX0_ok nmX0 5 (by decide) q52 rfl rfl (ty := .int) (by decide +kernel) rfl rfl i he hl ws' hw hd kk
theorem q53 : Cond.fieldLink RX0 46 RX0 "done" "Z" ∈ tbl := tin 114 (by decide +kernel) rfl
theorem gf_X0_46 (hx : FX x l R g nL cc RX0) {a : Nat} {fs : List Value} {v : Value} (i : Nat) (he : ws[i]? = some (a, .inr (0, fs))) (hv : fs[6]? = some v) (hd : decode cc pc = .ok (.getfield 46, 3)) (kk : V x k n ws (pc + 3) lv (v :: st)) : V x k n ws pc lv (.ref a :: st) := V_get hx (T := TX0) (N := 11) (ci := 0) rfl inT0 6 (by decide) q53 rfl i he hv hd kk
theorem pf_X0_46 (hx : FX x l R g nL cc RX0) {a : Nat} {fs : List Value} {v : Int32} (hn : narrow .boolean (.int v) = .int v) (hfit : fits .boolean (.int v) = true) (i : Nat) (he : ws[i]? = some (a, .inr (0, fs))) (hl : 6 < fs.length) (ws' : va_W) (hw : ws.set i (a, .inr (0, fs.set 6 (.int v))) = ws') (hd : decode cc pc = .ok (.putfield 46, 3)) (kk : V x k n ws' (pc + 3) lv st) : V x k n ws pc lv (.int v :: .ref a :: st) := V_put hx (T := TX0) (N := 11) (ci := 0) rfl inT0 tyX0 tyX0_ok nmX0 6 (by decide) q53 rfl rfl (ty := .boolean) (by decide +kernel) hn hfit i he hl ws' hw hd kk
theorem q54 : Cond.fieldLinkNest RX2 76 RX0 "done" "Z" RX2 ∈ tbl := tin 115 (by decide +kernel) rfl
theorem gf_X2_76 (hx : FX x l R g nL cc RX2) {a : Nat} {fs : List Value} {v : Value} (i : Nat) (he : ws[i]? = some (a, .inr (0, fs))) (hv : fs[6]? = some v) (hd : decode cc pc = .ok (.getfield 76, 3)) (kk : V x k n ws (pc + 3) lv (v :: st)) : V x k n ws pc lv (.ref a :: st) := V_getN hx (T := TX0) (N := 11) (ci := 0) rfl inT0 6 (by decide) q54 rfl i he hv hd kk
theorem pf_X2_76 (hx : FX x l R g nL cc RX2) {a : Nat} {fs : List Value} {v : Int32} (hn : narrow .boolean (.int v) = .int v) (hfit : fits .boolean (.int v) = true) (i : Nat) (he : ws[i]? = some (a, .inr (0, fs))) (hl : 6 < fs.length) (ws' : va_W) (hw : ws.set i (a, .inr (0, fs.set 6 (.int v))) = ws') (hd : decode cc pc = .ok (.putfield 76, 3)) (kk : V x k n ws' (pc + 3) lv st) : V x k n ws pc lv (.int v :: .ref a :: st) := V_putN hx (T := TX0) (N := 11) (ci := 0) rfl inT0 tyX0 tyX0_ok nmX0 6 (by decide) q54 rfl rfl (ty := .boolean) (by decide +kernel) hn hfit i he hl ws' hw hd kk
theorem q55 : Cond.fieldLinkNest RX1 128 RX0 "done" "Z" RX2 ∈ tbl := tin 116 (by decide +kernel) rfl
theorem gf_X1_128 (hx : FX x l R g nL cc RX1) {a : Nat} {fs : List Value} {v : Value} (i : Nat) (he : ws[i]? = some (a, .inr (0, fs))) (hv : fs[6]? = some v) (hd : decode cc pc = .ok (.getfield 128, 3)) (kk : V x k n ws (pc + 3) lv (v :: st)) : V x k n ws pc lv (.ref a :: st) := V_getN hx (T := TX0) (N := 11) (ci := 0) rfl inT0 6 (by decide) q55 rfl i he hv hd kk
theorem pf_X1_128 (hx : FX x l R g nL cc RX1) {a : Nat} {fs : List Value} {v : Int32} (hn : narrow .boolean (.int v) = .int v) (hfit : fits .boolean (.int v) = true) (i : Nat) (he : ws[i]? = some (a, .inr (0, fs))) (hl : 6 < fs.length) (ws' : va_W) (hw : ws.set i (a, .inr (0, fs.set 6 (.int v))) = ws') (hd : decode cc pc = .ok (.putfield 128, 3)) (kk : V x k n ws' (pc + 3) lv st) : V x k n ws pc lv (.int v :: .ref a :: st) := V_putN hx (T := TX0) (N := 11) (ci := 0) rfl inT0 tyX0 tyX0_ok nmX0 6 (by decide) q55 rfl rfl (ty := .boolean) (by decide +kernel) hn hfit i he hl ws' hw hd kk
theorem q56 : Cond.fieldLink RX0 40 RX0 "lost" "I" ∈ tbl := tin 117 (by decide +kernel) rfl
theorem gf_X0_40 (hx : FX x l R g nL cc RX0) {a : Nat} {fs : List Value} {v : Value} (i : Nat) (he : ws[i]? = some (a, .inr (0, fs))) (hv : fs[7]? = some v) (hd : decode cc pc = .ok (.getfield 40, 3)) (kk : V x k n ws (pc + 3) lv (v :: st)) : V x k n ws pc lv (.ref a :: st) := V_get hx (T := TX0) (N := 11) (ci := 0) rfl inT0 7 (by decide) q56 rfl i he hv hd kk
theorem pf_X0_40 (hx : FX x l R g nL cc RX0) {a : Nat} {fs : List Value} {v : Int32} (i : Nat) (he : ws[i]? = some (a, .inr (0, fs))) (hl : 7 < fs.length) (ws' : va_W) (hw : ws.set i (a, .inr (0, fs.set 7 (.int v))) = ws') (hd : decode cc pc = .ok (.putfield 40, 3)) (kk : V x k n ws' (pc + 3) lv st) : V x k n ws pc lv (.int v :: .ref a :: st) := V_put hx (T := TX0) (N := 11) (ci := 0) rfl inT0 tyX0 tyX0_ok nmX0 7 (by decide) q56 rfl rfl (ty := .int) (by decide +kernel) rfl rfl i he hl ws' hw hd kk
theorem q57 : Cond.fieldLinkNest RX1 72 RX0 "lost" "I" RX2 ∈ tbl := tin 118 (by decide +kernel) rfl
theorem gf_X1_72 (hx : FX x l R g nL cc RX1) {a : Nat} {fs : List Value} {v : Value} (i : Nat) (he : ws[i]? = some (a, .inr (0, fs))) (hv : fs[7]? = some v) (hd : decode cc pc = .ok (.getfield 72, 3)) (kk : V x k n ws (pc + 3) lv (v :: st)) : V x k n ws pc lv (.ref a :: st) := V_getN hx (T := TX0) (N := 11) (ci := 0) rfl inT0 7 (by decide) q57 rfl i he hv hd kk
theorem pf_X1_72 (hx : FX x l R g nL cc RX1) {a : Nat} {fs : List Value} {v : Int32} (i : Nat) (he : ws[i]? = some (a, .inr (0, fs))) (hl : 7 < fs.length) (ws' : va_W) (hw : ws.set i (a, .inr (0, fs.set 7 (.int v))) = ws') (hd : decode cc pc = .ok (.putfield 72, 3)) (kk : V x k n ws' (pc + 3) lv st) : V x k n ws pc lv (.int v :: .ref a :: st) := V_putN hx (T := TX0) (N := 11) (ci := 0) rfl inT0 tyX0 tyX0_ok nmX0 7 (by decide) q57 rfl rfl (ty := .int) (by decide +kernel) rfl rfl i he hl ws' hw hd kk
theorem q58 : Cond.fieldLink RX0 24 RX0 "remembered" "[I" ∈ tbl := tin 119 (by decide +kernel) rfl
theorem gf_X0_24 (hx : FX x l R g nL cc RX0) {a : Nat} {fs : List Value} {v : Value} (i : Nat) (he : ws[i]? = some (a, .inr (0, fs))) (hv : fs[8]? = some v) (hd : decode cc pc = .ok (.getfield 24, 3)) (kk : V x k n ws (pc + 3) lv (v :: st)) : V x k n ws pc lv (.ref a :: st) := V_get hx (T := TX0) (N := 11) (ci := 0) rfl inT0 8 (by decide) q58 rfl i he hv hd kk
theorem q59 : Cond.fieldLinkNest RX1 116 RX0 "remembered" "[I" RX2 ∈ tbl := tin 120 (by decide +kernel) rfl
theorem gf_X1_116 (hx : FX x l R g nL cc RX1) {a : Nat} {fs : List Value} {v : Value} (i : Nat) (he : ws[i]? = some (a, .inr (0, fs))) (hv : fs[8]? = some v) (hd : decode cc pc = .ok (.getfield 116, 3)) (kk : V x k n ws (pc + 3) lv (v :: st)) : V x k n ws pc lv (.ref a :: st) := V_getN hx (T := TX0) (N := 11) (ci := 0) rfl inT0 8 (by decide) q59 rfl i he hv hd kk
theorem q60 : Cond.fieldLink RX0 27 RX0 "rememberedSeals" "[I" ∈ tbl := tin 121 (by decide +kernel) rfl
theorem gf_X0_27 (hx : FX x l R g nL cc RX0) {a : Nat} {fs : List Value} {v : Value} (i : Nat) (he : ws[i]? = some (a, .inr (0, fs))) (hv : fs[9]? = some v) (hd : decode cc pc = .ok (.getfield 27, 3)) (kk : V x k n ws (pc + 3) lv (v :: st)) : V x k n ws pc lv (.ref a :: st) := V_get hx (T := TX0) (N := 11) (ci := 0) rfl inT0 9 (by decide) q60 rfl i he hv hd kk
theorem q61 : Cond.fieldLinkNest RX1 119 RX0 "rememberedSeals" "[I" RX2 ∈ tbl := tin 122 (by decide +kernel) rfl
theorem gf_X1_119 (hx : FX x l R g nL cc RX1) {a : Nat} {fs : List Value} {v : Value} (i : Nat) (he : ws[i]? = some (a, .inr (0, fs))) (hv : fs[9]? = some v) (hd : decode cc pc = .ok (.getfield 119, 3)) (kk : V x k n ws (pc + 3) lv (v :: st)) : V x k n ws pc lv (.ref a :: st) := V_getN hx (T := TX0) (N := 11) (ci := 0) rfl inT0 9 (by decide) q61 rfl i he hv hd kk
theorem q62 : Cond.fieldLink RX0 30 RX0 "own" "[I" ∈ tbl := tin 123 (by decide +kernel) rfl
theorem gf_X0_30 (hx : FX x l R g nL cc RX0) {a : Nat} {fs : List Value} {v : Value} (i : Nat) (he : ws[i]? = some (a, .inr (0, fs))) (hv : fs[10]? = some v) (hd : decode cc pc = .ok (.getfield 30, 3)) (kk : V x k n ws (pc + 3) lv (v :: st)) : V x k n ws pc lv (.ref a :: st) := V_get hx (T := TX0) (N := 11) (ci := 0) rfl inT0 10 (by decide) q62 rfl i he hv hd kk
theorem q63 : Cond.fieldLinkNest RX1 95 RX0 "own" "[I" RX2 ∈ tbl := tin 124 (by decide +kernel) rfl
theorem gf_X1_95 (hx : FX x l R g nL cc RX1) {a : Nat} {fs : List Value} {v : Value} (i : Nat) (he : ws[i]? = some (a, .inr (0, fs))) (hv : fs[10]? = some v) (hd : decode cc pc = .ok (.getfield 95, 3)) (kk : V x k n ws (pc + 3) lv (v :: st)) : V x k n ws pc lv (.ref a :: st) := V_getN hx (T := TX0) (N := 11) (ci := 0) rfl inT0 10 (by decide) q63 rfl i he hv hd kk
theorem q88 : Cond.fieldLink RX1 9 RX1 "drawers" "I" ∈ tbl := tin 149 (by decide +kernel) rfl
theorem gf_X1_9 (hx : FX x l R g nL cc RX1) {a : Nat} {fs : List Value} {v : Value} (i : Nat) (he : ws[i]? = some (a, .inr (1, fs))) (hv : fs[0]? = some v) (hd : decode cc pc = .ok (.getfield 9, 3)) (kk : V x k n ws (pc + 3) lv (v :: st)) : V x k n ws pc lv (.ref a :: st) := V_get hx (T := TX1) (N := 9) (ci := 1) rfl inT1 0 (by decide) q88 rfl i he hv hd kk
theorem pf_X1_9 (hx : FX x l R g nL cc RX1) {a : Nat} {fs : List Value} {v : Int32} (i : Nat) (he : ws[i]? = some (a, .inr (1, fs))) (hl : 0 < fs.length) (ws' : va_W) (hw : ws.set i (a, .inr (1, fs.set 0 (.int v))) = ws') (hd : decode cc pc = .ok (.putfield 9, 3)) (kk : V x k n ws' (pc + 3) lv st) : V x k n ws pc lv (.int v :: .ref a :: st) := V_put hx (T := TX1) (N := 9) (ci := 1) rfl inT1 tyX1 tyX1_ok nmX1 0 (by decide) q88 rfl rfl (ty := .int) (by decide +kernel) rfl rfl i he hl ws' hw hd kk
theorem q89 : Cond.fieldLinkNest RX2 26 RX1 "drawers" "I" RX2 ∈ tbl := tin 150 (by decide +kernel) rfl
theorem gf_X2_26 (hx : FX x l R g nL cc RX2) {a : Nat} {fs : List Value} {v : Value} (i : Nat) (he : ws[i]? = some (a, .inr (1, fs))) (hv : fs[0]? = some v) (hd : decode cc pc = .ok (.getfield 26, 3)) (kk : V x k n ws (pc + 3) lv (v :: st)) : V x k n ws pc lv (.ref a :: st) := V_getN hx (T := TX1) (N := 9) (ci := 1) rfl inT1 0 (by decide) q89 rfl i he hv hd kk
theorem pf_X2_26 (hx : FX x l R g nL cc RX2) {a : Nat} {fs : List Value} {v : Int32} (i : Nat) (he : ws[i]? = some (a, .inr (1, fs))) (hl : 0 < fs.length) (ws' : va_W) (hw : ws.set i (a, .inr (1, fs.set 0 (.int v))) = ws') (hd : decode cc pc = .ok (.putfield 26, 3)) (kk : V x k n ws' (pc + 3) lv st) : V x k n ws pc lv (.int v :: .ref a :: st) := V_putN hx (T := TX1) (N := 9) (ci := 1) rfl inT1 tyX1 tyX1_ok nmX1 0 (by decide) q89 rfl rfl (ty := .int) (by decide +kernel) rfl rfl i he hl ws' hw hd kk
theorem q90 : Cond.fieldLink RX1 15 RX1 "amounts" "[I" ∈ tbl := tin 151 (by decide +kernel) rfl
theorem gf_X1_15 (hx : FX x l R g nL cc RX1) {a : Nat} {fs : List Value} {v : Value} (i : Nat) (he : ws[i]? = some (a, .inr (1, fs))) (hv : fs[1]? = some v) (hd : decode cc pc = .ok (.getfield 15, 3)) (kk : V x k n ws (pc + 3) lv (v :: st)) : V x k n ws pc lv (.ref a :: st) := V_get hx (T := TX1) (N := 9) (ci := 1) rfl inT1 1 (by decide) q90 rfl i he hv hd kk
theorem q91 : Cond.fieldLinkNest RX2 39 RX1 "amounts" "[I" RX2 ∈ tbl := tin 152 (by decide +kernel) rfl
theorem gf_X2_39 (hx : FX x l R g nL cc RX2) {a : Nat} {fs : List Value} {v : Value} (i : Nat) (he : ws[i]? = some (a, .inr (1, fs))) (hv : fs[1]? = some v) (hd : decode cc pc = .ok (.getfield 39, 3)) (kk : V x k n ws (pc + 3) lv (v :: st)) : V x k n ws pc lv (.ref a :: st) := V_getN hx (T := TX1) (N := 9) (ci := 1) rfl inT1 1 (by decide) q91 rfl i he hv hd kk
theorem q92 : Cond.fieldLink RX1 19 RX1 "seals" "[I" ∈ tbl := tin 153 (by decide +kernel) rfl
theorem gf_X1_19 (hx : FX x l R g nL cc RX1) {a : Nat} {fs : List Value} {v : Value} (i : Nat) (he : ws[i]? = some (a, .inr (1, fs))) (hv : fs[2]? = some v) (hd : decode cc pc = .ok (.getfield 19, 3)) (kk : V x k n ws (pc + 3) lv (v :: st)) : V x k n ws pc lv (.ref a :: st) := V_get hx (T := TX1) (N := 9) (ci := 1) rfl inT1 2 (by decide) q92 rfl i he hv hd kk
theorem q93 : Cond.fieldLink RX1 38 RX1 "clerkCount" "I" ∈ tbl := tin 154 (by decide +kernel) rfl
theorem gf_X1_38 (hx : FX x l R g nL cc RX1) {a : Nat} {fs : List Value} {v : Value} (i : Nat) (he : ws[i]? = some (a, .inr (1, fs))) (hv : fs[3]? = some v) (hd : decode cc pc = .ok (.getfield 38, 3)) (kk : V x k n ws (pc + 3) lv (v :: st)) : V x k n ws pc lv (.ref a :: st) := V_get hx (T := TX1) (N := 9) (ci := 1) rfl inT1 3 (by decide) q93 rfl i he hv hd kk
theorem pf_X1_38 (hx : FX x l R g nL cc RX1) {a : Nat} {fs : List Value} {v : Int32} (i : Nat) (he : ws[i]? = some (a, .inr (1, fs))) (hl : 3 < fs.length) (ws' : va_W) (hw : ws.set i (a, .inr (1, fs.set 3 (.int v))) = ws') (hd : decode cc pc = .ok (.putfield 38, 3)) (kk : V x k n ws' (pc + 3) lv st) : V x k n ws pc lv (.int v :: .ref a :: st) := V_put hx (T := TX1) (N := 9) (ci := 1) rfl inT1 tyX1 tyX1_ok nmX1 3 (by decide) q93 rfl rfl (ty := .int) (by decide +kernel) rfl rfl i he hl ws' hw hd kk
theorem q94 : Cond.fieldLinkNest RX2 47 RX1 "clerkCount" "I" RX2 ∈ tbl := tin 155 (by decide +kernel) rfl
theorem gf_X2_47 (hx : FX x l R g nL cc RX2) {a : Nat} {fs : List Value} {v : Value} (i : Nat) (he : ws[i]? = some (a, .inr (1, fs))) (hv : fs[3]? = some v) (hd : decode cc pc = .ok (.getfield 47, 3)) (kk : V x k n ws (pc + 3) lv (v :: st)) : V x k n ws pc lv (.ref a :: st) := V_getN hx (T := TX1) (N := 9) (ci := 1) rfl inT1 3 (by decide) q94 rfl i he hv hd kk
theorem pf_X2_47 (hx : FX x l R g nL cc RX2) {a : Nat} {fs : List Value} {v : Int32} (i : Nat) (he : ws[i]? = some (a, .inr (1, fs))) (hl : 3 < fs.length) (ws' : va_W) (hw : ws.set i (a, .inr (1, fs.set 3 (.int v))) = ws') (hd : decode cc pc = .ok (.putfield 47, 3)) (kk : V x k n ws' (pc + 3) lv st) : V x k n ws pc lv (.int v :: .ref a :: st) := V_putN hx (T := TX1) (N := 9) (ci := 1) rfl inT1 tyX1 tyX1_ok nmX1 3 (by decide) q94 rfl rfl (ty := .int) (by decide +kernel) rfl rfl i he hl ws' hw hd kk
theorem q95 : Cond.fieldLink RX1 24 RX1 "clerks" "[LTillOptimists$Clerk;" ∈ tbl := tin 156 (by decide +kernel) rfl
theorem gf_X1_24 (hx : FX x l R g nL cc RX1) {a : Nat} {fs : List Value} {v : Value} (i : Nat) (he : ws[i]? = some (a, .inr (1, fs))) (hv : fs[4]? = some v) (hd : decode cc pc = .ok (.getfield 24, 3)) (kk : V x k n ws (pc + 3) lv (v :: st)) : V x k n ws pc lv (.ref a :: st) := V_get hx (T := TX1) (N := 9) (ci := 1) rfl inT1 4 (by decide) q95 rfl i he hv hd kk
theorem q96 : Cond.fieldLinkNest RX2 72 RX1 "clerks" "[LTillOptimists$Clerk;" RX2 ∈ tbl := tin 157 (by decide +kernel) rfl
theorem gf_X2_72 (hx : FX x l R g nL cc RX2) {a : Nat} {fs : List Value} {v : Value} (i : Nat) (he : ws[i]? = some (a, .inr (1, fs))) (hv : fs[4]? = some v) (hd : decode cc pc = .ok (.getfield 72, 3)) (kk : V x k n ws (pc + 3) lv (v :: st)) : V x k n ws pc lv (.ref a :: st) := V_getN hx (T := TX1) (N := 9) (ci := 1) rfl inT1 4 (by decide) q96 rfl i he hv hd kk
theorem q97 : Cond.fieldLink RX1 41 RX1 "closings" "I" ∈ tbl := tin 158 (by decide +kernel) rfl
theorem gf_X1_41 (hx : FX x l R g nL cc RX1) {a : Nat} {fs : List Value} {v : Value} (i : Nat) (he : ws[i]? = some (a, .inr (1, fs))) (hv : fs[5]? = some v) (hd : decode cc pc = .ok (.getfield 41, 3)) (kk : V x k n ws (pc + 3) lv (v :: st)) : V x k n ws pc lv (.ref a :: st) := V_get hx (T := TX1) (N := 9) (ci := 1) rfl inT1 5 (by decide) q97 rfl i he hv hd kk
theorem pf_X1_41 (hx : FX x l R g nL cc RX1) {a : Nat} {fs : List Value} {v : Int32} (i : Nat) (he : ws[i]? = some (a, .inr (1, fs))) (hl : 5 < fs.length) (ws' : va_W) (hw : ws.set i (a, .inr (1, fs.set 5 (.int v))) = ws') (hd : decode cc pc = .ok (.putfield 41, 3)) (kk : V x k n ws' (pc + 3) lv st) : V x k n ws pc lv (.int v :: .ref a :: st) := V_put hx (T := TX1) (N := 9) (ci := 1) rfl inT1 tyX1 tyX1_ok nmX1 5 (by decide) q97 rfl rfl (ty := .int) (by decide +kernel) rfl rfl i he hl ws' hw hd kk
theorem q98 : Cond.fieldLink RX1 29 RX1 "closers" "[I" ∈ tbl := tin 159 (by decide +kernel) rfl
theorem gf_X1_29 (hx : FX x l R g nL cc RX1) {a : Nat} {fs : List Value} {v : Value} (i : Nat) (he : ws[i]? = some (a, .inr (1, fs))) (hv : fs[6]? = some v) (hd : decode cc pc = .ok (.getfield 29, 3)) (kk : V x k n ws (pc + 3) lv (v :: st)) : V x k n ws pc lv (.ref a :: st) := V_get hx (T := TX1) (N := 9) (ci := 1) rfl inT1 6 (by decide) q98 rfl i he hv hd kk
theorem q99 : Cond.fieldLink RX1 32 RX1 "writtens" "[I" ∈ tbl := tin 160 (by decide +kernel) rfl
theorem gf_X1_32 (hx : FX x l R g nL cc RX1) {a : Nat} {fs : List Value} {v : Value} (i : Nat) (he : ws[i]? = some (a, .inr (1, fs))) (hv : fs[7]? = some v) (hd : decode cc pc = .ok (.getfield 32, 3)) (kk : V x k n ws (pc + 3) lv (v :: st)) : V x k n ws pc lv (.ref a :: st) := V_get hx (T := TX1) (N := 9) (ci := 1) rfl inT1 7 (by decide) q99 rfl i he hv hd kk
theorem q100 : Cond.fieldLink RX1 35 RX1 "sums" "[I" ∈ tbl := tin 161 (by decide +kernel) rfl
theorem gf_X1_35 (hx : FX x l R g nL cc RX1) {a : Nat} {fs : List Value} {v : Value} (i : Nat) (he : ws[i]? = some (a, .inr (1, fs))) (hv : fs[8]? = some v) (hd : decode cc pc = .ok (.getfield 35, 3)) (kk : V x k n ws (pc + 3) lv (v :: st)) : V x k n ws pc lv (.ref a :: st) := V_get hx (T := TX1) (N := 9) (ci := 1) rfl inT1 8 (by decide) q100 rfl i he hv hd kk
theorem q120 : Cond.fieldLink RX2 10 RX2 "now" "LTillOptimists$Shop;" ∈ tbl := tin 181 (by decide +kernel) rfl
theorem gf_X2_10 (hx : FX x l R g nL cc RX2) {a : Nat} {fs : List Value} {v : Value} (i : Nat) (he : ws[i]? = some (a, .inr (2, fs))) (hv : fs[0]? = some v) (hd : decode cc pc = .ok (.getfield 10, 3)) (kk : V x k n ws (pc + 3) lv (v :: st)) : V x k n ws pc lv (.ref a :: st) := V_get hx (T := TX2) (N := 2) (ci := 2) rfl inT2 0 (by decide) q120 rfl i he hv hd kk
theorem q121 : Cond.fieldLink RX2 16 RX2 "trial" "LTillOptimists$Shop;" ∈ tbl := tin 182 (by decide +kernel) rfl
theorem gf_X2_16 (hx : FX x l R g nL cc RX2) {a : Nat} {fs : List Value} {v : Value} (i : Nat) (he : ws[i]? = some (a, .inr (2, fs))) (hv : fs[1]? = some v) (hd : decode cc pc = .ok (.getfield 16, 3)) (kk : V x k n ws (pc + 3) lv (v :: st)) : V x k n ws pc lv (.ref a :: st) := V_get hx (T := TX2) (N := 2) (ci := 2) rfl inT2 1 (by decide) q121 rfl i he hv hd kk
theorem q581 : Cond.fieldLink RX3 9 RX3 "drawers" "I" ∈ tbl := tin 642 (by decide +kernel) rfl
theorem gf_X3_9 (hx : FX x l R g nL cc RX3) {a : Nat} {fs : List Value} {v : Value} (i : Nat) (he : ws[i]? = some (a, .inr (3, fs))) (hv : fs[0]? = some v) (hd : decode cc pc = .ok (.getfield 9, 3)) (kk : V x k n ws (pc + 3) lv (v :: st)) : V x k n ws pc lv (.ref a :: st) := V_get hx (T := TX3) (N := 16) (ci := 3) rfl inT3 0 (by decide) q581 rfl i he hv hd kk
theorem pf_X3_9 (hx : FX x l R g nL cc RX3) {a : Nat} {fs : List Value} {v : Int32} (i : Nat) (he : ws[i]? = some (a, .inr (3, fs))) (hl : 0 < fs.length) (ws' : va_W) (hw : ws.set i (a, .inr (3, fs.set 0 (.int v))) = ws') (hd : decode cc pc = .ok (.putfield 9, 3)) (kk : V x k n ws' (pc + 3) lv st) : V x k n ws pc lv (.int v :: .ref a :: st) := V_put hx (T := TX3) (N := 16) (ci := 3) rfl inT3 tyX3 tyX3_ok nmX3 0 (by decide) q581 rfl rfl (ty := .int) (by decide +kernel) rfl rfl i he hl ws' hw hd kk
theorem q582 : Cond.fieldLinkNest RX4 23 RX3 "drawers" "I" RX4 ∈ tbl := tin 643 (by decide +kernel) rfl
theorem gf_X4_23 (hx : FX x l R g nL cc RX4) {a : Nat} {fs : List Value} {v : Value} (i : Nat) (he : ws[i]? = some (a, .inr (3, fs))) (hv : fs[0]? = some v) (hd : decode cc pc = .ok (.getfield 23, 3)) (kk : V x k n ws (pc + 3) lv (v :: st)) : V x k n ws pc lv (.ref a :: st) := V_getN hx (T := TX3) (N := 16) (ci := 3) rfl inT3 0 (by decide) q582 rfl i he hv hd kk
theorem pf_X4_23 (hx : FX x l R g nL cc RX4) {a : Nat} {fs : List Value} {v : Int32} (i : Nat) (he : ws[i]? = some (a, .inr (3, fs))) (hl : 0 < fs.length) (ws' : va_W) (hw : ws.set i (a, .inr (3, fs.set 0 (.int v))) = ws') (hd : decode cc pc = .ok (.putfield 23, 3)) (kk : V x k n ws' (pc + 3) lv st) : V x k n ws pc lv (.int v :: .ref a :: st) := V_putN hx (T := TX3) (N := 16) (ci := 3) rfl inT3 tyX3 tyX3_ok nmX3 0 (by decide) q582 rfl rfl (ty := .int) (by decide +kernel) rfl rfl i he hl ws' hw hd kk
theorem q583 : Cond.fieldLink RX3 61 RX3 "clerks" "I" ∈ tbl := tin 644 (by decide +kernel) rfl
theorem gf_X3_61 (hx : FX x l R g nL cc RX3) {a : Nat} {fs : List Value} {v : Value} (i : Nat) (he : ws[i]? = some (a, .inr (3, fs))) (hv : fs[1]? = some v) (hd : decode cc pc = .ok (.getfield 61, 3)) (kk : V x k n ws (pc + 3) lv (v :: st)) : V x k n ws pc lv (.ref a :: st) := V_get hx (T := TX3) (N := 16) (ci := 3) rfl inT3 1 (by decide) q583 rfl i he hv hd kk
theorem pf_X3_61 (hx : FX x l R g nL cc RX3) {a : Nat} {fs : List Value} {v : Int32} (i : Nat) (he : ws[i]? = some (a, .inr (3, fs))) (hl : 1 < fs.length) (ws' : va_W) (hw : ws.set i (a, .inr (3, fs.set 1 (.int v))) = ws') (hd : decode cc pc = .ok (.putfield 61, 3)) (kk : V x k n ws' (pc + 3) lv st) : V x k n ws pc lv (.int v :: .ref a :: st) := V_put hx (T := TX3) (N := 16) (ci := 3) rfl inT3 tyX3 tyX3_ok nmX3 1 (by decide) q583 rfl rfl (ty := .int) (by decide +kernel) rfl rfl i he hl ws' hw hd kk
theorem q584 : Cond.fieldLinkNest RX4 30 RX3 "clerks" "I" RX4 ∈ tbl := tin 645 (by decide +kernel) rfl
theorem gf_X4_30 (hx : FX x l R g nL cc RX4) {a : Nat} {fs : List Value} {v : Value} (i : Nat) (he : ws[i]? = some (a, .inr (3, fs))) (hv : fs[1]? = some v) (hd : decode cc pc = .ok (.getfield 30, 3)) (kk : V x k n ws (pc + 3) lv (v :: st)) : V x k n ws pc lv (.ref a :: st) := V_getN hx (T := TX3) (N := 16) (ci := 3) rfl inT3 1 (by decide) q584 rfl i he hv hd kk
theorem pf_X4_30 (hx : FX x l R g nL cc RX4) {a : Nat} {fs : List Value} {v : Int32} (i : Nat) (he : ws[i]? = some (a, .inr (3, fs))) (hl : 1 < fs.length) (ws' : va_W) (hw : ws.set i (a, .inr (3, fs.set 1 (.int v))) = ws') (hd : decode cc pc = .ok (.putfield 30, 3)) (kk : V x k n ws' (pc + 3) lv st) : V x k n ws pc lv (.int v :: .ref a :: st) := V_putN hx (T := TX3) (N := 16) (ci := 3) rfl inT3 tyX3 tyX3_ok nmX3 1 (by decide) q584 rfl rfl (ty := .int) (by decide +kernel) rfl rfl i he hl ws' hw hd kk
theorem q585 : Cond.fieldLink RX3 64 RX3 "closings" "I" ∈ tbl := tin 646 (by decide +kernel) rfl
theorem gf_X3_64 (hx : FX x l R g nL cc RX3) {a : Nat} {fs : List Value} {v : Value} (i : Nat) (he : ws[i]? = some (a, .inr (3, fs))) (hv : fs[2]? = some v) (hd : decode cc pc = .ok (.getfield 64, 3)) (kk : V x k n ws (pc + 3) lv (v :: st)) : V x k n ws pc lv (.ref a :: st) := V_get hx (T := TX3) (N := 16) (ci := 3) rfl inT3 2 (by decide) q585 rfl i he hv hd kk
theorem pf_X3_64 (hx : FX x l R g nL cc RX3) {a : Nat} {fs : List Value} {v : Int32} (i : Nat) (he : ws[i]? = some (a, .inr (3, fs))) (hl : 2 < fs.length) (ws' : va_W) (hw : ws.set i (a, .inr (3, fs.set 2 (.int v))) = ws') (hd : decode cc pc = .ok (.putfield 64, 3)) (kk : V x k n ws' (pc + 3) lv st) : V x k n ws pc lv (.int v :: .ref a :: st) := V_put hx (T := TX3) (N := 16) (ci := 3) rfl inT3 tyX3 tyX3_ok nmX3 2 (by decide) q585 rfl rfl (ty := .int) (by decide +kernel) rfl rfl i he hl ws' hw hd kk
theorem q586 : Cond.fieldLinkNest RX4 126 RX3 "closings" "I" RX4 ∈ tbl := tin 647 (by decide +kernel) rfl
theorem gf_X4_126 (hx : FX x l R g nL cc RX4) {a : Nat} {fs : List Value} {v : Value} (i : Nat) (he : ws[i]? = some (a, .inr (3, fs))) (hv : fs[2]? = some v) (hd : decode cc pc = .ok (.getfield 126, 3)) (kk : V x k n ws (pc + 3) lv (v :: st)) : V x k n ws pc lv (.ref a :: st) := V_getN hx (T := TX3) (N := 16) (ci := 3) rfl inT3 2 (by decide) q586 rfl i he hv hd kk
theorem pf_X4_126 (hx : FX x l R g nL cc RX4) {a : Nat} {fs : List Value} {v : Int32} (i : Nat) (he : ws[i]? = some (a, .inr (3, fs))) (hl : 2 < fs.length) (ws' : va_W) (hw : ws.set i (a, .inr (3, fs.set 2 (.int v))) = ws') (hd : decode cc pc = .ok (.putfield 126, 3)) (kk : V x k n ws' (pc + 3) lv st) : V x k n ws pc lv (.int v :: .ref a :: st) := V_putN hx (T := TX3) (N := 16) (ci := 3) rfl inT3 tyX3 tyX3_ok nmX3 2 (by decide) q586 rfl rfl (ty := .int) (by decide +kernel) rfl rfl i he hl ws' hw hd kk
theorem q587 : Cond.fieldLink RX3 15 RX3 "amount" "[I" ∈ tbl := tin 648 (by decide +kernel) rfl
theorem gf_X3_15 (hx : FX x l R g nL cc RX3) {a : Nat} {fs : List Value} {v : Value} (i : Nat) (he : ws[i]? = some (a, .inr (3, fs))) (hv : fs[3]? = some v) (hd : decode cc pc = .ok (.getfield 15, 3)) (kk : V x k n ws (pc + 3) lv (v :: st)) : V x k n ws pc lv (.ref a :: st) := V_get hx (T := TX3) (N := 16) (ci := 3) rfl inT3 3 (by decide) q587 rfl i he hv hd kk
theorem q588 : Cond.fieldLinkNest RX4 45 RX3 "amount" "[I" RX4 ∈ tbl := tin 649 (by decide +kernel) rfl
theorem gf_X4_45 (hx : FX x l R g nL cc RX4) {a : Nat} {fs : List Value} {v : Value} (i : Nat) (he : ws[i]? = some (a, .inr (3, fs))) (hv : fs[3]? = some v) (hd : decode cc pc = .ok (.getfield 45, 3)) (kk : V x k n ws (pc + 3) lv (v :: st)) : V x k n ws pc lv (.ref a :: st) := V_getN hx (T := TX3) (N := 16) (ci := 3) rfl inT3 3 (by decide) q588 rfl i he hv hd kk
theorem q589 : Cond.fieldLink RX3 19 RX3 "seal" "[I" ∈ tbl := tin 650 (by decide +kernel) rfl
theorem gf_X3_19 (hx : FX x l R g nL cc RX3) {a : Nat} {fs : List Value} {v : Value} (i : Nat) (he : ws[i]? = some (a, .inr (3, fs))) (hv : fs[4]? = some v) (hd : decode cc pc = .ok (.getfield 19, 3)) (kk : V x k n ws (pc + 3) lv (v :: st)) : V x k n ws pc lv (.ref a :: st) := V_get hx (T := TX3) (N := 16) (ci := 3) rfl inT3 4 (by decide) q589 rfl i he hv hd kk
theorem q590 : Cond.fieldLinkNest RX4 90 RX3 "seal" "[I" RX4 ∈ tbl := tin 651 (by decide +kernel) rfl
theorem gf_X4_90 (hx : FX x l R g nL cc RX4) {a : Nat} {fs : List Value} {v : Value} (i : Nat) (he : ws[i]? = some (a, .inr (3, fs))) (hv : fs[4]? = some v) (hd : decode cc pc = .ok (.getfield 90, 3)) (kk : V x k n ws (pc + 3) lv (v :: st)) : V x k n ws pc lv (.ref a :: st) := V_getN hx (T := TX3) (N := 16) (ci := 3) rfl inT3 4 (by decide) q590 rfl i he hv hd kk
theorem q591 : Cond.fieldLink RX3 22 RX3 "program" "[I" ∈ tbl := tin 652 (by decide +kernel) rfl
theorem gf_X3_22 (hx : FX x l R g nL cc RX3) {a : Nat} {fs : List Value} {v : Value} (i : Nat) (he : ws[i]? = some (a, .inr (3, fs))) (hv : fs[5]? = some v) (hd : decode cc pc = .ok (.getfield 22, 3)) (kk : V x k n ws (pc + 3) lv (v :: st)) : V x k n ws pc lv (.ref a :: st) := V_get hx (T := TX3) (N := 16) (ci := 3) rfl inT3 5 (by decide) q591 rfl i he hv hd kk
theorem q592 : Cond.fieldLinkNest RX4 69 RX3 "program" "[I" RX4 ∈ tbl := tin 653 (by decide +kernel) rfl
theorem gf_X4_69 (hx : FX x l R g nL cc RX4) {a : Nat} {fs : List Value} {v : Value} (i : Nat) (he : ws[i]? = some (a, .inr (3, fs))) (hv : fs[5]? = some v) (hd : decode cc pc = .ok (.getfield 69, 3)) (kk : V x k n ws (pc + 3) lv (v :: st)) : V x k n ws pc lv (.ref a :: st) := V_getN hx (T := TX3) (N := 16) (ci := 3) rfl inT3 5 (by decide) q592 rfl i he hv hd kk
theorem q593 : Cond.fieldLink RX3 25 RX3 "steps" "[I" ∈ tbl := tin 654 (by decide +kernel) rfl
theorem gf_X3_25 (hx : FX x l R g nL cc RX3) {a : Nat} {fs : List Value} {v : Value} (i : Nat) (he : ws[i]? = some (a, .inr (3, fs))) (hv : fs[6]? = some v) (hd : decode cc pc = .ok (.getfield 25, 3)) (kk : V x k n ws (pc + 3) lv (v :: st)) : V x k n ws pc lv (.ref a :: st) := V_get hx (T := TX3) (N := 16) (ci := 3) rfl inT3 6 (by decide) q593 rfl i he hv hd kk
theorem q594 : Cond.fieldLinkNest RX4 66 RX3 "steps" "[I" RX4 ∈ tbl := tin 655 (by decide +kernel) rfl
theorem gf_X4_66 (hx : FX x l R g nL cc RX4) {a : Nat} {fs : List Value} {v : Value} (i : Nat) (he : ws[i]? = some (a, .inr (3, fs))) (hv : fs[6]? = some v) (hd : decode cc pc = .ok (.getfield 66, 3)) (kk : V x k n ws (pc + 3) lv (v :: st)) : V x k n ws pc lv (.ref a :: st) := V_getN hx (T := TX3) (N := 16) (ci := 3) rfl inT3 6 (by decide) q594 rfl i he hv hd kk
theorem q595 : Cond.fieldLink RX3 28 RX3 "place" "[I" ∈ tbl := tin 656 (by decide +kernel) rfl
theorem gf_X3_28 (hx : FX x l R g nL cc RX3) {a : Nat} {fs : List Value} {v : Value} (i : Nat) (he : ws[i]? = some (a, .inr (3, fs))) (hv : fs[7]? = some v) (hd : decode cc pc = .ok (.getfield 28, 3)) (kk : V x k n ws (pc + 3) lv (v :: st)) : V x k n ws pc lv (.ref a :: st) := V_get hx (T := TX3) (N := 16) (ci := 3) rfl inT3 7 (by decide) q595 rfl i he hv hd kk
theorem q596 : Cond.fieldLinkNest RX4 63 RX3 "place" "[I" RX4 ∈ tbl := tin 657 (by decide +kernel) rfl
theorem gf_X4_63 (hx : FX x l R g nL cc RX4) {a : Nat} {fs : List Value} {v : Value} (i : Nat) (he : ws[i]? = some (a, .inr (3, fs))) (hv : fs[7]? = some v) (hd : decode cc pc = .ok (.getfield 63, 3)) (kk : V x k n ws (pc + 3) lv (v :: st)) : V x k n ws pc lv (.ref a :: st) := V_getN hx (T := TX3) (N := 16) (ci := 3) rfl inT3 7 (by decide) q596 rfl i he hv hd kk
theorem q597 : Cond.fieldLink RX3 31 RX3 "done" "[I" ∈ tbl := tin 658 (by decide +kernel) rfl
theorem gf_X3_31 (hx : FX x l R g nL cc RX3) {a : Nat} {fs : List Value} {v : Value} (i : Nat) (he : ws[i]? = some (a, .inr (3, fs))) (hv : fs[8]? = some v) (hd : decode cc pc = .ok (.getfield 31, 3)) (kk : V x k n ws (pc + 3) lv (v :: st)) : V x k n ws pc lv (.ref a :: st) := V_get hx (T := TX3) (N := 16) (ci := 3) rfl inT3 8 (by decide) q597 rfl i he hv hd kk
theorem q598 : Cond.fieldLinkNest RX4 60 RX3 "done" "[I" RX4 ∈ tbl := tin 659 (by decide +kernel) rfl
theorem gf_X4_60 (hx : FX x l R g nL cc RX4) {a : Nat} {fs : List Value} {v : Value} (i : Nat) (he : ws[i]? = some (a, .inr (3, fs))) (hv : fs[8]? = some v) (hd : decode cc pc = .ok (.getfield 60, 3)) (kk : V x k n ws (pc + 3) lv (v :: st)) : V x k n ws pc lv (.ref a :: st) := V_getN hx (T := TX3) (N := 16) (ci := 3) rfl inT3 8 (by decide) q598 rfl i he hv hd kk
theorem q599 : Cond.fieldLink RX3 34 RX3 "lost" "[I" ∈ tbl := tin 660 (by decide +kernel) rfl
theorem gf_X3_34 (hx : FX x l R g nL cc RX3) {a : Nat} {fs : List Value} {v : Value} (i : Nat) (he : ws[i]? = some (a, .inr (3, fs))) (hv : fs[9]? = some v) (hd : decode cc pc = .ok (.getfield 34, 3)) (kk : V x k n ws (pc + 3) lv (v :: st)) : V x k n ws pc lv (.ref a :: st) := V_get hx (T := TX3) (N := 16) (ci := 3) rfl inT3 9 (by decide) q599 rfl i he hv hd kk
theorem q600 : Cond.fieldLinkNest RX4 103 RX3 "lost" "[I" RX4 ∈ tbl := tin 661 (by decide +kernel) rfl
theorem gf_X4_103 (hx : FX x l R g nL cc RX4) {a : Nat} {fs : List Value} {v : Value} (i : Nat) (he : ws[i]? = some (a, .inr (3, fs))) (hv : fs[9]? = some v) (hd : decode cc pc = .ok (.getfield 103, 3)) (kk : V x k n ws (pc + 3) lv (v :: st)) : V x k n ws pc lv (.ref a :: st) := V_getN hx (T := TX3) (N := 16) (ci := 3) rfl inT3 9 (by decide) q600 rfl i he hv hd kk
theorem q601 : Cond.fieldLink RX3 37 RX3 "had" "[I" ∈ tbl := tin 662 (by decide +kernel) rfl
theorem gf_X3_37 (hx : FX x l R g nL cc RX3) {a : Nat} {fs : List Value} {v : Value} (i : Nat) (he : ws[i]? = some (a, .inr (3, fs))) (hv : fs[10]? = some v) (hd : decode cc pc = .ok (.getfield 37, 3)) (kk : V x k n ws (pc + 3) lv (v :: st)) : V x k n ws pc lv (.ref a :: st) := V_get hx (T := TX3) (N := 16) (ci := 3) rfl inT3 10 (by decide) q601 rfl i he hv hd kk
theorem q602 : Cond.fieldLinkNest RX4 93 RX3 "had" "[I" RX4 ∈ tbl := tin 663 (by decide +kernel) rfl
theorem gf_X4_93 (hx : FX x l R g nL cc RX4) {a : Nat} {fs : List Value} {v : Value} (i : Nat) (he : ws[i]? = some (a, .inr (3, fs))) (hv : fs[10]? = some v) (hd : decode cc pc = .ok (.getfield 93, 3)) (kk : V x k n ws (pc + 3) lv (v :: st)) : V x k n ws pc lv (.ref a :: st) := V_getN hx (T := TX3) (N := 16) (ci := 3) rfl inT3 10 (by decide) q602 rfl i he hv hd kk
theorem q603 : Cond.fieldLink RX3 40 RX3 "hadSeal" "[I" ∈ tbl := tin 664 (by decide +kernel) rfl
theorem gf_X3_40 (hx : FX x l R g nL cc RX3) {a : Nat} {fs : List Value} {v : Value} (i : Nat) (he : ws[i]? = some (a, .inr (3, fs))) (hv : fs[11]? = some v) (hd : decode cc pc = .ok (.getfield 40, 3)) (kk : V x k n ws (pc + 3) lv (v :: st)) : V x k n ws pc lv (.ref a :: st) := V_get hx (T := TX3) (N := 16) (ci := 3) rfl inT3 11 (by decide) q603 rfl i he hv hd kk
theorem q604 : Cond.fieldLinkNest RX4 116 RX3 "hadSeal" "[I" RX4 ∈ tbl := tin 665 (by decide +kernel) rfl
theorem gf_X4_116 (hx : FX x l R g nL cc RX4) {a : Nat} {fs : List Value} {v : Value} (i : Nat) (he : ws[i]? = some (a, .inr (3, fs))) (hv : fs[11]? = some v) (hd : decode cc pc = .ok (.getfield 116, 3)) (kk : V x k n ws (pc + 3) lv (v :: st)) : V x k n ws pc lv (.ref a :: st) := V_getN hx (T := TX3) (N := 16) (ci := 3) rfl inT3 11 (by decide) q604 rfl i he hv hd kk
theorem q605 : Cond.fieldLink RX3 43 RX3 "own" "[I" ∈ tbl := tin 666 (by decide +kernel) rfl
theorem gf_X3_43 (hx : FX x l R g nL cc RX3) {a : Nat} {fs : List Value} {v : Value} (i : Nat) (he : ws[i]? = some (a, .inr (3, fs))) (hv : fs[12]? = some v) (hd : decode cc pc = .ok (.getfield 43, 3)) (kk : V x k n ws (pc + 3) lv (v :: st)) : V x k n ws pc lv (.ref a :: st) := V_get hx (T := TX3) (N := 16) (ci := 3) rfl inT3 12 (by decide) q605 rfl i he hv hd kk
theorem q606 : Cond.fieldLinkNest RX4 96 RX3 "own" "[I" RX4 ∈ tbl := tin 667 (by decide +kernel) rfl
theorem gf_X4_96 (hx : FX x l R g nL cc RX4) {a : Nat} {fs : List Value} {v : Value} (i : Nat) (he : ws[i]? = some (a, .inr (3, fs))) (hv : fs[12]? = some v) (hd : decode cc pc = .ok (.getfield 96, 3)) (kk : V x k n ws (pc + 3) lv (v :: st)) : V x k n ws pc lv (.ref a :: st) := V_getN hx (T := TX3) (N := 16) (ci := 3) rfl inT3 12 (by decide) q606 rfl i he hv hd kk
theorem q607 : Cond.fieldLink RX3 46 RX3 "byWhom" "[I" ∈ tbl := tin 668 (by decide +kernel) rfl
theorem gf_X3_46 (hx : FX x l R g nL cc RX3) {a : Nat} {fs : List Value} {v : Value} (i : Nat) (he : ws[i]? = some (a, .inr (3, fs))) (hv : fs[13]? = some v) (hd : decode cc pc = .ok (.getfield 46, 3)) (kk : V x k n ws (pc + 3) lv (v :: st)) : V x k n ws pc lv (.ref a :: st) := V_get hx (T := TX3) (N := 16) (ci := 3) rfl inT3 13 (by decide) q607 rfl i he hv hd kk
theorem q608 : Cond.fieldLinkNest RX4 129 RX3 "byWhom" "[I" RX4 ∈ tbl := tin 669 (by decide +kernel) rfl
theorem gf_X4_129 (hx : FX x l R g nL cc RX4) {a : Nat} {fs : List Value} {v : Value} (i : Nat) (he : ws[i]? = some (a, .inr (3, fs))) (hv : fs[13]? = some v) (hd : decode cc pc = .ok (.getfield 129, 3)) (kk : V x k n ws (pc + 3) lv (v :: st)) : V x k n ws pc lv (.ref a :: st) := V_getN hx (T := TX3) (N := 16) (ci := 3) rfl inT3 13 (by decide) q608 rfl i he hv hd kk
theorem q609 : Cond.fieldLink RX3 49 RX3 "wrote" "[I" ∈ tbl := tin 670 (by decide +kernel) rfl
theorem gf_X3_49 (hx : FX x l R g nL cc RX3) {a : Nat} {fs : List Value} {v : Value} (i : Nat) (he : ws[i]? = some (a, .inr (3, fs))) (hv : fs[14]? = some v) (hd : decode cc pc = .ok (.getfield 49, 3)) (kk : V x k n ws (pc + 3) lv (v :: st)) : V x k n ws pc lv (.ref a :: st) := V_get hx (T := TX3) (N := 16) (ci := 3) rfl inT3 14 (by decide) q609 rfl i he hv hd kk
theorem q610 : Cond.fieldLinkNest RX4 132 RX3 "wrote" "[I" RX4 ∈ tbl := tin 671 (by decide +kernel) rfl
theorem gf_X4_132 (hx : FX x l R g nL cc RX4) {a : Nat} {fs : List Value} {v : Value} (i : Nat) (he : ws[i]? = some (a, .inr (3, fs))) (hv : fs[14]? = some v) (hd : decode cc pc = .ok (.getfield 132, 3)) (kk : V x k n ws (pc + 3) lv (v :: st)) : V x k n ws pc lv (.ref a :: st) := V_getN hx (T := TX3) (N := 16) (ci := 3) rfl inT3 14 (by decide) q610 rfl i he hv hd kk
theorem q611 : Cond.fieldLink RX3 52 RX3 "sums" "[I" ∈ tbl := tin 672 (by decide +kernel) rfl
theorem gf_X3_52 (hx : FX x l R g nL cc RX3) {a : Nat} {fs : List Value} {v : Value} (i : Nat) (he : ws[i]? = some (a, .inr (3, fs))) (hv : fs[15]? = some v) (hd : decode cc pc = .ok (.getfield 52, 3)) (kk : V x k n ws (pc + 3) lv (v :: st)) : V x k n ws pc lv (.ref a :: st) := V_get hx (T := TX3) (N := 16) (ci := 3) rfl inT3 15 (by decide) q611 rfl i he hv hd kk
theorem q612 : Cond.fieldLinkNest RX4 135 RX3 "sums" "[I" RX4 ∈ tbl := tin 673 (by decide +kernel) rfl
theorem gf_X4_135 (hx : FX x l R g nL cc RX4) {a : Nat} {fs : List Value} {v : Value} (i : Nat) (he : ws[i]? = some (a, .inr (3, fs))) (hv : fs[15]? = some v) (hd : decode cc pc = .ok (.getfield 135, 3)) (kk : V x k n ws (pc + 3) lv (v :: st)) : V x k n ws pc lv (.ref a :: st) := V_getN hx (T := TX3) (N := 16) (ci := 3) rfl inT3 15 (by decide) q612 rfl i he hv hd kk
theorem q646 : Cond.fieldLink RX4 19 RX4 "thrown" "I" ∈ tbl := tin 707 (by decide +kernel) rfl
theorem gf_X4_19 (hx : FX x l R g nL cc RX4) {a : Nat} {fs : List Value} {v : Value} (i : Nat) (he : ws[i]? = some (a, .inr (4, fs))) (hv : fs[0]? = some v) (hd : decode cc pc = .ok (.getfield 19, 3)) (kk : V x k n ws (pc + 3) lv (v :: st)) : V x k n ws pc lv (.ref a :: st) := V_get hx (T := TX4) (N := 3) (ci := 4) rfl inT4 0 (by decide) q646 rfl i he hv hd kk
theorem pf_X4_19 (hx : FX x l R g nL cc RX4) {a : Nat} {fs : List Value} {v : Int32} (i : Nat) (he : ws[i]? = some (a, .inr (4, fs))) (hl : 0 < fs.length) (ws' : va_W) (hw : ws.set i (a, .inr (4, fs.set 0 (.int v))) = ws') (hd : decode cc pc = .ok (.putfield 19, 3)) (kk : V x k n ws' (pc + 3) lv st) : V x k n ws pc lv (.int v :: .ref a :: st) := V_put hx (T := TX4) (N := 3) (ci := 4) rfl inT4 tyX4 tyX4_ok nmX4 0 (by decide) q646 rfl rfl (ty := .int) (by decide +kernel) rfl rfl i he hl ws' hw hd kk
theorem q647 : Cond.fieldLink RX4 10 RX4 "s" "LTillOptimistsModel$State;" ∈ tbl := tin 708 (by decide +kernel) rfl
theorem gf_X4_10 (hx : FX x l R g nL cc RX4) {a : Nat} {fs : List Value} {v : Value} (i : Nat) (he : ws[i]? = some (a, .inr (4, fs))) (hv : fs[1]? = some v) (hd : decode cc pc = .ok (.getfield 10, 3)) (kk : V x k n ws (pc + 3) lv (v :: st)) : V x k n ws pc lv (.ref a :: st) := V_get hx (T := TX4) (N := 3) (ci := 4) rfl inT4 1 (by decide) q647 rfl i he hv hd kk
theorem q648 : Cond.fieldLink RX4 16 RX4 "ahead" "LTillOptimistsModel$State;" ∈ tbl := tin 709 (by decide +kernel) rfl
theorem gf_X4_16 (hx : FX x l R g nL cc RX4) {a : Nat} {fs : List Value} {v : Value} (i : Nat) (he : ws[i]? = some (a, .inr (4, fs))) (hv : fs[2]? = some v) (hd : decode cc pc = .ok (.getfield 16, 3)) (kk : V x k n ws (pc + 3) lv (v :: st)) : V x k n ws pc lv (.ref a :: st) := V_get hx (T := TX4) (N := 3) (ci := 4) rfl inT4 2 (by decide) q648 rfl i he hv hd kk
end GF
theorem q1 : Cond.initialized RX2 ∈ tbl := tin 62 (by decide +kernel) rfl
theorem q16 : Cond.methodLink RL 69 yX2_init ∈ tbl := tin 77 (by decide +kernel) rfl
theorem q18 : Cond.code yX2_init cX2_init 1 none ∈ tbl := tin 79 (by decide +kernel) rfl
theorem q17 : Cond.instanceMethod yX2_init ∈ tbl := tin 78 (by decide +kernel) rfl
theorem q2 : Cond.initialized RX1 ∈ tbl := tin 63 (by decide +kernel) rfl
theorem q24 : Cond.methodLinkNest RX2 9 yX1_init RX2 ∈ tbl := tin 85 (by decide +kernel) rfl
theorem q26 : Cond.code yX1_init cX1_init 2 none ∈ tbl := tin 87 (by decide +kernel) rfl
theorem q25 : Cond.instanceMethod yX1_init ∈ tbl := tin 86 (by decide +kernel) rfl
theorem q3 : Cond.initialized RX0 ∈ tbl := tin 64 (by decide +kernel) rfl
theorem q31 : Cond.methodLinkNest RX1 28 yX0_init RX2 ∈ tbl := tin 92 (by decide +kernel) rfl
theorem q33 : Cond.code yX0_init cX0_init 1 none ∈ tbl := tin 94 (by decide +kernel) rfl
theorem q32 : Cond.instanceMethod yX0_init ∈ tbl := tin 93 (by decide +kernel) rfl
theorem q35 : Cond.methodLink RX0 33 yX0_startOver ∈ tbl := tin 96 (by decide +kernel) rfl
theorem q38 : Cond.code yX0_startOver cX0_startOver 2 none ∈ tbl := tin 99 (by decide +kernel) rfl
theorem q37 : Cond.instanceMethod yX0_startOver ∈ tbl := tin 98 (by decide +kernel) rfl
theorem qs0 : Cond.selects RX0 yX0_startOver yX0_startOver ∈ tbl := tin 0 (by decide +kernel) rfl
theorem cw_X0_33 : CWD RX0 33 yX0_startOver cX0_startOver 2 none 0 := ⟨q35, q37, qs0, q38, q3, ⟨by decide +kernel, by decide +kernel⟩, by decide +kernel⟩
theorem q127 : Cond.methodLink RL 128 yX2_until ∈ tbl := tin 188 (by decide +kernel) rfl
theorem q130 : Cond.code yX2_until cX2_until 2 (some .int) ∈ tbl := tin 191 (by decide +kernel) rfl
theorem q128 : Cond.instanceMethod yX2_until ∈ tbl := tin 189 (by decide +kernel) rfl
theorem q129 : Cond.selects RX2 yX2_until yX2_until ∈ tbl := tin 190 (by decide +kernel) rfl
theorem cw_L_128 : CWD RL 128 yX2_until cX2_until 2 (some .int) 0 := ⟨q127, q128, q129, q130, q1, ⟨by decide +kernel, by decide +kernel⟩, by decide +kernel⟩
theorem q131 : Cond.methodLinkNest RX2 146 yX1_become RX2 ∈ tbl := tin 192 (by decide +kernel) rfl
theorem q134 : Cond.code yX1_become cX1_become 3 none ∈ tbl := tin 195 (by decide +kernel) rfl
theorem q133 : Cond.instanceMethod yX1_become ∈ tbl := tin 194 (by decide +kernel) rfl
theorem qs1 : Cond.selects RX1 yX1_become yX1_become ∈ tbl := tin 1 (by decide +kernel) rfl
theorem cw_X2_146 : CND RX2 146 yX1_become RX2 cX1_become 3 none 1 := ⟨q131, q133, qs1, q134, q2, ⟨by decide +kernel, by decide +kernel⟩, by decide +kernel⟩
theorem q135 : Cond.methodLinkNest RX1 44 yX0_become RX2 ∈ tbl := tin 196 (by decide +kernel) rfl
theorem q138 : Cond.code yX0_become cX0_become 3 none ∈ tbl := tin 199 (by decide +kernel) rfl
theorem q137 : Cond.instanceMethod yX0_become ∈ tbl := tin 198 (by decide +kernel) rfl
theorem qs2 : Cond.selects RX0 yX0_become yX0_become ∈ tbl := tin 2 (by decide +kernel) rfl
theorem cw_X1_44 : CND RX1 44 yX0_become RX2 cX0_become 3 none 1 := ⟨q135, q137, qs2, q138, q3, ⟨by decide +kernel, by decide +kernel⟩, by decide +kernel⟩
theorem q139 : Cond.methodLinkNest RX2 153 yX1_isAnyAtWork RX2 ∈ tbl := tin 200 (by decide +kernel) rfl
theorem q142 : Cond.code yX1_isAnyAtWork cX1_isAnyAtWork 2 (some .boolean) ∈ tbl := tin 203 (by decide +kernel) rfl
theorem q141 : Cond.instanceMethod yX1_isAnyAtWork ∈ tbl := tin 202 (by decide +kernel) rfl
theorem qs3 : Cond.selects RX1 yX1_isAnyAtWork yX1_isAnyAtWork ∈ tbl := tin 3 (by decide +kernel) rfl
theorem cw_X2_153 : CND RX2 153 yX1_isAnyAtWork RX2 cX1_isAnyAtWork 2 (some .boolean) 0 := ⟨q139, q141, qs3, q142, q2, ⟨by decide +kernel, by decide +kernel⟩, by decide +kernel⟩
theorem q143 : Cond.methodLinkNest RX1 138 yX0_isAtWork RX2 ∈ tbl := tin 204 (by decide +kernel) rfl
theorem q146 : Cond.code yX0_isAtWork cX0_isAtWork 1 (some .boolean) ∈ tbl := tin 207 (by decide +kernel) rfl
theorem q145 : Cond.instanceMethod yX0_isAtWork ∈ tbl := tin 206 (by decide +kernel) rfl
theorem qs4 : Cond.selects RX0 yX0_isAtWork yX0_isAtWork ∈ tbl := tin 4 (by decide +kernel) rfl
theorem cw_X1_138 : CND RX1 138 yX0_isAtWork RX2 cX0_isAtWork 1 (some .boolean) 0 := ⟨q143, q145, qs4, q146, q3, ⟨by decide +kernel, by decide +kernel⟩, by decide +kernel⟩
theorem q147 : Cond.methodLinkNest RX2 156 yX1_goRound RX2 ∈ tbl := tin 208 (by decide +kernel) rfl
theorem q150 : Cond.code yX1_goRound cX1_goRound 3 (some .int) ∈ tbl := tin 211 (by decide +kernel) rfl
theorem q149 : Cond.instanceMethod yX1_goRound ∈ tbl := tin 210 (by decide +kernel) rfl
theorem qs5 : Cond.selects RX1 yX1_goRound yX1_goRound ∈ tbl := tin 5 (by decide +kernel) rfl
theorem cw_X2_156 : CND RX2 156 yX1_goRound RX2 cX1_goRound 3 (some .int) 0 := ⟨q147, q149, qs5, q150, q2, ⟨by decide +kernel, by decide +kernel⟩, by decide +kernel⟩
theorem q151 : Cond.methodLink RX1 142 yX1_takeTurn ∈ tbl := tin 212 (by decide +kernel) rfl
theorem q154 : Cond.code yX1_takeTurn cX1_takeTurn 3 (some .int) ∈ tbl := tin 215 (by decide +kernel) rfl
theorem q153 : Cond.instanceMethod yX1_takeTurn ∈ tbl := tin 214 (by decide +kernel) rfl
theorem qs6 : Cond.selects RX1 yX1_takeTurn yX1_takeTurn ∈ tbl := tin 6 (by decide +kernel) rfl
theorem cw_X1_142 : CWD RX1 142 yX1_takeTurn cX1_takeTurn 3 (some .int) 1 := ⟨q151, q153, qs6, q154, q2, ⟨by decide +kernel, by decide +kernel⟩, by decide +kernel⟩
theorem q155 : Cond.methodLink RX1 65 yX1_doStep ∈ tbl := tin 216 (by decide +kernel) rfl
theorem q158 : Cond.code yX1_doStep cX1_doStep 4 none ∈ tbl := tin 219 (by decide +kernel) rfl
theorem q157 : Cond.instanceMethod yX1_doStep ∈ tbl := tin 218 (by decide +kernel) rfl
theorem qs7 : Cond.selects RX1 yX1_doStep yX1_doStep ∈ tbl := tin 7 (by decide +kernel) rfl
theorem cw_X1_65 : CWD RX1 65 yX1_doStep cX1_doStep 4 none 1 := ⟨q155, q157, qs7, q158, q2, ⟨by decide +kernel, by decide +kernel⟩, by decide +kernel⟩
theorem q159 : Cond.methodLink RX1 91 yX1_read ∈ tbl := tin 220 (by decide +kernel) rfl
theorem q162 : Cond.code yX1_read cX1_read 3 (some .int) ∈ tbl := tin 223 (by decide +kernel) rfl
theorem q161 : Cond.instanceMethod yX1_read ∈ tbl := tin 222 (by decide +kernel) rfl
theorem qs8 : Cond.selects RX1 yX1_read yX1_read ∈ tbl := tin 8 (by decide +kernel) rfl
theorem cw_X1_91 : CWD RX1 91 yX1_read cX1_read 3 (some .int) 2 := ⟨q159, q161, qs8, q162, q2, ⟨by decide +kernel, by decide +kernel⟩, by decide +kernel⟩
theorem q163 : Cond.methodLinkNest RX1 109 yX0_hasWritten RX2 ∈ tbl := tin 224 (by decide +kernel) rfl
theorem q166 : Cond.code yX0_hasWritten cX0_hasWritten 2 (some .boolean) ∈ tbl := tin 227 (by decide +kernel) rfl
theorem q165 : Cond.instanceMethod yX0_hasWritten ∈ tbl := tin 226 (by decide +kernel) rfl
theorem qs9 : Cond.selects RX0 yX0_hasWritten yX0_hasWritten ∈ tbl := tin 9 (by decide +kernel) rfl
theorem cw_X1_109 : CND RX1 109 yX0_hasWritten RX2 cX0_hasWritten 2 (some .boolean) 1 := ⟨q163, q165, qs9, q166, q3, ⟨by decide +kernel, by decide +kernel⟩, by decide +kernel⟩
theorem q167 : Cond.methodLinkNest RX1 113 yX0_remembers RX2 ∈ tbl := tin 228 (by decide +kernel) rfl
theorem q170 : Cond.code yX0_remembers cX0_remembers 2 (some .boolean) ∈ tbl := tin 231 (by decide +kernel) rfl
theorem q169 : Cond.instanceMethod yX0_remembers ∈ tbl := tin 230 (by decide +kernel) rfl
theorem qs10 : Cond.selects RX0 yX0_remembers yX0_remembers ∈ tbl := tin 10 (by decide +kernel) rfl
theorem cw_X1_113 : CND RX1 113 yX0_remembers RX2 cX0_remembers 2 (some .boolean) 1 := ⟨q167, q169, qs10, q170, q3, ⟨by decide +kernel, by decide +kernel⟩, by decide +kernel⟩
theorem q171 : Cond.methodLink RX1 98 yX1_held ∈ tbl := tin 232 (by decide +kernel) rfl
theorem q173 : Cond.code yX1_held cX1_held 1 (some .int) ∈ tbl := tin 234 (by decide +kernel) rfl
theorem q172 : Cond.static yX1_held ∈ tbl := tin 233 (by decide +kernel) rfl
theorem cw_X1_98 : CSD RX1 98 yX1_held cX1_held 1 (some .int) 1 := ⟨q171, q172, q173, q2, ⟨by decide +kernel, by decide +kernel⟩, by decide +kernel⟩
theorem q177 : Cond.methodLink RX1 105 yX1_carry ∈ tbl := tin 238 (by decide +kernel) rfl
theorem q180 : Cond.code yX1_carry cX1_carry 7 none ∈ tbl := tin 241 (by decide +kernel) rfl
theorem q179 : Cond.instanceMethod yX1_carry ∈ tbl := tin 240 (by decide +kernel) rfl
theorem qs11 : Cond.selects RX1 yX1_carry yX1_carry ∈ tbl := tin 11 (by decide +kernel) rfl
theorem cw_X1_105 : CWD RX1 105 yX1_carry cX1_carry 7 none 4 := ⟨q177, q179, qs11, q180, q2, ⟨by decide +kernel, by decide +kernel⟩, by decide +kernel⟩
theorem q181 : Cond.methodLink RX1 68 yX1_isOutdated ∈ tbl := tin 242 (by decide +kernel) rfl
theorem q184 : Cond.code yX1_isOutdated cX1_isOutdated 3 (some .boolean) ∈ tbl := tin 245 (by decide +kernel) rfl
theorem q183 : Cond.instanceMethod yX1_isOutdated ∈ tbl := tin 244 (by decide +kernel) rfl
theorem qs12 : Cond.selects RX1 yX1_isOutdated yX1_isOutdated ∈ tbl := tin 12 (by decide +kernel) rfl
theorem cw_X1_68 : CWD RX1 68 yX1_isOutdated cX1_isOutdated 3 (some .boolean) 1 := ⟨q181, q183, qs12, q184, q2, ⟨by decide +kernel, by decide +kernel⟩, by decide +kernel⟩
theorem q185 : Cond.methodLinkNest RX1 75 yX0_startOver RX2 ∈ tbl := tin 246 (by decide +kernel) rfl
theorem cw_X1_75 : CND RX1 75 yX0_startOver RX2 cX0_startOver 2 none 0 := ⟨q185, q37, qs0, q38, q3, ⟨by decide +kernel, by decide +kernel⟩, by decide +kernel⟩
theorem q186 : Cond.methodLink RX1 78 yX1_close ∈ tbl := tin 247 (by decide +kernel) rfl
theorem q189 : Cond.code yX1_close cX1_close 4 none ∈ tbl := tin 250 (by decide +kernel) rfl
theorem q188 : Cond.instanceMethod yX1_close ∈ tbl := tin 249 (by decide +kernel) rfl
theorem qs13 : Cond.selects RX1 yX1_close yX1_close ∈ tbl := tin 13 (by decide +kernel) rfl
theorem cw_X1_78 : CWD RX1 78 yX1_close cX1_close 4 none 1 := ⟨q186, q188, qs13, q189, q2, ⟨by decide +kernel, by decide +kernel⟩, by decide +kernel⟩
theorem q190 : Cond.methodLinkNest RX1 132 yX0_countWritten RX2 ∈ tbl := tin 251 (by decide +kernel) rfl
theorem q193 : Cond.code yX0_countWritten cX0_countWritten 3 (some .int) ∈ tbl := tin 254 (by decide +kernel) rfl
theorem q192 : Cond.instanceMethod yX0_countWritten ∈ tbl := tin 253 (by decide +kernel) rfl
theorem qs14 : Cond.selects RX0 yX0_countWritten yX0_countWritten ∈ tbl := tin 14 (by decide +kernel) rfl
theorem cw_X1_132 : CND RX1 132 yX0_countWritten RX2 cX0_countWritten 3 (some .int) 0 := ⟨q190, q192, qs14, q193, q3, ⟨by decide +kernel, by decide +kernel⟩, by decide +kernel⟩
theorem q194 : Cond.methodLink RX0 54 yX0_hasWritten ∈ tbl := tin 255 (by decide +kernel) rfl
theorem cw_X0_54 : CWD RX0 54 yX0_hasWritten cX0_hasWritten 2 (some .boolean) 1 := ⟨q194, q165, qs9, q166, q3, ⟨by decide +kernel, by decide +kernel⟩, by decide +kernel⟩
theorem q195 : Cond.methodLink RX1 51 yX1_keepClosing ∈ tbl := tin 256 (by decide +kernel) rfl
theorem q198 : Cond.code yX1_keepClosing cX1_keepClosing 4 none ∈ tbl := tin 259 (by decide +kernel) rfl
theorem q197 : Cond.instanceMethod yX1_keepClosing ∈ tbl := tin 258 (by decide +kernel) rfl
theorem qs15 : Cond.selects RX1 yX1_keepClosing yX1_keepClosing ∈ tbl := tin 15 (by decide +kernel) rfl
theorem cw_X1_51 : CWD RX1 51 yX1_keepClosing cX1_keepClosing 4 none 2 := ⟨q195, q197, qs15, q198, q2, ⟨by decide +kernel, by decide +kernel⟩, by decide +kernel⟩
theorem q199 : Cond.methodLink RX1 55 yX1_sumAmounts ∈ tbl := tin 260 (by decide +kernel) rfl
theorem q202 : Cond.code yX1_sumAmounts cX1_sumAmounts 3 (some .int) ∈ tbl := tin 263 (by decide +kernel) rfl
theorem q201 : Cond.instanceMethod yX1_sumAmounts ∈ tbl := tin 262 (by decide +kernel) rfl
theorem qs16 : Cond.selects RX1 yX1_sumAmounts yX1_sumAmounts ∈ tbl := tin 16 (by decide +kernel) rfl
theorem cw_X1_55 : CWD RX1 55 yX1_sumAmounts cX1_sumAmounts 3 (some .int) 0 := ⟨q199, q201, qs16, q202, q2, ⟨by decide +kernel, by decide +kernel⟩, by decide +kernel⟩
theorem q203 : Cond.methodLink RL 135 yX2_advise ∈ tbl := tin 264 (by decide +kernel) rfl
theorem q206 : Cond.code yX2_advise cX2_advise 7 (some .int) ∈ tbl := tin 267 (by decide +kernel) rfl
theorem q204 : Cond.instanceMethod yX2_advise ∈ tbl := tin 265 (by decide +kernel) rfl
theorem q205 : Cond.selects RX2 yX2_advise yX2_advise ∈ tbl := tin 266 (by decide +kernel) rfl
theorem cw_L_135 : CWD RL 135 yX2_advise cX2_advise 7 (some .int) 0 := ⟨q203, q204, q205, q206, q1, ⟨by decide +kernel, by decide +kernel⟩, by decide +kernel⟩
theorem q207 : Cond.methodLinkNest RX2 94 yX0_isAtWork RX2 ∈ tbl := tin 268 (by decide +kernel) rfl
theorem cw_X2_94 : CND RX2 94 yX0_isAtWork RX2 cX0_isAtWork 1 (some .boolean) 0 := ⟨q207, q145, qs4, q146, q3, ⟨by decide +kernel, by decide +kernel⟩, by decide +kernel⟩
theorem q208 : Cond.methodLinkNest RX2 159 yX1_countClashes RX2 ∈ tbl := tin 269 (by decide +kernel) rfl
theorem q211 : Cond.code yX1_countClashes cX1_countClashes 4 (some .int) ∈ tbl := tin 272 (by decide +kernel) rfl
theorem q210 : Cond.instanceMethod yX1_countClashes ∈ tbl := tin 271 (by decide +kernel) rfl
theorem qs17 : Cond.selects RX1 yX1_countClashes yX1_countClashes ∈ tbl := tin 17 (by decide +kernel) rfl
theorem cw_X2_159 : CND RX2 159 yX1_countClashes RX2 cX1_countClashes 4 (some .int) 1 := ⟨q208, q210, qs17, q211, q2, ⟨by decide +kernel, by decide +kernel⟩, by decide +kernel⟩
theorem q212 : Cond.methodLink RX1 145 yX1_clashes ∈ tbl := tin 273 (by decide +kernel) rfl
theorem q215 : Cond.code yX1_clashes cX1_clashes 6 (some .boolean) ∈ tbl := tin 276 (by decide +kernel) rfl
theorem q214 : Cond.instanceMethod yX1_clashes ∈ tbl := tin 275 (by decide +kernel) rfl
theorem qs18 : Cond.selects RX1 yX1_clashes yX1_clashes ∈ tbl := tin 18 (by decide +kernel) rfl
theorem cw_X1_145 : CWD RX1 145 yX1_clashes cX1_clashes 6 (some .boolean) 2 := ⟨q212, q214, qs18, q215, q2, ⟨by decide +kernel, by decide +kernel⟩, by decide +kernel⟩
theorem q216 : Cond.methodLink RL 139 yX2_mean ∈ tbl := tin 277 (by decide +kernel) rfl
theorem q219 : Cond.code yX2_mean cX2_mean 1 (some .double) ∈ tbl := tin 280 (by decide +kernel) rfl
theorem q217 : Cond.instanceMethod yX2_mean ∈ tbl := tin 278 (by decide +kernel) rfl
theorem q218 : Cond.selects RX2 yX2_mean yX2_mean ∈ tbl := tin 279 (by decide +kernel) rfl
theorem cw_L_139 : CWD RL 139 yX2_mean cX2_mean 1 (some .double) 0 := ⟨q216, q217, q218, q219, q1, ⟨by decide +kernel, by decide +kernel⟩, by decide +kernel⟩
theorem q220 : Cond.methodLinkNest RX2 162 yX1_sumLost RX2 ∈ tbl := tin 281 (by decide +kernel) rfl
theorem q223 : Cond.code yX1_sumLost cX1_sumLost 3 (some .int) ∈ tbl := tin 284 (by decide +kernel) rfl
theorem q222 : Cond.instanceMethod yX1_sumLost ∈ tbl := tin 283 (by decide +kernel) rfl
theorem qs19 : Cond.selects RX1 yX1_sumLost yX1_sumLost ∈ tbl := tin 19 (by decide +kernel) rfl
theorem cw_X2_162 : CND RX2 162 yX1_sumLost RX2 cX1_sumLost 3 (some .int) 0 := ⟨q220, q222, qs19, q223, q2, ⟨by decide +kernel, by decide +kernel⟩, by decide +kernel⟩
theorem q224 : Cond.methodLink RL 144 yX2_digest ∈ tbl := tin 285 (by decide +kernel) rfl
theorem q227 : Cond.code yX2_digest cX2_digest 4 (some .long) ∈ tbl := tin 288 (by decide +kernel) rfl
theorem q225 : Cond.instanceMethod yX2_digest ∈ tbl := tin 286 (by decide +kernel) rfl
theorem q226 : Cond.selects RX2 yX2_digest yX2_digest ∈ tbl := tin 287 (by decide +kernel) rfl
theorem cw_L_144 : CWD RL 144 yX2_digest cX2_digest 4 (some .long) 0 := ⟨q224, q225, q226, q227, q1, ⟨by decide +kernel, by decide +kernel⟩, by decide +kernel⟩
theorem q230 : Cond.methodLinkNest RX2 143 yX1_countFact RX2 ∈ tbl := tin 291 (by decide +kernel) rfl
theorem q233 : Cond.code yX1_countFact cX1_countFact 2 (some .int) ∈ tbl := tin 294 (by decide +kernel) rfl
theorem q232 : Cond.instanceMethod yX1_countFact ∈ tbl := tin 293 (by decide +kernel) rfl
theorem qs20 : Cond.selects RX1 yX1_countFact yX1_countFact ∈ tbl := tin 20 (by decide +kernel) rfl
theorem cw_X2_143 : CND RX2 143 yX1_countFact RX2 cX1_countFact 2 (some .int) 1 := ⟨q230, q232, qs20, q233, q2, ⟨by decide +kernel, by decide +kernel⟩, by decide +kernel⟩
theorem q234 : Cond.methodLink RX1 149 yX1_countDone ∈ tbl := tin 295 (by decide +kernel) rfl
theorem q237 : Cond.code yX1_countDone cX1_countDone 3 (some .int) ∈ tbl := tin 298 (by decide +kernel) rfl
theorem q236 : Cond.instanceMethod yX1_countDone ∈ tbl := tin 297 (by decide +kernel) rfl
theorem qs21 : Cond.selects RX1 yX1_countDone yX1_countDone ∈ tbl := tin 21 (by decide +kernel) rfl
theorem cw_X1_149 : CWD RX1 149 yX1_countDone cX1_countDone 3 (some .int) 0 := ⟨q234, q236, qs21, q237, q2, ⟨by decide +kernel, by decide +kernel⟩, by decide +kernel⟩
theorem q238 : Cond.methodLink RX1 152 yX1_sumLost ∈ tbl := tin 299 (by decide +kernel) rfl
theorem cw_X1_152 : CWD RX1 152 yX1_sumLost cX1_sumLost 3 (some .int) 0 := ⟨q238, q222, qs19, q223, q2, ⟨by decide +kernel, by decide +kernel⟩, by decide +kernel⟩
theorem q239 : Cond.methodLink RX1 155 yX1_countLosers ∈ tbl := tin 300 (by decide +kernel) rfl
theorem q242 : Cond.code yX1_countLosers cX1_countLosers 3 (some .int) ∈ tbl := tin 303 (by decide +kernel) rfl
theorem q241 : Cond.instanceMethod yX1_countLosers ∈ tbl := tin 302 (by decide +kernel) rfl
theorem qs22 : Cond.selects RX1 yX1_countLosers yX1_countLosers ∈ tbl := tin 22 (by decide +kernel) rfl
theorem cw_X1_155 : CWD RX1 155 yX1_countLosers cX1_countLosers 3 (some .int) 0 := ⟨q239, q241, qs22, q242, q2, ⟨by decide +kernel, by decide +kernel⟩, by decide +kernel⟩
theorem q243 : Cond.methodLink RX1 167 yX1_wouldLose ∈ tbl := tin 304 (by decide +kernel) rfl
theorem q246 : Cond.code yX1_wouldLose cX1_wouldLose 2 (some .boolean) ∈ tbl := tin 307 (by decide +kernel) rfl
theorem q245 : Cond.instanceMethod yX1_wouldLose ∈ tbl := tin 306 (by decide +kernel) rfl
theorem qs23 : Cond.selects RX1 yX1_wouldLose yX1_wouldLose ∈ tbl := tin 23 (by decide +kernel) rfl
theorem cw_X1_167 : CWD RX1 167 yX1_wouldLose cX1_wouldLose 2 (some .boolean) 1 := ⟨q243, q245, qs23, q246, q2, ⟨by decide +kernel, by decide +kernel⟩, by decide +kernel⟩
theorem q247 : Cond.methodLink RX2 169 yX2_digestDrawers ∈ tbl := tin 308 (by decide +kernel) rfl
theorem q250 : Cond.code yX2_digestDrawers cX2_digestDrawers 7 (some .long) ∈ tbl := tin 311 (by decide +kernel) rfl
theorem q249 : Cond.instanceMethod yX2_digestDrawers ∈ tbl := tin 310 (by decide +kernel) rfl
theorem qs24 : Cond.selects RX2 yX2_digestDrawers yX2_digestDrawers ∈ tbl := tin 24 (by decide +kernel) rfl
theorem cw_X2_169 : CWD RX2 169 yX2_digestDrawers cX2_digestDrawers 7 (some .long) 1 := ⟨q247, q249, qs24, q250, q1, ⟨by decide +kernel, by decide +kernel⟩, by decide +kernel⟩
theorem q251 : Cond.methodLinkNest RX2 113 yX1_drawerFact RX2 ∈ tbl := tin 312 (by decide +kernel) rfl
theorem q254 : Cond.code yX1_drawerFact cX1_drawerFact 3 (some .int) ∈ tbl := tin 315 (by decide +kernel) rfl
theorem q253 : Cond.instanceMethod yX1_drawerFact ∈ tbl := tin 314 (by decide +kernel) rfl
theorem qs25 : Cond.selects RX1 yX1_drawerFact yX1_drawerFact ∈ tbl := tin 25 (by decide +kernel) rfl
theorem cw_X2_113 : CND RX2 113 yX1_drawerFact RX2 cX1_drawerFact 3 (some .int) 2 := ⟨q251, q253, qs25, q254, q2, ⟨by decide +kernel, by decide +kernel⟩, by decide +kernel⟩
theorem q255 : Cond.methodLink RX1 158 yX1_countRememberers ∈ tbl := tin 316 (by decide +kernel) rfl
theorem q258 : Cond.code yX1_countRememberers cX1_countRememberers 4 (some .int) ∈ tbl := tin 319 (by decide +kernel) rfl
theorem q257 : Cond.instanceMethod yX1_countRememberers ∈ tbl := tin 318 (by decide +kernel) rfl
theorem qs26 : Cond.selects RX1 yX1_countRememberers yX1_countRememberers ∈ tbl := tin 26 (by decide +kernel) rfl
theorem cw_X1_158 : CWD RX1 158 yX1_countRememberers cX1_countRememberers 4 (some .int) 1 := ⟨q255, q257, qs26, q258, q2, ⟨by decide +kernel, by decide +kernel⟩, by decide +kernel⟩
theorem q259 : Cond.methodLink RX1 161 yX1_countWriters ∈ tbl := tin 320 (by decide +kernel) rfl
theorem q262 : Cond.code yX1_countWriters cX1_countWriters 4 (some .int) ∈ tbl := tin 323 (by decide +kernel) rfl
theorem q261 : Cond.instanceMethod yX1_countWriters ∈ tbl := tin 322 (by decide +kernel) rfl
theorem qs27 : Cond.selects RX1 yX1_countWriters yX1_countWriters ∈ tbl := tin 27 (by decide +kernel) rfl
theorem cw_X1_161 : CWD RX1 161 yX1_countWriters cX1_countWriters 4 (some .int) 1 := ⟨q259, q261, qs27, q262, q2, ⟨by decide +kernel, by decide +kernel⟩, by decide +kernel⟩
theorem q263 : Cond.methodLink RX2 173 yX2_digestClerks ∈ tbl := tin 324 (by decide +kernel) rfl
theorem q266 : Cond.code yX2_digestClerks cX2_digestClerks 8 (some .long) ∈ tbl := tin 327 (by decide +kernel) rfl
theorem q265 : Cond.instanceMethod yX2_digestClerks ∈ tbl := tin 326 (by decide +kernel) rfl
theorem qs28 : Cond.selects RX2 yX2_digestClerks yX2_digestClerks ∈ tbl := tin 28 (by decide +kernel) rfl
theorem cw_X2_173 : CWD RX2 173 yX2_digestClerks cX2_digestClerks 8 (some .long) 1 := ⟨q263, q265, qs28, q266, q1, ⟨by decide +kernel, by decide +kernel⟩, by decide +kernel⟩
theorem q267 : Cond.methodLinkNest RX2 117 yX1_clerkFact RX2 ∈ tbl := tin 328 (by decide +kernel) rfl
theorem q270 : Cond.code yX1_clerkFact cX1_clerkFact 4 (some .int) ∈ tbl := tin 331 (by decide +kernel) rfl
theorem q269 : Cond.instanceMethod yX1_clerkFact ∈ tbl := tin 330 (by decide +kernel) rfl
theorem qs29 : Cond.selects RX1 yX1_clerkFact yX1_clerkFact ∈ tbl := tin 29 (by decide +kernel) rfl
theorem cw_X2_117 : CND RX2 117 yX1_clerkFact RX2 cX1_clerkFact 4 (some .int) 2 := ⟨q267, q269, qs29, q270, q2, ⟨by decide +kernel, by decide +kernel⟩, by decide +kernel⟩
theorem q271 : Cond.methodLinkNest RX1 164 yX0_countRemembered RX2 ∈ tbl := tin 332 (by decide +kernel) rfl
theorem q274 : Cond.code yX0_countRemembered cX0_countRemembered 3 (some .int) ∈ tbl := tin 335 (by decide +kernel) rfl
theorem q273 : Cond.instanceMethod yX0_countRemembered ∈ tbl := tin 334 (by decide +kernel) rfl
theorem qs30 : Cond.selects RX0 yX0_countRemembered yX0_countRemembered ∈ tbl := tin 30 (by decide +kernel) rfl
theorem cw_X1_164 : CND RX1 164 yX0_countRemembered RX2 cX0_countRemembered 3 (some .int) 0 := ⟨q271, q273, qs30, q274, q3, ⟨by decide +kernel, by decide +kernel⟩, by decide +kernel⟩
theorem q275 : Cond.methodLink RX0 50 yX0_remembers ∈ tbl := tin 336 (by decide +kernel) rfl
theorem cw_X0_50 : CWD RX0 50 yX0_remembers cX0_remembers 2 (some .boolean) 1 := ⟨q275, q169, qs10, q170, q3, ⟨by decide +kernel, by decide +kernel⟩, by decide +kernel⟩
theorem q276 : Cond.methodLinkNest RX2 120 yX0_slipFact RX2 ∈ tbl := tin 337 (by decide +kernel) rfl
theorem q279 : Cond.code yX0_slipFact cX0_slipFact 3 (some .int) ∈ tbl := tin 340 (by decide +kernel) rfl
theorem q278 : Cond.instanceMethod yX0_slipFact ∈ tbl := tin 339 (by decide +kernel) rfl
theorem qs31 : Cond.selects RX0 yX0_slipFact yX0_slipFact ∈ tbl := tin 31 (by decide +kernel) rfl
theorem cw_X2_120 : CND RX2 120 yX0_slipFact RX2 cX0_slipFact 3 (some .int) 2 := ⟨q276, q278, qs31, q279, q3, ⟨by decide +kernel, by decide +kernel⟩, by decide +kernel⟩
theorem q280 : Cond.methodLink RX2 176 yX2_digestClosings ∈ tbl := tin 341 (by decide +kernel) rfl
theorem q283 : Cond.code yX2_digestClosings cX2_digestClosings 8 (some .long) ∈ tbl := tin 344 (by decide +kernel) rfl
theorem q282 : Cond.instanceMethod yX2_digestClosings ∈ tbl := tin 343 (by decide +kernel) rfl
theorem qs32 : Cond.selects RX2 yX2_digestClosings yX2_digestClosings ∈ tbl := tin 32 (by decide +kernel) rfl
theorem cw_X2_176 : CWD RX2 176 yX2_digestClosings cX2_digestClosings 8 (some .long) 1 := ⟨q280, q282, qs32, q283, q1, ⟨by decide +kernel, by decide +kernel⟩, by decide +kernel⟩
theorem q284 : Cond.methodLinkNest RX2 131 yX1_closingsKept RX2 ∈ tbl := tin 345 (by decide +kernel) rfl
theorem q287 : Cond.code yX1_closingsKept cX1_closingsKept 1 (some .int) ∈ tbl := tin 348 (by decide +kernel) rfl
theorem q286 : Cond.instanceMethod yX1_closingsKept ∈ tbl := tin 347 (by decide +kernel) rfl
theorem qs33 : Cond.selects RX1 yX1_closingsKept yX1_closingsKept ∈ tbl := tin 33 (by decide +kernel) rfl
theorem cw_X2_131 : CND RX2 131 yX1_closingsKept RX2 cX1_closingsKept 1 (some .int) 0 := ⟨q284, q286, qs33, q287, q2, ⟨by decide +kernel, by decide +kernel⟩, by decide +kernel⟩
theorem q288 : Cond.methodLinkNest RX2 136 yX1_closingFact RX2 ∈ tbl := tin 349 (by decide +kernel) rfl
theorem q291 : Cond.code yX1_closingFact cX1_closingFact 3 (some .int) ∈ tbl := tin 352 (by decide +kernel) rfl
theorem q290 : Cond.instanceMethod yX1_closingFact ∈ tbl := tin 351 (by decide +kernel) rfl
theorem qs34 : Cond.selects RX1 yX1_closingFact yX1_closingFact ∈ tbl := tin 34 (by decide +kernel) rfl
theorem cw_X2_136 : CND RX2 136 yX1_closingFact RX2 cX1_closingFact 3 (some .int) 2 := ⟨q288, q290, qs34, q291, q2, ⟨by decide +kernel, by decide +kernel⟩, by decide +kernel⟩
theorem q296 : Cond.methodLink RL 7 yX2_till ∈ tbl := tin 357 (by decide +kernel) rfl
theorem q299 : Cond.code yX2_till cX2_till 3 (some .int) ∈ tbl := tin 360 (by decide +kernel) rfl
theorem q297 : Cond.instanceMethod yX2_till ∈ tbl := tin 358 (by decide +kernel) rfl
theorem q298 : Cond.selects RX2 yX2_till yX2_till ∈ tbl := tin 359 (by decide +kernel) rfl
theorem cw_L_7 : CWD RL 7 yX2_till cX2_till 3 (some .int) 1 := ⟨q296, q297, q298, q299, q1, ⟨by decide +kernel, by decide +kernel⟩, by decide +kernel⟩
theorem q368 : Cond.methodLinkNest RX2 30 yX1_beginAnew RX2 ∈ tbl := tin 429 (by decide +kernel) rfl
theorem q371 : Cond.code yX1_beginAnew cX1_beginAnew 3 none ∈ tbl := tin 432 (by decide +kernel) rfl
theorem q370 : Cond.instanceMethod yX1_beginAnew ∈ tbl := tin 431 (by decide +kernel) rfl
theorem qs36 : Cond.selects RX1 yX1_beginAnew yX1_beginAnew ∈ tbl := tin 36 (by decide +kernel) rfl
theorem cw_X2_30 : CND RX2 30 yX1_beginAnew RX2 cX1_beginAnew 3 none 1 := ⟨q368, q370, qs36, q371, q2, ⟨by decide +kernel, by decide +kernel⟩, by decide +kernel⟩
theorem q376 : Cond.methodLink RL 15 yX2_pay ∈ tbl := tin 437 (by decide +kernel) rfl
theorem q379 : Cond.code yX2_pay cX2_pay 4 (some .int) ∈ tbl := tin 440 (by decide +kernel) rfl
theorem q377 : Cond.instanceMethod yX2_pay ∈ tbl := tin 438 (by decide +kernel) rfl
theorem q378 : Cond.selects RX2 yX2_pay yX2_pay ∈ tbl := tin 439 (by decide +kernel) rfl
theorem cw_L_15 : CWD RL 15 yX2_pay cX2_pay 4 (some .int) 2 := ⟨q376, q377, q378, q379, q1, ⟨by decide +kernel, by decide +kernel⟩, by decide +kernel⟩
theorem q380 : Cond.methodLink RX2 34 yX2_needDrawer ∈ tbl := tin 441 (by decide +kernel) rfl
theorem q383 : Cond.code yX2_needDrawer cX2_needDrawer 2 none ∈ tbl := tin 444 (by decide +kernel) rfl
theorem q382 : Cond.instanceMethod yX2_needDrawer ∈ tbl := tin 443 (by decide +kernel) rfl
theorem qs37 : Cond.selects RX2 yX2_needDrawer yX2_needDrawer ∈ tbl := tin 37 (by decide +kernel) rfl
theorem cw_X2_34 : CWD RX2 34 yX2_needDrawer cX2_needDrawer 2 none 1 := ⟨q380, q382, qs37, q383, q1, ⟨by decide +kernel, by decide +kernel⟩, by decide +kernel⟩
theorem q401 : Cond.methodLinkNest RX2 43 yX1_payByHand RX2 ∈ tbl := tin 462 (by decide +kernel) rfl
theorem q404 : Cond.code yX1_payByHand cX1_payByHand 3 none ∈ tbl := tin 465 (by decide +kernel) rfl
theorem q403 : Cond.instanceMethod yX1_payByHand ∈ tbl := tin 464 (by decide +kernel) rfl
theorem qs38 : Cond.selects RX1 yX1_payByHand yX1_payByHand ∈ tbl := tin 38 (by decide +kernel) rfl
theorem cw_X2_43 : CND RX2 43 yX1_payByHand RX2 cX1_payByHand 3 none 2 := ⟨q401, q403, qs38, q404, q2, ⟨by decide +kernel, by decide +kernel⟩, by decide +kernel⟩
theorem q409 : Cond.methodLink RL 21 yX2_clerk ∈ tbl := tin 470 (by decide +kernel) rfl
theorem q412 : Cond.code yX2_clerk cX2_clerk 1 (some .int) ∈ tbl := tin 473 (by decide +kernel) rfl
theorem q410 : Cond.instanceMethod yX2_clerk ∈ tbl := tin 471 (by decide +kernel) rfl
theorem q411 : Cond.selects RX2 yX2_clerk yX2_clerk ∈ tbl := tin 472 (by decide +kernel) rfl
theorem cw_L_21 : CWD RL 21 yX2_clerk cX2_clerk 1 (some .int) 0 := ⟨q409, q410, q411, q412, q1, ⟨by decide +kernel, by decide +kernel⟩, by decide +kernel⟩
theorem q429 : Cond.methodLinkNest RX2 55 yX1_addClerk RX2 ∈ tbl := tin 490 (by decide +kernel) rfl
theorem q432 : Cond.code yX1_addClerk cX1_addClerk 2 (some .int) ∈ tbl := tin 493 (by decide +kernel) rfl
theorem q431 : Cond.instanceMethod yX1_addClerk ∈ tbl := tin 492 (by decide +kernel) rfl
theorem qs39 : Cond.selects RX1 yX1_addClerk yX1_addClerk ∈ tbl := tin 39 (by decide +kernel) rfl
theorem cw_X2_55 : CND RX2 55 yX1_addClerk RX2 cX1_addClerk 2 (some .int) 0 := ⟨q429, q431, qs39, q432, q2, ⟨by decide +kernel, by decide +kernel⟩, by decide +kernel⟩
theorem q433 : Cond.methodLinkNest RX1 48 yX0_beginAnew RX2 ∈ tbl := tin 494 (by decide +kernel) rfl
theorem q436 : Cond.code yX0_beginAnew cX0_beginAnew 1 none ∈ tbl := tin 497 (by decide +kernel) rfl
theorem q435 : Cond.instanceMethod yX0_beginAnew ∈ tbl := tin 496 (by decide +kernel) rfl
theorem qs40 : Cond.selects RX0 yX0_beginAnew yX0_beginAnew ∈ tbl := tin 40 (by decide +kernel) rfl
theorem cw_X1_48 : CND RX1 48 yX0_beginAnew RX2 cX0_beginAnew 1 none 0 := ⟨q433, q435, qs40, q436, q3, ⟨by decide +kernel, by decide +kernel⟩, by decide +kernel⟩
theorem q440 : Cond.methodLink RL 27 yX2_say ∈ tbl := tin 501 (by decide +kernel) rfl
theorem q443 : Cond.code yX2_say cX2_say 7 (some .int) ∈ tbl := tin 504 (by decide +kernel) rfl
theorem q441 : Cond.instanceMethod yX2_say ∈ tbl := tin 502 (by decide +kernel) rfl
theorem q442 : Cond.selects RX2 yX2_say yX2_say ∈ tbl := tin 503 (by decide +kernel) rfl
theorem cw_L_27 : CWD RL 27 yX2_say cX2_say 7 (some .int) 5 := ⟨q440, q441, q442, q443, q1, ⟨by decide +kernel, by decide +kernel⟩, by decide +kernel⟩
theorem q444 : Cond.methodLink RX2 59 yX2_needClerk ∈ tbl := tin 505 (by decide +kernel) rfl
theorem q447 : Cond.code yX2_needClerk cX2_needClerk 2 none ∈ tbl := tin 508 (by decide +kernel) rfl
theorem q446 : Cond.instanceMethod yX2_needClerk ∈ tbl := tin 507 (by decide +kernel) rfl
theorem qs41 : Cond.selects RX2 yX2_needClerk yX2_needClerk ∈ tbl := tin 41 (by decide +kernel) rfl
theorem cw_X2_59 : CWD RX2 59 yX2_needClerk cX2_needClerk 2 none 1 := ⟨q444, q446, qs41, q447, q1, ⟨by decide +kernel, by decide +kernel⟩, by decide +kernel⟩
theorem q449 : Cond.methodLink RX2 62 yX2_needWhat ∈ tbl := tin 510 (by decide +kernel) rfl
theorem q451 : Cond.code yX2_needWhat cX2_needWhat 3 none ∈ tbl := tin 512 (by decide +kernel) rfl
theorem q450 : Cond.static yX2_needWhat ∈ tbl := tin 511 (by decide +kernel) rfl
theorem cw_X2_62 : CSD RX2 62 yX2_needWhat cX2_needWhat 3 none 3 := ⟨q449, q450, q451, q1, ⟨by decide +kernel, by decide +kernel⟩, by decide +kernel⟩
theorem q453 : Cond.methodLink RX2 66 yX2_fitsKind ∈ tbl := tin 514 (by decide +kernel) rfl
theorem q455 : Cond.code yX2_fitsKind cX2_fitsKind 4 (some .boolean) ∈ tbl := tin 516 (by decide +kernel) rfl
theorem q454 : Cond.static yX2_fitsKind ∈ tbl := tin 515 (by decide +kernel) rfl
theorem cw_X2_66 : CSD RX2 66 yX2_fitsKind cX2_fitsKind 4 (some .boolean) 4 := ⟨q453, q454, q455, q1, ⟨by decide +kernel, by decide +kernel⟩, by decide +kernel⟩
theorem q458 : Cond.methodLinkNest RX2 90 yX0_addStep RX2 ∈ tbl := tin 519 (by decide +kernel) rfl
theorem q461 : Cond.code yX0_addStep cX0_addStep 5 none ∈ tbl := tin 522 (by decide +kernel) rfl
theorem q460 : Cond.instanceMethod yX0_addStep ∈ tbl := tin 521 (by decide +kernel) rfl
theorem qs42 : Cond.selects RX0 yX0_addStep yX0_addStep ∈ tbl := tin 42 (by decide +kernel) rfl
theorem cw_X2_90 : CND RX2 90 yX0_addStep RX2 cX0_addStep 5 none 4 := ⟨q458, q460, qs42, q461, q3, ⟨by decide +kernel, by decide +kernel⟩, by decide +kernel⟩
theorem q465 : Cond.methodLink RL 31 yX2_turn ∈ tbl := tin 526 (by decide +kernel) rfl
theorem q468 : Cond.code yX2_turn cX2_turn 2 (some .int) ∈ tbl := tin 529 (by decide +kernel) rfl
theorem q466 : Cond.instanceMethod yX2_turn ∈ tbl := tin 527 (by decide +kernel) rfl
theorem q467 : Cond.selects RX2 yX2_turn yX2_turn ∈ tbl := tin 528 (by decide +kernel) rfl
theorem cw_L_31 : CWD RL 31 yX2_turn cX2_turn 2 (some .int) 1 := ⟨q465, q466, q467, q468, q1, ⟨by decide +kernel, by decide +kernel⟩, by decide +kernel⟩
theorem q470 : Cond.methodLinkNest RX2 100 yX1_takeTurn RX2 ∈ tbl := tin 531 (by decide +kernel) rfl
theorem cw_X2_100 : CND RX2 100 yX1_takeTurn RX2 cX1_takeTurn 3 (some .int) 1 := ⟨q470, q153, qs6, q154, q2, ⟨by decide +kernel, by decide +kernel⟩, by decide +kernel⟩
theorem q474 : Cond.methodLink RL 34 yX2_drop ∈ tbl := tin 535 (by decide +kernel) rfl
theorem q477 : Cond.code yX2_drop cX2_drop 4 (some .int) ∈ tbl := tin 538 (by decide +kernel) rfl
theorem q475 : Cond.instanceMethod yX2_drop ∈ tbl := tin 536 (by decide +kernel) rfl
theorem q476 : Cond.selects RX2 yX2_drop yX2_drop ∈ tbl := tin 537 (by decide +kernel) rfl
theorem cw_L_34 : CWD RL 34 yX2_drop cX2_drop 4 (some .int) 1 := ⟨q474, q475, q476, q477, q1, ⟨by decide +kernel, by decide +kernel⟩, by decide +kernel⟩
theorem q478 : Cond.methodLinkNest RX2 104 yX0_startOver RX2 ∈ tbl := tin 539 (by decide +kernel) rfl
theorem cw_X2_104 : CND RX2 104 yX0_startOver RX2 cX0_startOver 2 none 0 := ⟨q478, q37, qs0, q38, q3, ⟨by decide +kernel, by decide +kernel⟩, by decide +kernel⟩
theorem q482 : Cond.methodLink RL 37 yX2_pass ∈ tbl := tin 543 (by decide +kernel) rfl
theorem q485 : Cond.code yX2_pass cX2_pass 2 (some .int) ∈ tbl := tin 546 (by decide +kernel) rfl
theorem q483 : Cond.instanceMethod yX2_pass ∈ tbl := tin 544 (by decide +kernel) rfl
theorem q484 : Cond.selects RX2 yX2_pass yX2_pass ∈ tbl := tin 545 (by decide +kernel) rfl
theorem cw_L_37 : CWD RL 37 yX2_pass cX2_pass 2 (some .int) 1 := ⟨q482, q483, q484, q485, q1, ⟨by decide +kernel, by decide +kernel⟩, by decide +kernel⟩
theorem q486 : Cond.methodLink RX2 107 yX2_needRounds ∈ tbl := tin 547 (by decide +kernel) rfl
theorem q488 : Cond.code yX2_needRounds cX2_needRounds 1 none ∈ tbl := tin 549 (by decide +kernel) rfl
theorem q487 : Cond.static yX2_needRounds ∈ tbl := tin 548 (by decide +kernel) rfl
theorem cw_X2_107 : CSD RX2 107 yX2_needRounds cX2_needRounds 1 none 1 := ⟨q486, q487, q488, q1, ⟨by decide +kernel, by decide +kernel⟩, by decide +kernel⟩
theorem q490 : Cond.methodLinkNest RX2 110 yX1_goRounds RX2 ∈ tbl := tin 551 (by decide +kernel) rfl
theorem q493 : Cond.code yX1_goRounds cX1_goRounds 4 (some .int) ∈ tbl := tin 554 (by decide +kernel) rfl
theorem q492 : Cond.instanceMethod yX1_goRounds ∈ tbl := tin 553 (by decide +kernel) rfl
theorem qs43 : Cond.selects RX1 yX1_goRounds yX1_goRounds ∈ tbl := tin 43 (by decide +kernel) rfl
theorem cw_X2_110 : CND RX2 110 yX1_goRounds RX2 cX1_goRounds 4 (some .int) 1 := ⟨q490, q492, qs43, q493, q2, ⟨by decide +kernel, by decide +kernel⟩, by decide +kernel⟩
theorem q494 : Cond.methodLink RX1 135 yX1_goRound ∈ tbl := tin 555 (by decide +kernel) rfl
theorem cw_X1_135 : CWD RX1 135 yX1_goRound cX1_goRound 3 (some .int) 0 := ⟨q494, q149, qs5, q150, q2, ⟨by decide +kernel, by decide +kernel⟩, by decide +kernel⟩
theorem q498 : Cond.methodLink RL 40 yX2_drawer ∈ tbl := tin 559 (by decide +kernel) rfl
theorem q501 : Cond.code yX2_drawer cX2_drawer 3 (some .int) ∈ tbl := tin 562 (by decide +kernel) rfl
theorem q499 : Cond.instanceMethod yX2_drawer ∈ tbl := tin 560 (by decide +kernel) rfl
theorem q500 : Cond.selects RX2 yX2_drawer yX2_drawer ∈ tbl := tin 561 (by decide +kernel) rfl
theorem cw_L_40 : CWD RL 40 yX2_drawer cX2_drawer 3 (some .int) 2 := ⟨q498, q499, q500, q501, q1, ⟨by decide +kernel, by decide +kernel⟩, by decide +kernel⟩
theorem q505 : Cond.methodLink RL 43 yX2_told ∈ tbl := tin 566 (by decide +kernel) rfl
theorem q508 : Cond.code yX2_told cX2_told 3 (some .int) ∈ tbl := tin 569 (by decide +kernel) rfl
theorem q506 : Cond.instanceMethod yX2_told ∈ tbl := tin 567 (by decide +kernel) rfl
theorem q507 : Cond.selects RX2 yX2_told yX2_told ∈ tbl := tin 568 (by decide +kernel) rfl
theorem cw_L_43 : CWD RL 43 yX2_told cX2_told 3 (some .int) 2 := ⟨q505, q506, q507, q508, q1, ⟨by decide +kernel, by decide +kernel⟩, by decide +kernel⟩
theorem q512 : Cond.methodLink RL 46 yX2_slip ∈ tbl := tin 573 (by decide +kernel) rfl
theorem q515 : Cond.code yX2_slip cX2_slip 4 (some .int) ∈ tbl := tin 576 (by decide +kernel) rfl
theorem q513 : Cond.instanceMethod yX2_slip ∈ tbl := tin 574 (by decide +kernel) rfl
theorem q514 : Cond.selects RX2 yX2_slip yX2_slip ∈ tbl := tin 575 (by decide +kernel) rfl
theorem cw_L_46 : CWD RL 46 yX2_slip cX2_slip 4 (some .int) 3 := ⟨q512, q513, q514, q515, q1, ⟨by decide +kernel, by decide +kernel⟩, by decide +kernel⟩
theorem q519 : Cond.methodLink RL 50 yX2_step ∈ tbl := tin 580 (by decide +kernel) rfl
theorem q522 : Cond.code yX2_step cX2_step 5 (some .int) ∈ tbl := tin 583 (by decide +kernel) rfl
theorem q520 : Cond.instanceMethod yX2_step ∈ tbl := tin 581 (by decide +kernel) rfl
theorem q521 : Cond.selects RX2 yX2_step yX2_step ∈ tbl := tin 582 (by decide +kernel) rfl
theorem cw_L_50 : CWD RL 50 yX2_step cX2_step 5 (some .int) 3 := ⟨q519, q520, q521, q522, q1, ⟨by decide +kernel, by decide +kernel⟩, by decide +kernel⟩
theorem q524 : Cond.methodLinkNest RX2 128 yX0_stepFact RX2 ∈ tbl := tin 585 (by decide +kernel) rfl
theorem q527 : Cond.code yX0_stepFact cX0_stepFact 3 (some .int) ∈ tbl := tin 588 (by decide +kernel) rfl
theorem q526 : Cond.instanceMethod yX0_stepFact ∈ tbl := tin 587 (by decide +kernel) rfl
theorem qs44 : Cond.selects RX0 yX0_stepFact yX0_stepFact ∈ tbl := tin 44 (by decide +kernel) rfl
theorem cw_X2_128 : CND RX2 128 yX0_stepFact RX2 cX0_stepFact 3 (some .int) 2 := ⟨q524, q526, qs44, q527, q3, ⟨by decide +kernel, by decide +kernel⟩, by decide +kernel⟩
theorem q531 : Cond.methodLink RL 53 yX2_closing ∈ tbl := tin 592 (by decide +kernel) rfl
theorem q534 : Cond.code yX2_closing cX2_closing 3 (some .int) ∈ tbl := tin 595 (by decide +kernel) rfl
theorem q532 : Cond.instanceMethod yX2_closing ∈ tbl := tin 593 (by decide +kernel) rfl
theorem q533 : Cond.selects RX2 yX2_closing yX2_closing ∈ tbl := tin 594 (by decide +kernel) rfl
theorem cw_L_53 : CWD RL 53 yX2_closing cX2_closing 3 (some .int) 2 := ⟨q531, q532, q533, q534, q1, ⟨by decide +kernel, by decide +kernel⟩, by decide +kernel⟩
theorem q539 : Cond.methodLink RL 56 yX2_clash ∈ tbl := tin 600 (by decide +kernel) rfl
theorem q542 : Cond.code yX2_clash cX2_clash 3 (some .boolean) ∈ tbl := tin 603 (by decide +kernel) rfl
theorem q540 : Cond.instanceMethod yX2_clash ∈ tbl := tin 601 (by decide +kernel) rfl
theorem q541 : Cond.selects RX2 yX2_clash yX2_clash ∈ tbl := tin 602 (by decide +kernel) rfl
theorem cw_L_56 : CWD RL 56 yX2_clash cX2_clash 3 (some .boolean) 2 := ⟨q539, q540, q541, q542, q1, ⟨by decide +kernel, by decide +kernel⟩, by decide +kernel⟩
theorem q543 : Cond.methodLinkNest RX2 139 yX1_clashes RX2 ∈ tbl := tin 604 (by decide +kernel) rfl
theorem cw_X2_139 : CND RX2 139 yX1_clashes RX2 cX1_clashes 6 (some .boolean) 2 := ⟨q543, q214, qs18, q215, q2, ⟨by decide +kernel, by decide +kernel⟩, by decide +kernel⟩
theorem q547 : Cond.methodLink RL 60 yX2_count ∈ tbl := tin 608 (by decide +kernel) rfl
theorem q550 : Cond.code yX2_count cX2_count 2 (some .int) ∈ tbl := tin 611 (by decide +kernel) rfl
theorem q548 : Cond.instanceMethod yX2_count ∈ tbl := tin 609 (by decide +kernel) rfl
theorem q549 : Cond.selects RX2 yX2_count yX2_count ∈ tbl := tin 610 (by decide +kernel) rfl
theorem cw_L_60 : CWD RL 60 yX2_count cX2_count 2 (some .int) 1 := ⟨q547, q548, q549, q550, q1, ⟨by decide +kernel, by decide +kernel⟩, by decide +kernel⟩
theorem q554 : Cond.methodLink RL 63 yX2_alone ∈ tbl := tin 615 (by decide +kernel) rfl
theorem q557 : Cond.code yX2_alone cX2_alone 3 (some .int) ∈ tbl := tin 618 (by decide +kernel) rfl
theorem q555 : Cond.instanceMethod yX2_alone ∈ tbl := tin 616 (by decide +kernel) rfl
theorem q556 : Cond.selects RX2 yX2_alone yX2_alone ∈ tbl := tin 617 (by decide +kernel) rfl
theorem cw_L_63 : CWD RL 63 yX2_alone cX2_alone 3 (some .int) 2 := ⟨q554, q555, q556, q557, q1, ⟨by decide +kernel, by decide +kernel⟩, by decide +kernel⟩
theorem q558 : Cond.methodLinkNest RX2 150 yX1_workAlone RX2 ∈ tbl := tin 619 (by decide +kernel) rfl
theorem q561 : Cond.code yX1_workAlone cX1_workAlone 4 none ∈ tbl := tin 622 (by decide +kernel) rfl
theorem q560 : Cond.instanceMethod yX1_workAlone ∈ tbl := tin 621 (by decide +kernel) rfl
theorem qs45 : Cond.selects RX1 yX1_workAlone yX1_workAlone ∈ tbl := tin 45 (by decide +kernel) rfl
theorem cw_X2_150 : CND RX2 150 yX1_workAlone RX2 cX1_workAlone 4 none 1 := ⟨q558, q560, qs45, q561, q2, ⟨by decide +kernel, by decide +kernel⟩, by decide +kernel⟩
theorem q565 : Cond.methodLink RL 66 yX2_foresee ∈ tbl := tin 626 (by decide +kernel) rfl
theorem q568 : Cond.code yX2_foresee cX2_foresee 3 (some .int) ∈ tbl := tin 629 (by decide +kernel) rfl
theorem q566 : Cond.instanceMethod yX2_foresee ∈ tbl := tin 627 (by decide +kernel) rfl
theorem q567 : Cond.selects RX2 yX2_foresee yX2_foresee ∈ tbl := tin 628 (by decide +kernel) rfl
theorem cw_L_66 : CWD RL 66 yX2_foresee cX2_foresee 3 (some .int) 2 := ⟨q565, q566, q567, q568, q1, ⟨by decide +kernel, by decide +kernel⟩, by decide +kernel⟩
theorem q4 : Cond.initialized RX4 ∈ tbl := tin 65 (by decide +kernel) rfl
theorem q571 : Cond.methodLink RL 72 yX4_init ∈ tbl := tin 632 (by decide +kernel) rfl
theorem q573 : Cond.code yX4_init cX4_init 1 none ∈ tbl := tin 634 (by decide +kernel) rfl
theorem q572 : Cond.instanceMethod yX4_init ∈ tbl := tin 633 (by decide +kernel) rfl
theorem q5 : Cond.initialized RX3 ∈ tbl := tin 66 (by decide +kernel) rfl
theorem q577 : Cond.methodLinkNest RX4 9 yX3_init RX4 ∈ tbl := tin 638 (by decide +kernel) rfl
theorem q579 : Cond.code yX3_init cX3_init 1 none ∈ tbl := tin 640 (by decide +kernel) rfl
theorem q578 : Cond.instanceMethod yX3_init ∈ tbl := tin 639 (by decide +kernel) rfl
theorem q656 : Cond.methodLink RL 79 yX4_thrown ∈ tbl := tin 717 (by decide +kernel) rfl
theorem q659 : Cond.code yX4_thrown cX4_thrown 1 (some .int) ∈ tbl := tin 720 (by decide +kernel) rfl
theorem q657 : Cond.instanceMethod yX4_thrown ∈ tbl := tin 718 (by decide +kernel) rfl
theorem q658 : Cond.selects RX4 yX4_thrown yX4_thrown ∈ tbl := tin 719 (by decide +kernel) rfl
theorem cw_L_79 : CWD RL 79 yX4_thrown cX4_thrown 1 (some .int) 0 := ⟨q656, q657, q658, q659, q4, ⟨by decide +kernel, by decide +kernel⟩, by decide +kernel⟩
theorem q660 : Cond.methodLink RL 78 yX4_till ∈ tbl := tin 721 (by decide +kernel) rfl
theorem q663 : Cond.code yX4_till cX4_till 3 (some .int) ∈ tbl := tin 724 (by decide +kernel) rfl
theorem q661 : Cond.instanceMethod yX4_till ∈ tbl := tin 722 (by decide +kernel) rfl
theorem q662 : Cond.selects RX4 yX4_till yX4_till ∈ tbl := tin 723 (by decide +kernel) rfl
theorem cw_L_78 : CWD RL 78 yX4_till cX4_till 3 (some .int) 1 := ⟨q660, q661, q662, q663, q4, ⟨by decide +kernel, by decide +kernel⟩, by decide +kernel⟩
theorem q664 : Cond.methodLink RX4 26 yX4_isIn ∈ tbl := tin 725 (by decide +kernel) rfl
theorem q666 : Cond.code yX4_isIn cX4_isIn 3 (some .boolean) ∈ tbl := tin 727 (by decide +kernel) rfl
theorem q665 : Cond.static yX4_isIn ∈ tbl := tin 726 (by decide +kernel) rfl
theorem cw_X4_26 : CSD RX4 26 yX4_isIn cX4_isIn 3 (some .boolean) 3 := ⟨q664, q665, q666, q4, ⟨by decide +kernel, by decide +kernel⟩, by decide +kernel⟩
theorem q667 : Cond.methodLink RX4 33 yX4_no ∈ tbl := tin 728 (by decide +kernel) rfl
theorem q670 : Cond.code yX4_no cX4_no 2 (some .int) ∈ tbl := tin 731 (by decide +kernel) rfl
theorem q669 : Cond.instanceMethod yX4_no ∈ tbl := tin 730 (by decide +kernel) rfl
theorem qs46 : Cond.selects RX4 yX4_no yX4_no ∈ tbl := tin 46 (by decide +kernel) rfl
theorem cw_X4_33 : CWD RX4 33 yX4_no cX4_no 2 (some .int) 1 := ⟨q667, q669, qs46, q670, q4, ⟨by decide +kernel, by decide +kernel⟩, by decide +kernel⟩
theorem q671 : Cond.methodLink RX4 37 yX3_begin ∈ tbl := tin 732 (by decide +kernel) rfl
theorem q674 : Cond.code yX3_begin cX3_begin 3 none ∈ tbl := tin 735 (by decide +kernel) rfl
theorem q672 : Cond.instanceMethod yX3_begin ∈ tbl := tin 733 (by decide +kernel) rfl
theorem q673 : Cond.selects RX3 yX3_begin yX3_begin ∈ tbl := tin 734 (by decide +kernel) rfl
theorem cw_X4_37 : CWD RX4 37 yX3_begin cX3_begin 3 none 1 := ⟨q671, q672, q673, q674, q5, ⟨by decide +kernel, by decide +kernel⟩, by decide +kernel⟩
theorem q675 : Cond.methodLink RL 85 yX4_pay ∈ tbl := tin 736 (by decide +kernel) rfl
theorem q678 : Cond.code yX4_pay cX4_pay 4 (some .int) ∈ tbl := tin 739 (by decide +kernel) rfl
theorem q676 : Cond.instanceMethod yX4_pay ∈ tbl := tin 737 (by decide +kernel) rfl
theorem q677 : Cond.selects RX4 yX4_pay yX4_pay ∈ tbl := tin 738 (by decide +kernel) rfl
theorem cw_L_85 : CWD RL 85 yX4_pay cX4_pay 4 (some .int) 2 := ⟨q675, q676, q677, q678, q4, ⟨by decide +kernel, by decide +kernel⟩, by decide +kernel⟩
theorem q679 : Cond.methodLink RX4 41 yX4_isDrawer ∈ tbl := tin 740 (by decide +kernel) rfl
theorem q682 : Cond.code yX4_isDrawer cX4_isDrawer 2 (some .boolean) ∈ tbl := tin 743 (by decide +kernel) rfl
theorem q681 : Cond.instanceMethod yX4_isDrawer ∈ tbl := tin 742 (by decide +kernel) rfl
theorem qs47 : Cond.selects RX4 yX4_isDrawer yX4_isDrawer ∈ tbl := tin 47 (by decide +kernel) rfl
theorem cw_X4_41 : CWD RX4 41 yX4_isDrawer cX4_isDrawer 2 (some .boolean) 1 := ⟨q679, q681, qs47, q682, q4, ⟨by decide +kernel, by decide +kernel⟩, by decide +kernel⟩
theorem q683 : Cond.methodLink RX4 49 yX3_pay ∈ tbl := tin 744 (by decide +kernel) rfl
theorem q686 : Cond.code yX3_pay cX3_pay 3 none ∈ tbl := tin 747 (by decide +kernel) rfl
theorem q684 : Cond.instanceMethod yX3_pay ∈ tbl := tin 745 (by decide +kernel) rfl
theorem q685 : Cond.selects RX3 yX3_pay yX3_pay ∈ tbl := tin 746 (by decide +kernel) rfl
theorem cw_X4_49 : CWD RX4 49 yX3_pay cX3_pay 3 none 2 := ⟨q683, q684, q685, q686, q5, ⟨by decide +kernel, by decide +kernel⟩, by decide +kernel⟩
theorem q687 : Cond.methodLink RX3 99 yX3_record ∈ tbl := tin 748 (by decide +kernel) rfl
theorem q690 : Cond.code yX3_record cX3_record 3 none ∈ tbl := tin 751 (by decide +kernel) rfl
theorem q689 : Cond.instanceMethod yX3_record ∈ tbl := tin 750 (by decide +kernel) rfl
theorem qs48 : Cond.selects RX3 yX3_record yX3_record ∈ tbl := tin 48 (by decide +kernel) rfl
theorem cw_X3_99 : CWD RX3 99 yX3_record cX3_record 3 none 2 := ⟨q687, q689, qs48, q690, q5, ⟨by decide +kernel, by decide +kernel⟩, by decide +kernel⟩
theorem q691 : Cond.methodLink RX3 95 yX3_sum ∈ tbl := tin 752 (by decide +kernel) rfl
theorem q694 : Cond.code yX3_sum cX3_sum 3 (some .int) ∈ tbl := tin 755 (by decide +kernel) rfl
theorem q692 : Cond.instanceMethod yX3_sum ∈ tbl := tin 753 (by decide +kernel) rfl
theorem q693 : Cond.selects RX3 yX3_sum yX3_sum ∈ tbl := tin 754 (by decide +kernel) rfl
theorem cw_X3_95 : CWD RX3 95 yX3_sum cX3_sum 3 (some .int) 0 := ⟨q691, q692, q693, q694, q5, ⟨by decide +kernel, by decide +kernel⟩, by decide +kernel⟩
theorem q695 : Cond.methodLink RL 89 yX4_clerk ∈ tbl := tin 756 (by decide +kernel) rfl
theorem q698 : Cond.code yX4_clerk cX4_clerk 1 (some .int) ∈ tbl := tin 759 (by decide +kernel) rfl
theorem q696 : Cond.instanceMethod yX4_clerk ∈ tbl := tin 757 (by decide +kernel) rfl
theorem q697 : Cond.selects RX4 yX4_clerk yX4_clerk ∈ tbl := tin 758 (by decide +kernel) rfl
theorem cw_L_89 : CWD RL 89 yX4_clerk cX4_clerk 1 (some .int) 0 := ⟨q695, q696, q697, q698, q4, ⟨by decide +kernel, by decide +kernel⟩, by decide +kernel⟩
theorem q699 : Cond.methodLink RX4 53 yX3_addClerk ∈ tbl := tin 760 (by decide +kernel) rfl
theorem q702 : Cond.code yX3_addClerk cX3_addClerk 1 (some .int) ∈ tbl := tin 763 (by decide +kernel) rfl
theorem q700 : Cond.instanceMethod yX3_addClerk ∈ tbl := tin 761 (by decide +kernel) rfl
theorem q701 : Cond.selects RX3 yX3_addClerk yX3_addClerk ∈ tbl := tin 762 (by decide +kernel) rfl
theorem cw_X4_53 : CWD RX4 53 yX3_addClerk cX3_addClerk 1 (some .int) 0 := ⟨q699, q700, q701, q702, q5, ⟨by decide +kernel, by decide +kernel⟩, by decide +kernel⟩
theorem q703 : Cond.methodLink RX3 71 yX3_clear ∈ tbl := tin 764 (by decide +kernel) rfl
theorem q706 : Cond.code yX3_clear cX3_clear 3 none ∈ tbl := tin 767 (by decide +kernel) rfl
theorem q704 : Cond.instanceMethod yX3_clear ∈ tbl := tin 765 (by decide +kernel) rfl
theorem q705 : Cond.selects RX3 yX3_clear yX3_clear ∈ tbl := tin 766 (by decide +kernel) rfl
theorem cw_X3_71 : CWD RX3 71 yX3_clear cX3_clear 3 none 1 := ⟨q703, q704, q705, q706, q5, ⟨by decide +kernel, by decide +kernel⟩, by decide +kernel⟩
theorem q707 : Cond.methodLink RL 93 yX4_say ∈ tbl := tin 768 (by decide +kernel) rfl
theorem q710 : Cond.code yX4_say cX4_say 7 (some .int) ∈ tbl := tin 771 (by decide +kernel) rfl
theorem q708 : Cond.instanceMethod yX4_say ∈ tbl := tin 769 (by decide +kernel) rfl
theorem q709 : Cond.selects RX4 yX4_say yX4_say ∈ tbl := tin 770 (by decide +kernel) rfl
theorem cw_L_93 : CWD RL 93 yX4_say cX4_say 7 (some .int) 5 := ⟨q707, q708, q709, q710, q4, ⟨by decide +kernel, by decide +kernel⟩, by decide +kernel⟩
theorem q711 : Cond.methodLink RX4 57 yX4_isClerk ∈ tbl := tin 772 (by decide +kernel) rfl
theorem q714 : Cond.code yX4_isClerk cX4_isClerk 2 (some .boolean) ∈ tbl := tin 775 (by decide +kernel) rfl
theorem q713 : Cond.instanceMethod yX4_isClerk ∈ tbl := tin 774 (by decide +kernel) rfl
theorem qs49 : Cond.selects RX4 yX4_isClerk yX4_isClerk ∈ tbl := tin 49 (by decide +kernel) rfl
theorem cw_X4_57 : CWD RX4 57 yX4_isClerk cX4_isClerk 2 (some .boolean) 1 := ⟨q711, q713, qs49, q714, q4, ⟨by decide +kernel, by decide +kernel⟩, by decide +kernel⟩
theorem q718 : Cond.methodLink RL 96 yX4_turn ∈ tbl := tin 779 (by decide +kernel) rfl
theorem q721 : Cond.code yX4_turn cX4_turn 2 (some .int) ∈ tbl := tin 782 (by decide +kernel) rfl
theorem q719 : Cond.instanceMethod yX4_turn ∈ tbl := tin 780 (by decide +kernel) rfl
theorem q720 : Cond.selects RX4 yX4_turn yX4_turn ∈ tbl := tin 781 (by decide +kernel) rfl
theorem cw_L_96 : CWD RL 96 yX4_turn cX4_turn 2 (some .int) 1 := ⟨q718, q719, q720, q721, q4, ⟨by decide +kernel, by decide +kernel⟩, by decide +kernel⟩
theorem q722 : Cond.methodLink RX4 78 yX3_goesOn ∈ tbl := tin 783 (by decide +kernel) rfl
theorem q725 : Cond.code yX3_goesOn cX3_goesOn 2 (some .boolean) ∈ tbl := tin 786 (by decide +kernel) rfl
theorem q723 : Cond.instanceMethod yX3_goesOn ∈ tbl := tin 784 (by decide +kernel) rfl
theorem q724 : Cond.selects RX3 yX3_goesOn yX3_goesOn ∈ tbl := tin 785 (by decide +kernel) rfl
theorem cw_X4_78 : CWD RX4 78 yX3_goesOn cX3_goesOn 2 (some .boolean) 1 := ⟨q722, q723, q724, q725, q5, ⟨by decide +kernel, by decide +kernel⟩, by decide +kernel⟩
theorem q726 : Cond.methodLink RX4 81 yX3_turn ∈ tbl := tin 787 (by decide +kernel) rfl
theorem q729 : Cond.code yX3_turn cX3_turn 2 (some .int) ∈ tbl := tin 790 (by decide +kernel) rfl
theorem q727 : Cond.instanceMethod yX3_turn ∈ tbl := tin 788 (by decide +kernel) rfl
theorem q728 : Cond.selects RX3 yX3_turn yX3_turn ∈ tbl := tin 789 (by decide +kernel) rfl
theorem cw_X4_81 : CWD RX4 81 yX3_turn cX3_turn 2 (some .int) 1 := ⟨q726, q727, q728, q729, q5, ⟨by decide +kernel, by decide +kernel⟩, by decide +kernel⟩
theorem q730 : Cond.methodLink RX3 103 yX3_act ∈ tbl := tin 791 (by decide +kernel) rfl
theorem q733 : Cond.code yX3_act cX3_act 8 none ∈ tbl := tin 794 (by decide +kernel) rfl
theorem q732 : Cond.instanceMethod yX3_act ∈ tbl := tin 793 (by decide +kernel) rfl
theorem qs50 : Cond.selects RX3 yX3_act yX3_act ∈ tbl := tin 50 (by decide +kernel) rfl
theorem cw_X3_103 : CWD RX3 103 yX3_act cX3_act 8 none 2 := ⟨q730, q732, qs50, q733, q5, ⟨by decide +kernel, by decide +kernel⟩, by decide +kernel⟩
theorem q734 : Cond.methodLink RX3 84 yX3_step ∈ tbl := tin 795 (by decide +kernel) rfl
theorem q737 : Cond.code yX3_step cX3_step 4 (some .int) ∈ tbl := tin 798 (by decide +kernel) rfl
theorem q735 : Cond.instanceMethod yX3_step ∈ tbl := tin 796 (by decide +kernel) rfl
theorem q736 : Cond.selects RX3 yX3_step yX3_step ∈ tbl := tin 797 (by decide +kernel) rfl
theorem cw_X3_84 : CWD RX3 84 yX3_step cX3_step 4 (some .int) 3 := ⟨q734, q735, q736, q737, q5, ⟨by decide +kernel, by decide +kernel⟩, by decide +kernel⟩
theorem q738 : Cond.methodLink RX3 88 yX3_read ∈ tbl := tin 799 (by decide +kernel) rfl
theorem q741 : Cond.code yX3_read cX3_read 4 (some .int) ∈ tbl := tin 802 (by decide +kernel) rfl
theorem q740 : Cond.instanceMethod yX3_read ∈ tbl := tin 801 (by decide +kernel) rfl
theorem qs51 : Cond.selects RX3 yX3_read yX3_read ∈ tbl := tin 51 (by decide +kernel) rfl
theorem cw_X3_88 : CWD RX3 88 yX3_read cX3_read 4 (some .int) 2 := ⟨q738, q740, qs51, q741, q5, ⟨by decide +kernel, by decide +kernel⟩, by decide +kernel⟩
theorem q742 : Cond.methodLink RX3 91 yX3_write ∈ tbl := tin 803 (by decide +kernel) rfl
theorem q745 : Cond.code yX3_write cX3_write 4 none ∈ tbl := tin 806 (by decide +kernel) rfl
theorem q744 : Cond.instanceMethod yX3_write ∈ tbl := tin 805 (by decide +kernel) rfl
theorem qs52 : Cond.selects RX3 yX3_write yX3_write ∈ tbl := tin 52 (by decide +kernel) rfl
theorem cw_X3_91 : CWD RX3 91 yX3_write cX3_write 4 none 3 := ⟨q742, q744, qs52, q745, q5, ⟨by decide +kernel, by decide +kernel⟩, by decide +kernel⟩
theorem q750 : Cond.methodLink RX3 106 yX3_wouldLose ∈ tbl := tin 811 (by decide +kernel) rfl
theorem q753 : Cond.code yX3_wouldLose cX3_wouldLose 3 (some .boolean) ∈ tbl := tin 814 (by decide +kernel) rfl
theorem q751 : Cond.instanceMethod yX3_wouldLose ∈ tbl := tin 812 (by decide +kernel) rfl
theorem q752 : Cond.selects RX3 yX3_wouldLose yX3_wouldLose ∈ tbl := tin 813 (by decide +kernel) rfl
theorem cw_X3_106 : CWD RX3 106 yX3_wouldLose cX3_wouldLose 3 (some .boolean) 1 := ⟨q750, q751, q752, q753, q5, ⟨by decide +kernel, by decide +kernel⟩, by decide +kernel⟩
theorem q754 : Cond.methodLink RX3 110 yX3_close ∈ tbl := tin 815 (by decide +kernel) rfl
theorem q757 : Cond.code yX3_close cX3_close 4 none ∈ tbl := tin 818 (by decide +kernel) rfl
theorem q756 : Cond.instanceMethod yX3_close ∈ tbl := tin 817 (by decide +kernel) rfl
theorem qs53 : Cond.selects RX3 yX3_close yX3_close ∈ tbl := tin 53 (by decide +kernel) rfl
theorem cw_X3_110 : CWD RX3 110 yX3_close cX3_close 4 none 1 := ⟨q754, q756, qs53, q757, q5, ⟨by decide +kernel, by decide +kernel⟩, by decide +kernel⟩
theorem q758 : Cond.methodLink RL 99 yX4_drop ∈ tbl := tin 819 (by decide +kernel) rfl
theorem q761 : Cond.code yX4_drop cX4_drop 3 (some .int) ∈ tbl := tin 822 (by decide +kernel) rfl
theorem q759 : Cond.instanceMethod yX4_drop ∈ tbl := tin 820 (by decide +kernel) rfl
theorem q760 : Cond.selects RX4 yX4_drop yX4_drop ∈ tbl := tin 821 (by decide +kernel) rfl
theorem cw_L_99 : CWD RL 99 yX4_drop cX4_drop 3 (some .int) 1 := ⟨q758, q759, q760, q761, q4, ⟨by decide +kernel, by decide +kernel⟩, by decide +kernel⟩
theorem q762 : Cond.methodLink RX4 84 yX3_clear ∈ tbl := tin 823 (by decide +kernel) rfl
theorem cw_X4_84 : CWD RX4 84 yX3_clear cX3_clear 3 none 1 := ⟨q762, q704, q705, q706, q5, ⟨by decide +kernel, by decide +kernel⟩, by decide +kernel⟩
theorem q763 : Cond.methodLink RL 102 yX4_pass ∈ tbl := tin 824 (by decide +kernel) rfl
theorem q766 : Cond.code yX4_pass cX4_pass 4 (some .int) ∈ tbl := tin 827 (by decide +kernel) rfl
theorem q764 : Cond.instanceMethod yX4_pass ∈ tbl := tin 825 (by decide +kernel) rfl
theorem q765 : Cond.selects RX4 yX4_pass yX4_pass ∈ tbl := tin 826 (by decide +kernel) rfl
theorem cw_L_102 : CWD RL 102 yX4_pass cX4_pass 4 (some .int) 1 := ⟨q763, q764, q765, q766, q4, ⟨by decide +kernel, by decide +kernel⟩, by decide +kernel⟩
theorem q767 : Cond.methodLink RX4 87 yX3_round ∈ tbl := tin 828 (by decide +kernel) rfl
theorem q770 : Cond.code yX3_round cX3_round 3 (some .int) ∈ tbl := tin 831 (by decide +kernel) rfl
theorem q768 : Cond.instanceMethod yX3_round ∈ tbl := tin 829 (by decide +kernel) rfl
theorem q769 : Cond.selects RX3 yX3_round yX3_round ∈ tbl := tin 830 (by decide +kernel) rfl
theorem cw_X4_87 : CWD RX4 87 yX3_round cX3_round 3 (some .int) 0 := ⟨q767, q768, q769, q770, q5, ⟨by decide +kernel, by decide +kernel⟩, by decide +kernel⟩
theorem q771 : Cond.methodLink RX3 113 yX3_goesOn ∈ tbl := tin 832 (by decide +kernel) rfl
theorem cw_X3_113 : CWD RX3 113 yX3_goesOn cX3_goesOn 2 (some .boolean) 1 := ⟨q771, q723, q724, q725, q5, ⟨by decide +kernel, by decide +kernel⟩, by decide +kernel⟩
theorem q772 : Cond.methodLink RX3 116 yX3_turn ∈ tbl := tin 833 (by decide +kernel) rfl
theorem cw_X3_116 : CWD RX3 116 yX3_turn cX3_turn 2 (some .int) 1 := ⟨q772, q727, q728, q729, q5, ⟨by decide +kernel, by decide +kernel⟩, by decide +kernel⟩
theorem q773 : Cond.methodLink RL 105 yX4_drawer ∈ tbl := tin 834 (by decide +kernel) rfl
theorem q776 : Cond.code yX4_drawer cX4_drawer 3 (some .int) ∈ tbl := tin 837 (by decide +kernel) rfl
theorem q774 : Cond.instanceMethod yX4_drawer ∈ tbl := tin 835 (by decide +kernel) rfl
theorem q775 : Cond.selects RX4 yX4_drawer yX4_drawer ∈ tbl := tin 836 (by decide +kernel) rfl
theorem cw_L_105 : CWD RL 105 yX4_drawer cX4_drawer 3 (some .int) 2 := ⟨q773, q774, q775, q776, q4, ⟨by decide +kernel, by decide +kernel⟩, by decide +kernel⟩
theorem q777 : Cond.methodLink RX4 99 yX4_drawerTold ∈ tbl := tin 838 (by decide +kernel) rfl
theorem q780 : Cond.code yX4_drawerTold cX4_drawerTold 5 (some .int) ∈ tbl := tin 841 (by decide +kernel) rfl
theorem q779 : Cond.instanceMethod yX4_drawerTold ∈ tbl := tin 840 (by decide +kernel) rfl
theorem qs54 : Cond.selects RX4 yX4_drawerTold yX4_drawerTold ∈ tbl := tin 54 (by decide +kernel) rfl
theorem cw_X4_99 : CWD RX4 99 yX4_drawerTold cX4_drawerTold 5 (some .int) 2 := ⟨q777, q779, qs54, q780, q4, ⟨by decide +kernel, by decide +kernel⟩, by decide +kernel⟩
theorem q781 : Cond.methodLink RL 108 yX4_told ∈ tbl := tin 842 (by decide +kernel) rfl
theorem q784 : Cond.code yX4_told cX4_told 3 (some .int) ∈ tbl := tin 845 (by decide +kernel) rfl
theorem q782 : Cond.instanceMethod yX4_told ∈ tbl := tin 843 (by decide +kernel) rfl
theorem q783 : Cond.selects RX4 yX4_told yX4_told ∈ tbl := tin 844 (by decide +kernel) rfl
theorem cw_L_108 : CWD RL 108 yX4_told cX4_told 3 (some .int) 2 := ⟨q781, q782, q783, q784, q4, ⟨by decide +kernel, by decide +kernel⟩, by decide +kernel⟩
theorem q785 : Cond.methodLink RX4 113 yX4_clerkTold ∈ tbl := tin 846 (by decide +kernel) rfl
theorem q788 : Cond.code yX4_clerkTold cX4_clerkTold 3 (some .int) ∈ tbl := tin 849 (by decide +kernel) rfl
theorem q787 : Cond.instanceMethod yX4_clerkTold ∈ tbl := tin 848 (by decide +kernel) rfl
theorem qs55 : Cond.selects RX4 yX4_clerkTold yX4_clerkTold ∈ tbl := tin 55 (by decide +kernel) rfl
theorem cw_X4_113 : CWD RX4 113 yX4_clerkTold cX4_clerkTold 3 (some .int) 2 := ⟨q785, q787, qs55, q788, q4, ⟨by decide +kernel, by decide +kernel⟩, by decide +kernel⟩
theorem q789 : Cond.methodLink RX4 106 yX4_many ∈ tbl := tin 850 (by decide +kernel) rfl
theorem q792 : Cond.code yX4_many cX4_many 5 (some .int) ∈ tbl := tin 853 (by decide +kernel) rfl
theorem q791 : Cond.instanceMethod yX4_many ∈ tbl := tin 852 (by decide +kernel) rfl
theorem qs56 : Cond.selects RX4 yX4_many yX4_many ∈ tbl := tin 56 (by decide +kernel) rfl
theorem cw_X4_106 : CWD RX4 106 yX4_many cX4_many 5 (some .int) 2 := ⟨q789, q791, qs56, q792, q4, ⟨by decide +kernel, by decide +kernel⟩, by decide +kernel⟩
theorem q793 : Cond.methodLink RX4 110 yX3_wouldLose ∈ tbl := tin 854 (by decide +kernel) rfl
theorem cw_X4_110 : CWD RX4 110 yX3_wouldLose cX3_wouldLose 3 (some .boolean) 1 := ⟨q793, q751, q752, q753, q5, ⟨by decide +kernel, by decide +kernel⟩, by decide +kernel⟩
theorem q794 : Cond.methodLink RL 112 yX4_slip ∈ tbl := tin 855 (by decide +kernel) rfl
theorem q797 : Cond.code yX4_slip cX4_slip 4 (some .int) ∈ tbl := tin 858 (by decide +kernel) rfl
theorem q795 : Cond.instanceMethod yX4_slip ∈ tbl := tin 856 (by decide +kernel) rfl
theorem q796 : Cond.selects RX4 yX4_slip yX4_slip ∈ tbl := tin 857 (by decide +kernel) rfl
theorem cw_L_112 : CWD RL 112 yX4_slip cX4_slip 4 (some .int) 3 := ⟨q794, q795, q796, q797, q4, ⟨by decide +kernel, by decide +kernel⟩, by decide +kernel⟩
theorem q798 : Cond.methodLink RX4 119 yX4_slipTold ∈ tbl := tin 859 (by decide +kernel) rfl
theorem q801 : Cond.code yX4_slipTold cX4_slipTold 5 (some .int) ∈ tbl := tin 862 (by decide +kernel) rfl
theorem q800 : Cond.instanceMethod yX4_slipTold ∈ tbl := tin 861 (by decide +kernel) rfl
theorem qs57 : Cond.selects RX4 yX4_slipTold yX4_slipTold ∈ tbl := tin 57 (by decide +kernel) rfl
theorem cw_X4_119 : CWD RX4 119 yX4_slipTold cX4_slipTold 5 (some .int) 3 := ⟨q798, q800, qs57, q801, q4, ⟨by decide +kernel, by decide +kernel⟩, by decide +kernel⟩
theorem q802 : Cond.methodLink RL 115 yX4_step ∈ tbl := tin 863 (by decide +kernel) rfl
theorem q805 : Cond.code yX4_step cX4_step 4 (some .int) ∈ tbl := tin 866 (by decide +kernel) rfl
theorem q803 : Cond.instanceMethod yX4_step ∈ tbl := tin 864 (by decide +kernel) rfl
theorem q804 : Cond.selects RX4 yX4_step yX4_step ∈ tbl := tin 865 (by decide +kernel) rfl
theorem cw_L_115 : CWD RL 115 yX4_step cX4_step 4 (some .int) 3 := ⟨q802, q803, q804, q805, q4, ⟨by decide +kernel, by decide +kernel⟩, by decide +kernel⟩
theorem q806 : Cond.methodLink RX4 123 yX3_step ∈ tbl := tin 867 (by decide +kernel) rfl
theorem cw_X4_123 : CWD RX4 123 yX3_step cX3_step 4 (some .int) 3 := ⟨q806, q735, q736, q737, q5, ⟨by decide +kernel, by decide +kernel⟩, by decide +kernel⟩
theorem q807 : Cond.methodLink RL 118 yX4_closing ∈ tbl := tin 868 (by decide +kernel) rfl
theorem q810 : Cond.code yX4_closing cX4_closing 3 (some .int) ∈ tbl := tin 871 (by decide +kernel) rfl
theorem q808 : Cond.instanceMethod yX4_closing ∈ tbl := tin 869 (by decide +kernel) rfl
theorem q809 : Cond.selects RX4 yX4_closing yX4_closing ∈ tbl := tin 870 (by decide +kernel) rfl
theorem cw_L_118 : CWD RL 118 yX4_closing cX4_closing 3 (some .int) 2 := ⟨q807, q808, q809, q810, q4, ⟨by decide +kernel, by decide +kernel⟩, by decide +kernel⟩
theorem q812 : Cond.methodLink RX4 143 yX4_closingTold ∈ tbl := tin 873 (by decide +kernel) rfl
theorem q815 : Cond.code yX4_closingTold cX4_closingTold 4 (some .int) ∈ tbl := tin 876 (by decide +kernel) rfl
theorem q814 : Cond.instanceMethod yX4_closingTold ∈ tbl := tin 875 (by decide +kernel) rfl
theorem qs58 : Cond.selects RX4 yX4_closingTold yX4_closingTold ∈ tbl := tin 58 (by decide +kernel) rfl
theorem cw_X4_143 : CWD RX4 143 yX4_closingTold cX4_closingTold 4 (some .int) 2 := ⟨q812, q814, qs58, q815, q4, ⟨by decide +kernel, by decide +kernel⟩, by decide +kernel⟩
theorem q816 : Cond.methodLink RL 121 yX4_clash ∈ tbl := tin 877 (by decide +kernel) rfl
theorem q819 : Cond.code yX4_clash cX4_clash 3 (some .boolean) ∈ tbl := tin 880 (by decide +kernel) rfl
theorem q817 : Cond.instanceMethod yX4_clash ∈ tbl := tin 878 (by decide +kernel) rfl
theorem q818 : Cond.selects RX4 yX4_clash yX4_clash ∈ tbl := tin 879 (by decide +kernel) rfl
theorem cw_L_121 : CWD RL 121 yX4_clash cX4_clash 3 (some .boolean) 2 := ⟨q816, q817, q818, q819, q4, ⟨by decide +kernel, by decide +kernel⟩, by decide +kernel⟩
theorem q820 : Cond.methodLink RX4 146 yX4_clashes ∈ tbl := tin 881 (by decide +kernel) rfl
theorem q823 : Cond.code yX4_clashes cX4_clashes 4 (some .boolean) ∈ tbl := tin 884 (by decide +kernel) rfl
theorem q822 : Cond.instanceMethod yX4_clashes ∈ tbl := tin 883 (by decide +kernel) rfl
theorem qs59 : Cond.selects RX4 yX4_clashes yX4_clashes ∈ tbl := tin 59 (by decide +kernel) rfl
theorem cw_X4_146 : CWD RX4 146 yX4_clashes cX4_clashes 4 (some .boolean) 2 := ⟨q820, q822, qs59, q823, q4, ⟨by decide +kernel, by decide +kernel⟩, by decide +kernel⟩
theorem q824 : Cond.methodLink RL 124 yX4_count ∈ tbl := tin 885 (by decide +kernel) rfl
theorem q827 : Cond.code yX4_count cX4_count 2 (some .int) ∈ tbl := tin 888 (by decide +kernel) rfl
theorem q825 : Cond.instanceMethod yX4_count ∈ tbl := tin 886 (by decide +kernel) rfl
theorem q826 : Cond.selects RX4 yX4_count yX4_count ∈ tbl := tin 887 (by decide +kernel) rfl
theorem cw_L_124 : CWD RL 124 yX4_count cX4_count 2 (some .int) 1 := ⟨q824, q825, q826, q827, q4, ⟨by decide +kernel, by decide +kernel⟩, by decide +kernel⟩
theorem q828 : Cond.methodLink RX4 150 yX3_counted ∈ tbl := tin 889 (by decide +kernel) rfl
theorem q831 : Cond.code yX3_counted cX3_counted 6 (some .int) ∈ tbl := tin 892 (by decide +kernel) rfl
theorem q829 : Cond.instanceMethod yX3_counted ∈ tbl := tin 890 (by decide +kernel) rfl
theorem q830 : Cond.selects RX3 yX3_counted yX3_counted ∈ tbl := tin 891 (by decide +kernel) rfl
theorem cw_X4_150 : CWD RX4 150 yX3_counted cX3_counted 6 (some .int) 1 := ⟨q828, q829, q830, q831, q5, ⟨by decide +kernel, by decide +kernel⟩, by decide +kernel⟩
theorem q832 : Cond.methodLink RL 127 yX4_alone ∈ tbl := tin 893 (by decide +kernel) rfl
theorem q835 : Cond.code yX4_alone cX4_alone 4 (some .int) ∈ tbl := tin 896 (by decide +kernel) rfl
theorem q833 : Cond.instanceMethod yX4_alone ∈ tbl := tin 894 (by decide +kernel) rfl
theorem q834 : Cond.selects RX4 yX4_alone yX4_alone ∈ tbl := tin 895 (by decide +kernel) rfl
theorem cw_L_127 : CWD RL 127 yX4_alone cX4_alone 4 (some .int) 2 := ⟨q832, q833, q834, q835, q4, ⟨by decide +kernel, by decide +kernel⟩, by decide +kernel⟩
theorem q836 : Cond.methodLink RX4 153 yX3_become ∈ tbl := tin 897 (by decide +kernel) rfl
theorem q839 : Cond.code yX3_become cX3_become 2 none ∈ tbl := tin 900 (by decide +kernel) rfl
theorem q837 : Cond.instanceMethod yX3_become ∈ tbl := tin 898 (by decide +kernel) rfl
theorem q838 : Cond.selects RX3 yX3_become yX3_become ∈ tbl := tin 899 (by decide +kernel) rfl
theorem cw_X4_153 : CWD RX4 153 yX3_become cX3_become 2 none 1 := ⟨q836, q837, q838, q839, q5, ⟨by decide +kernel, by decide +kernel⟩, by decide +kernel⟩
theorem q840 : Cond.methodLink RX3 67 yX3_copy ∈ tbl := tin 901 (by decide +kernel) rfl
theorem q842 : Cond.code yX3_copy cX3_copy 2 none ∈ tbl := tin 903 (by decide +kernel) rfl
theorem q841 : Cond.static yX3_copy ∈ tbl := tin 902 (by decide +kernel) rfl
theorem cw_X3_67 : CSD RX3 67 yX3_copy cX3_copy 2 none 2 := ⟨q840, q841, q842, q5, ⟨by decide +kernel, by decide +kernel⟩, by decide +kernel⟩
theorem q844 : Cond.methodLink RL 131 yX4_until ∈ tbl := tin 905 (by decide +kernel) rfl
theorem q847 : Cond.code yX4_until cX4_until 2 (some .int) ∈ tbl := tin 908 (by decide +kernel) rfl
theorem q845 : Cond.instanceMethod yX4_until ∈ tbl := tin 906 (by decide +kernel) rfl
theorem q846 : Cond.selects RX4 yX4_until yX4_until ∈ tbl := tin 907 (by decide +kernel) rfl
theorem cw_L_131 : CWD RL 131 yX4_until cX4_until 2 (some .int) 0 := ⟨q844, q845, q846, q847, q4, ⟨by decide +kernel, by decide +kernel⟩, by decide +kernel⟩
theorem q848 : Cond.methodLink RX4 157 yX3_areDone ∈ tbl := tin 909 (by decide +kernel) rfl
theorem q851 : Cond.code yX3_areDone cX3_areDone 2 (some .boolean) ∈ tbl := tin 912 (by decide +kernel) rfl
theorem q849 : Cond.instanceMethod yX3_areDone ∈ tbl := tin 910 (by decide +kernel) rfl
theorem q850 : Cond.selects RX3 yX3_areDone yX3_areDone ∈ tbl := tin 911 (by decide +kernel) rfl
theorem cw_X4_157 : CWD RX4 157 yX3_areDone cX3_areDone 2 (some .boolean) 0 := ⟨q848, q849, q850, q851, q5, ⟨by decide +kernel, by decide +kernel⟩, by decide +kernel⟩
theorem q852 : Cond.methodLink RL 134 yX4_foresee ∈ tbl := tin 913 (by decide +kernel) rfl
theorem q855 : Cond.code yX4_foresee cX4_foresee 4 (some .int) ∈ tbl := tin 916 (by decide +kernel) rfl
theorem q853 : Cond.instanceMethod yX4_foresee ∈ tbl := tin 914 (by decide +kernel) rfl
theorem q854 : Cond.selects RX4 yX4_foresee yX4_foresee ∈ tbl := tin 915 (by decide +kernel) rfl
theorem cw_L_134 : CWD RL 134 yX4_foresee cX4_foresee 4 (some .int) 2 := ⟨q852, q853, q854, q855, q4, ⟨by decide +kernel, by decide +kernel⟩, by decide +kernel⟩
theorem q856 : Cond.methodLink RL 138 yX4_advise ∈ tbl := tin 917 (by decide +kernel) rfl
theorem q859 : Cond.code yX4_advise cX4_advise 4 (some .int) ∈ tbl := tin 920 (by decide +kernel) rfl
theorem q857 : Cond.instanceMethod yX4_advise ∈ tbl := tin 918 (by decide +kernel) rfl
theorem q858 : Cond.selects RX4 yX4_advise yX4_advise ∈ tbl := tin 919 (by decide +kernel) rfl
theorem cw_L_138 : CWD RL 138 yX4_advise cX4_advise 4 (some .int) 0 := ⟨q856, q857, q858, q859, q4, ⟨by decide +kernel, by decide +kernel⟩, by decide +kernel⟩
theorem q860 : Cond.methodLink RX4 161 yX4_clashesOf ∈ tbl := tin 921 (by decide +kernel) rfl
theorem q863 : Cond.code yX4_clashesOf cX4_clashesOf 4 (some .int) ∈ tbl := tin 924 (by decide +kernel) rfl
theorem q862 : Cond.instanceMethod yX4_clashesOf ∈ tbl := tin 923 (by decide +kernel) rfl
theorem qs60 : Cond.selects RX4 yX4_clashesOf yX4_clashesOf ∈ tbl := tin 60 (by decide +kernel) rfl
theorem cw_X4_161 : CWD RX4 161 yX4_clashesOf cX4_clashesOf 4 (some .int) 1 := ⟨q860, q862, qs60, q863, q4, ⟨by decide +kernel, by decide +kernel⟩, by decide +kernel⟩
theorem q864 : Cond.methodLink RL 143 yX4_mean ∈ tbl := tin 925 (by decide +kernel) rfl
theorem q867 : Cond.code yX4_mean cX4_mean 1 (some .double) ∈ tbl := tin 928 (by decide +kernel) rfl
theorem q865 : Cond.instanceMethod yX4_mean ∈ tbl := tin 926 (by decide +kernel) rfl
theorem q866 : Cond.selects RX4 yX4_mean yX4_mean ∈ tbl := tin 927 (by decide +kernel) rfl
theorem cw_L_143 : CWD RL 143 yX4_mean cX4_mean 1 (some .double) 0 := ⟨q864, q865, q866, q867, q4, ⟨by decide +kernel, by decide +kernel⟩, by decide +kernel⟩
theorem q868 : Cond.methodLink RL 148 yX4_digest ∈ tbl := tin 929 (by decide +kernel) rfl
theorem q871 : Cond.code yX4_digest cX4_digest 6 (some .long) ∈ tbl := tin 932 (by decide +kernel) rfl
theorem q869 : Cond.instanceMethod yX4_digest ∈ tbl := tin 930 (by decide +kernel) rfl
theorem q870 : Cond.selects RX4 yX4_digest yX4_digest ∈ tbl := tin 931 (by decide +kernel) rfl
theorem cw_L_148 : CWD RL 148 yX4_digest cX4_digest 6 (some .long) 0 := ⟨q868, q869, q870, q871, q4, ⟨by decide +kernel, by decide +kernel⟩, by decide +kernel⟩
theorem q0 : Cond.initialized RL ∈ tbl := tin 61 (by decide +kernel) rfl
theorem q6 : Cond.initialized "java/lang/Throwable" ∈ tbl := tin 67 (by decide +kernel) rfl
theorem q7 : Cond.initialized "java/lang/Exception" ∈ tbl := tin 68 (by decide +kernel) rfl
theorem q8 : Cond.initialized "java/lang/RuntimeException" ∈ tbl := tin 69 (by decide +kernel) rfl
theorem q9 : Cond.initialized "java/lang/IllegalArgumentException" ∈ tbl := tin 70 (by decide +kernel) rfl
theorem q10 : Cond.initialized "java/lang/IndexOutOfBoundsException" ∈ tbl := tin 71 (by decide +kernel) rfl
theorem q11 : Cond.initialized "java/lang/IllegalStateException" ∈ tbl := tin 72 (by decide +kernel) rfl
theorem q12 : Cond.initialized "java/lang/System" ∈ tbl := tin 73 (by decide +kernel) rfl
theorem q13 : Cond.initialized "java/lang/Math" ∈ tbl := tin 74 (by decide +kernel) rfl
theorem q14 : Cond.classLink RL 8 RX2 ∈ tbl := tin 75 (by decide +kernel) rfl
theorem q15 : Cond.instantiable RX2 2 ∈ tbl := tin 76 (by decide +kernel) rfl
theorem q22 : Cond.classLink RX2 7 RX1 ∈ tbl := tin 83 (by decide +kernel) rfl
theorem q23 : Cond.instantiable RX1 9 ∈ tbl := tin 84 (by decide +kernel) rfl
theorem q28 : Cond.classLink RX1 22 RX0 ∈ tbl := tin 89 (by decide +kernel) rfl
theorem q29 : Cond.arrayOver (.object RX0) ∈ tbl := tin 90 (by decide +kernel) rfl
theorem q30 : Cond.instantiable RX0 11 ∈ tbl := tin 91 (by decide +kernel) rfl
theorem q87 : Cond.arrayClass .int ∈ tbl := tin 148 (by decide +kernel) rfl
theorem q228 : Cond.constantLong RX2 165 1811 ∈ tbl := tin 289 (by decide +kernel) rfl
theorem q229 : Cond.constantLong RX2 167 31 ∈ tbl := tin 290 (by decide +kernel) rfl
theorem q295 : Cond.classLink RL 13 "java/lang/IllegalArgumentException" ∈ tbl := tin 356 (by decide +kernel) rfl
theorem q300 : Cond.classLink RX2 19 "java/lang/IllegalArgumentException" ∈ tbl := tin 361 (by decide +kernel) rfl
theorem q301 : Cond.instantiable "java/lang/IllegalArgumentException" 6 ∈ tbl := tin 362 (by decide +kernel) rfl
theorem q302 : Cond.castable "java/lang/IllegalArgumentException" "java/lang/IllegalArgumentException" ∈ tbl := tin 363 (by decide +kernel) rfl
theorem q339 : Cond.instantiable "java/lang/Throwable" 6 ∈ tbl := tin 400 (by decide +kernel) rfl
theorem q367 : Cond.arrayClass .byte ∈ tbl := tin 428 (by decide +kernel) rfl
theorem q375 : Cond.classLink RL 19 "java/lang/IndexOutOfBoundsException" ∈ tbl := tin 436 (by decide +kernel) rfl
theorem q384 : Cond.classLink RX2 123 "java/lang/IndexOutOfBoundsException" ∈ tbl := tin 445 (by decide +kernel) rfl
theorem q385 : Cond.instantiable "java/lang/IndexOutOfBoundsException" 6 ∈ tbl := tin 446 (by decide +kernel) rfl
theorem q386 : Cond.castable "java/lang/IndexOutOfBoundsException" "java/lang/IndexOutOfBoundsException" ∈ tbl := tin 447 (by decide +kernel) rfl
theorem q408 : Cond.classLink RL 25 "java/lang/IllegalStateException" ∈ tbl := tin 469 (by decide +kernel) rfl
theorem q413 : Cond.classLink RX2 50 "java/lang/IllegalStateException" ∈ tbl := tin 474 (by decide +kernel) rfl
theorem q414 : Cond.instantiable "java/lang/IllegalStateException" 6 ∈ tbl := tin 475 (by decide +kernel) rfl
theorem q415 : Cond.castable "java/lang/IllegalStateException" "java/lang/IllegalStateException" ∈ tbl := tin 476 (by decide +kernel) rfl
theorem q569 : Cond.classLink RL 70 RX4 ∈ tbl := tin 630 (by decide +kernel) rfl
theorem q570 : Cond.instantiable RX4 3 ∈ tbl := tin 631 (by decide +kernel) rfl
theorem q575 : Cond.classLink RX4 7 RX3 ∈ tbl := tin 636 (by decide +kernel) rfl
theorem q576 : Cond.instantiable RX3 16 ∈ tbl := tin 637 (by decide +kernel) rfl
theorem q872 : Cond.constantLong RX4 164 1811 ∈ tbl := tin 933 (by decide +kernel) rfl
theorem q873 : Cond.constantLong RX4 166 31 ∈ tbl := tin 934 (by decide +kernel) rfl
theorem q874 : Cond.arrayClass .long ∈ tbl := tin 935 (by decide +kernel) rfl
theorem qm174 : Cond.methodLink RX1 122 Lib.Math.min.name ∈ tbl := tin 235 (by decide +kernel) rfl
theorem qm175 : Cond.static Lib.Math.min.name ∈ tbl := tin 236 (by decide +kernel) rfl
theorem qm176 : Cond.code Lib.Math.min.name Lib.Math.min.code 2 (some .int) ∈ tbl := tin 237 (by decide +kernel) rfl
theorem qm746 : Cond.methodLink RX3 75 Lib.Math.min.name ∈ tbl := tin 807 (by decide +kernel) rfl
theorem qm747 : Cond.methodLink RX3 81 Lib.Math.max.name ∈ tbl := tin 808 (by decide +kernel) rfl
theorem qm748 : Cond.static Lib.Math.max.name ∈ tbl := tin 809 (by decide +kernel) rfl
theorem qm749 : Cond.code Lib.Math.max.name Lib.Math.max.code 2 (some .int) ∈ tbl := tin 810 (by decide +kernel) rfl
theorem qm811 : Cond.methodLink RX4 138 Lib.Math.min.name ∈ tbl := tin 872 (by decide +kernel) rfl
end
section
/-! THE CLASS's STATE. A shop's ints: T j i, the cell j's i-th. Cells of a shop: 0 the shop (0 drawers, 1 clerks, 2 closings), 1 amounts, 2 seals, 3 the row of clerks, 4 closers, 5 writtens, 6 sums; clerk c at q = 7 + 8 * c: q (0 steps, 1 place, 2 done, 3 lost), q+1 kinds, q+2 firsts, q+3 seconds, q+4 numbers, q+5 remembered, q+6 their seals, q+7 own. -/
abbrev TS : Type := Nat → Nat → Int
def pt (T : TS) (j i : Nat) (v : Int) : TS := fun a b => if a = j ∧ b = i then v else T a b
def arI (T : TS) (j : Nat) : Nat → Int32 := fun i => iZ (T j i)
def sc (g : GT) (a : Nat → Nat) (T : TS) (j : Nat) : va_E :=
  if j = 0 then .inr (1, [.int (iZ (T 0 0)), .ref (a 1), .ref (a 2), .int (iZ (T 0 1)), .ref (a 3), .int (iZ (T 0 2)), .ref (a 4), .ref (a 5), .ref (a 6)])
  else if j = 3 then .inl (g.2.2, 6, .inr (.inr (.inr (.inr (fun c => some (a (7 + 8 * c)))))))
  else if j < 3 then .inl (g.2.1, 8, .inl (arI T j))
  else if j < 7 then .inl (g.2.1, 10, .inl (arI T j))
  else if j % 8 = 7 then .inr (0, [.int (iZ (T j 0)), .ref (a (j + 1)), .ref (a (j + 2)), .ref (a (j + 3)), .ref (a (j + 4)), .int (iZ (T j 1)), .int (iZ (T j 2)), .int (iZ (T j 3)), .ref (a (j + 5)), .ref (a (j + 6)), .ref (a (j + 7))])
  else .inl (g.2.1, 8, .inl (arI T j))
def ix (k j : Nat) : Nat := 1 + 55 * k + j
def ups (P : Nat → TS) (k : Nat) (T : TS) : Nat → TS := fun n => if n = k then T else P n
def ce (g : GT) (ad : Nat → Nat) (P : Nat → TS) (i : Nat) : va_E := if i = 0 then .inr (2, [.ref (ad 1), .ref (ad 56)]) else sc g (fun j => ad (ix ((i - 1) / 55) j)) (P ((i - 1) / 55)) ((i - 1) % 55)
def CW (g : GT) (ad : Nat → Nat) (P : Nat → TS) : va_W := (List.range 111).map (fun i => (ad i, ce g ad P i))
def SW (g : GT) (ad : Nat → Nat) (P : Nat → TS) (k : Nat) (T : TS) : va_W := CW g ad (ups P k T)
theorem ups_self (P : Nat → TS) (k : Nat) : ups P k (P k) = P := by
  funext n
  unfold ups
  split
  · rename_i h; rw [h]
  · rfl
theorem ups_at (P : Nat → TS) (k : Nat) (T : TS) : ups P k T k = T := by unfold ups; exact if_pos rfl
theorem ups_ne (P : Nat → TS) {k k' : Nat} (h : k' ≠ k) (T : TS) : ups P k T k' = P k' := by unfold ups; exact if_neg h
theorem ups_ups (P : Nat → TS) (k : Nat) (T T' : TS) : ups (ups P k T) k T' = ups P k T' := by
  funext n
  unfold ups
  split <;> rfl
theorem SW_self (g : GT) (ad : Nat → Nat) (P : Nat → TS) (k : Nat) : SW g ad P k (P k) = CW g ad P := by unfold SW; rw [ups_self]
theorem CW_at {g : GT} {ad : Nat → Nat} {P : Nat → TS} {i : Nat} (h : i < 111) : (CW g ad P)[i]? = some (ad i, ce g ad P i) := by
  unfold CW
  rw [List.getElem?_map, List.getElem?_range h]
  rfl
theorem CW_set {g : GT} {ad : Nat → Nat} {P P' : Nat → TS} {i : Nat} (he : ∀ a, a < 111 → a ≠ i → ce g ad P' a = ce g ad P a) : (CW g ad P).set i (ad i, ce g ad P' i) = CW g ad P' := by
  apply List.ext_getElem?
  intro a
  by_cases ha : a < 111
  · rw [List.getElem?_set, CW_at ha]
    by_cases hi : i = a
    · rw [if_pos hi]
      rw [if_pos (by unfold CW; rw [List.length_map, List.length_range]; omega)]
      subst hi
      rw [CW_at ha]
    · rw [if_neg hi, CW_at ha, he a ha (fun h => hi h.symm)]
  · rw [List.getElem?_eq_none (by rw [List.length_set]; unfold CW; rw [List.length_map, List.length_range]; omega), List.getElem?_eq_none (by unfold CW; rw [List.length_map, List.length_range]; omega)]
theorem ce_ix {g : GT} {ad : Nat → Nat} {P : Nat → TS} {k j : Nat} (hj : j < 55) : ce g ad P (ix k j) = sc g (fun j => ad (ix k j)) (P k) j := by
  unfold ce
  rw [if_neg (by unfold ix; omega)]
  have h1 : (ix k j - 1) / 55 = k := by unfold ix; omega
  have h2 : (ix k j - 1) % 55 = j := by unfold ix; omega
  rw [h1, h2]
theorem sc_row {g : GT} {a : Nat → Nat} {T T' : TS} {j : Nat} (h : T' j = T j) : sc g a T' j = sc g a T j := by
  unfold sc arI
  by_cases h0 : j = 0
  · subst h0
    rw [if_pos rfl, if_pos rfl, h]
  · rw [if_neg h0, if_neg h0, h]
theorem SW_at {g : GT} {ad : Nat → Nat} {P : Nat → TS} {k j : Nat} {T : TS} (hk : k < 2) (hj : j < 55) : (SW g ad P k T)[ix k j]? = some (ad (ix k j), sc g (fun j => ad (ix k j)) T j) := by
  unfold SW
  rw [CW_at (by unfold ix; omega), ce_ix hj, ups_at]
theorem SW_at' {g : GT} {ad : Nat → Nat} {P : Nat → TS} {k k' j : Nat} {T : TS} (hk : k' < 2) (hne : k' ≠ k) (hj : j < 55) : (SW g ad P k T)[ix k' j]? = some (ad (ix k' j), sc g (fun j => ad (ix k' j)) (P k') j) := by
  unfold SW
  rw [CW_at (by unfold ix; omega), ce_ix hj, ups_ne _ hne]
theorem SW_set {g : GT} {ad : Nat → Nat} {P : Nat → TS} {k j : Nat} {T T' : TS} {e : va_E} (hj : j < 55) (he : sc g (fun j => ad (ix k j)) T' j = e) (hT : ∀ a, a ≠ j → T' a = T a) : (SW g ad P k T).set (ix k j) (ad (ix k j), e) = SW g ad P k T' := by
  unfold SW
  have h9 : e = ce g ad (ups P k T') (ix k j) := by rw [ce_ix hj, ups_at, he]
  rw [h9]
  refine CW_set (fun a ha hne => ?_)
  unfold ce
  by_cases h0 : a = 0
  · rw [if_pos h0, if_pos h0]
  · rw [if_neg h0, if_neg h0]
    by_cases hk : (a - 1) / 55 = k
    · rw [hk, ups_at, ups_at]
      refine sc_row (hT _ (fun h => hne ?_))
      unfold ix
      omega
    · rw [ups_ne _ hk, ups_ne _ hk]
theorem pt_row {T : TS} {j i : Nat} {v : Int} : ∀ a, a ≠ j → pt T j i v a = T a := by
  intro a ha
  funext b
  unfold pt
  rw [if_neg (fun h => ha h.1)]
theorem pt_at (T : TS) (j i : Nat) (v : Int) : pt T j i v j i = v := by unfold pt; exact if_pos ⟨rfl, rfl⟩
theorem pt_ne (T : TS) {j i a b : Nat} (v : Int) (h : a ≠ j ∨ b ≠ i) : pt T j i v a b = T a b := by
  unfold pt
  exact if_neg (fun h' => h.elim (fun z => z h'.1) (fun z => z h'.2))
theorem arI_pt {T : TS} {j i : Nat} {v : Int} : arI (pt T j i v) j = upd (arI T j) i (iZ v) := by
  funext b
  unfold arI upd pt
  by_cases h : b = i
  · rw [if_pos ⟨rfl, h⟩, if_pos h]
  · rw [if_neg (fun z => h z.2), if_neg h]
def isQ (q : Nat) : Prop := q % 8 = 7 ∧ q < 55
theorem isQ_c {c : Nat} (h : c < 6) : isQ (7 + 8 * c) := ⟨by omega, by omega⟩
section SWX
variable {g : GT} {ad : Nat → Nat} {P : Nat → TS} {k : Nat} {T : TS}
theorem SW_till : (SW g ad P k T)[0]? = some (ad 0, .inr (2, [.ref (ad 1), .ref (ad 56)])) := by unfold SW; rw [CW_at (by omega)]; rfl
theorem SW_shop (hk : k < 2) : (SW g ad P k T)[ix k 0]? = some (ad (ix k 0), .inr (1, [.int (iZ (T 0 0)), .ref (ad (ix k 1)), .ref (ad (ix k 2)), .int (iZ (T 0 1)), .ref (ad (ix k 3)), .int (iZ (T 0 2)), .ref (ad (ix k 4)), .ref (ad (ix k 5)), .ref (ad (ix k 6))])) := by rw [SW_at hk (by omega)]; rfl
theorem SW_refs (hk : k < 2) : (SW g ad P k T)[ix k 3]? = some (ad (ix k 3), .inl (g.2.2, 6, .inr (.inr (.inr (.inr (fun c => some (ad (ix k (7 + 8 * c))))))))) := by rw [SW_at hk (by omega)]; rfl
theorem sc_q {a : Nat → Nat} {q : Nat} (hq : isQ q) : sc g a T q = .inr (0, [.int (iZ (T q 0)), .ref (a (q + 1)), .ref (a (q + 2)), .ref (a (q + 3)), .ref (a (q + 4)), .int (iZ (T q 1)), .int (iZ (T q 2)), .int (iZ (T q 3)), .ref (a (q + 5)), .ref (a (q + 6)), .ref (a (q + 7))]) := by
  obtain ⟨h1, h2⟩ := hq
  unfold sc
  rw [if_neg (by omega), if_neg (by omega), if_neg (by omega), if_neg (by omega), if_pos h1]
theorem sc_8 {a : Nat → Nat} {j : Nat} (h : j = 1 ∨ j = 2 ∨ (7 < j ∧ j % 8 ≠ 7)) : sc g a T j = .inl (g.2.1, 8, .inl (arI T j)) := by
  unfold sc
  rw [if_neg (by omega), if_neg (by omega)]
  by_cases h3 : j < 3
  · rw [if_pos h3]
  · rw [if_neg h3, if_neg (by omega), if_neg (by omega)]
theorem sc_10 {a : Nat → Nat} {j : Nat} (h : 3 < j ∧ j < 7) : sc g a T j = .inl (g.2.1, 10, .inl (arI T j)) := by
  unfold sc
  rw [if_neg (by omega), if_neg (by omega), if_neg (by omega), if_pos h.2]
theorem SW_clk (hk : k < 2) {q : Nat} (hq : isQ q) : (SW g ad P k T)[ix k q]? = some (ad (ix k q), .inr (0, [.int (iZ (T q 0)), .ref (ad (ix k (q + 1))), .ref (ad (ix k (q + 2))), .ref (ad (ix k (q + 3))), .ref (ad (ix k (q + 4))), .int (iZ (T q 1)), .int (iZ (T q 2)), .int (iZ (T q 3)), .ref (ad (ix k (q + 5))), .ref (ad (ix k (q + 6))), .ref (ad (ix k (q + 7)))])) := by rw [SW_at hk hq.2, sc_q hq]
theorem SW_8 (hk : k < 2) {j : Nat} (h : j = 1 ∨ j = 2 ∨ (7 < j ∧ j % 8 ≠ 7)) (hj : j < 55) : (SW g ad P k T)[ix k j]? = some (ad (ix k j), .inl (g.2.1, 8, .inl (arI T j))) := by rw [SW_at hk hj, sc_8 h]
theorem SW_c8 (hk : k < 2) {q : Nat} (hq : isQ q) (j : Nat) (hj : 0 < j ∧ j < 8) : (SW g ad P k T)[ix k (q + j)]? = some (ad (ix k (q + j)), .inl (g.2.1, 8, .inl (arI T (q + j)))) := SW_8 hk (Or.inr (Or.inr ⟨by have := hq.1; omega, by have := hq.1; omega⟩)) (by have := hq.1; have := hq.2; omega)
theorem SW_10 (hk : k < 2) {j : Nat} (h : 3 < j ∧ j < 7) : (SW g ad P k T)[ix k j]? = some (ad (ix k j), .inl (g.2.1, 10, .inl (arI T j))) := by rw [SW_at hk (by omega), sc_10 h]
theorem SW_s8 {j i : Nat} {v : Int} (h : j = 1 ∨ j = 2 ∨ (7 < j ∧ j % 8 ≠ 7)) (hj : j < 55) : (SW g ad P k T).set (ix k j) (ad (ix k j), .inl (g.2.1, 8, .inl (upd (arI T j) i (iZ v)))) = SW g ad P k (pt T j i v) := SW_set hj (by rw [sc_8 h, arI_pt]) pt_row
theorem SW_sc8 {q : Nat} (hq : isQ q) (j : Nat) (hj : 0 < j ∧ j < 8) {i : Nat} {v : Int} : (SW g ad P k T).set (ix k (q + j)) (ad (ix k (q + j)), .inl (g.2.1, 8, .inl (upd (arI T (q + j)) i (iZ v)))) = SW g ad P k (pt T (q + j) i v) := SW_s8 (Or.inr (Or.inr ⟨by have := hq.1; omega, by have := hq.1; omega⟩)) (by have := hq.1; have := hq.2; omega)
theorem SW_s10 {j i : Nat} {v : Int} (h : 3 < j ∧ j < 7) : (SW g ad P k T).set (ix k j) (ad (ix k j), .inl (g.2.1, 10, .inl (upd (arI T j) i (iZ v)))) = SW g ad P k (pt T j i v) := SW_set (by omega) (by rw [sc_10 h, arI_pt]) pt_row
theorem SW_ss0 {v : Int} : (SW g ad P k T).set (ix k 0) (ad (ix k 0), .inr (1, [.int (iZ (v)), .ref (ad (ix k 1)), .ref (ad (ix k 2)), .int (iZ (T 0 1)), .ref (ad (ix k 3)), .int (iZ (T 0 2)), .ref (ad (ix k 4)), .ref (ad (ix k 5)), .ref (ad (ix k 6))])) = SW g ad P k (pt T 0 0 v) := SW_set (by omega) rfl pt_row
theorem SW_ss1 {v : Int} : (SW g ad P k T).set (ix k 0) (ad (ix k 0), .inr (1, [.int (iZ (T 0 0)), .ref (ad (ix k 1)), .ref (ad (ix k 2)), .int (iZ (v)), .ref (ad (ix k 3)), .int (iZ (T 0 2)), .ref (ad (ix k 4)), .ref (ad (ix k 5)), .ref (ad (ix k 6))])) = SW g ad P k (pt T 0 1 v) := SW_set (by omega) rfl pt_row
theorem SW_ss2 {v : Int} : (SW g ad P k T).set (ix k 0) (ad (ix k 0), .inr (1, [.int (iZ (T 0 0)), .ref (ad (ix k 1)), .ref (ad (ix k 2)), .int (iZ (T 0 1)), .ref (ad (ix k 3)), .int (iZ (v)), .ref (ad (ix k 4)), .ref (ad (ix k 5)), .ref (ad (ix k 6))])) = SW g ad P k (pt T 0 2 v) := SW_set (by omega) rfl pt_row
theorem SW_sq0 {q : Nat} (hq : isQ q) {v : Int} : (SW g ad P k T).set (ix k q) (ad (ix k q), .inr (0, [.int (iZ (v)), .ref (ad (ix k (q + 1))), .ref (ad (ix k (q + 2))), .ref (ad (ix k (q + 3))), .ref (ad (ix k (q + 4))), .int (iZ (T q 1)), .int (iZ (T q 2)), .int (iZ (T q 3)), .ref (ad (ix k (q + 5))), .ref (ad (ix k (q + 6))), .ref (ad (ix k (q + 7)))])) = SW g ad P k (pt T q 0 v) := SW_set hq.2 (by rw [sc_q hq]; simp [pt]) pt_row
theorem SW_sq1 {q : Nat} (hq : isQ q) {v : Int} : (SW g ad P k T).set (ix k q) (ad (ix k q), .inr (0, [.int (iZ (T q 0)), .ref (ad (ix k (q + 1))), .ref (ad (ix k (q + 2))), .ref (ad (ix k (q + 3))), .ref (ad (ix k (q + 4))), .int (iZ (v)), .int (iZ (T q 2)), .int (iZ (T q 3)), .ref (ad (ix k (q + 5))), .ref (ad (ix k (q + 6))), .ref (ad (ix k (q + 7)))])) = SW g ad P k (pt T q 1 v) := SW_set hq.2 (by rw [sc_q hq]; simp [pt]) pt_row
theorem SW_sq2 {q : Nat} (hq : isQ q) {v : Int} : (SW g ad P k T).set (ix k q) (ad (ix k q), .inr (0, [.int (iZ (T q 0)), .ref (ad (ix k (q + 1))), .ref (ad (ix k (q + 2))), .ref (ad (ix k (q + 3))), .ref (ad (ix k (q + 4))), .int (iZ (T q 1)), .int (iZ (v)), .int (iZ (T q 3)), .ref (ad (ix k (q + 5))), .ref (ad (ix k (q + 6))), .ref (ad (ix k (q + 7)))])) = SW g ad P k (pt T q 2 v) := SW_set hq.2 (by rw [sc_q hq]; simp [pt]) pt_row
theorem SW_sq3 {q : Nat} (hq : isQ q) {v : Int} : (SW g ad P k T).set (ix k q) (ad (ix k q), .inr (0, [.int (iZ (T q 0)), .ref (ad (ix k (q + 1))), .ref (ad (ix k (q + 2))), .ref (ad (ix k (q + 3))), .ref (ad (ix k (q + 4))), .int (iZ (T q 1)), .int (iZ (T q 2)), .int (iZ (v)), .ref (ad (ix k (q + 5))), .ref (ad (ix k (q + 6))), .ref (ad (ix k (q + 7)))])) = SW g ad P k (pt T q 3 v) := SW_set hq.2 (by rw [sc_q hq]; simp [pt]) pt_row
end SWX
def rmN (n : Nat) : Room := { frames := n, cells := 0, slots := 0, locals := 40 * n }
theorem RMn {a b maxL : Nat} (h : b < a) (hm : maxL ≤ 21) : RM (rmN a) (rmN b) maxL 0 0 := ⟨h, by show 8 + (maxL + 11) + 40 * b ≤ 40 * a; omega, Nat.le_refl 0, Nat.le_refl 0⟩
def sm : Nat → (Nat → Int) → Int
  | 0, _ => 0
  | n + 1, f => sm n f + f n
def RG (T : TS) : Prop := ∀ a b, rg (T a b)
theorem rg_pt {T : TS} (h : RG T) {j i : Nat} {v : Int} (hv : rg v) : RG (pt T j i v) := by
  intro a b
  unfold pt
  split
  · exact hv
  · exact h a b
end
section
/-! the class Clerk: what its methods do to the ints of a clerk (q) -/
/-- a slip that is empty for the drawers below d, place 0, not done -/
def soT (T : TS) (q d : Nat) : TS := fun a b => if a = q ∧ (b = 1 ∨ b = 2) then 0 else if (a = q + 5 ∨ a = q + 6 ∨ a = q + 7) ∧ b < d then -1 else T a b
def baT (T : TS) (q : Nat) : TS := soT (pt (pt T q 0 0) q 3 0) q 8
/-- the clerk q of T0's ints in T's place: the first s steps, the first d drawers -/
def bcT (T T0 : TS) (q s d : Nat) : TS := fun a b => if a = q ∧ b < 4 then T0 a b else if (a = q + 1 ∨ a = q + 2 ∨ a = q + 3 ∨ a = q + 4) ∧ b < s then T0 a b else if (a = q + 5 ∨ a = q + 6 ∨ a = q + 7) ∧ b < d then T0 a b else T a b
def asT (T : TS) (q : Nat) (kd d e b : Int) : TS := pt (pt (pt (pt (pt T (q + 1) (T q 0).toNat kd) (q + 2) (T q 0).toNat d) (q + 3) (T q 0).toNat e) (q + 4) (T q 0).toNat b) q 0 (T q 0 + 1)
def slV (T : TS) (q : Nat) (d what : Int) : Int := if what = 0 then T (q + 5) d.toNat else if what = 1 then T (q + 6) d.toNat else T (q + 7) d.toNat
def stV (T : TS) (q : Nat) (p what : Int) : Int := if what = 0 then T (q + 1) p.toNat else if what = 1 then T (q + 2) p.toNat else if what = 2 then T (q + 3) p.toNat else T (q + 4) p.toNat
noncomputable def rmF (T : TS) (q : Nat) (d : Nat) : Int := bz (T (q + 5) d ≠ -1)
noncomputable def wrF (T : TS) (q : Nat) (d : Nat) : Int := bz (T (q + 7) d ≠ -1)
theorem V_top {x : CT} {k n : Nat} {ws : va_W} {pc : Nat} {lv : List (Nat × Value)} {st : List Value} {a b : Int} (h : a = b) (kk : V x k n ws pc lv (.int (iZ b) :: st)) : V x k n ws pc lv (.int (iZ a) :: st) := by rw [h]; exact kk
theorem SW_clk' {g : GT} {ad : Nat → Nat} {P : Nat → TS} {k k' : Nat} {T : TS} (hk : k' < 2) (hne : k' ≠ k) {q : Nat} (hq : isQ q) : (SW g ad P k T)[ix k' q]? = some (ad (ix k' q), .inr (0, [.int (iZ (P k' q 0)), .ref (ad (ix k' (q + 1))), .ref (ad (ix k' (q + 2))), .ref (ad (ix k' (q + 3))), .ref (ad (ix k' (q + 4))), .int (iZ (P k' q 1)), .int (iZ (P k' q 2)), .int (iZ (P k' q 3)), .ref (ad (ix k' (q + 5))), .ref (ad (ix k' (q + 6))), .ref (ad (ix k' (q + 7)))])) := by rw [SW_at' hk hne hq.2, sc_q hq]
theorem SW_8' {g : GT} {ad : Nat → Nat} {P : Nat → TS} {k k' : Nat} {T : TS} (hk : k' < 2) (hne : k' ≠ k) {j : Nat} (h : j = 1 ∨ j = 2 ∨ (7 < j ∧ j % 8 ≠ 7)) (hj : j < 55) : (SW g ad P k T)[ix k' j]? = some (ad (ix k' j), .inl (g.2.1, 8, .inl (arI (P k') j))) := by rw [SW_at' hk hne hj, sc_8 h]
theorem SW_c8' {g : GT} {ad : Nat → Nat} {P : Nat → TS} {k k' : Nat} {T : TS} (hk : k' < 2) (hne : k' ≠ k) {q : Nat} (hq : isQ q) (j : Nat) (hj : 0 < j ∧ j < 8) : (SW g ad P k T)[ix k' (q + j)]? = some (ad (ix k' (q + j)), .inl (g.2.1, 8, .inl (arI (P k') (q + j)))) := SW_8' hk hne (Or.inr (Or.inr ⟨by have := hq.1; omega, by have := hq.1; omega⟩)) (by have := hq.1; have := hq.2; omega)
theorem SW_10' {g : GT} {ad : Nat → Nat} {P : Nat → TS} {k k' : Nat} {T : TS} (hk : k' < 2) (hne : k' ≠ k) {j : Nat} (h : 3 < j ∧ j < 7) : (SW g ad P k T)[ix k' j]? = some (ad (ix k' j), .inl (g.2.1, 10, .inl (arI (P k') j))) := by rw [SW_at' hk hne (by omega), sc_10 h]
theorem SW_refs' {g : GT} {ad : Nat → Nat} {P : Nat → TS} {k k' : Nat} {T : TS} (hk : k' < 2) (hne : k' ≠ k) : (SW g ad P k T)[ix k' 3]? = some (ad (ix k' 3), .inl (g.2.2, 6, .inr (.inr (.inr (.inr (fun c => some (ad (ix k' (7 + 8 * c))))))))) := by rw [SW_at' hk hne (by omega)]; rfl
theorem SW_shop' {g : GT} {ad : Nat → Nat} {P : Nat → TS} {k k' : Nat} {T : TS} (hk : k' < 2) (hne : k' ≠ k) : (SW g ad P k T)[ix k' 0]? = some (ad (ix k' 0), .inr (1, [.int (iZ (P k' 0 0)), .ref (ad (ix k' 1)), .ref (ad (ix k' 2)), .int (iZ (P k' 0 1)), .ref (ad (ix k' 3)), .int (iZ (P k' 0 2)), .ref (ad (ix k' 4)), .ref (ad (ix k' 5)), .ref (ad (ix k' 6))])) := by rw [SW_at' hk hne (by omega)]; rfl
set_option maxHeartbeats 4000000 in
set_option maxRecDepth 100000 in
theorem m_startOver (l : Launch) {g : GT} {ad : Nat → Nat} {P : Nat → TS} {k : Nat} (hk : k < 2) (T : TS) {q : Nat} (hq : isQ q) : MV l yX0_startOver cX0_startOver 2 (rmN 0) g [.ref (ad (ix k q))] (SW g ad P k T) (fun ws9 => ws9 = SW g ad P k (soT T q 8)) := by
  refine MV.of (own := RX0) (by decide) rfl (Nat.le_of_ble_eq_true rfl) (fun x hx hE => ?_)
  have hq7 := hq.1
  have hq8 := hq.2
  refine V_lv (lv' := [(0, .ref (ad (ix k q)))]) rfl ?_
  refine V_aload_n hx dX0_startOver_0 0 rfl ?_
  refine V_iconst hx dX0_startOver_1 ?_
  refine pf_X0_43 hx (ix k q) (SW_clk hk hq) (Nat.le_of_ble_eq_true rfl) (SW g ad P k (pt T (q) (1) (0))) (SW_sq1 hq) dX0_startOver_2 ?_
  refine V_aload_n hx dX0_startOver_5 0 rfl ?_
  refine V_iconst hx dX0_startOver_6 ?_
  refine pf_X0_46 hx rfl rfl (ix k q) (SW_clk hk hq) (Nat.le_of_ble_eq_true rfl) (SW g ad P k (pt (pt T (q) (1) (0)) (q) (2) (0))) (SW_sq2 hq) dX0_startOver_7 ?_
  refine V_iconst hx dX0_startOver_10 ?_
  refine V_istore_n hx dX0_startOver_11 [(1, .int (iZ (0))), (0, .ref (ad (ix k q)))] (by decide) rfl ?_
  have hL12 : ∀ (n : Nat) (i : Nat), 8 < i + n → i ≤ 8 → V x 0 0 (SW g ad P k (soT T q i)) 12 [(1, .int (iZ ((i : Int)))), (0, .ref (ad (ix k q)))] [] := by
    intro n
    induction n with
    | zero =>
      intro i g1 g2 
      exact absurd g1 (by omega)
    | succ n ih =>
      intro i g1 g2 
      refine V_iload_n hx dX0_startOver_12 0 rfl ?_
      refine V_bipush hx dX0_startOver_13 rfl ?_
      refine V_icmp_ge hx dX0_startOver_15 45 (by decide) ⟨by omega, by omega⟩ ⟨by decide, by decide⟩ (fun h15 => ?_) (fun h15 => ?_)
      · exact hE _ _ _ dX0_startOver_45 (by rw [show i = 8 by omega])
      · refine V_aload_n hx dX0_startOver_18 1 rfl ?_
        refine gf_X0_24 hx (ix k q) (SW_clk hk hq) rfl dX0_startOver_19 ?_
        refine V_iload_n hx dX0_startOver_22 0 rfl ?_
        refine V_iconst hx dX0_startOver_23 ?_
        refine V_iast hx (by omega) (by omega) (by decide) (ix k (q + 5)) (SW_c8 hk hq 5 (by decide)) (SW g ad P k (pt (soT T q i) (q + 5) (i) ((-1)))) (SW_sc8 hq 5 (by decide)) dX0_startOver_24 ?_
        refine V_aload_n hx dX0_startOver_25 1 rfl ?_
        refine gf_X0_27 hx (ix k q) (SW_clk hk hq) rfl dX0_startOver_26 ?_
        refine V_iload_n hx dX0_startOver_29 0 rfl ?_
        refine V_iconst hx dX0_startOver_30 ?_
        refine V_iast hx (by omega) (by omega) (by decide) (ix k (q + 6)) (SW_c8 hk hq 6 (by decide)) (SW g ad P k (pt (pt (soT T q i) (q + 5) (i) ((-1))) (q + 6) (i) ((-1)))) (SW_sc8 hq 6 (by decide)) dX0_startOver_31 ?_
        refine V_aload_n hx dX0_startOver_32 1 rfl ?_
        refine gf_X0_30 hx (ix k q) (SW_clk hk hq) rfl dX0_startOver_33 ?_
        refine V_iload_n hx dX0_startOver_36 0 rfl ?_
        refine V_iconst hx dX0_startOver_37 ?_
        refine V_iast hx (by omega) (by omega) (by decide) (ix k (q + 7)) (SW_c8 hk hq 7 (by decide)) (SW g ad P k (pt (pt (pt (soT T q i) (q + 5) (i) ((-1))) (q + 6) (i) ((-1))) (q + 7) (i) ((-1)))) (SW_sc8 hq 7 (by decide)) dX0_startOver_38 ?_
        refine V_iincN hx dX0_startOver_39 0 rfl [(1, .int (iZ (((i + 1 : Nat) : Int)))), (0, .ref (ad (ix k q)))] (by decide) rfl ?_
        refine V_goto hx dX0_startOver_42 12 (by decide) ?_
        refine V_ws (ws' := SW g ad P k (soT T q (i + 1))) (congrArg (SW g ad P k) (by funext a b; simp only [pt, soT]; (repeat' split) <;> first | rfl | omega | grind)) ?_
        exact V_sub [0, 1] rfl (ih (i + 1) (by omega) (by omega))
  refine V_ws (ws' := SW g ad P k (soT T q 0)) (congrArg (SW g ad P k) (by funext a b; simp only [pt, soT]; (repeat' split) <;> first | rfl | omega | grind)) ?_
  exact V_sub [0, 1] rfl (hL12 (8 + 1) 0 (by omega) (by omega))
set_option maxHeartbeats 4000000 in
set_option maxRecDepth 100000 in
theorem m_beginAnew (l : Launch) {g : GT} {ad : Nat → Nat} {P : Nat → TS} {k : Nat} (hk : k < 2) (T : TS) {q : Nat} (hq : isQ q) : MV l yX0_beginAnew cX0_beginAnew 1 (rmN 1) g [.ref (ad (ix k q))] (SW g ad P k T) (fun ws9 => ws9 = SW g ad P k (baT T q)) := by
  refine MV.of (own := RX0) (by decide) rfl (Nat.le_of_ble_eq_true rfl) (fun x hx hE => ?_)
  have hq7 := hq.1
  have hq8 := hq.2
  refine V_lv (lv' := [(0, .ref (ad (ix k q)))]) rfl ?_
  refine V_aload_n hx dX0_beginAnew_0 0 rfl ?_
  refine V_iconst hx dX0_beginAnew_1 ?_
  refine pf_X0_36 hx (ix k q) (SW_clk hk hq) (Nat.le_of_ble_eq_true rfl) (SW g ad P k (pt T (q) (0) (0))) (SW_sq0 hq) dX0_beginAnew_2 ?_
  refine V_aload_n hx dX0_beginAnew_5 0 rfl ?_
  refine V_iconst hx dX0_beginAnew_6 ?_
  refine pf_X0_40 hx (ix k q) (SW_clk hk hq) (Nat.le_of_ble_eq_true rfl) (SW g ad P k (pt (pt T (q) (0) (0)) (q) (3) (0))) (SW_sq3 hq) dX0_beginAnew_7 ?_
  refine V_aload_n hx dX0_beginAnew_10 0 rfl ?_
  refine V_callv hx (m_startOver l hk (pt (pt T (q) (0) (0)) (q) (3) (0)) (q := q) hq) cw_X0_33 (RMn (by decide) (by decide)) rfl (ix k q) (SW_clk hk hq) rfl rfl (Nat.le_of_ble_eq_true rfl) dX0_beginAnew_11 0 0 rfl rfl (fun ws1 e1 => ?_)
  subst e1
  exact hE _ _ _ dX0_beginAnew_14 rfl
set_option maxHeartbeats 4000000 in
set_option maxRecDepth 100000 in
theorem m_remembers (l : Launch) {g : GT} {ad : Nat → Nat} {P : Nat → TS} {k : Nat} (hk : k < 2) (T : TS) (hT : RG T) {q : Nat} (hq : isQ q) {d : Int} (hd0 : 0 ≤ d) (hd8 : d < 8) : MI l yX0_remembers cX0_remembers 2 .boolean (rmN 0) g [.ref (ad (ix k q)), .int (iZ (d))] (SW g ad P k T) (fun z ws9 => z = bz (T (q + 5) d.toNat ≠ -1) ∧ ws9 = SW g ad P k T) := by
  refine MI.of (own := RX0) (by decide) rfl (Nat.le_of_ble_eq_true rfl) (fun x hx hE => ?_)
  have hq7 := hq.1
  have hq8 := hq.2
  refine V_lv (lv' := [(0, .ref (ad (ix k q))), (1, .int (iZ (d)))]) rfl ?_
  refine V_aload_n hx dX0_remembers_0 0 rfl ?_
  refine gf_X0_24 hx (ix k q) (SW_clk hk hq) rfl dX0_remembers_1 ?_
  refine V_iload_n hx dX0_remembers_4 1 rfl ?_
  refine V_iald hx (by omega) (by omega) (by decide) (ix k (q + 5)) (SW_c8 hk hq 5 (by decide)) (v := T (q + 5) d.toNat) rfl dX0_remembers_5 ?_
  refine V_iconst hx dX0_remembers_6 ?_
  refine V_icmp_eq hx dX0_remembers_7 14 (by decide) (by first | assumption | exact hT _ _ | exact ⟨by omega, by omega⟩) ⟨by decide, by decide⟩ (fun h7 => ?_) (fun h7 => ?_)
  · refine V_iconst hx dX0_remembers_14 ?_
    exact hE _ _ _ _ dX0_remembers_15 rfl ⟨(bz_f (by first | assumption | (intro h9; omega) | omega)).symm, rfl⟩
  · refine V_iconst hx dX0_remembers_10 ?_
    refine V_goto hx dX0_remembers_11 15 (by decide) ?_
    exact hE _ _ _ _ dX0_remembers_15 rfl ⟨(bz_t (by first | assumption | omega)).symm, rfl⟩
set_option maxHeartbeats 4000000 in
set_option maxRecDepth 100000 in
theorem m_hasWritten (l : Launch) {g : GT} {ad : Nat → Nat} {P : Nat → TS} {k : Nat} (hk : k < 2) (T : TS) (hT : RG T) {q : Nat} (hq : isQ q) {d : Int} (hd0 : 0 ≤ d) (hd8 : d < 8) : MI l yX0_hasWritten cX0_hasWritten 2 .boolean (rmN 0) g [.ref (ad (ix k q)), .int (iZ (d))] (SW g ad P k T) (fun z ws9 => z = bz (T (q + 7) d.toNat ≠ -1) ∧ ws9 = SW g ad P k T) := by
  refine MI.of (own := RX0) (by decide) rfl (Nat.le_of_ble_eq_true rfl) (fun x hx hE => ?_)
  have hq7 := hq.1
  have hq8 := hq.2
  refine V_lv (lv' := [(0, .ref (ad (ix k q))), (1, .int (iZ (d)))]) rfl ?_
  refine V_aload_n hx dX0_hasWritten_0 0 rfl ?_
  refine gf_X0_30 hx (ix k q) (SW_clk hk hq) rfl dX0_hasWritten_1 ?_
  refine V_iload_n hx dX0_hasWritten_4 1 rfl ?_
  refine V_iald hx (by omega) (by omega) (by decide) (ix k (q + 7)) (SW_c8 hk hq 7 (by decide)) (v := T (q + 7) d.toNat) rfl dX0_hasWritten_5 ?_
  refine V_iconst hx dX0_hasWritten_6 ?_
  refine V_icmp_eq hx dX0_hasWritten_7 14 (by decide) (by first | assumption | exact hT _ _ | exact ⟨by omega, by omega⟩) ⟨by decide, by decide⟩ (fun h7 => ?_) (fun h7 => ?_)
  · refine V_iconst hx dX0_hasWritten_14 ?_
    exact hE _ _ _ _ dX0_hasWritten_15 rfl ⟨(bz_f (by first | assumption | (intro h9; omega) | omega)).symm, rfl⟩
  · refine V_iconst hx dX0_hasWritten_10 ?_
    refine V_goto hx dX0_hasWritten_11 15 (by decide) ?_
    exact hE _ _ _ _ dX0_hasWritten_15 rfl ⟨(bz_t (by first | assumption | omega)).symm, rfl⟩
set_option maxHeartbeats 4000000 in
set_option maxRecDepth 100000 in
theorem m_countRemembered (l : Launch) {g : GT} {ad : Nat → Nat} {P : Nat → TS} {k : Nat} (hk : k < 2) (T : TS) (hT : RG T) {q : Nat} (hq : isQ q) : MI l yX0_countRemembered cX0_countRemembered 3 .int (rmN 1) g [.ref (ad (ix k q))] (SW g ad P k T) (fun z ws9 => z = sm 8 (rmF T q) ∧ ws9 = SW g ad P k T) := by
  refine MI.of (own := RX0) (by decide) rfl (Nat.le_of_ble_eq_true rfl) (fun x hx hE => ?_)
  have hq7 := hq.1
  have hq8 := hq.2
  refine V_lv (lv' := [(0, .ref (ad (ix k q)))]) rfl ?_
  refine V_iconst hx dX0_countRemembered_0 ?_
  refine V_istore_n hx dX0_countRemembered_1 [(1, .int (iZ (0))), (0, .ref (ad (ix k q)))] (by decide) rfl ?_
  refine V_iconst hx dX0_countRemembered_2 ?_
  refine V_istore_n hx dX0_countRemembered_3 [(2, .int (iZ (0))), (1, .int (iZ (0))), (0, .ref (ad (ix k q)))] (by decide) rfl ?_
  have hL4 : ∀ (n : Nat) (i : Nat), 8 < i + n → i ≤ 8 → V x 0 0 (SW g ad P k T) 4 [(2, .int (iZ ((i : Int)))), (1, .int (iZ (sm i (rmF T q)))), (0, .ref (ad (ix k q)))] [] := by
    intro n
    induction n with
    | zero =>
      intro i g1 g2 
      exact absurd g1 (by omega)
    | succ n ih =>
      intro i g1 g2 
      refine V_iload_n hx dX0_countRemembered_4 0 rfl ?_
      refine V_bipush hx dX0_countRemembered_5 rfl ?_
      refine V_icmp_ge hx dX0_countRemembered_7 32 (by decide) ⟨by omega, by omega⟩ ⟨by decide, by decide⟩ (fun h7 => ?_) (fun h7 => ?_)
      · refine V_iload_n hx dX0_countRemembered_32 1 rfl ?_
        exact hE _ _ _ _ dX0_countRemembered_33 rfl ⟨by rw [show i = 8 by omega], rfl⟩
      · refine V_iload_n hx dX0_countRemembered_10 1 rfl ?_
        refine V_aload_n hx dX0_countRemembered_11 2 rfl ?_
        refine V_iload_n hx dX0_countRemembered_12 0 rfl ?_
        refine V_calli hx (m_remembers l hk T hT (q := q) hq (d := (i : Int)) (by omega) (by omega)) cw_X0_50 (RMn (by decide) (by decide)) rfl (ix k q) (SW_clk hk hq) rfl rfl (Nat.le_of_ble_eq_true rfl) dX0_countRemembered_13 0 0 rfl rfl (fun z1 ws1 e1 => ?_)
        obtain ⟨rfl, rfl⟩ := e1
        refine V_top (b := bz (T (q + 5) i ≠ -1)) rfl ?_
        refine V_ifb_eq hx dX0_countRemembered_16 23 (by decide) (fun h16 => ?_) (fun h16 => ?_)
        · refine V_iconst hx dX0_countRemembered_23 ?_
          refine V_iadd hx dX0_countRemembered_24 ?_
          refine V_istore_n hx dX0_countRemembered_25 [(1, .int (iZ ((sm i (rmF T q)) + 0))), (2, .int (iZ ((i : Int)))), (0, .ref (ad (ix k q)))] (by decide) rfl ?_
          refine V_iincN hx dX0_countRemembered_26 1 rfl [(2, .int (iZ (((i + 1 : Nat) : Int)))), (1, .int (iZ ((sm i (rmF T q)) + 0))), (0, .ref (ad (ix k q)))] (by decide) rfl ?_
          refine V_goto hx dX0_countRemembered_29 4 (by decide) ?_
          refine V_sub (lv' := [(2, .int (iZ (((i + 1 : Nat) : Int)))), (1, .int (iZ ((sm i (rmF T q)) + 0))), (0, .ref (ad (ix k q)))]) [0, 1, 2] rfl ?_
          refine V_lv (lv' := [(2, .int (iZ ((i + 1 : Nat) : Int))), (1, .int (iZ (sm (i + 1) (rmF T q)))), (0, .ref (ad (ix k q)))]) (by simp only [sm, rmF, bz_f h16]) ?_
          exact ih (i + 1) (by omega) (by omega)
        · refine V_iconst hx dX0_countRemembered_19 ?_
          refine V_goto hx dX0_countRemembered_20 24 (by decide) ?_
          refine V_iadd hx dX0_countRemembered_24 ?_
          refine V_istore_n hx dX0_countRemembered_25 [(1, .int (iZ ((sm i (rmF T q)) + 1))), (2, .int (iZ ((i : Int)))), (0, .ref (ad (ix k q)))] (by decide) rfl ?_
          refine V_iincN hx dX0_countRemembered_26 1 rfl [(2, .int (iZ (((i + 1 : Nat) : Int)))), (1, .int (iZ ((sm i (rmF T q)) + 1))), (0, .ref (ad (ix k q)))] (by decide) rfl ?_
          refine V_goto hx dX0_countRemembered_29 4 (by decide) ?_
          refine V_sub (lv' := [(2, .int (iZ (((i + 1 : Nat) : Int)))), (1, .int (iZ ((sm i (rmF T q)) + 1))), (0, .ref (ad (ix k q)))]) [0, 1, 2] rfl ?_
          refine V_lv (lv' := [(2, .int (iZ ((i + 1 : Nat) : Int))), (1, .int (iZ (sm (i + 1) (rmF T q)))), (0, .ref (ad (ix k q)))]) (by simp only [sm, rmF, bz_t h16]) ?_
          exact ih (i + 1) (by omega) (by omega)
  refine V_ws (ws' := SW g ad P k T) rfl ?_
  exact V_sub [0, 1, 2] rfl (hL4 (8 + 1) 0 (by omega) (by omega))
set_option maxHeartbeats 4000000 in
set_option maxRecDepth 100000 in
theorem m_countWritten (l : Launch) {g : GT} {ad : Nat → Nat} {P : Nat → TS} {k : Nat} (hk : k < 2) (T : TS) (hT : RG T) {q : Nat} (hq : isQ q) : MI l yX0_countWritten cX0_countWritten 3 .int (rmN 1) g [.ref (ad (ix k q))] (SW g ad P k T) (fun z ws9 => z = sm 8 (wrF T q) ∧ ws9 = SW g ad P k T) := by
  refine MI.of (own := RX0) (by decide) rfl (Nat.le_of_ble_eq_true rfl) (fun x hx hE => ?_)
  have hq7 := hq.1
  have hq8 := hq.2
  refine V_lv (lv' := [(0, .ref (ad (ix k q)))]) rfl ?_
  refine V_iconst hx dX0_countWritten_0 ?_
  refine V_istore_n hx dX0_countWritten_1 [(1, .int (iZ (0))), (0, .ref (ad (ix k q)))] (by decide) rfl ?_
  refine V_iconst hx dX0_countWritten_2 ?_
  refine V_istore_n hx dX0_countWritten_3 [(2, .int (iZ (0))), (1, .int (iZ (0))), (0, .ref (ad (ix k q)))] (by decide) rfl ?_
  have hL4 : ∀ (n : Nat) (i : Nat), 8 < i + n → i ≤ 8 → V x 0 0 (SW g ad P k T) 4 [(2, .int (iZ ((i : Int)))), (1, .int (iZ (sm i (wrF T q)))), (0, .ref (ad (ix k q)))] [] := by
    intro n
    induction n with
    | zero =>
      intro i g1 g2 
      exact absurd g1 (by omega)
    | succ n ih =>
      intro i g1 g2 
      refine V_iload_n hx dX0_countWritten_4 0 rfl ?_
      refine V_bipush hx dX0_countWritten_5 rfl ?_
      refine V_icmp_ge hx dX0_countWritten_7 32 (by decide) ⟨by omega, by omega⟩ ⟨by decide, by decide⟩ (fun h7 => ?_) (fun h7 => ?_)
      · refine V_iload_n hx dX0_countWritten_32 1 rfl ?_
        exact hE _ _ _ _ dX0_countWritten_33 rfl ⟨by rw [show i = 8 by omega], rfl⟩
      · refine V_iload_n hx dX0_countWritten_10 1 rfl ?_
        refine V_aload_n hx dX0_countWritten_11 2 rfl ?_
        refine V_iload_n hx dX0_countWritten_12 0 rfl ?_
        refine V_calli hx (m_hasWritten l hk T hT (q := q) hq (d := (i : Int)) (by omega) (by omega)) cw_X0_54 (RMn (by decide) (by decide)) rfl (ix k q) (SW_clk hk hq) rfl rfl (Nat.le_of_ble_eq_true rfl) dX0_countWritten_13 0 0 rfl rfl (fun z1 ws1 e1 => ?_)
        obtain ⟨rfl, rfl⟩ := e1
        refine V_top (b := bz (T (q + 7) i ≠ -1)) rfl ?_
        refine V_ifb_eq hx dX0_countWritten_16 23 (by decide) (fun h16 => ?_) (fun h16 => ?_)
        · refine V_iconst hx dX0_countWritten_23 ?_
          refine V_iadd hx dX0_countWritten_24 ?_
          refine V_istore_n hx dX0_countWritten_25 [(1, .int (iZ ((sm i (wrF T q)) + 0))), (2, .int (iZ ((i : Int)))), (0, .ref (ad (ix k q)))] (by decide) rfl ?_
          refine V_iincN hx dX0_countWritten_26 1 rfl [(2, .int (iZ (((i + 1 : Nat) : Int)))), (1, .int (iZ ((sm i (wrF T q)) + 0))), (0, .ref (ad (ix k q)))] (by decide) rfl ?_
          refine V_goto hx dX0_countWritten_29 4 (by decide) ?_
          refine V_sub (lv' := [(2, .int (iZ (((i + 1 : Nat) : Int)))), (1, .int (iZ ((sm i (wrF T q)) + 0))), (0, .ref (ad (ix k q)))]) [0, 1, 2] rfl ?_
          refine V_lv (lv' := [(2, .int (iZ ((i + 1 : Nat) : Int))), (1, .int (iZ (sm (i + 1) (wrF T q)))), (0, .ref (ad (ix k q)))]) (by simp only [sm, wrF, bz_f h16]) ?_
          exact ih (i + 1) (by omega) (by omega)
        · refine V_iconst hx dX0_countWritten_19 ?_
          refine V_goto hx dX0_countWritten_20 24 (by decide) ?_
          refine V_iadd hx dX0_countWritten_24 ?_
          refine V_istore_n hx dX0_countWritten_25 [(1, .int (iZ ((sm i (wrF T q)) + 1))), (2, .int (iZ ((i : Int)))), (0, .ref (ad (ix k q)))] (by decide) rfl ?_
          refine V_iincN hx dX0_countWritten_26 1 rfl [(2, .int (iZ (((i + 1 : Nat) : Int)))), (1, .int (iZ ((sm i (wrF T q)) + 1))), (0, .ref (ad (ix k q)))] (by decide) rfl ?_
          refine V_goto hx dX0_countWritten_29 4 (by decide) ?_
          refine V_sub (lv' := [(2, .int (iZ (((i + 1 : Nat) : Int)))), (1, .int (iZ ((sm i (wrF T q)) + 1))), (0, .ref (ad (ix k q)))]) [0, 1, 2] rfl ?_
          refine V_lv (lv' := [(2, .int (iZ ((i + 1 : Nat) : Int))), (1, .int (iZ (sm (i + 1) (wrF T q)))), (0, .ref (ad (ix k q)))]) (by simp only [sm, wrF, bz_t h16]) ?_
          exact ih (i + 1) (by omega) (by omega)
  refine V_ws (ws' := SW g ad P k T) rfl ?_
  exact V_sub [0, 1, 2] rfl (hL4 (8 + 1) 0 (by omega) (by omega))
set_option maxHeartbeats 4000000 in
set_option maxRecDepth 100000 in
theorem m_isAtWork (l : Launch) {g : GT} {ad : Nat → Nat} {P : Nat → TS} {k : Nat} (hk : k < 2) (T : TS) (hT : RG T) {q : Nat} (hq : isQ q) : MI l yX0_isAtWork cX0_isAtWork 1 .boolean (rmN 0) g [.ref (ad (ix k q))] (SW g ad P k T) (fun z ws9 => z = bz (T q 2 = 0 ∧ 0 < T q 0) ∧ ws9 = SW g ad P k T) := by
  refine MI.of (own := RX0) (by decide) rfl (Nat.le_of_ble_eq_true rfl) (fun x hx hE => ?_)
  have hq7 := hq.1
  have hq8 := hq.2
  refine V_lv (lv' := [(0, .ref (ad (ix k q)))]) rfl ?_
  refine V_aload_n hx dX0_isAtWork_0 0 rfl ?_
  refine gf_X0_46 hx (ix k q) (SW_clk hk hq) rfl dX0_isAtWork_1 ?_
  refine V_if_ne hx dX0_isAtWork_4 18 (by decide) (by first | assumption | exact hT _ _ | exact ⟨by omega, by omega⟩) (fun h4 => ?_) (fun h4 => ?_)
  · refine V_iconst hx dX0_isAtWork_18 ?_
    exact hE _ _ _ _ dX0_isAtWork_19 rfl ⟨(bz_f (by first | assumption | (intro h9; omega) | omega)).symm, rfl⟩
  · refine V_aload_n hx dX0_isAtWork_7 0 rfl ?_
    refine gf_X0_36 hx (ix k q) (SW_clk hk hq) rfl dX0_isAtWork_8 ?_
    refine V_if_le hx dX0_isAtWork_11 18 (by decide) (by first | assumption | exact hT _ _ | exact ⟨by omega, by omega⟩) (fun h11 => ?_) (fun h11 => ?_)
    · refine V_iconst hx dX0_isAtWork_18 ?_
      exact hE _ _ _ _ dX0_isAtWork_19 rfl ⟨(bz_f (by first | assumption | (intro h9; omega) | omega)).symm, rfl⟩
    · refine V_iconst hx dX0_isAtWork_14 ?_
      refine V_goto hx dX0_isAtWork_15 19 (by decide) ?_
      exact hE _ _ _ _ dX0_isAtWork_19 rfl ⟨(bz_t (by first | assumption | omega)).symm, rfl⟩
set_option maxHeartbeats 4000000 in
set_option maxRecDepth 100000 in
theorem m_slipFact (l : Launch) {g : GT} {ad : Nat → Nat} {P : Nat → TS} {k : Nat} (hk : k < 2) (T : TS) (hT : RG T) {q : Nat} (hq : isQ q) {d : Int} (hd0 : 0 ≤ d) (hd8 : d < 8) {what : Int} (hw0 : 0 ≤ what) (hw9 : what < 2147483648) : MI l yX0_slipFact cX0_slipFact 3 .int (rmN 0) g [.ref (ad (ix k q)), .int (iZ (d)), .int (iZ (what))] (SW g ad P k T) (fun z ws9 => z = slV T q d what ∧ ws9 = SW g ad P k T) := by
  refine MI.of (own := RX0) (by decide) rfl (Nat.le_of_ble_eq_true rfl) (fun x hx hE => ?_)
  have hq7 := hq.1
  have hq8 := hq.2
  refine V_lv (lv' := [(0, .ref (ad (ix k q))), (1, .int (iZ (d))), (2, .int (iZ (what)))]) rfl ?_
  refine V_iload_n hx dX0_slipFact_0 2 rfl ?_
  by_cases h1_0 : what = 0
  · refine V_lookup hx dX0_slipFact_1 rfl (by first | assumption | exact hT _ _ | exact ⟨by omega, by omega⟩) (off := 27) (by rw [h1_0]; rfl) 28 (by decide) ?_
    refine V_aload_n hx dX0_slipFact_28 0 rfl ?_
    refine gf_X0_24 hx (ix k q) (SW_clk hk hq) rfl dX0_slipFact_29 ?_
    refine V_iload_n hx dX0_slipFact_32 1 rfl ?_
    refine V_iald hx (by omega) (by omega) (by decide) (ix k (q + 5)) (SW_c8 hk hq 5 (by decide)) (v := T (q + 5) d.toNat) rfl dX0_slipFact_33 ?_
    exact hE _ _ _ _ dX0_slipFact_34 rfl ⟨by unfold slV; simp [*], rfl⟩
  by_cases h1_1 : what = 1
  · refine V_lookup hx dX0_slipFact_1 rfl (by first | assumption | exact hT _ _ | exact ⟨by omega, by omega⟩) (off := 34) (by rw [h1_1]; rfl) 35 (by decide) ?_
    refine V_aload_n hx dX0_slipFact_35 0 rfl ?_
    refine gf_X0_27 hx (ix k q) (SW_clk hk hq) rfl dX0_slipFact_36 ?_
    refine V_iload_n hx dX0_slipFact_39 1 rfl ?_
    refine V_iald hx (by omega) (by omega) (by decide) (ix k (q + 6)) (SW_c8 hk hq 6 (by decide)) (v := T (q + 6) d.toNat) rfl dX0_slipFact_40 ?_
    exact hE _ _ _ _ dX0_slipFact_41 rfl ⟨by unfold slV; simp [*], rfl⟩
  refine V_lookup hx dX0_slipFact_1 rfl (by first | assumption | exact hT _ _ | exact ⟨by omega, by omega⟩) (off := 41) (by simp [Op.lookupswitch.offset, Ne.symm h1_0, Ne.symm h1_1]) 42 (by decide) ?_
  refine V_aload_n hx dX0_slipFact_42 0 rfl ?_
  refine gf_X0_30 hx (ix k q) (SW_clk hk hq) rfl dX0_slipFact_43 ?_
  refine V_iload_n hx dX0_slipFact_46 1 rfl ?_
  refine V_iald hx (by omega) (by omega) (by decide) (ix k (q + 7)) (SW_c8 hk hq 7 (by decide)) (v := T (q + 7) d.toNat) rfl dX0_slipFact_47 ?_
  exact hE _ _ _ _ dX0_slipFact_48 rfl ⟨by unfold slV; simp [*], rfl⟩
set_option maxHeartbeats 4000000 in
set_option maxRecDepth 100000 in
theorem m_stepFact (l : Launch) {g : GT} {ad : Nat → Nat} {P : Nat → TS} {k : Nat} (hk : k < 2) (T : TS) (hT : RG T) {q : Nat} (hq : isQ q) {d : Int} (hd0 : 0 ≤ d) (hd8 : d < 8) {what : Int} (hw0 : 0 ≤ what) (hw9 : what < 2147483648) : MI l yX0_stepFact cX0_stepFact 3 .int (rmN 0) g [.ref (ad (ix k q)), .int (iZ (d)), .int (iZ (what))] (SW g ad P k T) (fun z ws9 => z = stV T q d what ∧ ws9 = SW g ad P k T) := by
  refine MI.of (own := RX0) (by decide) rfl (Nat.le_of_ble_eq_true rfl) (fun x hx hE => ?_)
  have hq7 := hq.1
  have hq8 := hq.2
  refine V_lv (lv' := [(0, .ref (ad (ix k q))), (1, .int (iZ (d))), (2, .int (iZ (what)))]) rfl ?_
  refine V_iload_n hx dX0_stepFact_0 2 rfl ?_
  by_cases h1_0 : what = 0
  · refine V_tabIn hx dX0_stepFact_1 (by first | assumption | exact hT _ _ | exact ⟨by omega, by omega⟩) (by omega) (by omega) (off := 27) (by rw [h1_0]; rfl) 28 (by decide) ?_
    refine V_aload_n hx dX0_stepFact_28 0 rfl ?_
    refine gf_X0_9 hx (ix k q) (SW_clk hk hq) rfl dX0_stepFact_29 ?_
    refine V_iload_n hx dX0_stepFact_32 1 rfl ?_
    refine V_iald hx (by omega) (by omega) (by decide) (ix k (q + 1)) (SW_c8 hk hq 1 (by decide)) (v := T (q + 1) d.toNat) rfl dX0_stepFact_33 ?_
    exact hE _ _ _ _ dX0_stepFact_34 rfl ⟨by unfold stV; simp [*], rfl⟩
  by_cases h1_1 : what = 1
  · refine V_tabIn hx dX0_stepFact_1 (by first | assumption | exact hT _ _ | exact ⟨by omega, by omega⟩) (by omega) (by omega) (off := 34) (by rw [h1_1]; rfl) 35 (by decide) ?_
    refine V_aload_n hx dX0_stepFact_35 0 rfl ?_
    refine gf_X0_15 hx (ix k q) (SW_clk hk hq) rfl dX0_stepFact_36 ?_
    refine V_iload_n hx dX0_stepFact_39 1 rfl ?_
    refine V_iald hx (by omega) (by omega) (by decide) (ix k (q + 2)) (SW_c8 hk hq 2 (by decide)) (v := T (q + 2) d.toNat) rfl dX0_stepFact_40 ?_
    exact hE _ _ _ _ dX0_stepFact_41 rfl ⟨by unfold stV; simp [*], rfl⟩
  by_cases h1_2 : what = 2
  · refine V_tabIn hx dX0_stepFact_1 (by first | assumption | exact hT _ _ | exact ⟨by omega, by omega⟩) (by omega) (by omega) (off := 41) (by rw [h1_2]; rfl) 42 (by decide) ?_
    refine V_aload_n hx dX0_stepFact_42 0 rfl ?_
    refine gf_X0_18 hx (ix k q) (SW_clk hk hq) rfl dX0_stepFact_43 ?_
    refine V_iload_n hx dX0_stepFact_46 1 rfl ?_
    refine V_iald hx (by omega) (by omega) (by decide) (ix k (q + 3)) (SW_c8 hk hq 3 (by decide)) (v := T (q + 3) d.toNat) rfl dX0_stepFact_47 ?_
    exact hE _ _ _ _ dX0_stepFact_48 rfl ⟨by unfold stV; simp [*], rfl⟩
  refine V_tabOut hx dX0_stepFact_1 (by first | assumption | exact hT _ _ | exact ⟨by omega, by omega⟩) (by omega) 49 (by decide) ?_
  refine V_aload_n hx dX0_stepFact_49 0 rfl ?_
  refine gf_X0_21 hx (ix k q) (SW_clk hk hq) rfl dX0_stepFact_50 ?_
  refine V_iload_n hx dX0_stepFact_53 1 rfl ?_
  refine V_iald hx (by omega) (by omega) (by decide) (ix k (q + 4)) (SW_c8 hk hq 4 (by decide)) (v := T (q + 4) d.toNat) rfl dX0_stepFact_54 ?_
  exact hE _ _ _ _ dX0_stepFact_55 rfl ⟨by unfold stV; simp [*], rfl⟩
set_option maxHeartbeats 4000000 in
set_option maxRecDepth 100000 in
theorem m_addStep (l : Launch) {g : GT} {ad : Nat → Nat} {P : Nat → TS} {k : Nat} (hk : k < 2) (T : TS) (hT : RG T) {q : Nat} (hq : isQ q) {kd d e b : Int} (h0 : 0 ≤ T q 0) (h8 : T q 0 < 8) : MV l yX0_addStep cX0_addStep 5 (rmN 0) g [.ref (ad (ix k q)), .int (iZ (kd)), .int (iZ (d)), .int (iZ (e)), .int (iZ (b))] (SW g ad P k T) (fun ws9 => ws9 = SW g ad P k (asT T q kd d e b)) := by
  refine MV.of (own := RX0) (by decide) rfl (Nat.le_of_ble_eq_true rfl) (fun x hx hE => ?_)
  have hq7 := hq.1
  have hq8 := hq.2
  refine V_lv (lv' := [(0, .ref (ad (ix k q))), (1, .int (iZ (kd))), (2, .int (iZ (d))), (3, .int (iZ (e))), (4, .int (iZ (b)))]) rfl ?_
  refine V_aload_n hx dX0_addStep_0 0 rfl ?_
  refine gf_X0_36 hx (ix k q) (SW_clk hk hq) rfl dX0_addStep_1 ?_
  refine V_bipush hx dX0_addStep_4 rfl ?_
  refine V_icmp_lt hx dX0_addStep_6 10 (by decide) (by first | assumption | exact hT _ _ | exact ⟨by omega, by omega⟩) ⟨by decide, by decide⟩ (fun h6 => ?_) (fun h6 => ?_)
  · refine V_aload_n hx dX0_addStep_10 0 rfl ?_
    refine gf_X0_9 hx (ix k q) (SW_clk hk hq) rfl dX0_addStep_11 ?_
    refine V_aload_n hx dX0_addStep_14 0 rfl ?_
    refine gf_X0_36 hx (ix k q) (SW_clk hk hq) rfl dX0_addStep_15 ?_
    refine V_iload_n hx dX0_addStep_18 1 rfl ?_
    refine V_iast hx (by omega) (by omega) (by decide) (ix k (q + 1)) (SW_c8 hk hq 1 (by decide)) (SW g ad P k (pt T (q + 1) ((T q 0).toNat) (kd))) (SW_sc8 hq 1 (by decide)) dX0_addStep_19 ?_
    refine V_aload_n hx dX0_addStep_20 0 rfl ?_
    refine gf_X0_15 hx (ix k q) (SW_clk hk hq) rfl dX0_addStep_21 ?_
    refine V_aload_n hx dX0_addStep_24 0 rfl ?_
    refine gf_X0_36 hx (ix k q) (SW_clk hk hq) rfl dX0_addStep_25 ?_
    refine V_top (b := T q 0) (by rw [pt_ne _ _ (Or.inl (by omega))]) ?_
    refine V_iload_n hx dX0_addStep_28 2 rfl ?_
    refine V_iast hx (by omega) (by omega) (by decide) (ix k (q + 2)) (SW_c8 hk hq 2 (by decide)) (SW g ad P k (pt (pt T (q + 1) ((T q 0).toNat) (kd)) (q + 2) ((T q 0).toNat) (d))) (SW_sc8 hq 2 (by decide)) dX0_addStep_29 ?_
    refine V_aload_n hx dX0_addStep_30 0 rfl ?_
    refine gf_X0_18 hx (ix k q) (SW_clk hk hq) rfl dX0_addStep_31 ?_
    refine V_aload_n hx dX0_addStep_34 0 rfl ?_
    refine gf_X0_36 hx (ix k q) (SW_clk hk hq) rfl dX0_addStep_35 ?_
    refine V_top (b := T q 0) (by rw [pt_ne _ _ (Or.inl (by omega)), pt_ne _ _ (Or.inl (by omega))]) ?_
    refine V_iload_n hx dX0_addStep_38 3 rfl ?_
    refine V_iast hx (by omega) (by omega) (by decide) (ix k (q + 3)) (SW_c8 hk hq 3 (by decide)) (SW g ad P k (pt (pt (pt T (q + 1) ((T q 0).toNat) (kd)) (q + 2) ((T q 0).toNat) (d)) (q + 3) ((T q 0).toNat) (e))) (SW_sc8 hq 3 (by decide)) dX0_addStep_39 ?_
    refine V_aload_n hx dX0_addStep_40 0 rfl ?_
    refine gf_X0_21 hx (ix k q) (SW_clk hk hq) rfl dX0_addStep_41 ?_
    refine V_aload_n hx dX0_addStep_44 0 rfl ?_
    refine gf_X0_36 hx (ix k q) (SW_clk hk hq) rfl dX0_addStep_45 ?_
    refine V_top (b := T q 0) (by rw [pt_ne _ _ (Or.inl (by omega)), pt_ne _ _ (Or.inl (by omega)), pt_ne _ _ (Or.inl (by omega))]) ?_
    refine V_iload hx dX0_addStep_48 4 rfl ?_
    refine V_iast hx (by omega) (by omega) (by decide) (ix k (q + 4)) (SW_c8 hk hq 4 (by decide)) (SW g ad P k (pt (pt (pt (pt T (q + 1) ((T q 0).toNat) (kd)) (q + 2) ((T q 0).toNat) (d)) (q + 3) ((T q 0).toNat) (e)) (q + 4) ((T q 0).toNat) (b))) (SW_sc8 hq 4 (by decide)) dX0_addStep_50 ?_
    refine V_aload_n hx dX0_addStep_51 0 rfl ?_
    refine V_dup hx dX0_addStep_52 rfl ?_
    refine gf_X0_36 hx (ix k q) (SW_clk hk hq) rfl dX0_addStep_53 ?_
    refine V_top (b := T q 0) (by rw [pt_ne _ _ (Or.inl (by omega)), pt_ne _ _ (Or.inl (by omega)), pt_ne _ _ (Or.inl (by omega)), pt_ne _ _ (Or.inl (by omega))]) ?_
    refine V_iconst hx dX0_addStep_56 ?_
    refine V_iadd hx dX0_addStep_57 ?_
    refine pf_X0_36 hx (ix k q) (SW_clk hk hq) (Nat.le_of_ble_eq_true rfl) (SW g ad P k (pt (pt (pt (pt (pt T (q + 1) ((T q 0).toNat) (kd)) (q + 2) ((T q 0).toNat) (d)) (q + 3) ((T q 0).toNat) (e)) (q + 4) ((T q 0).toNat) (b)) (q) (0) ((T q 0) + 1))) (SW_sq0 hq) dX0_addStep_58 ?_
    exact hE _ _ _ dX0_addStep_61 rfl
  · exact hE _ _ _ dX0_addStep_9 (absurd h8 h6)
set_option maxHeartbeats 4000000 in
set_option maxRecDepth 100000 in
theorem m_become (l : Launch) {g : GT} {ad : Nat → Nat} {P : Nat → TS} {k k' : Nat} (hk : k < 2) (hk' : k' < 2) (hne : k' ≠ k) (T : TS) {q : Nat} (hq : isQ q) (hdn : P k' q 2 = 0 ∨ P k' q 2 = 1) : MV l yX0_become cX0_become 3 (rmN 0) g [.ref (ad (ix k q)), .ref (ad (ix k' q))] (SW g ad P k T) (fun ws9 => ws9 = SW g ad P k (bcT T (P k') q 8 8)) := by
  refine MV.of (own := RX0) (by decide) rfl (Nat.le_of_ble_eq_true rfl) (fun x hx hE => ?_)
  have hq7 := hq.1
  have hq8 := hq.2
  refine V_lv (lv' := [(0, .ref (ad (ix k q))), (1, .ref (ad (ix k' q)))]) rfl ?_
  refine V_aload_n hx dX0_become_0 0 rfl ?_
  refine V_aload_n hx dX0_become_1 1 rfl ?_
  refine gf_X0_36 hx (ix k' q) (SW_clk' hk' hne hq) rfl dX0_become_2 ?_
  refine pf_X0_36 hx (ix k q) (SW_clk hk hq) (Nat.le_of_ble_eq_true rfl) (SW g ad P k (pt T (q) (0) (P k' q 0))) (SW_sq0 hq) dX0_become_5 ?_
  refine V_aload_n hx dX0_become_8 0 rfl ?_
  refine V_aload_n hx dX0_become_9 1 rfl ?_
  refine gf_X0_43 hx (ix k' q) (SW_clk' hk' hne hq) rfl dX0_become_10 ?_
  refine pf_X0_43 hx (ix k q) (SW_clk hk hq) (Nat.le_of_ble_eq_true rfl) (SW g ad P k (pt (pt T (q) (0) (P k' q 0)) (q) (1) (P k' q 1))) (SW_sq1 hq) dX0_become_13 ?_
  refine V_aload_n hx dX0_become_16 0 rfl ?_
  refine V_aload_n hx dX0_become_17 1 rfl ?_
  refine gf_X0_46 hx (ix k' q) (SW_clk' hk' hne hq) rfl dX0_become_18 ?_
  refine pf_X0_46 hx (by rcases hdn with h | h <;> rw [h] <;> rfl) (by rcases hdn with h | h <;> rw [h] <;> rfl) (ix k q) (SW_clk hk hq) (Nat.le_of_ble_eq_true rfl) (SW g ad P k (pt (pt (pt T (q) (0) (P k' q 0)) (q) (1) (P k' q 1)) (q) (2) (P k' q 2))) (SW_sq2 hq) dX0_become_21 ?_
  refine V_aload_n hx dX0_become_24 0 rfl ?_
  refine V_aload_n hx dX0_become_25 1 rfl ?_
  refine gf_X0_40 hx (ix k' q) (SW_clk' hk' hne hq) rfl dX0_become_26 ?_
  refine pf_X0_40 hx (ix k q) (SW_clk hk hq) (Nat.le_of_ble_eq_true rfl) (SW g ad P k (pt (pt (pt (pt T (q) (0) (P k' q 0)) (q) (1) (P k' q 1)) (q) (2) (P k' q 2)) (q) (3) (P k' q 3))) (SW_sq3 hq) dX0_become_29 ?_
  refine V_iconst hx dX0_become_32 ?_
  refine V_istore_n hx dX0_become_33 [(2, .int (iZ (0))), (0, .ref (ad (ix k q))), (1, .ref (ad (ix k' q)))] (by decide) rfl ?_
  have hL34 : ∀ (n : Nat) (i : Nat), 8 < i + n → i ≤ 8 → V x 0 0 (SW g ad P k (bcT T (P k') q i 0)) 34 [(2, .int (iZ ((i : Int)))), (0, .ref (ad (ix k q))), (1, .ref (ad (ix k' q)))] [] := by
    intro n
    induction n with
    | zero =>
      intro i g1 g2 
      exact absurd g1 (by omega)
    | succ n ih =>
      intro i g1 g2 
      refine V_iload_n hx dX0_become_34 0 rfl ?_
      refine V_bipush hx dX0_become_35 rfl ?_
      refine V_icmp_ge hx dX0_become_37 94 (by decide) ⟨by omega, by omega⟩ ⟨by decide, by decide⟩ (fun h37 => ?_) (fun h37 => ?_)
      · refine V_iconst hx dX0_become_94 ?_
        refine V_istore_n hx dX0_become_95 [(2, .int (iZ (0))), (0, .ref (ad (ix k q))), (1, .ref (ad (ix k' q)))] (by decide) rfl ?_
        have hL96 : ∀ (n : Nat) (i : Nat), 8 < i + n → i ≤ 8 → V x 0 0 (SW g ad P k (bcT T (P k') q 8 i)) 96 [(2, .int (iZ ((i : Int)))), (0, .ref (ad (ix k q))), (1, .ref (ad (ix k' q)))] [] := by
          intro n
          induction n with
          | zero =>
            intro i g1 g2 
            exact absurd g1 (by omega)
          | succ n ih =>
            intro i g1 g2 
            refine V_iload_n hx dX0_become_96 0 rfl ?_
            refine V_bipush hx dX0_become_97 rfl ?_
            refine V_icmp_ge hx dX0_become_99 144 (by decide) ⟨by omega, by omega⟩ ⟨by decide, by decide⟩ (fun h99 => ?_) (fun h99 => ?_)
            · exact hE _ _ _ dX0_become_144 (by rw [show i = 8 by omega])
            · refine V_aload_n hx dX0_become_102 1 rfl ?_
              refine gf_X0_24 hx (ix k q) (SW_clk hk hq) rfl dX0_become_103 ?_
              refine V_iload_n hx dX0_become_106 0 rfl ?_
              refine V_aload_n hx dX0_become_107 2 rfl ?_
              refine gf_X0_24 hx (ix k' q) (SW_clk' hk' hne hq) rfl dX0_become_108 ?_
              refine V_iload_n hx dX0_become_111 0 rfl ?_
              refine V_iald hx (by omega) (by omega) (by decide) (ix k' (q + 5)) (SW_c8' hk' hne hq 5 (by decide)) (v := P k' (q + 5) i) rfl dX0_become_112 ?_
              refine V_iast hx (by omega) (by omega) (by decide) (ix k (q + 5)) (SW_c8 hk hq 5 (by decide)) (SW g ad P k (pt (bcT T (P k') q 8 i) (q + 5) (i) (P k' (q + 5) i))) (SW_sc8 hq 5 (by decide)) dX0_become_113 ?_
              refine V_aload_n hx dX0_become_114 1 rfl ?_
              refine gf_X0_27 hx (ix k q) (SW_clk hk hq) rfl dX0_become_115 ?_
              refine V_iload_n hx dX0_become_118 0 rfl ?_
              refine V_aload_n hx dX0_become_119 2 rfl ?_
              refine gf_X0_27 hx (ix k' q) (SW_clk' hk' hne hq) rfl dX0_become_120 ?_
              refine V_iload_n hx dX0_become_123 0 rfl ?_
              refine V_iald hx (by omega) (by omega) (by decide) (ix k' (q + 6)) (SW_c8' hk' hne hq 6 (by decide)) (v := P k' (q + 6) i) rfl dX0_become_124 ?_
              refine V_iast hx (by omega) (by omega) (by decide) (ix k (q + 6)) (SW_c8 hk hq 6 (by decide)) (SW g ad P k (pt (pt (bcT T (P k') q 8 i) (q + 5) (i) (P k' (q + 5) i)) (q + 6) (i) (P k' (q + 6) i))) (SW_sc8 hq 6 (by decide)) dX0_become_125 ?_
              refine V_aload_n hx dX0_become_126 1 rfl ?_
              refine gf_X0_30 hx (ix k q) (SW_clk hk hq) rfl dX0_become_127 ?_
              refine V_iload_n hx dX0_become_130 0 rfl ?_
              refine V_aload_n hx dX0_become_131 2 rfl ?_
              refine gf_X0_30 hx (ix k' q) (SW_clk' hk' hne hq) rfl dX0_become_132 ?_
              refine V_iload_n hx dX0_become_135 0 rfl ?_
              refine V_iald hx (by omega) (by omega) (by decide) (ix k' (q + 7)) (SW_c8' hk' hne hq 7 (by decide)) (v := P k' (q + 7) i) rfl dX0_become_136 ?_
              refine V_iast hx (by omega) (by omega) (by decide) (ix k (q + 7)) (SW_c8 hk hq 7 (by decide)) (SW g ad P k (pt (pt (pt (bcT T (P k') q 8 i) (q + 5) (i) (P k' (q + 5) i)) (q + 6) (i) (P k' (q + 6) i)) (q + 7) (i) (P k' (q + 7) i))) (SW_sc8 hq 7 (by decide)) dX0_become_137 ?_
              refine V_iincN hx dX0_become_138 0 rfl [(2, .int (iZ (((i + 1 : Nat) : Int)))), (0, .ref (ad (ix k q))), (1, .ref (ad (ix k' q)))] (by decide) rfl ?_
              refine V_goto hx dX0_become_141 96 (by decide) ?_
              refine V_ws (ws' := SW g ad P k (bcT T (P k') q 8 (i + 1))) (congrArg (SW g ad P k) (by funext a b; simp only [pt, bcT]; (repeat' split) <;> first | rfl | omega | grind)) ?_
              exact V_sub [0, 1, 2] rfl (ih (i + 1) (by omega) (by omega))
        refine V_ws (ws' := SW g ad P k (bcT T (P k') q 8 0)) (by rw [show i = 8 by omega]) ?_
        exact V_sub [0, 1, 2] rfl (hL96 (8 + 1) 0 (by omega) (by omega))
      · refine V_aload_n hx dX0_become_40 1 rfl ?_
        refine gf_X0_9 hx (ix k q) (SW_clk hk hq) rfl dX0_become_41 ?_
        refine V_iload_n hx dX0_become_44 0 rfl ?_
        refine V_aload_n hx dX0_become_45 2 rfl ?_
        refine gf_X0_9 hx (ix k' q) (SW_clk' hk' hne hq) rfl dX0_become_46 ?_
        refine V_iload_n hx dX0_become_49 0 rfl ?_
        refine V_iald hx (by omega) (by omega) (by decide) (ix k' (q + 1)) (SW_c8' hk' hne hq 1 (by decide)) (v := P k' (q + 1) i) rfl dX0_become_50 ?_
        refine V_iast hx (by omega) (by omega) (by decide) (ix k (q + 1)) (SW_c8 hk hq 1 (by decide)) (SW g ad P k (pt (bcT T (P k') q i 0) (q + 1) (i) (P k' (q + 1) i))) (SW_sc8 hq 1 (by decide)) dX0_become_51 ?_
        refine V_aload_n hx dX0_become_52 1 rfl ?_
        refine gf_X0_15 hx (ix k q) (SW_clk hk hq) rfl dX0_become_53 ?_
        refine V_iload_n hx dX0_become_56 0 rfl ?_
        refine V_aload_n hx dX0_become_57 2 rfl ?_
        refine gf_X0_15 hx (ix k' q) (SW_clk' hk' hne hq) rfl dX0_become_58 ?_
        refine V_iload_n hx dX0_become_61 0 rfl ?_
        refine V_iald hx (by omega) (by omega) (by decide) (ix k' (q + 2)) (SW_c8' hk' hne hq 2 (by decide)) (v := P k' (q + 2) i) rfl dX0_become_62 ?_
        refine V_iast hx (by omega) (by omega) (by decide) (ix k (q + 2)) (SW_c8 hk hq 2 (by decide)) (SW g ad P k (pt (pt (bcT T (P k') q i 0) (q + 1) (i) (P k' (q + 1) i)) (q + 2) (i) (P k' (q + 2) i))) (SW_sc8 hq 2 (by decide)) dX0_become_63 ?_
        refine V_aload_n hx dX0_become_64 1 rfl ?_
        refine gf_X0_18 hx (ix k q) (SW_clk hk hq) rfl dX0_become_65 ?_
        refine V_iload_n hx dX0_become_68 0 rfl ?_
        refine V_aload_n hx dX0_become_69 2 rfl ?_
        refine gf_X0_18 hx (ix k' q) (SW_clk' hk' hne hq) rfl dX0_become_70 ?_
        refine V_iload_n hx dX0_become_73 0 rfl ?_
        refine V_iald hx (by omega) (by omega) (by decide) (ix k' (q + 3)) (SW_c8' hk' hne hq 3 (by decide)) (v := P k' (q + 3) i) rfl dX0_become_74 ?_
        refine V_iast hx (by omega) (by omega) (by decide) (ix k (q + 3)) (SW_c8 hk hq 3 (by decide)) (SW g ad P k (pt (pt (pt (bcT T (P k') q i 0) (q + 1) (i) (P k' (q + 1) i)) (q + 2) (i) (P k' (q + 2) i)) (q + 3) (i) (P k' (q + 3) i))) (SW_sc8 hq 3 (by decide)) dX0_become_75 ?_
        refine V_aload_n hx dX0_become_76 1 rfl ?_
        refine gf_X0_21 hx (ix k q) (SW_clk hk hq) rfl dX0_become_77 ?_
        refine V_iload_n hx dX0_become_80 0 rfl ?_
        refine V_aload_n hx dX0_become_81 2 rfl ?_
        refine gf_X0_21 hx (ix k' q) (SW_clk' hk' hne hq) rfl dX0_become_82 ?_
        refine V_iload_n hx dX0_become_85 0 rfl ?_
        refine V_iald hx (by omega) (by omega) (by decide) (ix k' (q + 4)) (SW_c8' hk' hne hq 4 (by decide)) (v := P k' (q + 4) i) rfl dX0_become_86 ?_
        refine V_iast hx (by omega) (by omega) (by decide) (ix k (q + 4)) (SW_c8 hk hq 4 (by decide)) (SW g ad P k (pt (pt (pt (pt (bcT T (P k') q i 0) (q + 1) (i) (P k' (q + 1) i)) (q + 2) (i) (P k' (q + 2) i)) (q + 3) (i) (P k' (q + 3) i)) (q + 4) (i) (P k' (q + 4) i))) (SW_sc8 hq 4 (by decide)) dX0_become_87 ?_
        refine V_iincN hx dX0_become_88 0 rfl [(2, .int (iZ (((i + 1 : Nat) : Int)))), (0, .ref (ad (ix k q))), (1, .ref (ad (ix k' q)))] (by decide) rfl ?_
        refine V_goto hx dX0_become_91 34 (by decide) ?_
        refine V_ws (ws' := SW g ad P k (bcT T (P k') q (i + 1) 0)) (congrArg (SW g ad P k) (by funext a b; simp only [pt, bcT]; (repeat' split) <;> first | rfl | omega | grind)) ?_
        exact V_sub [0, 1, 2] rfl (ih (i + 1) (by omega) (by omega))
  refine V_ws (ws' := SW g ad P k (bcT T (P k') q 0 0)) (congrArg (SW g ad P k) (by funext a b; simp only [pt, bcT]; (repeat' split) <;> first | rfl | omega | grind)) ?_
  exact V_sub [0, 1, 2] rfl (hL34 (8 + 1) 0 (by omega) (by omega))
end
section
/-! the class Shop: what its methods do to a shop's ints -/
def nd (T : TS) : Nat := (T 0 0).toNat
def nc (T : TS) : Nat := (T 0 1).toNat
def bgT (T : TS) (n : Int) (d : Nat) : TS := fun a b => if a = 0 ∧ b = 0 then n else if a = 0 ∧ (b = 1 ∨ b = 2) then 0 else if (a = 1 ∨ a = 2) ∧ b < d then 0 else T a b
def acT (T : TS) : TS := pt (baT T (7 + 8 * (T 0 1).toNat)) 0 1 (T 0 1 + 1)
def hl (a : Int) : Int := if a < 0 then 0 else if 9999 < a then 9999 else a
def rdT (T : TS) (q d : Nat) : TS := if T (q + 7) d ≠ -1 then T else if T (q + 5) d ≠ -1 then T else pt (pt T (q + 5) d (T 1 d)) (q + 6) d (T 2 d)
def rdV (T : TS) (q d : Nat) : Int := if T (q + 7) d ≠ -1 then T (q + 7) d else if T (q + 5) d ≠ -1 then T (q + 5) d else T 1 d
def odP (T : TS) (q n : Nat) : Prop := ∃ d, d < n ∧ T (q + 5) d ≠ -1 ∧ T (q + 6) d ≠ T 2 d
def shT (T : TS) (i : Nat) : TS := fun a b => if (a = 4 ∨ a = 5 ∨ a = 6) ∧ i < b ∧ b < 10 then T a (b - 1) else T a b
def kcT (T : TS) (c w : Int) : TS := pt (pt (pt (shT T 0) 4 0 c) 5 0 w) 6 0 (sm (nd T) (T 1))
def pyT (T : TS) (d : Nat) (v : Int) : TS := kcT (pt (pt (pt T 0 2 (T 0 2 + 1)) 1 d v) 2 d (T 0 2 + 1)) (-1) 1
def cyT (T : TS) (q d e : Nat) (b : Int) : TS := if rdV T q d < b then rdT T q d else pt (pt (rdT (rdT T q d) q e) (q + 7) d (rdV T q d - b)) (q + 7) e (hl (rdV (rdT T q d) q e + b))
def dsT (T : TS) (q p : Nat) : TS := if T (q + 1) p = 0 then rdT T q (T (q + 2) p).toNat else if T (q + 1) p = 1 then pt T (q + 7) (T (q + 2) p).toNat (T (q + 4) p) else if T (q + 1) p = 2 then pt (rdT T q (T (q + 2) p).toNat) (q + 7) (T (q + 2) p).toNat (hl (rdV T q (T (q + 2) p).toNat + T (q + 4) p)) else cyT T q (T (q + 2) p).toNat (T (q + 3) p).toNat (T (q + 4) p)
def clL (T : TS) (q i : Nat) (z : Int) : TS := fun a b => if a = 1 ∧ b < i ∧ T (q + 7) b ≠ -1 then T (q + 7) b else if a = 2 ∧ b < i ∧ T (q + 7) b ≠ -1 then z else T a b
noncomputable def clT (T : TS) (q : Nat) (c : Int) : TS := kcT (pt (clL (pt T 0 2 (T 0 2 + 1)) q (nd T) (T 0 2 + 1)) q 2 1) c (sm 8 (wrF T q))
noncomputable def tkT (T : TS) (c : Nat) : TS := if T (7 + 8 * c) 1 < T (7 + 8 * c) 0 then pt (dsT T (7 + 8 * c) (T (7 + 8 * c) 1).toNat) (7 + 8 * c) 1 (T (7 + 8 * c) 1 + 1) else if bz (odP T (7 + 8 * c) (nd T)) = 1 then soT (pt T (7 + 8 * c) 3 (T (7 + 8 * c) 3 + 1)) (7 + 8 * c) 8 else clT T (7 + 8 * c) c
noncomputable def tkV (T : TS) (c : Nat) : Int := if T (7 + 8 * c) 1 < T (7 + 8 * c) 0 then 0 else if bz (odP T (7 + 8 * c) (nd T)) = 1 then 2 else 1
theorem V_min {x : CT} {l : Launch} {R : Room} {g : GT} {nL : Nat} {cc : ByteArray} {own : String} {k n : Nat} {ws : va_W} {pc : Nat} {lv : List (Nat × Value)} {st : List Value} (hx : FX x l R g nL cc own) {a b : Int} {index : Nat} (h1 : Cond.methodLink own index Lib.Math.min.name ∈ tbl) (h2 : Cond.static Lib.Math.min.name ∈ tbl) (h3 : Cond.initialized "java/lang/Math" ∈ tbl) (h4 : Cond.code Lib.Math.min.name Lib.Math.min.code 2 (some .int) ∈ tbl) (ha : rg a) (hb : rg b)
    (hf : 1 ≤ R.frames) (hlo : (st.map fun v => v.category).sum + 13 ≤ R.locals) (hk : k ≤ R.cells) (hn : n ≤ R.slots) (hd : decode cc pc = .ok (.invokestatic index, 3)) (kk : V x k n ws (pc + 3) lv (.int (iZ (if b < a then b else a)) :: st)) : V x k n ws pc lv (.int (iZ b) :: .int (iZ a) :: st) := by
  have e : (if iZ b < iZ a then iZ b else iZ a) = iZ (if b < a then b else a) := by
    by_cases h : b < a
    · rw [if_pos h, if_pos ((iZ_lt hb ha).mpr h)]
    · rw [if_neg h, if_neg (fun z => h ((iZ_lt hb ha).mp z))]
  obtain ⟨p, l', e9, R', s, m, args, below, meth, c, g', nL', A, H0, Q⟩ := x
  obtain ⟨rfl, rfl, rfl, rfl, hx, hb0, hml, hown, hts, hK, hlk, hA⟩ := hx
  intro H locs ls hP hD hS h
  refine va_mmin hx hb0 (hml.trans h.1.symm) hown (hts _ _ h1) (hts _ _ h2) (hts _ _ h3) (hts _ _ h4) hf hlo hk hn hd ?_
  rw [e]
  exact kk H locs ls hP hD hS h
theorem V_max {x : CT} {l : Launch} {R : Room} {g : GT} {nL : Nat} {cc : ByteArray} {own : String} {k n : Nat} {ws : va_W} {pc : Nat} {lv : List (Nat × Value)} {st : List Value} (hx : FX x l R g nL cc own) {a b : Int} {index : Nat} (h1 : Cond.methodLink own index Lib.Math.max.name ∈ tbl) (h2 : Cond.static Lib.Math.max.name ∈ tbl) (h3 : Cond.initialized "java/lang/Math" ∈ tbl) (h4 : Cond.code Lib.Math.max.name Lib.Math.max.code 2 (some .int) ∈ tbl) (ha : rg a) (hb : rg b)
    (hf : 1 ≤ R.frames) (hlo : (st.map fun v => v.category).sum + 13 ≤ R.locals) (hk : k ≤ R.cells) (hn : n ≤ R.slots) (hd : decode cc pc = .ok (.invokestatic index, 3)) (kk : V x k n ws (pc + 3) lv (.int (iZ (if a < b then b else a)) :: st)) : V x k n ws pc lv (.int (iZ b) :: .int (iZ a) :: st) := by
  have e : (if iZ a < iZ b then iZ b else iZ a) = iZ (if a < b then b else a) := by
    by_cases h : a < b
    · rw [if_pos h, if_pos ((iZ_lt ha hb).mpr h)]
    · rw [if_neg h, if_neg (fun z => h ((iZ_lt ha hb).mp z))]
  obtain ⟨p, l', e9, R', s, m, args, below, meth, c, g', nL', A, H0, Q⟩ := x
  obtain ⟨rfl, rfl, rfl, rfl, hx, hb0, hml, hown, hts, hK, hlk, hA⟩ := hx
  intro H locs ls hP hD hS h
  refine va_mmax hx hb0 (hml.trans h.1.symm) hown (hts _ _ h1) (hts _ _ h2) (hts _ _ h3) (hts _ _ h4) hf hlo hk hn hd ?_
  rw [e]
  exact kk H locs ls hP hD hS h
set_option maxHeartbeats 4000000 in
set_option maxRecDepth 100000 in
theorem m_sBegin (l : Launch) {g : GT} {ad : Nat → Nat} {P : Nat → TS} {k : Nat} (hk : k < 2) (T : TS) {m : Int} : MV l yX1_beginAnew cX1_beginAnew 3 (rmN 0) g [.ref (ad (ix k 0)), .int (iZ (m))] (SW g ad P k T) (fun ws9 => ws9 = SW g ad P k (bgT T m 8)) := by
  refine MV.of (own := RX1) (by decide) rfl (Nat.le_of_ble_eq_true rfl) (fun x hx hE => ?_)
  refine V_lv (lv' := [(0, .ref (ad (ix k 0))), (1, .int (iZ (m)))]) rfl ?_
  refine V_aload_n hx dX1_beginAnew_0 0 rfl ?_
  refine V_iload_n hx dX1_beginAnew_1 1 rfl ?_
  refine pf_X1_9 hx (ix k 0) (SW_shop hk) (Nat.le_of_ble_eq_true rfl) (SW g ad P k (pt T (0) (0) (m))) SW_ss0 dX1_beginAnew_2 ?_
  refine V_aload_n hx dX1_beginAnew_5 0 rfl ?_
  refine V_iconst hx dX1_beginAnew_6 ?_
  refine pf_X1_38 hx (ix k 0) (SW_shop hk) (Nat.le_of_ble_eq_true rfl) (SW g ad P k (pt (pt T (0) (0) (m)) (0) (1) (0))) SW_ss1 dX1_beginAnew_7 ?_
  refine V_aload_n hx dX1_beginAnew_10 0 rfl ?_
  refine V_iconst hx dX1_beginAnew_11 ?_
  refine pf_X1_41 hx (ix k 0) (SW_shop hk) (Nat.le_of_ble_eq_true rfl) (SW g ad P k (pt (pt (pt T (0) (0) (m)) (0) (1) (0)) (0) (2) (0))) SW_ss2 dX1_beginAnew_12 ?_
  refine V_iconst hx dX1_beginAnew_15 ?_
  refine V_istore_n hx dX1_beginAnew_16 [(2, .int (iZ (0))), (0, .ref (ad (ix k 0))), (1, .int (iZ (m)))] (by decide) rfl ?_
  have hL17 : ∀ (n : Nat) (i : Nat), 8 < i + n → i ≤ 8 → V x 0 0 (SW g ad P k (bgT T m i)) 17 [(2, .int (iZ ((i : Int)))), (0, .ref (ad (ix k 0))), (1, .int (iZ (m)))] [] := by
    intro n
    induction n with
    | zero =>
      intro i g1 g2 
      exact absurd g1 (by omega)
    | succ n ih =>
      intro i g1 g2 
      refine V_iload_n hx dX1_beginAnew_17 0 rfl ?_
      refine V_bipush hx dX1_beginAnew_18 rfl ?_
      refine V_icmp_ge hx dX1_beginAnew_20 43 (by decide) ⟨by omega, by omega⟩ ⟨by decide, by decide⟩ (fun h20 => ?_) (fun h20 => ?_)
      · exact hE _ _ _ dX1_beginAnew_43 (by rw [show i = 8 by omega])
      · refine V_aload_n hx dX1_beginAnew_23 1 rfl ?_
        refine gf_X1_15 hx (ix k 0) (SW_shop hk) rfl dX1_beginAnew_24 ?_
        refine V_iload_n hx dX1_beginAnew_27 0 rfl ?_
        refine V_iconst hx dX1_beginAnew_28 ?_
        refine V_iast hx (by omega) (by omega) (by decide) (ix k 1) (SW_8 hk (Or.inl rfl) (by decide)) (SW g ad P k (pt (bgT T m i) (1) (i) (0))) (SW_s8 (Or.inl rfl) (by decide)) dX1_beginAnew_29 ?_
        refine V_aload_n hx dX1_beginAnew_30 1 rfl ?_
        refine gf_X1_19 hx (ix k 0) (SW_shop hk) rfl dX1_beginAnew_31 ?_
        refine V_iload_n hx dX1_beginAnew_34 0 rfl ?_
        refine V_iconst hx dX1_beginAnew_35 ?_
        refine V_iast hx (by omega) (by omega) (by decide) (ix k 2) (SW_8 hk (Or.inr (Or.inl rfl)) (by decide)) (SW g ad P k (pt (pt (bgT T m i) (1) (i) (0)) (2) (i) (0))) (SW_s8 (Or.inr (Or.inl rfl)) (by decide)) dX1_beginAnew_36 ?_
        refine V_iincN hx dX1_beginAnew_37 0 rfl [(2, .int (iZ (((i + 1 : Nat) : Int)))), (0, .ref (ad (ix k 0))), (1, .int (iZ (m)))] (by decide) rfl ?_
        refine V_goto hx dX1_beginAnew_40 17 (by decide) ?_
        refine V_ws (ws' := SW g ad P k (bgT T m (i + 1))) (congrArg (SW g ad P k) (by funext a b; simp only [pt, bgT]; (repeat' split) <;> first | rfl | omega | grind)) ?_
        exact V_sub [0, 1, 2] rfl (ih (i + 1) (by omega) (by omega))
  refine V_ws (ws' := SW g ad P k (bgT T m 0)) (congrArg (SW g ad P k) (by funext a b; simp only [pt, bgT]; (repeat' split) <;> first | rfl | omega | grind)) ?_
  exact V_sub [0, 1, 2] rfl (hL17 (8 + 1) 0 (by omega) (by omega))
set_option maxHeartbeats 4000000 in
set_option maxRecDepth 100000 in
theorem m_addClerk (l : Launch) {g : GT} {ad : Nat → Nat} {P : Nat → TS} {k : Nat} (hk : k < 2) (T : TS) (hT : RG T) (hc0 : 0 ≤ T 0 1) (hc6 : T 0 1 < 6) : MI l yX1_addClerk cX1_addClerk 2 .int (rmN 2) g [.ref (ad (ix k 0))] (SW g ad P k T) (fun z ws9 => z = T 0 1 ∧ ws9 = SW g ad P k (acT T)) := by
  refine MI.of (own := RX1) (by decide) rfl (Nat.le_of_ble_eq_true rfl) (fun x hx hE => ?_)
  refine V_lv (lv' := [(0, .ref (ad (ix k 0)))]) rfl ?_
  refine V_aload_n hx dX1_addClerk_0 0 rfl ?_
  refine gf_X1_38 hx (ix k 0) (SW_shop hk) rfl dX1_addClerk_1 ?_
  refine V_istore_n hx dX1_addClerk_4 [(1, .int (iZ (T 0 1))), (0, .ref (ad (ix k 0)))] (by decide) rfl ?_
  refine V_iload_n hx dX1_addClerk_5 0 rfl ?_
  refine V_bipush hx dX1_addClerk_6 rfl ?_
  refine V_icmp_ge hx dX1_addClerk_8 30 (by decide) (by first | assumption | exact hT _ _ | exact ⟨by omega, by omega⟩) ⟨by decide, by decide⟩ (fun h8 => absurd h8 (by omega)) (fun h8 => ?_)
  refine V_aload_n hx dX1_addClerk_11 1 rfl ?_
  refine gf_X1_24 hx (ix k 0) (SW_shop hk) rfl dX1_addClerk_12 ?_
  refine V_iload_n hx dX1_addClerk_15 0 rfl ?_
  refine V_aald hx (by omega) (by omega) (by decide) (ix k 3) (SW_refs hk) (r := ad (ix k (7 + 8 * ((T 0 1).toNat)))) rfl dX1_addClerk_16 ?_
  refine V_callNv hx (m_beginAnew l hk T (q := 7 + 8 * ((T 0 1).toNat)) (isQ_c (by omega))) cw_X1_48 (RMn (by decide) (by decide)) rfl (ix k (7 + 8 * ((T 0 1).toNat))) (SW_clk hk (isQ_c (by omega))) rfl rfl (Nat.le_of_ble_eq_true rfl) dX1_addClerk_17 0 0 rfl rfl (fun ws1 e1 => ?_)
  subst e1
  refine V_aload_n hx dX1_addClerk_20 1 rfl ?_
  refine V_dup hx dX1_addClerk_21 rfl ?_
  refine gf_X1_38 hx (ix k 0) (SW_shop hk) rfl dX1_addClerk_22 ?_
  refine V_iconst hx dX1_addClerk_25 ?_
  refine V_iadd hx dX1_addClerk_26 ?_
  refine pf_X1_38 hx (ix k 0) (SW_shop hk) (Nat.le_of_ble_eq_true rfl) (SW g ad P k (pt (baT T (7 + 8 * ((T 0 1).toNat))) (0) (1) (((baT T (7 + 8 * ((T 0 1).toNat))) 0 1) + 1))) SW_ss1 dX1_addClerk_27 ?_
  refine V_iload_n hx dX1_addClerk_30 0 rfl ?_
  exact hE _ _ _ _ dX1_addClerk_31 rfl ⟨rfl, congrArg (SW g ad P k) (by rw [acT, show baT T (7 + 8 * (T 0 1).toNat) 0 1 = T 0 1 from by simp only [baT, soT, pt]; (repeat' split) <;> first | rfl | omega | grind])⟩
set_option maxHeartbeats 4000000 in
set_option maxRecDepth 100000 in
theorem m_held (l : Launch) {g : GT} {ad : Nat → Nat} {P : Nat → TS} {k : Nat} (T : TS) {a : Int} (ha : rg a) : MI l yX1_held cX1_held 1 .int (rmN 1) g [.int (iZ (a))] (SW g ad P k T) (fun z ws9 => z = hl a ∧ ws9 = SW g ad P k T) := by
  refine MI.of (own := RX1) (by decide) rfl (Nat.le_of_ble_eq_true rfl) (fun x hx hE => ?_)
  refine V_lv (lv' := [(0, .int (iZ (a)))]) rfl ?_
  refine V_iload_n hx dX1_held_0 0 rfl ?_
  refine V_if_ge hx dX1_held_1 8 (by decide) ha (fun h1 => ?_) (fun h1 => ?_)
  · refine V_iload_n hx dX1_held_8 0 rfl ?_
    refine V_sipush hx dX1_held_9 rfl ?_
    refine V_min hx qm174 qm175 q13 qm176 ha ⟨by decide, by decide⟩ (by decide) (Nat.le_of_ble_eq_true rfl) (Nat.zero_le _) (Nat.zero_le _) dX1_held_12 ?_
    exact hE _ _ _ _ dX1_held_15 rfl ⟨by unfold hl; (repeat' split) <;> omega, rfl⟩
  · refine V_iconst hx dX1_held_4 ?_
    refine V_goto hx dX1_held_5 15 (by decide) ?_
    exact hE _ _ _ _ dX1_held_15 rfl ⟨by unfold hl; (repeat' split) <;> omega, rfl⟩
set_option maxHeartbeats 4000000 in
set_option maxRecDepth 100000 in
theorem m_read (l : Launch) {g : GT} {ad : Nat → Nat} {P : Nat → TS} {k : Nat} (hk : k < 2) (T : TS) (hT : RG T) {q : Nat} (hq : isQ q) {d : Int} (hd0 : 0 ≤ d) (hd8 : d < 8) : MI l yX1_read cX1_read 3 .int (rmN 1) g [.ref (ad (ix k 0)), .ref (ad (ix k q)), .int (iZ (d))] (SW g ad P k T) (fun z ws9 => z = rdV T q d.toNat ∧ ws9 = SW g ad P k (rdT T q d.toNat)) := by
  refine MI.of (own := RX1) (by decide) rfl (Nat.le_of_ble_eq_true rfl) (fun x hx hE => ?_)
  have hq7 := hq.1
  have hq8 := hq.2
  refine V_lv (lv' := [(0, .ref (ad (ix k 0))), (1, .ref (ad (ix k q))), (2, .int (iZ (d)))]) rfl ?_
  refine V_aload_n hx dX1_read_0 1 rfl ?_
  refine V_iload_n hx dX1_read_1 2 rfl ?_
  refine V_callNi hx (m_hasWritten l hk T hT (q := q) hq (d := d) (by omega) (by omega)) cw_X1_109 (RMn (by decide) (by decide)) rfl (ix k q) (SW_clk hk hq) rfl rfl (Nat.le_of_ble_eq_true rfl) dX1_read_2 0 0 rfl rfl (fun z1 ws1 e1 => ?_)
  obtain ⟨rfl, rfl⟩ := e1
  refine V_ifb_eq hx dX1_read_5 15 (by decide) (fun h5 => ?_) (fun h5 => ?_)
  · refine V_aload_n hx dX1_read_15 1 rfl ?_
    refine V_iload_n hx dX1_read_16 2 rfl ?_
    refine V_callNi hx (m_remembers l hk T hT (q := q) hq (d := d) (by omega) (by omega)) cw_X1_113 (RMn (by decide) (by decide)) rfl (ix k q) (SW_clk hk hq) rfl rfl (Nat.le_of_ble_eq_true rfl) dX1_read_17 0 0 rfl rfl (fun z2 ws2 e2 => ?_)
    obtain ⟨rfl, rfl⟩ := e2
    refine V_ifb_ne hx dX1_read_20 47 (by decide) (fun h20 => ?_) (fun h20 => ?_)
    · refine V_aload_n hx dX1_read_47 1 rfl ?_
      refine gf_X1_116 hx (ix k q) (SW_clk hk hq) rfl dX1_read_48 ?_
      refine V_iload_n hx dX1_read_51 2 rfl ?_
      refine V_iald hx (by omega) (by omega) (by decide) (ix k (q + 5)) (SW_c8 hk hq 5 (by decide)) (v := T (q + 5) d.toNat) rfl dX1_read_52 ?_
      exact hE _ _ _ _ dX1_read_53 rfl ⟨by rw [rdV, if_neg (by omega), if_pos (by omega)], by rw [rdT, if_neg (by omega), if_pos (by omega)]⟩
    · refine V_aload_n hx dX1_read_23 1 rfl ?_
      refine gf_X1_116 hx (ix k q) (SW_clk hk hq) rfl dX1_read_24 ?_
      refine V_iload_n hx dX1_read_27 2 rfl ?_
      refine V_aload_n hx dX1_read_28 0 rfl ?_
      refine gf_X1_15 hx (ix k 0) (SW_shop hk) rfl dX1_read_29 ?_
      refine V_iload_n hx dX1_read_32 2 rfl ?_
      refine V_iald hx (by omega) (by omega) (by decide) (ix k 1) (SW_8 hk (Or.inl rfl) (by decide)) (v := T 1 d.toNat) rfl dX1_read_33 ?_
      refine V_iast hx (by omega) (by omega) (by decide) (ix k (q + 5)) (SW_c8 hk hq 5 (by decide)) (SW g ad P k (pt T (q + 5) (d.toNat) (T 1 d.toNat))) (SW_sc8 hq 5 (by decide)) dX1_read_34 ?_
      refine V_aload_n hx dX1_read_35 1 rfl ?_
      refine gf_X1_119 hx (ix k q) (SW_clk hk hq) rfl dX1_read_36 ?_
      refine V_iload_n hx dX1_read_39 2 rfl ?_
      refine V_aload_n hx dX1_read_40 0 rfl ?_
      refine gf_X1_19 hx (ix k 0) (SW_shop hk) rfl dX1_read_41 ?_
      refine V_iload_n hx dX1_read_44 2 rfl ?_
      refine V_iald hx (by omega) (by omega) (by decide) (ix k 2) (SW_8 hk (Or.inr (Or.inl rfl)) (by decide)) (v := T 2 d.toNat) (by show iZ _ = iZ _; rw [pt_ne _ _ (Or.inl (by omega))] <;> rfl) dX1_read_45 ?_
      refine V_iast hx (by omega) (by omega) (by decide) (ix k (q + 6)) (SW_c8 hk hq 6 (by decide)) (SW g ad P k (pt (pt T (q + 5) (d.toNat) (T 1 d.toNat)) (q + 6) (d.toNat) (T 2 d.toNat))) (SW_sc8 hq 6 (by decide)) dX1_read_46 ?_
      refine V_aload_n hx dX1_read_47 1 rfl ?_
      refine gf_X1_116 hx (ix k q) (SW_clk hk hq) rfl dX1_read_48 ?_
      refine V_iload_n hx dX1_read_51 2 rfl ?_
      refine V_iald hx (by omega) (by omega) (by decide) (ix k (q + 5)) (SW_c8 hk hq 5 (by decide)) (v := T 1 d.toNat) (by show iZ _ = iZ _; rw [pt_ne _ _ (Or.inl (by omega)), pt_at] <;> rfl) dX1_read_52 ?_
      exact hE _ _ _ _ dX1_read_53 rfl ⟨by rw [rdV, if_neg (by omega), if_neg (by omega)], by rw [rdT, if_neg (by omega), if_neg (by omega)]⟩
  · refine V_aload_n hx dX1_read_8 1 rfl ?_
    refine gf_X1_95 hx (ix k q) (SW_clk hk hq) rfl dX1_read_9 ?_
    refine V_iload_n hx dX1_read_12 2 rfl ?_
    refine V_iald hx (by omega) (by omega) (by decide) (ix k (q + 7)) (SW_c8 hk hq 7 (by decide)) (v := T (q + 7) d.toNat) rfl dX1_read_13 ?_
    exact hE _ _ _ _ dX1_read_14 rfl ⟨by rw [rdV, if_pos (by omega)], by rw [rdT, if_pos (by omega)]⟩
set_option maxHeartbeats 4000000 in
set_option maxRecDepth 100000 in
theorem m_isOutdated (l : Launch) {g : GT} {ad : Nat → Nat} {P : Nat → TS} {k : Nat} (hk : k < 2) (T : TS) (hT : RG T) {q : Nat} (hq : isQ q) (hn0 : 0 ≤ T 0 0) (hn8 : T 0 0 ≤ 8) : MI l yX1_isOutdated cX1_isOutdated 3 .boolean (rmN 1) g [.ref (ad (ix k 0)), .ref (ad (ix k q))] (SW g ad P k T) (fun z ws9 => z = bz (odP T q (nd T)) ∧ ws9 = SW g ad P k T) := by
  refine MI.of (own := RX1) (by decide) rfl (Nat.le_of_ble_eq_true rfl) (fun x hx hE => ?_)
  have hq7 := hq.1
  have hq8 := hq.2
  have hnd : ((nd T : Nat) : Int) = T 0 0 := Int.toNat_of_nonneg (by omega)
  refine V_lv (lv' := [(0, .ref (ad (ix k 0))), (1, .ref (ad (ix k q)))]) rfl ?_
  refine V_iconst hx dX1_isOutdated_0 ?_
  refine V_istore_n hx dX1_isOutdated_1 [(2, .int (iZ (0))), (0, .ref (ad (ix k 0))), (1, .ref (ad (ix k q)))] (by decide) rfl ?_
  have hL2 : ∀ (n : Nat) (i : Nat), nd T < i + n → i ≤ nd T → (∀ d, d < i → ¬ (T (q + 5) d ≠ -1 ∧ T (q + 6) d ≠ T 2 d)) → V x 0 0 (SW g ad P k T) 2 [(2, .int (iZ ((i : Int)))), (0, .ref (ad (ix k 0))), (1, .ref (ad (ix k q)))] [] := by
    intro n
    induction n with
    | zero =>
      intro i g1 g2 g3
      exact absurd g1 (by omega)
    | succ n ih =>
      intro i g1 g2 g3
      refine V_iload_n hx dX1_isOutdated_2 0 rfl ?_
      refine V_aload_n hx dX1_isOutdated_3 1 rfl ?_
      refine gf_X1_9 hx (ix k 0) (SW_shop hk) rfl dX1_isOutdated_4 ?_
      refine V_icmp_ge hx dX1_isOutdated_7 41 (by decide) ⟨by omega, by omega⟩ (by first | assumption | exact hT _ _ | exact ⟨by omega, by omega⟩) (fun h7 => ?_) (fun h7 => ?_)
      · refine V_iconst hx dX1_isOutdated_41 ?_
        exact hE _ _ _ _ dX1_isOutdated_42 rfl ⟨(bz_f (fun h9 => h9.elim (fun d h8 => g3 d (by omega) h8.2))).symm, rfl⟩
      · refine V_aload_n hx dX1_isOutdated_10 2 rfl ?_
        refine V_iload_n hx dX1_isOutdated_11 0 rfl ?_
        refine V_callNi hx (m_remembers l hk T hT (q := q) hq (d := (i : Int)) (by omega) (by omega)) cw_X1_113 (RMn (by decide) (by decide)) rfl (ix k q) (SW_clk hk hq) rfl rfl (Nat.le_of_ble_eq_true rfl) dX1_isOutdated_12 0 0 rfl rfl (fun z1 ws1 e1 => ?_)
        obtain ⟨rfl, rfl⟩ := e1
        refine V_top (b := bz (T (q + 5) i ≠ -1)) rfl ?_
        refine V_ifb_eq hx dX1_isOutdated_15 35 (by decide) (fun h15 => ?_) (fun h15 => ?_)
        · refine V_iincN hx dX1_isOutdated_35 0 rfl [(2, .int (iZ (((i + 1 : Nat) : Int)))), (0, .ref (ad (ix k 0))), (1, .ref (ad (ix k q)))] (by decide) rfl ?_
          refine V_goto hx dX1_isOutdated_38 2 (by decide) ?_
          exact V_sub [0, 1, 2] rfl (ih (i + 1) (by omega) (by omega) (lt_s g3 (by omega)))
        · refine V_aload_n hx dX1_isOutdated_18 2 rfl ?_
          refine gf_X1_119 hx (ix k q) (SW_clk hk hq) rfl dX1_isOutdated_19 ?_
          refine V_iload_n hx dX1_isOutdated_22 0 rfl ?_
          refine V_iald hx (by omega) (by omega) (by decide) (ix k (q + 6)) (SW_c8 hk hq 6 (by decide)) (v := T (q + 6) i) rfl dX1_isOutdated_23 ?_
          refine V_aload_n hx dX1_isOutdated_24 1 rfl ?_
          refine gf_X1_19 hx (ix k 0) (SW_shop hk) rfl dX1_isOutdated_25 ?_
          refine V_iload_n hx dX1_isOutdated_28 0 rfl ?_
          refine V_iald hx (by omega) (by omega) (by decide) (ix k 2) (SW_8 hk (Or.inr (Or.inl rfl)) (by decide)) (v := T 2 i) rfl dX1_isOutdated_29 ?_
          refine V_icmp_eq hx dX1_isOutdated_30 35 (by decide) (by first | assumption | exact hT _ _ | exact ⟨by omega, by omega⟩) (by first | assumption | exact hT _ _ | exact ⟨by omega, by omega⟩) (fun h30 => ?_) (fun h30 => ?_)
          · refine V_iincN hx dX1_isOutdated_35 0 rfl [(2, .int (iZ (((i + 1 : Nat) : Int)))), (0, .ref (ad (ix k 0))), (1, .ref (ad (ix k q)))] (by decide) rfl ?_
            refine V_goto hx dX1_isOutdated_38 2 (by decide) ?_
            exact V_sub [0, 1, 2] rfl (ih (i + 1) (by omega) (by omega) (lt_s g3 (by omega)))
          · refine V_iconst hx dX1_isOutdated_33 ?_
            exact hE _ _ _ _ dX1_isOutdated_34 rfl ⟨(bz_t ⟨i, by omega, by omega, by omega⟩).symm, rfl⟩
  refine V_ws (ws' := SW g ad P k T) rfl ?_
  exact V_sub [0, 1, 2] rfl (hL2 (nd T + 1) 0 (by omega) (by omega) (fun d h9 => absurd h9 (Nat.not_lt_zero d)))
set_option maxHeartbeats 4000000 in
set_option maxRecDepth 100000 in
theorem m_sumAmounts (l : Launch) {g : GT} {ad : Nat → Nat} {P : Nat → TS} {k : Nat} (hk : k < 2) (T : TS) (hT : RG T) (hn0 : 0 ≤ T 0 0) (hn8 : T 0 0 ≤ 8) : MI l yX1_sumAmounts cX1_sumAmounts 3 .int (rmN 0) g [.ref (ad (ix k 0))] (SW g ad P k T) (fun z ws9 => z = sm (nd T) (T 1) ∧ ws9 = SW g ad P k T) := by
  refine MI.of (own := RX1) (by decide) rfl (Nat.le_of_ble_eq_true rfl) (fun x hx hE => ?_)
  have hnd : ((nd T : Nat) : Int) = T 0 0 := Int.toNat_of_nonneg (by omega)
  refine V_lv (lv' := [(0, .ref (ad (ix k 0)))]) rfl ?_
  refine V_iconst hx dX1_sumAmounts_0 ?_
  refine V_istore_n hx dX1_sumAmounts_1 [(1, .int (iZ (0))), (0, .ref (ad (ix k 0)))] (by decide) rfl ?_
  refine V_iconst hx dX1_sumAmounts_2 ?_
  refine V_istore_n hx dX1_sumAmounts_3 [(2, .int (iZ (0))), (1, .int (iZ (0))), (0, .ref (ad (ix k 0)))] (by decide) rfl ?_
  have hL4 : ∀ (n : Nat) (i : Nat), nd T < i + n → i ≤ nd T → V x 0 0 (SW g ad P k T) 4 [(2, .int (iZ ((i : Int)))), (1, .int (iZ (sm i (T 1)))), (0, .ref (ad (ix k 0)))] [] := by
    intro n
    induction n with
    | zero =>
      intro i g1 g2 
      exact absurd g1 (by omega)
    | succ n ih =>
      intro i g1 g2 
      refine V_iload_n hx dX1_sumAmounts_4 0 rfl ?_
      refine V_aload_n hx dX1_sumAmounts_5 2 rfl ?_
      refine gf_X1_9 hx (ix k 0) (SW_shop hk) rfl dX1_sumAmounts_6 ?_
      refine V_icmp_ge hx dX1_sumAmounts_9 27 (by decide) ⟨by omega, by omega⟩ (by first | assumption | exact hT _ _ | exact ⟨by omega, by omega⟩) (fun h9 => ?_) (fun h9 => ?_)
      · refine V_iload_n hx dX1_sumAmounts_27 1 rfl ?_
        exact hE _ _ _ _ dX1_sumAmounts_28 rfl ⟨by rw [show i = nd T by omega], rfl⟩
      · refine V_iload_n hx dX1_sumAmounts_12 1 rfl ?_
        refine V_aload_n hx dX1_sumAmounts_13 2 rfl ?_
        refine gf_X1_15 hx (ix k 0) (SW_shop hk) rfl dX1_sumAmounts_14 ?_
        refine V_iload_n hx dX1_sumAmounts_17 0 rfl ?_
        refine V_iald hx (by omega) (by omega) (by decide) (ix k 1) (SW_8 hk (Or.inl rfl) (by decide)) (v := T 1 i) rfl dX1_sumAmounts_18 ?_
        refine V_iadd hx dX1_sumAmounts_19 ?_
        refine V_istore_n hx dX1_sumAmounts_20 [(1, .int (iZ ((sm i (T 1)) + (T 1 i)))), (2, .int (iZ ((i : Int)))), (0, .ref (ad (ix k 0)))] (by decide) rfl ?_
        refine V_iincN hx dX1_sumAmounts_21 1 rfl [(2, .int (iZ (((i + 1 : Nat) : Int)))), (1, .int (iZ ((sm i (T 1)) + (T 1 i)))), (0, .ref (ad (ix k 0)))] (by decide) rfl ?_
        refine V_goto hx dX1_sumAmounts_24 4 (by decide) ?_
        refine V_sub (lv' := [(2, .int (iZ (((i + 1 : Nat) : Int)))), (1, .int (iZ ((sm i (T 1)) + (T 1 i)))), (0, .ref (ad (ix k 0)))]) [0, 1, 2] rfl ?_
        refine V_lv (lv' := [(2, .int (iZ ((i + 1 : Nat) : Int))), (1, .int (iZ (sm (i + 1) (T 1)))), (0, .ref (ad (ix k 0)))]) rfl ?_
        exact ih (i + 1) (by omega) (by omega)
  refine V_ws (ws' := SW g ad P k T) rfl ?_
  exact V_sub [0, 1, 2] rfl (hL4 (nd T + 1) 0 (by omega) (by omega))
theorem rg_sh {T : TS} (h : RG T) (i : Nat) : RG (shT T i) := by
  intro a b
  unfold shT
  split
  · exact h _ _
  · exact h _ _
set_option maxHeartbeats 4000000 in
set_option maxRecDepth 100000 in
theorem m_keepClosing (l : Launch) {g : GT} {ad : Nat → Nat} {P : Nat → TS} {k : Nat} (hk : k < 2) (T : TS) (hT : RG T) (hn0 : 0 ≤ T 0 0) (hn8 : T 0 0 ≤ 8) {c w : Int} (hc : rg c) (hw : rg w) : MV l yX1_keepClosing cX1_keepClosing 4 (rmN 1) g [.ref (ad (ix k 0)), .int (iZ (c)), .int (iZ (w))] (SW g ad P k T) (fun ws9 => ws9 = SW g ad P k (kcT T c w)) := by
  refine MV.of (own := RX1) (by decide) rfl (Nat.le_of_ble_eq_true rfl) (fun x hx hE => ?_)
  refine V_lv (lv' := [(0, .ref (ad (ix k 0))), (1, .int (iZ (c))), (2, .int (iZ (w)))]) rfl ?_
  refine V_bipush hx dX1_keepClosing_0 rfl ?_
  refine V_istore_n hx dX1_keepClosing_2 [(3, .int (iZ (9))), (0, .ref (ad (ix k 0))), (1, .int (iZ (c))), (2, .int (iZ (w)))] (by decide) rfl ?_
  have hL3 : ∀ (n : Nat) (i : Nat), i < n → i ≤ 9 → V x 0 0 (SW g ad P k (shT T i)) 3 [(3, .int (iZ ((i : Int)))), (0, .ref (ad (ix k 0))), (1, .int (iZ (c))), (2, .int (iZ (w)))] [] := by
    intro n
    induction n with
    | zero =>
      intro i g1 g2 
      exact absurd g1 (by omega)
    | succ n ih =>
      intro i g1 g2 
      refine V_iload_n hx dX1_keepClosing_3 0 rfl ?_
      refine V_if_le hx dX1_keepClosing_4 55 (by decide) ⟨by omega, by omega⟩ (fun h4 => ?_) (fun h4 => ?_)
      · refine V_aload_n hx dX1_keepClosing_55 1 rfl ?_
        refine gf_X1_29 hx (ix k 0) (SW_shop hk) rfl dX1_keepClosing_56 ?_
        refine V_iconst hx dX1_keepClosing_59 ?_
        refine V_iload_n hx dX1_keepClosing_60 2 rfl ?_
        refine V_iast hx (by decide) (by decide) (by decide) (ix k 4) (SW_10 hk (by decide)) (SW g ad P k (pt (shT T i) (4) (0) (c))) (SW_s10 (by decide)) dX1_keepClosing_61 ?_
        refine V_aload_n hx dX1_keepClosing_62 1 rfl ?_
        refine gf_X1_32 hx (ix k 0) (SW_shop hk) rfl dX1_keepClosing_63 ?_
        refine V_iconst hx dX1_keepClosing_66 ?_
        refine V_iload_n hx dX1_keepClosing_67 3 rfl ?_
        refine V_iast hx (by decide) (by decide) (by decide) (ix k 5) (SW_10 hk (by decide)) (SW g ad P k (pt (pt (shT T i) (4) (0) (c)) (5) (0) (w))) (SW_s10 (by decide)) dX1_keepClosing_68 ?_
        refine V_aload_n hx dX1_keepClosing_69 1 rfl ?_
        refine gf_X1_35 hx (ix k 0) (SW_shop hk) rfl dX1_keepClosing_70 ?_
        refine V_iconst hx dX1_keepClosing_73 ?_
        refine V_aload_n hx dX1_keepClosing_74 1 rfl ?_
        refine V_calli hx (m_sumAmounts l hk (pt (pt (shT T i) (4) (0) (c)) (5) (0) (w)) (rg_pt (rg_pt (rg_sh hT i) (by first | assumption | exact hT _ _ | exact ⟨by omega, by omega⟩)) (by first | assumption | exact hT _ _ | exact ⟨by omega, by omega⟩)) (by first | omega | exact hn0) (by first | omega | exact hn8)) cw_X1_55 (RMn (by decide) (by decide)) rfl (ix k 0) (SW_shop hk) rfl rfl (Nat.le_of_ble_eq_true rfl) dX1_keepClosing_75 0 0 rfl rfl (fun z1 ws1 e1 => ?_)
        obtain ⟨rfl, rfl⟩ := e1
        refine V_iast hx (by decide) (by decide) (by decide) (ix k 6) (SW_10 hk (by decide)) (SW g ad P k (pt (pt (pt (shT T i) (4) (0) (c)) (5) (0) (w)) (6) (0) (sm (nd (pt (pt (shT T i) (4) (0) (c)) (5) (0) (w))) ((pt (pt (shT T i) (4) (0) (c)) (5) (0) (w)) 1)))) (SW_s10 (by decide)) dX1_keepClosing_78 ?_
        exact hE _ _ _ dX1_keepClosing_79 (by rw [show i = 0 by omega]; rfl)
      · refine V_aload_n hx dX1_keepClosing_7 1 rfl ?_
        refine gf_X1_29 hx (ix k 0) (SW_shop hk) rfl dX1_keepClosing_8 ?_
        refine V_iload_n hx dX1_keepClosing_11 0 rfl ?_
        refine V_aload_n hx dX1_keepClosing_12 1 rfl ?_
        refine gf_X1_29 hx (ix k 0) (SW_shop hk) rfl dX1_keepClosing_13 ?_
        refine V_iload_n hx dX1_keepClosing_16 0 rfl ?_
        refine V_iconst hx dX1_keepClosing_17 ?_
        refine V_isub hx dX1_keepClosing_18 ?_
        refine V_iald hx (by omega) (by omega) (by decide) (ix k 4) (SW_10 hk (by decide)) (v := (shT T i) 4 (((i : Int) - 1).toNat)) rfl dX1_keepClosing_19 ?_
        refine V_iast hx (by omega) (by omega) (by decide) (ix k 4) (SW_10 hk (by decide)) (SW g ad P k (pt (shT T i) (4) (i) ((shT T i) 4 (((i : Int) - 1).toNat)))) (SW_s10 (by decide)) dX1_keepClosing_20 ?_
        refine V_aload_n hx dX1_keepClosing_21 1 rfl ?_
        refine gf_X1_32 hx (ix k 0) (SW_shop hk) rfl dX1_keepClosing_22 ?_
        refine V_iload_n hx dX1_keepClosing_25 0 rfl ?_
        refine V_aload_n hx dX1_keepClosing_26 1 rfl ?_
        refine gf_X1_32 hx (ix k 0) (SW_shop hk) rfl dX1_keepClosing_27 ?_
        refine V_iload_n hx dX1_keepClosing_30 0 rfl ?_
        refine V_iconst hx dX1_keepClosing_31 ?_
        refine V_isub hx dX1_keepClosing_32 ?_
        refine V_iald hx (by omega) (by omega) (by decide) (ix k 5) (SW_10 hk (by decide)) (v := (shT T i) 5 (((i : Int) - 1).toNat)) (by show iZ _ = iZ _; rw [pt_ne _ _ (Or.inl (by omega))] <;> rfl) dX1_keepClosing_33 ?_
        refine V_iast hx (by omega) (by omega) (by decide) (ix k 5) (SW_10 hk (by decide)) (SW g ad P k (pt (pt (shT T i) (4) (i) ((shT T i) 4 (((i : Int) - 1).toNat))) (5) (i) ((shT T i) 5 (((i : Int) - 1).toNat)))) (SW_s10 (by decide)) dX1_keepClosing_34 ?_
        refine V_aload_n hx dX1_keepClosing_35 1 rfl ?_
        refine gf_X1_35 hx (ix k 0) (SW_shop hk) rfl dX1_keepClosing_36 ?_
        refine V_iload_n hx dX1_keepClosing_39 0 rfl ?_
        refine V_aload_n hx dX1_keepClosing_40 1 rfl ?_
        refine gf_X1_35 hx (ix k 0) (SW_shop hk) rfl dX1_keepClosing_41 ?_
        refine V_iload_n hx dX1_keepClosing_44 0 rfl ?_
        refine V_iconst hx dX1_keepClosing_45 ?_
        refine V_isub hx dX1_keepClosing_46 ?_
        refine V_iald hx (by omega) (by omega) (by decide) (ix k 6) (SW_10 hk (by decide)) (v := (shT T i) 6 (((i : Int) - 1).toNat)) (by show iZ _ = iZ _; rw [pt_ne _ _ (Or.inl (by omega)), pt_ne _ _ (Or.inl (by omega))] <;> rfl) dX1_keepClosing_47 ?_
        refine V_iast hx (by omega) (by omega) (by decide) (ix k 6) (SW_10 hk (by decide)) (SW g ad P k (pt (pt (pt (shT T i) (4) (i) ((shT T i) 4 (((i : Int) - 1).toNat))) (5) (i) ((shT T i) 5 (((i : Int) - 1).toNat))) (6) (i) ((shT T i) 6 (((i : Int) - 1).toNat)))) (SW_s10 (by decide)) dX1_keepClosing_48 ?_
        refine V_iinc hx dX1_keepClosing_49 0 rfl [(3, .int (iZ ((i : Int) + (-1)))), (0, .ref (ad (ix k 0))), (1, .int (iZ (c))), (2, .int (iZ (w)))] (by decide) rfl ?_
        refine V_goto hx dX1_keepClosing_52 3 (by decide) ?_
        refine V_ws (ws' := SW g ad P k (shT T (i - 1))) (congrArg (SW g ad P k) (by funext a b; simp only [pt, shT]; (repeat' split) <;> first | rfl | omega | grind)) ?_
        refine V_sub (lv' := [(3, .int (iZ ((i : Int) + (-1)))), (0, .ref (ad (ix k 0))), (1, .int (iZ (c))), (2, .int (iZ (w)))]) [0, 1, 2, 3] rfl ?_
        refine V_lv (lv' := [(3, .int (iZ (((i - 1 : Nat)) : Int))), (0, .ref (ad (ix k 0))), (1, .int (iZ (c))), (2, .int (iZ (w)))]) (by rw [show (i : Int) + (-1) = ((i - 1 : Nat) : Int) by omega]) ?_
        exact ih (i - 1) (by omega) (by omega)
  refine V_ws (ws' := SW g ad P k (shT T 9)) (congrArg (SW g ad P k) (by funext a b; simp only [shT]; (repeat' split) <;> first | rfl | omega | grind)) ?_
  exact V_sub [0, 1, 2, 3] rfl (hL3 (10) 9 (by omega) (by omega))
set_option maxHeartbeats 4000000 in
set_option maxRecDepth 100000 in
theorem m_pay (l : Launch) {g : GT} {ad : Nat → Nat} {P : Nat → TS} {k : Nat} (hk : k < 2) (T : TS) (hT : RG T) (hn0 : 0 ≤ T 0 0) (hn8 : T 0 0 ≤ 8) (hcl : 0 ≤ T 0 2) (hcM : T 0 2 < 2147483647) {d : Int} (hd0 : 0 ≤ d) (hd8 : d < 8) {v : Int} (hv : rg v) : MV l yX1_payByHand cX1_payByHand 3 (rmN 2) g [.ref (ad (ix k 0)), .int (iZ (d)), .int (iZ (v))] (SW g ad P k T) (fun ws9 => ws9 = SW g ad P k (pyT T d.toNat v)) := by
  refine MV.of (own := RX1) (by decide) rfl (Nat.le_of_ble_eq_true rfl) (fun x hx hE => ?_)
  refine V_lv (lv' := [(0, .ref (ad (ix k 0))), (1, .int (iZ (d))), (2, .int (iZ (v)))]) rfl ?_
  refine V_aload_n hx dX1_payByHand_0 0 rfl ?_
  refine V_dup hx dX1_payByHand_1 rfl ?_
  refine gf_X1_41 hx (ix k 0) (SW_shop hk) rfl dX1_payByHand_2 ?_
  refine V_iconst hx dX1_payByHand_5 ?_
  refine V_iadd hx dX1_payByHand_6 ?_
  refine pf_X1_41 hx (ix k 0) (SW_shop hk) (Nat.le_of_ble_eq_true rfl) (SW g ad P k (pt T (0) (2) ((T 0 2) + 1))) SW_ss2 dX1_payByHand_7 ?_
  refine V_aload_n hx dX1_payByHand_10 0 rfl ?_
  refine gf_X1_15 hx (ix k 0) (SW_shop hk) rfl dX1_payByHand_11 ?_
  refine V_iload_n hx dX1_payByHand_14 1 rfl ?_
  refine V_iload_n hx dX1_payByHand_15 2 rfl ?_
  refine V_iast hx (by omega) (by omega) (by decide) (ix k 1) (SW_8 hk (Or.inl rfl) (by decide)) (SW g ad P k (pt (pt T (0) (2) ((T 0 2) + 1)) (1) (d.toNat) (v))) (SW_s8 (Or.inl rfl) (by decide)) dX1_payByHand_16 ?_
  refine V_aload_n hx dX1_payByHand_17 0 rfl ?_
  refine gf_X1_19 hx (ix k 0) (SW_shop hk) rfl dX1_payByHand_18 ?_
  refine V_iload_n hx dX1_payByHand_21 1 rfl ?_
  refine V_aload_n hx dX1_payByHand_22 0 rfl ?_
  refine gf_X1_41 hx (ix k 0) (SW_shop hk) rfl dX1_payByHand_23 ?_
  refine V_top (b := (T 0 2) + 1) (by rw [pt_ne _ _ (Or.inl (by omega)), pt_at]) ?_
  refine V_iast hx (by omega) (by omega) (by decide) (ix k 2) (SW_8 hk (Or.inr (Or.inl rfl)) (by decide)) (SW g ad P k (pt (pt (pt T (0) (2) ((T 0 2) + 1)) (1) (d.toNat) (v)) (2) (d.toNat) ((T 0 2) + 1))) (SW_s8 (Or.inr (Or.inl rfl)) (by decide)) dX1_payByHand_26 ?_
  refine V_aload_n hx dX1_payByHand_27 0 rfl ?_
  refine V_iconst hx dX1_payByHand_28 ?_
  refine V_iconst hx dX1_payByHand_29 ?_
  refine V_callv hx (m_keepClosing l hk (pt (pt (pt T (0) (2) ((T 0 2) + 1)) (1) (d.toNat) (v)) (2) (d.toNat) ((T 0 2) + 1)) (rg_pt (rg_pt (rg_pt hT (by first | assumption | exact hT _ _ | exact ⟨by omega, by omega⟩)) (by first | assumption | exact hT _ _ | exact ⟨by omega, by omega⟩)) (by first | assumption | exact hT _ _ | exact ⟨by omega, by omega⟩)) (by rw [pt_ne _ _ (Or.inl (by omega)), pt_ne _ _ (Or.inl (by omega)), pt_ne _ _ (Or.inr (by omega))]; first | omega | assumption) (by rw [pt_ne _ _ (Or.inl (by omega)), pt_ne _ _ (Or.inl (by omega)), pt_ne _ _ (Or.inr (by omega))]; first | omega | assumption) (c := (-1)) (w := 1) ⟨by decide, by decide⟩ ⟨by decide, by decide⟩) cw_X1_51 (RMn (by decide) (by decide)) rfl (ix k 0) (SW_shop hk) rfl rfl (Nat.le_of_ble_eq_true rfl) dX1_payByHand_30 0 0 rfl rfl (fun ws1 e1 => ?_)
  subst e1
  exact hE _ _ _ dX1_payByHand_33 rfl
end
section
/-! the class Shop, on: steps, turns, closings -/
theorem rdT_ne {T : TS} {q d a b : Nat} (h1 : a ≠ q + 5) (h2 : a ≠ q + 6) : rdT T q d a b = T a b := by
  unfold rdT
  (repeat' split) <;> first | rfl | (rw [pt_ne _ _ (Or.inl h2), pt_ne _ _ (Or.inl h1)])
theorem rg_rdT {T : TS} (h : RG T) {q d : Nat} : RG (rdT T q d) := by
  unfold rdT
  (repeat' split) <;> first | exact h | exact rg_pt (rg_pt h (h _ _)) (h _ _)
def VB (T : TS) (q : Nat) : Prop := ∀ d, d < 8 → (-1 ≤ T 1 d ∧ T 1 d ≤ 9999) ∧ (-1 ≤ T (q + 5) d ∧ T (q + 5) d ≤ 9999) ∧ (-1 ≤ T (q + 7) d ∧ T (q + 7) d ≤ 9999)
theorem vb_rdV {T : TS} {q d : Nat} (h : VB T q) (hd : d < 8) : -1 ≤ rdV T q d ∧ rdV T q d ≤ 9999 := by
  obtain ⟨h1, h2, h3⟩ := h d hd
  unfold rdV
  (repeat' split) <;> omega
theorem vb_rdT {T : TS} {q d : Nat} (hq : isQ q) (h : VB T q) (hd : d < 8) : VB (rdT T q d) q := by
  have hq7 := hq.1
  intro a ha
  have h1 := h a ha
  have h2 := h d hd
  unfold rdT
  (repeat' split) <;> first | exact h1 | (simp only [pt]; grind)
theorem hl_b (a : Int) : 0 ≤ hl a ∧ hl a ≤ 9999 := by unfold hl; (repeat' split) <;> omega
theorem clL_ne {T : TS} {q i : Nat} {z : Int} {a b : Nat} (h1 : a ≠ 1) (h2 : a ≠ 2) : clL T q i z a b = T a b := by
  unfold clL
  rw [if_neg (fun h => h1 h.1), if_neg (fun h => h2 h.1)]
theorem rg_clL {T : TS} (h : RG T) {q i : Nat} {z : Int} (hz : rg z) : RG (clL T q i z) := by
  intro a b
  unfold clL
  (repeat' split) <;> first | exact h _ _ | exact hz
theorem cyT_ne {T : TS} {q d e : Nat} {b9 : Int} {a b : Nat} (h1 : a ≠ q + 5) (h2 : a ≠ q + 6) (h3 : a ≠ q + 7) : cyT T q d e b9 a b = T a b := by
  unfold cyT
  split
  · exact rdT_ne h1 h2
  · rw [pt_ne _ _ (Or.inl h3), pt_ne _ _ (Or.inl h3), rdT_ne h1 h2, rdT_ne h1 h2]
theorem dsT_ne {T : TS} {q p a b : Nat} (h1 : a ≠ q + 5) (h2 : a ≠ q + 6) (h3 : a ≠ q + 7) : dsT T q p a b = T a b := by
  unfold dsT
  (repeat' split)
  · exact rdT_ne h1 h2
  · exact pt_ne _ _ (Or.inl h3)
  · rw [pt_ne _ _ (Or.inl h3), rdT_ne h1 h2]
  · exact cyT_ne h1 h2 h3
def TKok (T : TS) (q : Nat) : Prop := (0 ≤ T 0 0 ∧ T 0 0 ≤ 8) ∧ (0 ≤ T q 1 ∧ T q 0 ≤ 8) ∧ (T q 1 < T q 0 → (0 ≤ T (q + 2) (T q 1).toNat ∧ T (q + 2) (T q 1).toNat < 8) ∧ (0 ≤ T (q + 3) (T q 1).toNat ∧ T (q + 3) (T q 1).toNat < 8) ∧ (-999 ≤ T (q + 4) (T q 1).toNat ∧ T (q + 4) (T q 1).toNat ≤ 999)) ∧ VB T q ∧ (0 ≤ T q 3 ∧ T q 3 < 2147483647) ∧ (0 ≤ T 0 2 ∧ T 0 2 < 2147483647)
theorem sm_b {f : Nat → Int} (h : ∀ d, 0 ≤ f d ∧ f d ≤ 1) : ∀ n : Nat, 0 ≤ sm n f ∧ sm n f ≤ n
  | 0 => ⟨Int.le_refl 0, Int.le_refl 0⟩
  | n + 1 => by
    have h1 := sm_b h n
    have h2 := h n
    show 0 ≤ sm n f + f n ∧ sm n f + f n ≤ ((n + 1 : Nat) : Int)
    omega
theorem bz_b (c : Prop) : 0 ≤ bz c ∧ bz c ≤ 1 := by rcases bz_01 c with h | h <;> rw [h] <;> decide
theorem wrF_b (T : TS) (q : Nat) : 0 ≤ sm 8 (wrF T q) ∧ sm 8 (wrF T q) ≤ 8 := sm_b (fun d => bz_b _) 8
theorem wrF_cl {T : TS} {q i : Nat} {z z' : Int} (hq : isQ q) : wrF (pt (clL (pt T 0 2 z) q i z') q 2 1) q = wrF T q := by
  have hq7 := hq.1
  funext d
  unfold wrF
  rw [pt_ne _ _ (Or.inl (by omega)), clL_ne (by omega) (by omega), pt_ne _ _ (Or.inl (by omega))]
theorem rg_tkV (T : TS) (c : Nat) : rg (tkV T c) := by
  unfold tkV
  (repeat' split) <;> exact ⟨by decide, by decide⟩
set_option maxHeartbeats 4000000 in
set_option maxRecDepth 100000 in
theorem m_carry (l : Launch) {g : GT} {ad : Nat → Nat} {P : Nat → TS} {k : Nat} (hk : k < 2) (T : TS) (hT : RG T) {q : Nat} (hq : isQ q) (hv : VB T q) {d e b : Int} (hd0 : 0 ≤ d) (hd8 : d < 8) (he0 : 0 ≤ e) (he8 : e < 8) (hb0 : -999 ≤ b) (hb9 : b ≤ 999) : MV l yX1_carry cX1_carry 7 (rmN 2) g [.ref (ad (ix k 0)), .ref (ad (ix k q)), .int (iZ (d)), .int (iZ (e)), .int (iZ (b))] (SW g ad P k T) (fun ws9 => ws9 = SW g ad P k (cyT T q d.toNat e.toNat b)) := by
  refine MV.of (own := RX1) (by decide) rfl (Nat.le_of_ble_eq_true rfl) (fun x hx hE => ?_)
  have hq7 := hq.1
  have hq8 := hq.2
  refine V_lv (lv' := [(0, .ref (ad (ix k 0))), (1, .ref (ad (ix k q))), (2, .int (iZ (d))), (3, .int (iZ (e))), (4, .int (iZ (b)))]) rfl ?_
  refine V_aload_n hx dX1_carry_0 0 rfl ?_
  refine V_aload_n hx dX1_carry_1 1 rfl ?_
  refine V_iload_n hx dX1_carry_2 2 rfl ?_
  refine V_calli hx (m_read l hk T hT (q := q) hq (d := d) (by omega) (by omega)) cw_X1_91 (RMn (by decide) (by decide)) rfl (ix k 0) (SW_shop hk) rfl rfl (Nat.le_of_ble_eq_true rfl) dX1_carry_3 0 0 rfl rfl (fun z1 ws1 e1 => ?_)
  obtain ⟨rfl, rfl⟩ := e1
  have b1 := vb_rdV hv (d := d.toNat) (by omega)
  refine V_istore hx dX1_carry_6 [(5, .int (iZ (rdV T q d.toNat))), (0, .ref (ad (ix k 0))), (1, .ref (ad (ix k q))), (2, .int (iZ (d))), (3, .int (iZ (e))), (4, .int (iZ (b)))] (by decide) rfl ?_
  refine V_iload hx dX1_carry_8 0 rfl ?_
  refine V_iload hx dX1_carry_10 5 rfl ?_
  refine V_icmp_ge hx dX1_carry_12 16 (by decide) (by first | assumption | exact hT _ _ | exact ⟨by omega, by omega⟩) (by first | assumption | exact hT _ _ | exact ⟨by omega, by omega⟩) (fun h12 => ?_) (fun h12 => ?_)
  · refine V_aload_n hx dX1_carry_16 1 rfl ?_
    refine V_aload_n hx dX1_carry_17 2 rfl ?_
    refine V_iload_n hx dX1_carry_18 4 rfl ?_
    refine V_calli hx (m_read l hk (rdT T q d.toNat) (rg_rdT hT) (q := q) hq (d := e) (by omega) (by omega)) cw_X1_91 (RMn (by decide) (by decide)) rfl (ix k 0) (SW_shop hk) rfl rfl (Nat.le_of_ble_eq_true rfl) dX1_carry_19 0 0 rfl rfl (fun z2 ws2 e2 => ?_)
    obtain ⟨rfl, rfl⟩ := e2
    have b2 := vb_rdV (vb_rdT hq hv (d := d.toNat) (by omega)) (d := e.toNat) (by omega)
    refine V_istore hx dX1_carry_22 [(6, .int (iZ (rdV (rdT T q d.toNat) q e.toNat))), (5, .int (iZ (rdV T q d.toNat))), (0, .ref (ad (ix k 0))), (1, .ref (ad (ix k q))), (2, .int (iZ (d))), (3, .int (iZ (e))), (4, .int (iZ (b)))] (by decide) rfl ?_
    refine V_aload_n hx dX1_carry_24 3 rfl ?_
    refine gf_X1_95 hx (ix k q) (SW_clk hk hq) rfl dX1_carry_25 ?_
    refine V_iload_n hx dX1_carry_28 4 rfl ?_
    refine V_iload hx dX1_carry_29 1 rfl ?_
    refine V_iload hx dX1_carry_31 6 rfl ?_
    refine V_isub hx dX1_carry_33 ?_
    refine V_iast hx (by omega) (by omega) (by decide) (ix k (q + 7)) (SW_c8 hk hq 7 (by decide)) (SW g ad P k (pt (rdT (rdT T q d.toNat) q e.toNat) (q + 7) (d.toNat) ((rdV T q d.toNat) - b))) (SW_sc8 hq 7 (by decide)) dX1_carry_34 ?_
    refine V_aload_n hx dX1_carry_35 3 rfl ?_
    refine gf_X1_95 hx (ix k q) (SW_clk hk hq) rfl dX1_carry_36 ?_
    refine V_iload_n hx dX1_carry_39 5 rfl ?_
    refine V_iload hx dX1_carry_40 0 rfl ?_
    refine V_iload hx dX1_carry_42 6 rfl ?_
    refine V_iadd hx dX1_carry_44 ?_
    refine V_callSi hx (m_held l (P := P) (k := k) (pt (rdT (rdT T q d.toNat) q e.toNat) (q + 7) (d.toNat) ((rdV T q d.toNat) - b)) (a := (rdV (rdT T q d.toNat) q e.toNat) + b) (by first | assumption | exact hT _ _ | exact ⟨by omega, by omega⟩)) cw_X1_98 (RMn (by decide) (by decide)) rfl rfl (Nat.le_of_ble_eq_true rfl) dX1_carry_45 0 0 rfl rfl (fun z3 ws3 e3 => ?_)
    obtain ⟨rfl, rfl⟩ := e3
    refine V_iast hx (by omega) (by omega) (by decide) (ix k (q + 7)) (SW_c8 hk hq 7 (by decide)) (SW g ad P k (pt (pt (rdT (rdT T q d.toNat) q e.toNat) (q + 7) (d.toNat) ((rdV T q d.toNat) - b)) (q + 7) (e.toNat) (hl ((rdV (rdT T q d.toNat) q e.toNat) + b)))) (SW_sc8 hq 7 (by decide)) dX1_carry_48 ?_
    exact hE _ _ _ dX1_carry_49 (by rw [cyT, if_neg (by omega)])
  · exact hE _ _ _ dX1_carry_15 (by rw [cyT, if_pos (by omega)])
set_option maxHeartbeats 4000000 in
set_option maxRecDepth 100000 in
theorem m_doStep (l : Launch) {g : GT} {ad : Nat → Nat} {P : Nat → TS} {k : Nat} (hk : k < 2) (T : TS) (hT : RG T) {q : Nat} (hq : isQ q) (hv : VB T q) (hp0 : 0 ≤ T q 1) (hp8 : T q 1 < 8) (hd0 : 0 ≤ T (q + 2) (T q 1).toNat) (hd8 : T (q + 2) (T q 1).toNat < 8) (he0 : 0 ≤ T (q + 3) (T q 1).toNat) (he8 : T (q + 3) (T q 1).toNat < 8) (hb0 : -999 ≤ T (q + 4) (T q 1).toNat) (hb9 : T (q + 4) (T q 1).toNat ≤ 999) : MV l yX1_doStep cX1_doStep 4 (rmN 3) g [.ref (ad (ix k 0)), .ref (ad (ix k q))] (SW g ad P k T) (fun ws9 => ws9 = SW g ad P k (dsT T q (T q 1).toNat)) := by
  refine MV.of (own := RX1) (by decide) rfl (Nat.le_of_ble_eq_true rfl) (fun x hx hE => ?_)
  have hq7 := hq.1
  have hq8 := hq.2
  refine V_lv (lv' := [(0, .ref (ad (ix k 0))), (1, .ref (ad (ix k q)))]) rfl ?_
  refine V_aload_n hx dX1_doStep_0 1 rfl ?_
  refine gf_X1_82 hx (ix k q) (SW_clk hk hq) rfl dX1_doStep_1 ?_
  refine V_aload_n hx dX1_doStep_4 1 rfl ?_
  refine gf_X1_59 hx (ix k q) (SW_clk hk hq) rfl dX1_doStep_5 ?_
  refine V_iald hx (by omega) (by omega) (by decide) (ix k (q + 2)) (SW_c8 hk hq 2 (by decide)) (v := T (q + 2) ((T q 1).toNat)) rfl dX1_doStep_8 ?_
  refine V_istore_n hx dX1_doStep_9 [(2, .int (iZ (T (q + 2) ((T q 1).toNat)))), (0, .ref (ad (ix k 0))), (1, .ref (ad (ix k q)))] (by decide) rfl ?_
  refine V_aload_n hx dX1_doStep_10 2 rfl ?_
  refine gf_X1_85 hx (ix k q) (SW_clk hk hq) rfl dX1_doStep_11 ?_
  refine V_aload_n hx dX1_doStep_14 2 rfl ?_
  refine gf_X1_59 hx (ix k q) (SW_clk hk hq) rfl dX1_doStep_15 ?_
  refine V_iald hx (by omega) (by omega) (by decide) (ix k (q + 4)) (SW_c8 hk hq 4 (by decide)) (v := T (q + 4) ((T q 1).toNat)) rfl dX1_doStep_18 ?_
  refine V_istore_n hx dX1_doStep_19 [(3, .int (iZ (T (q + 4) ((T q 1).toNat)))), (2, .int (iZ (T (q + 2) ((T q 1).toNat)))), (0, .ref (ad (ix k 0))), (1, .ref (ad (ix k q)))] (by decide) rfl ?_
  refine V_aload_n hx dX1_doStep_20 3 rfl ?_
  refine gf_X1_88 hx (ix k q) (SW_clk hk hq) rfl dX1_doStep_21 ?_
  refine V_aload_n hx dX1_doStep_24 3 rfl ?_
  refine gf_X1_59 hx (ix k q) (SW_clk hk hq) rfl dX1_doStep_25 ?_
  refine V_iald hx (by omega) (by omega) (by decide) (ix k (q + 1)) (SW_c8 hk hq 1 (by decide)) (v := T (q + 1) ((T q 1).toNat)) rfl dX1_doStep_28 ?_
  by_cases h29_0 : T (q + 1) ((T q 1).toNat) = 0
  · refine V_tabIn hx dX1_doStep_29 (by first | assumption | exact hT _ _ | exact ⟨by omega, by omega⟩) (by omega) (by omega) (off := 27) (by rw [h29_0]; rfl) 56 (by decide) ?_
    refine V_aload_n hx dX1_doStep_56 2 rfl ?_
    refine V_aload_n hx dX1_doStep_57 3 rfl ?_
    refine V_iload_n hx dX1_doStep_58 1 rfl ?_
    refine V_calli hx (m_read l hk T hT (q := q) hq (d := T (q + 2) ((T q 1).toNat)) (by omega) (by omega)) cw_X1_91 (RMn (by decide) (by decide)) rfl (ix k 0) (SW_shop hk) rfl rfl (Nat.le_of_ble_eq_true rfl) dX1_doStep_59 0 0 rfl rfl (fun z1 ws1 e1 => ?_)
    obtain ⟨rfl, rfl⟩ := e1
    refine V_pop hx dX1_doStep_62 rfl ?_
    refine V_goto hx dX1_doStep_63 112 (by decide) ?_
    exact hE _ _ _ dX1_doStep_112 (congrArg (SW g ad P k) (by unfold dsT; first | rw [if_pos h29_0] | rw [if_neg h29_0, if_pos h29_1] | rw [if_neg h29_0, if_neg h29_1, if_pos h29_2] | rw [if_neg h29_0, if_neg h29_1, if_neg h29_2]))
  by_cases h29_1 : T (q + 1) ((T q 1).toNat) = 1
  · refine V_tabIn hx dX1_doStep_29 (by first | assumption | exact hT _ _ | exact ⟨by omega, by omega⟩) (by omega) (by omega) (off := 37) (by rw [h29_1]; rfl) 66 (by decide) ?_
    refine V_aload_n hx dX1_doStep_66 3 rfl ?_
    refine gf_X1_95 hx (ix k q) (SW_clk hk hq) rfl dX1_doStep_67 ?_
    refine V_iload_n hx dX1_doStep_70 1 rfl ?_
    refine V_iload_n hx dX1_doStep_71 0 rfl ?_
    refine V_iast hx (by omega) (by omega) (by decide) (ix k (q + 7)) (SW_c8 hk hq 7 (by decide)) (SW g ad P k (pt T (q + 7) ((T (q + 2) ((T q 1).toNat)).toNat) (T (q + 4) ((T q 1).toNat)))) (SW_sc8 hq 7 (by decide)) dX1_doStep_72 ?_
    refine V_goto hx dX1_doStep_73 112 (by decide) ?_
    exact hE _ _ _ dX1_doStep_112 (congrArg (SW g ad P k) (by unfold dsT; first | rw [if_pos h29_0] | rw [if_neg h29_0, if_pos h29_1] | rw [if_neg h29_0, if_neg h29_1, if_pos h29_2] | rw [if_neg h29_0, if_neg h29_1, if_neg h29_2]))
  by_cases h29_2 : T (q + 1) ((T q 1).toNat) = 2
  · refine V_tabIn hx dX1_doStep_29 (by first | assumption | exact hT _ _ | exact ⟨by omega, by omega⟩) (by omega) (by omega) (off := 47) (by rw [h29_2]; rfl) 76 (by decide) ?_
    refine V_aload_n hx dX1_doStep_76 3 rfl ?_
    refine gf_X1_95 hx (ix k q) (SW_clk hk hq) rfl dX1_doStep_77 ?_
    refine V_iload_n hx dX1_doStep_80 1 rfl ?_
    refine V_aload_n hx dX1_doStep_81 2 rfl ?_
    refine V_aload_n hx dX1_doStep_82 3 rfl ?_
    refine V_iload_n hx dX1_doStep_83 1 rfl ?_
    refine V_calli hx (m_read l hk T hT (q := q) hq (d := T (q + 2) ((T q 1).toNat)) (by omega) (by omega)) cw_X1_91 (RMn (by decide) (by decide)) rfl (ix k 0) (SW_shop hk) rfl rfl (Nat.le_of_ble_eq_true rfl) dX1_doStep_84 0 0 rfl rfl (fun z2 ws2 e2 => ?_)
    obtain ⟨rfl, rfl⟩ := e2
    have b1 := vb_rdV hv (d := (T (q + 2) (T q 1).toNat).toNat) (by omega)
    refine V_iload_n hx dX1_doStep_87 0 rfl ?_
    refine V_iadd hx dX1_doStep_88 ?_
    refine V_callSi hx (m_held l (P := P) (k := k) (rdT T q ((T (q + 2) ((T q 1).toNat)).toNat)) (a := (rdV T q ((T (q + 2) ((T q 1).toNat)).toNat)) + (T (q + 4) ((T q 1).toNat))) (by first | assumption | exact hT _ _ | exact ⟨by omega, by omega⟩)) cw_X1_98 (RMn (by decide) (by decide)) rfl rfl (Nat.le_of_ble_eq_true rfl) dX1_doStep_89 0 0 rfl rfl (fun z3 ws3 e3 => ?_)
    obtain ⟨rfl, rfl⟩ := e3
    refine V_iast hx (by omega) (by omega) (by decide) (ix k (q + 7)) (SW_c8 hk hq 7 (by decide)) (SW g ad P k (pt (rdT T q ((T (q + 2) ((T q 1).toNat)).toNat)) (q + 7) ((T (q + 2) ((T q 1).toNat)).toNat) (hl ((rdV T q ((T (q + 2) ((T q 1).toNat)).toNat)) + (T (q + 4) ((T q 1).toNat)))))) (SW_sc8 hq 7 (by decide)) dX1_doStep_92 ?_
    refine V_goto hx dX1_doStep_93 112 (by decide) ?_
    exact hE _ _ _ dX1_doStep_112 (congrArg (SW g ad P k) (by unfold dsT; first | rw [if_pos h29_0] | rw [if_neg h29_0, if_pos h29_1] | rw [if_neg h29_0, if_neg h29_1, if_pos h29_2] | rw [if_neg h29_0, if_neg h29_1, if_neg h29_2]))
  refine V_tabOut hx dX1_doStep_29 (by first | assumption | exact hT _ _ | exact ⟨by omega, by omega⟩) (by omega) 96 (by decide) ?_
  refine V_aload_n hx dX1_doStep_96 2 rfl ?_
  refine V_aload_n hx dX1_doStep_97 3 rfl ?_
  refine V_iload_n hx dX1_doStep_98 1 rfl ?_
  refine V_aload_n hx dX1_doStep_99 3 rfl ?_
  refine gf_X1_102 hx (ix k q) (SW_clk hk hq) rfl dX1_doStep_100 ?_
  refine V_aload_n hx dX1_doStep_103 3 rfl ?_
  refine gf_X1_59 hx (ix k q) (SW_clk hk hq) rfl dX1_doStep_104 ?_
  refine V_iald hx (by omega) (by omega) (by decide) (ix k (q + 3)) (SW_c8 hk hq 3 (by decide)) (v := T (q + 3) ((T q 1).toNat)) rfl dX1_doStep_107 ?_
  refine V_iload_n hx dX1_doStep_108 0 rfl ?_
  refine V_callv hx (m_carry l hk T hT (q := q) hq hv (d := T (q + 2) ((T q 1).toNat)) (e := T (q + 3) ((T q 1).toNat)) (b := T (q + 4) ((T q 1).toNat)) (by omega) (by omega) (by omega) (by omega) (by omega) (by omega)) cw_X1_105 (RMn (by decide) (by decide)) rfl (ix k 0) (SW_shop hk) rfl rfl (Nat.le_of_ble_eq_true rfl) dX1_doStep_109 0 0 rfl rfl (fun ws4 e4 => ?_)
  subst e4
  exact hE _ _ _ dX1_doStep_112 (congrArg (SW g ad P k) (by unfold dsT; first | rw [if_pos h29_0] | rw [if_neg h29_0, if_pos h29_1] | rw [if_neg h29_0, if_neg h29_1, if_pos h29_2] | rw [if_neg h29_0, if_neg h29_1, if_neg h29_2]))
set_option maxHeartbeats 4000000 in
set_option maxRecDepth 100000 in
theorem m_close (l : Launch) {g : GT} {ad : Nat → Nat} {P : Nat → TS} {k : Nat} (hk : k < 2) (T : TS) (hT : RG T) (hn0 : 0 ≤ T 0 0) (hn8 : T 0 0 ≤ 8) {c : Int} (hc0 : 0 ≤ c) (hc6 : c < 6) (hl0 : 0 ≤ T 0 2) (hl9 : T 0 2 < 2147483647) : MV l yX1_close cX1_close 4 (rmN 2) g [.ref (ad (ix k 0)), .int (iZ (c))] (SW g ad P k T) (fun ws9 => ws9 = SW g ad P k (clT T (7 + 8 * c.toNat) c)) := by
  refine MV.of (own := RX1) (by decide) rfl (Nat.le_of_ble_eq_true rfl) (fun x hx hE => ?_)
  have hnd : ((nd T : Nat) : Int) = T 0 0 := Int.toNat_of_nonneg (by omega)
  have hr2 : rg (T 0 2 + 1) := ⟨by omega, by omega⟩
  refine V_lv (lv' := [(0, .ref (ad (ix k 0))), (1, .int (iZ (c)))]) rfl ?_
  refine V_aload_n hx dX1_close_0 0 rfl ?_
  refine gf_X1_24 hx (ix k 0) (SW_shop hk) rfl dX1_close_1 ?_
  refine V_iload_n hx dX1_close_4 1 rfl ?_
  refine V_aald hx (by omega) (by omega) (by decide) (ix k 3) (SW_refs hk) (r := ad (ix k (7 + 8 * c.toNat))) rfl dX1_close_5 ?_
  refine V_astore_n hx dX1_close_6 [(2, .ref (ad (ix k (7 + 8 * c.toNat)))), (0, .ref (ad (ix k 0))), (1, .int (iZ (c)))] (by decide) rfl ?_
  refine V_aload_n hx dX1_close_7 1 rfl ?_
  refine V_dup hx dX1_close_8 rfl ?_
  refine gf_X1_41 hx (ix k 0) (SW_shop hk) rfl dX1_close_9 ?_
  refine V_iconst hx dX1_close_12 ?_
  refine V_iadd hx dX1_close_13 ?_
  refine pf_X1_41 hx (ix k 0) (SW_shop hk) (Nat.le_of_ble_eq_true rfl) (SW g ad P k (pt T (0) (2) ((T 0 2) + 1))) SW_ss2 dX1_close_14 ?_
  refine V_iconst hx dX1_close_17 ?_
  refine V_istore_n hx dX1_close_18 [(3, .int (iZ (0))), (2, .ref (ad (ix k (7 + 8 * c.toNat)))), (0, .ref (ad (ix k 0))), (1, .int (iZ (c)))] (by decide) rfl ?_
  have hL19 : ∀ (n : Nat) (i : Nat), nd T < i + n → i ≤ nd T → V x 0 0 (SW g ad P k (clL (pt T 0 2 (T 0 2 + 1)) (7 + 8 * c.toNat) i (T 0 2 + 1))) 19 [(3, .int (iZ ((i : Int)))), (0, .ref (ad (ix k 0))), (1, .int (iZ (c))), (2, .ref (ad (ix k (7 + 8 * c.toNat))))] [] := by
    intro n
    induction n with
    | zero =>
      intro i g1 g2 
      exact absurd g1 (by omega)
    | succ n ih =>
      intro i g1 g2 
      refine V_iload_n hx dX1_close_19 0 rfl ?_
      refine V_aload_n hx dX1_close_20 1 rfl ?_
      refine gf_X1_9 hx (ix k 0) (SW_shop hk) rfl dX1_close_21 ?_
      refine V_top (b := T 0 0) (by rw [clL_ne (by omega) (by omega), pt_ne _ _ (Or.inr (by omega))]) ?_
      refine V_icmp_ge hx dX1_close_24 63 (by decide) ⟨by omega, by omega⟩ (by first | assumption | exact hT _ _ | exact ⟨by omega, by omega⟩) (fun h24 => ?_) (fun h24 => ?_)
      · refine V_aload_n hx dX1_close_63 3 rfl ?_
        refine V_iconst hx dX1_close_64 ?_
        refine pf_X1_128 hx rfl rfl (ix k (7 + 8 * c.toNat)) (SW_clk hk (isQ_c (by omega))) (Nat.le_of_ble_eq_true rfl) (SW g ad P k (pt (clL (pt T 0 2 (T 0 2 + 1)) (7 + 8 * c.toNat) i (T 0 2 + 1)) (7 + 8 * c.toNat) (2) (1))) (SW_sq2 (isQ_c (by omega))) dX1_close_65 ?_
        refine V_aload_n hx dX1_close_68 1 rfl ?_
        refine V_iload_n hx dX1_close_69 2 rfl ?_
        refine V_aload_n hx dX1_close_70 3 rfl ?_
        refine V_callNi hx (m_countWritten l hk (pt (clL (pt T 0 2 (T 0 2 + 1)) (7 + 8 * c.toNat) i (T 0 2 + 1)) (7 + 8 * c.toNat) (2) (1)) (rg_pt (rg_clL (rg_pt hT (by first | assumption | exact hT _ _ | exact ⟨by omega, by omega⟩)) (by first | assumption | exact ⟨by omega, by omega⟩)) (by first | assumption | exact hT _ _ | exact ⟨by omega, by omega⟩)) (q := 7 + 8 * c.toNat) (isQ_c (by omega))) cw_X1_132 (RMn (by decide) (by decide)) rfl (ix k (7 + 8 * c.toNat)) (SW_clk hk (isQ_c (by omega))) rfl rfl (Nat.le_of_ble_eq_true rfl) dX1_close_71 0 0 rfl rfl (fun z1 ws1 e1 => ?_)
        obtain ⟨rfl, rfl⟩ := e1
        refine V_top (b := sm 8 (wrF T (7 + 8 * c.toNat))) (by rw [wrF_cl (isQ_c (by omega))]) ?_
        refine V_callv hx (m_keepClosing l hk (pt (clL (pt T 0 2 (T 0 2 + 1)) (7 + 8 * c.toNat) i (T 0 2 + 1)) (7 + 8 * c.toNat) (2) (1)) (rg_pt (rg_clL (rg_pt hT (by first | assumption | exact hT _ _ | exact ⟨by omega, by omega⟩)) (by first | assumption | exact ⟨by omega, by omega⟩)) (by first | assumption | exact hT _ _ | exact ⟨by omega, by omega⟩)) (by rw [pt_ne _ _ (Or.inl (by omega)), clL_ne (by omega) (by omega), pt_ne _ _ (Or.inr (by omega))]; first | omega | assumption) (by rw [pt_ne _ _ (Or.inl (by omega)), clL_ne (by omega) (by omega), pt_ne _ _ (Or.inr (by omega))]; first | omega | assumption) (c := c) (w := sm 8 (wrF T (7 + 8 * c.toNat))) (by first | assumption | exact hT _ _ | exact ⟨by omega, by omega⟩) ⟨by have := wrF_b T (7 + 8 * c.toNat); omega, by have := wrF_b T (7 + 8 * c.toNat); omega⟩) cw_X1_51 (RMn (by decide) (by decide)) rfl (ix k 0) (SW_shop hk) rfl rfl (Nat.le_of_ble_eq_true rfl) dX1_close_74 0 0 rfl rfl (fun ws2 e2 => ?_)
        subst e2
        exact hE _ _ _ dX1_close_77 (congrArg (SW g ad P k) (by rw [show i = nd T by omega]; rfl))
      · refine V_aload_n hx dX1_close_27 3 rfl ?_
        refine V_iload_n hx dX1_close_28 0 rfl ?_
        refine V_callNi hx (m_hasWritten l hk (clL (pt T 0 2 (T 0 2 + 1)) (7 + 8 * c.toNat) i (T 0 2 + 1)) (rg_clL (rg_pt hT (by first | assumption | exact hT _ _ | exact ⟨by omega, by omega⟩)) (by first | assumption | exact ⟨by omega, by omega⟩)) (q := 7 + 8 * c.toNat) (isQ_c (by omega)) (d := (i : Int)) (by omega) (by omega)) cw_X1_109 (RMn (by decide) (by decide)) rfl (ix k (7 + 8 * c.toNat)) (SW_clk hk (isQ_c (by omega))) rfl rfl (Nat.le_of_ble_eq_true rfl) dX1_close_29 0 0 rfl rfl (fun z3 ws3 e3 => ?_)
        obtain ⟨rfl, rfl⟩ := e3
        refine V_top (b := bz (T (7 + 8 * c.toNat + 7) i ≠ -1)) (by rw [clL_ne (by omega) (by omega), pt_ne _ _ (Or.inl (by omega))] <;> rfl) ?_
        refine V_ifb_eq hx dX1_close_32 57 (by decide) (fun h32 => ?_) (fun h32 => ?_)
        · refine V_iincN hx dX1_close_57 0 rfl [(3, .int (iZ (((i + 1 : Nat) : Int)))), (0, .ref (ad (ix k 0))), (1, .int (iZ (c))), (2, .ref (ad (ix k (7 + 8 * c.toNat))))] (by decide) rfl ?_
          refine V_goto hx dX1_close_60 19 (by decide) ?_
          refine V_ws (ws' := SW g ad P k (clL (pt T 0 2 (T 0 2 + 1)) (7 + 8 * c.toNat) (i + 1) (T 0 2 + 1))) (congrArg (SW g ad P k) (by funext a b; simp only [pt, clL]; (repeat' split) <;> first | rfl | omega | grind)) ?_
          exact V_sub [0, 1, 2, 3] rfl (ih (i + 1) (by omega) (by omega))
        · refine V_aload_n hx dX1_close_35 1 rfl ?_
          refine gf_X1_15 hx (ix k 0) (SW_shop hk) rfl dX1_close_36 ?_
          refine V_iload_n hx dX1_close_39 0 rfl ?_
          refine V_aload_n hx dX1_close_40 3 rfl ?_
          refine gf_X1_95 hx (ix k (7 + 8 * c.toNat)) (SW_clk hk (isQ_c (by omega))) rfl dX1_close_41 ?_
          refine V_iload_n hx dX1_close_44 0 rfl ?_
          refine V_iald hx (by omega) (by omega) (by decide) (ix k (7 + 8 * c.toNat + 7)) (SW_c8 hk (isQ_c (by omega)) 7 (by decide)) (v := T (7 + 8 * c.toNat + 7) i) (by show iZ _ = iZ _; rw [clL_ne (by omega) (by omega), pt_ne _ _ (Or.inl (by omega))] <;> rfl) dX1_close_45 ?_
          refine V_iast hx (by omega) (by omega) (by decide) (ix k 1) (SW_8 hk (Or.inl rfl) (by decide)) (SW g ad P k (pt (clL (pt T 0 2 (T 0 2 + 1)) (7 + 8 * c.toNat) i (T 0 2 + 1)) (1) (i) (T (7 + 8 * c.toNat + 7) i))) (SW_s8 (Or.inl rfl) (by decide)) dX1_close_46 ?_
          refine V_aload_n hx dX1_close_47 1 rfl ?_
          refine gf_X1_19 hx (ix k 0) (SW_shop hk) rfl dX1_close_48 ?_
          refine V_iload_n hx dX1_close_51 0 rfl ?_
          refine V_aload_n hx dX1_close_52 1 rfl ?_
          refine gf_X1_41 hx (ix k 0) (SW_shop hk) rfl dX1_close_53 ?_
          refine V_top (b := T 0 2 + 1) (by rw [pt_ne _ _ (Or.inl (by omega)), clL_ne (by omega) (by omega), pt_at]) ?_
          refine V_iast hx (by omega) (by omega) (by decide) (ix k 2) (SW_8 hk (Or.inr (Or.inl rfl)) (by decide)) (SW g ad P k (pt (pt (clL (pt T 0 2 (T 0 2 + 1)) (7 + 8 * c.toNat) i (T 0 2 + 1)) (1) (i) (T (7 + 8 * c.toNat + 7) i)) (2) (i) (T 0 2 + 1))) (SW_s8 (Or.inr (Or.inl rfl)) (by decide)) dX1_close_56 ?_
          refine V_iincN hx dX1_close_57 0 rfl [(3, .int (iZ (((i + 1 : Nat) : Int)))), (0, .ref (ad (ix k 0))), (1, .int (iZ (c))), (2, .ref (ad (ix k (7 + 8 * c.toNat))))] (by decide) rfl ?_
          refine V_goto hx dX1_close_60 19 (by decide) ?_
          refine V_ws (ws' := SW g ad P k (clL (pt T 0 2 (T 0 2 + 1)) (7 + 8 * c.toNat) (i + 1) (T 0 2 + 1))) (congrArg (SW g ad P k) (by funext a b; simp only [pt, clL]; (repeat' split) <;> first | rfl | omega | grind)) ?_
          exact V_sub [0, 1, 2, 3] rfl (ih (i + 1) (by omega) (by omega))
  refine V_ws (ws' := SW g ad P k (clL (pt T 0 2 (T 0 2 + 1)) (7 + 8 * c.toNat) 0 (T 0 2 + 1))) (congrArg (SW g ad P k) (by funext a b; simp only [pt, clL]; (repeat' split) <;> first | rfl | omega | grind)) ?_
  exact V_sub [0, 2, 3, 1] rfl (hL19 (nd T + 1) 0 (by omega) (by omega))
theorem soT_pt {T : TS} : True := trivial
set_option maxHeartbeats 4000000 in
set_option maxRecDepth 100000 in
theorem m_takeTurn (l : Launch) {g : GT} {ad : Nat → Nat} {P : Nat → TS} {k : Nat} (hk : k < 2) (T : TS) (hT : RG T) {c : Int} (hc0 : 0 ≤ c) (hc6 : c < 6) (hk0 : TKok T (7 + 8 * c.toNat)) : MI l yX1_takeTurn cX1_takeTurn 3 .int (rmN 4) g [.ref (ad (ix k 0)), .int (iZ (c))] (SW g ad P k T) (fun z ws9 => z = tkV T c.toNat ∧ ws9 = SW g ad P k (tkT T c.toNat)) := by
  refine MI.of (own := RX1) (by decide) rfl (Nat.le_of_ble_eq_true rfl) (fun x hx hE => ?_)
  obtain ⟨⟨kn0, kn8⟩, ⟨kp0, ks8⟩, kst, kv4, ⟨kl0, kl9⟩, ⟨kc0, kc9⟩⟩ := id hk0
  refine V_lv (lv' := [(0, .ref (ad (ix k 0))), (1, .int (iZ (c)))]) rfl ?_
  refine V_aload_n hx dX1_takeTurn_0 0 rfl ?_
  refine gf_X1_24 hx (ix k 0) (SW_shop hk) rfl dX1_takeTurn_1 ?_
  refine V_iload_n hx dX1_takeTurn_4 1 rfl ?_
  refine V_aald hx (by omega) (by omega) (by decide) (ix k 3) (SW_refs hk) (r := ad (ix k (7 + 8 * c.toNat))) rfl dX1_takeTurn_5 ?_
  refine V_astore_n hx dX1_takeTurn_6 [(2, .ref (ad (ix k (7 + 8 * c.toNat)))), (0, .ref (ad (ix k 0))), (1, .int (iZ (c)))] (by decide) rfl ?_
  refine V_aload_n hx dX1_takeTurn_7 0 rfl ?_
  refine gf_X1_59 hx (ix k (7 + 8 * c.toNat)) (SW_clk hk (isQ_c (by omega))) rfl dX1_takeTurn_8 ?_
  refine V_aload_n hx dX1_takeTurn_11 0 rfl ?_
  refine gf_X1_62 hx (ix k (7 + 8 * c.toNat)) (SW_clk hk (isQ_c (by omega))) rfl dX1_takeTurn_12 ?_
  refine V_icmp_ge hx dX1_takeTurn_15 35 (by decide) (by first | assumption | exact hT _ _ | exact ⟨by omega, by omega⟩) (by first | assumption | exact hT _ _ | exact ⟨by omega, by omega⟩) (fun h15 => ?_) (fun h15 => ?_)
  · refine V_aload_n hx dX1_takeTurn_35 1 rfl ?_
    refine V_aload_n hx dX1_takeTurn_36 0 rfl ?_
    refine V_calli hx (m_isOutdated l hk T hT (q := 7 + 8 * c.toNat) (isQ_c (by omega)) (by omega) (by omega)) cw_X1_68 (RMn (by decide) (by decide)) rfl (ix k 0) (SW_shop hk) rfl rfl (Nat.le_of_ble_eq_true rfl) dX1_takeTurn_37 0 0 rfl rfl (fun z1 ws1 e1 => ?_)
    obtain ⟨rfl, rfl⟩ := e1
    refine V_ifb_eq hx dX1_takeTurn_40 59 (by decide) (fun h40 => ?_) (fun h40 => ?_)
    · refine V_aload_n hx dX1_takeTurn_59 1 rfl ?_
      refine V_iload_n hx dX1_takeTurn_60 2 rfl ?_
      refine V_callv hx (m_close l hk T hT (by omega) (by omega) (c := c) (by omega) (by omega) (by omega) (by omega)) cw_X1_78 (RMn (by decide) (by decide)) rfl (ix k 0) (SW_shop hk) rfl rfl (Nat.le_of_ble_eq_true rfl) dX1_takeTurn_61 0 0 rfl rfl (fun ws2 e2 => ?_)
      subst e2
      refine V_iconst hx dX1_takeTurn_64 ?_
      exact hE _ _ _ _ dX1_takeTurn_65 rfl ⟨by unfold tkV; first | rw [if_pos (by omega)] | rw [if_neg (by omega), if_pos (bz_t h40)] | rw [if_neg (by omega), if_neg (fun h9 => h40 (Classical.byContradiction (fun h8 => by rw [bz_f h8] at h9; exact absurd h9 (by decide))))], congrArg (SW g ad P k) (by unfold tkT; first | rw [if_pos (by omega)] | rw [if_neg (by omega), if_pos (bz_t h40)] | (rw [if_neg (by omega), if_neg (fun h9 => h40 (Classical.byContradiction (fun h8 => by rw [bz_f h8] at h9; exact absurd h9 (by decide)))), show ((c.toNat : Nat) : Int) = c by omega]))⟩
    · refine V_aload_n hx dX1_takeTurn_43 0 rfl ?_
      refine V_dup hx dX1_takeTurn_44 rfl ?_
      refine gf_X1_72 hx (ix k (7 + 8 * c.toNat)) (SW_clk hk (isQ_c (by omega))) rfl dX1_takeTurn_45 ?_
      refine V_iconst hx dX1_takeTurn_48 ?_
      refine V_iadd hx dX1_takeTurn_49 ?_
      refine pf_X1_72 hx (ix k (7 + 8 * c.toNat)) (SW_clk hk (isQ_c (by omega))) (Nat.le_of_ble_eq_true rfl) (SW g ad P k (pt T (7 + 8 * c.toNat) (3) ((T (7 + 8 * c.toNat) 3) + 1))) (SW_sq3 (isQ_c (by omega))) dX1_takeTurn_50 ?_
      refine V_aload_n hx dX1_takeTurn_53 0 rfl ?_
      refine V_callNv hx (m_startOver l hk (pt T (7 + 8 * c.toNat) (3) ((T (7 + 8 * c.toNat) 3) + 1)) (q := 7 + 8 * c.toNat) (isQ_c (by omega))) cw_X1_75 (RMn (by decide) (by decide)) rfl (ix k (7 + 8 * c.toNat)) (SW_clk hk (isQ_c (by omega))) rfl rfl (Nat.le_of_ble_eq_true rfl) dX1_takeTurn_54 0 0 rfl rfl (fun ws3 e3 => ?_)
      subst e3
      refine V_iconst hx dX1_takeTurn_57 ?_
      exact hE _ _ _ _ dX1_takeTurn_58 rfl ⟨by unfold tkV; first | rw [if_pos (by omega)] | rw [if_neg (by omega), if_pos (bz_t h40)] | rw [if_neg (by omega), if_neg (fun h9 => h40 (Classical.byContradiction (fun h8 => by rw [bz_f h8] at h9; exact absurd h9 (by decide))))], congrArg (SW g ad P k) (by unfold tkT; first | rw [if_pos (by omega)] | rw [if_neg (by omega), if_pos (bz_t h40)] | (rw [if_neg (by omega), if_neg (fun h9 => h40 (Classical.byContradiction (fun h8 => by rw [bz_f h8] at h9; exact absurd h9 (by decide)))), show ((c.toNat : Nat) : Int) = c by omega]))⟩
  · obtain ⟨⟨ke1, ke2⟩, ⟨ke3, ke4⟩, ⟨ke5, ke6⟩⟩ := kst (by omega)
    refine V_aload_n hx dX1_takeTurn_18 1 rfl ?_
    refine V_aload_n hx dX1_takeTurn_19 0 rfl ?_
    refine V_callv hx (m_doStep l hk T hT (q := 7 + 8 * c.toNat) (isQ_c (by omega)) kv4 (by omega) (by omega) (by omega) (by omega) (by omega) (by omega) (by omega) (by omega)) cw_X1_65 (RMn (by decide) (by decide)) rfl (ix k 0) (SW_shop hk) rfl rfl (Nat.le_of_ble_eq_true rfl) dX1_takeTurn_20 0 0 rfl rfl (fun ws4 e4 => ?_)
    subst e4
    refine V_aload_n hx dX1_takeTurn_23 0 rfl ?_
    refine V_dup hx dX1_takeTurn_24 rfl ?_
    refine gf_X1_59 hx (ix k (7 + 8 * c.toNat)) (SW_clk hk (isQ_c (by omega))) rfl dX1_takeTurn_25 ?_
    refine V_top (b := T (7 + 8 * c.toNat) 1) (by rw [dsT_ne (by omega) (by omega) (by omega)]) ?_
    refine V_iconst hx dX1_takeTurn_28 ?_
    refine V_iadd hx dX1_takeTurn_29 ?_
    refine pf_X1_59 hx (ix k (7 + 8 * c.toNat)) (SW_clk hk (isQ_c (by omega))) (Nat.le_of_ble_eq_true rfl) (SW g ad P k (pt (dsT T (7 + 8 * c.toNat) (T (7 + 8 * c.toNat) 1).toNat) (7 + 8 * c.toNat) (1) ((T (7 + 8 * c.toNat) 1) + 1))) (SW_sq1 (isQ_c (by omega))) dX1_takeTurn_30 ?_
    refine V_iconst hx dX1_takeTurn_33 ?_
    exact hE _ _ _ _ dX1_takeTurn_34 rfl ⟨by unfold tkV; first | rw [if_pos (by omega)] | rw [if_neg (by omega), if_pos (bz_t h40)] | rw [if_neg (by omega), if_neg (fun h9 => h40 (Classical.byContradiction (fun h8 => by rw [bz_f h8] at h9; exact absurd h9 (by decide))))], congrArg (SW g ad P k) (by unfold tkT; first | rw [if_pos (by omega)] | rw [if_neg (by omega), if_pos (bz_t h40)] | (rw [if_neg (by omega), if_neg (fun h9 => h40 (Classical.byContradiction (fun h8 => by rw [bz_f h8] at h9; exact absurd h9 (by decide)))), show ((c.toNat : Nat) : Int) = c by omega]))⟩
end
section
/-! the class Shop: rounds, and what is told -/
def awP (T : TS) (c : Nat) : Prop := T (7 + 8 * c) 2 = 0 ∧ 0 < T (7 + 8 * c) 0
noncomputable def gr (T : TS) : Nat → TS × Int
  | 0 => (T, 0)
  | c + 1 => if (gr T c).1 (7 + 8 * c) 2 = 0 ∧ 0 < (gr T c).1 (7 + 8 * c) 0 then (tkT (gr T c).1 c, (gr T c).2 + bz (tkV (gr T c).1 c = 1)) else gr T c
theorem gr_no {T : TS} {c : Nat} (h : ¬ ((gr T c).1 (7 + 8 * c) 2 = 0 ∧ 0 < (gr T c).1 (7 + 8 * c) 0)) : gr T (c + 1) = gr T c := by rw [gr, if_neg h]
theorem gr_yes {T : TS} {c : Nat} (h : (gr T c).1 (7 + 8 * c) 2 = 0 ∧ 0 < (gr T c).1 (7 + 8 * c) 0) : gr T (c + 1) = (tkT (gr T c).1 c, (gr T c).2 + bz (tkV (gr T c).1 c = 1)) := by rw [gr, if_pos h]
def GRok (T : TS) : Prop := RG T ∧ (0 ≤ T 0 1 ∧ T 0 1 ≤ 6) ∧ (∀ c : Nat, (gr T c).1 0 1 = T 0 1) ∧ ∀ c : Nat, (c : Int) < T 0 1 → RG (gr T c).1 ∧ TKok (gr T c).1 (7 + 8 * c)
noncomputable def grs (T : TS) : Nat → TS × Int
  | 0 => (T, 0)
  | r + 1 => ((gr (grs T r).1 (nc (grs T r).1)).1, (grs T r).2 + (gr (grs T r).1 (nc (grs T r).1)).2)
noncomputable def wal (T : TS) (c : Nat) : Nat → TS
  | 0 => soT T (7 + 8 * c) 8
  | t + 1 => tkT (wal T c t) c
def clP (T : TS) (a b : Nat) : Prop := a ≠ b ∧ T (7 + 8 * a) 2 = 0 ∧ T (7 + 8 * b) 2 = 0 ∧ ∃ d, d < nd T ∧ T (7 + 8 * a + 7) d ≠ -1 ∧ T (7 + 8 * b + 5) d ≠ -1
noncomputable def clF (T : TS) (a : Nat) (b : Nat) : Int := bz (clP T a b)
def kpV (T : TS) : Int := if 10 < T 0 2 then 10 else T 0 2
def cfV (T : TS) (b what : Int) : Int := if what = 0 then T 4 b.toNat else if what = 1 then T 5 b.toNat else T 6 b.toNat
noncomputable def loF (T : TS) (c : Nat) : Int := bz (T (7 + 8 * c) 2 = 0 ∧ odP T (7 + 8 * c) (nd T))
noncomputable def dnF (T : TS) (c : Nat) : Int := bz (T (7 + 8 * c) 2 ≠ 0)
def ltF (T : TS) (c : Nat) : Int := T (7 + 8 * c) 3
noncomputable def reF (T : TS) (d : Nat) (c : Nat) : Int := bz (T (7 + 8 * c) 2 = 0 ∧ T (7 + 8 * c + 5) d ≠ -1)
noncomputable def wtF (T : TS) (d : Nat) (c : Nat) : Int := bz (T (7 + 8 * c) 2 = 0 ∧ T (7 + 8 * c + 7) d ≠ -1)
noncomputable def cnV (T : TS) (what : Int) : Int := if what = 0 then T 0 0 else if what = 1 then T 0 1 else if what = 2 then sm (nc T) (dnF T) else if what = 3 then T 0 2 else if what = 4 then sm (nc T) (ltF T) else if what = 5 then sm (nd T) (T 1) else sm (nc T) (loF T)
noncomputable def drV (T : TS) (d what : Int) : Int := if what = 0 then T 1 d.toNat else if what = 1 then T 2 d.toNat else if what = 2 then sm (nc T) (reF T d.toNat) else sm (nc T) (wtF T d.toNat)
noncomputable def ckV (T : TS) (c what : Int) : Int := if what = 0 then T (7 + 8 * c.toNat) 0 else if what = 1 then T (7 + 8 * c.toNat) 1 else if what = 2 then bz (T (7 + 8 * c.toNat) 2 ≠ 0) else if what = 3 then T (7 + 8 * c.toNat) 3 else if what = 4 then sm 8 (rmF T (7 + 8 * c.toNat)) else if what = 5 then sm 8 (wrF T (7 + 8 * c.toNat)) else loF T c.toNat
def bs0 (T T0 : TS) : TS := pt (pt (pt T 0 0 (T0 0 0)) 0 1 (T0 0 1)) 0 2 (T0 0 2)
def bs1 (T T0 : TS) (i : Nat) : TS := fun a b => if (a = 1 ∨ a = 2) ∧ b < i then T0 a b else T a b
def bsC (T T0 : TS) : Nat → TS
  | 0 => T
  | c + 1 => bcT (bsC T T0 c) T0 (7 + 8 * c) 8 8
def bs3 (T T0 : TS) (i : Nat) : TS := fun a b => if (a = 4 ∨ a = 5 ∨ a = 6) ∧ b < i then T0 a b else T a b
def beT (T T0 : TS) : TS := bs3 (bsC (bs1 (bs0 T T0) T0 8) T0 (nc T0)) T0 10
theorem bs1_ne {T T0 : TS} {i a b : Nat} (h1 : a ≠ 1) (h2 : a ≠ 2) : bs1 T T0 i a b = T a b := by
  unfold bs1
  rw [if_neg (by omega)]
theorem bcT_ne {T T0 : TS} {q s d a b : Nat} (h : a < q ∨ q + 7 < a) : bcT T T0 q s d a b = T a b := by
  unfold bcT
  rw [if_neg (by omega), if_neg (by omega), if_neg (by omega)]
theorem bsC_ne {T T0 : TS} {a b : Nat} (h : a < 7) : ∀ n : Nat, bsC T T0 n a b = T a b
  | 0 => rfl
  | n + 1 => by
    show bcT (bsC T T0 n) T0 (7 + 8 * n) 8 8 a b = T a b
    rw [bcT_ne (by omega), bsC_ne h n]
set_option maxHeartbeats 4000000 in
set_option maxRecDepth 100000 in
theorem m_sumLost (l : Launch) {g : GT} {ad : Nat → Nat} {P : Nat → TS} {k : Nat} (hk : k < 2) (T : TS) (hT : RG T) (hc0 : 0 ≤ T 0 1) (hc6 : T 0 1 ≤ 6) : MI l yX1_sumLost cX1_sumLost 3 .int (rmN 0) g [.ref (ad (ix k 0))] (SW g ad P k T) (fun z ws9 => z = sm (nc T) (ltF T) ∧ ws9 = SW g ad P k T) := by
  refine MI.of (own := RX1) (by decide) rfl (Nat.le_of_ble_eq_true rfl) (fun x hx hE => ?_)
  have hnc : ((nc T : Nat) : Int) = T 0 1 := Int.toNat_of_nonneg (by omega)
  refine V_lv (lv' := [(0, .ref (ad (ix k 0)))]) rfl ?_
  refine V_iconst hx dX1_sumLost_0 ?_
  refine V_istore_n hx dX1_sumLost_1 [(1, .int (iZ (0))), (0, .ref (ad (ix k 0)))] (by decide) rfl ?_
  refine V_iconst hx dX1_sumLost_2 ?_
  refine V_istore_n hx dX1_sumLost_3 [(2, .int (iZ (0))), (1, .int (iZ (0))), (0, .ref (ad (ix k 0)))] (by decide) rfl ?_
  have hL4 : ∀ (n : Nat) (i : Nat), nc T < i + n → i ≤ nc T → V x 0 0 (SW g ad P k T) 4 [(2, .int (iZ ((i : Int)))), (1, .int (iZ (sm i (ltF T)))), (0, .ref (ad (ix k 0)))] [] := by
    intro n
    induction n with
    | zero =>
      intro i g1 g2 
      exact absurd g1 (by omega)
    | succ n ih =>
      intro i g1 g2 
      refine V_iload_n hx dX1_sumLost_4 0 rfl ?_
      refine V_aload_n hx dX1_sumLost_5 2 rfl ?_
      refine gf_X1_38 hx (ix k 0) (SW_shop hk) rfl dX1_sumLost_6 ?_
      refine V_icmp_ge hx dX1_sumLost_9 30 (by decide) ⟨by omega, by omega⟩ (by first | assumption | exact hT _ _ | exact ⟨by omega, by omega⟩) (fun h9 => ?_) (fun h9 => ?_)
      · refine V_iload_n hx dX1_sumLost_30 1 rfl ?_
        exact hE _ _ _ _ dX1_sumLost_31 rfl ⟨by rw [show i = nc T by omega], rfl⟩
      · refine V_iload_n hx dX1_sumLost_12 1 rfl ?_
        refine V_aload_n hx dX1_sumLost_13 2 rfl ?_
        refine gf_X1_24 hx (ix k 0) (SW_shop hk) rfl dX1_sumLost_14 ?_
        refine V_iload_n hx dX1_sumLost_17 0 rfl ?_
        refine V_aald hx (by omega) (by omega) (by decide) (ix k 3) (SW_refs hk) (r := ad (ix k (7 + 8 * i))) rfl dX1_sumLost_18 ?_
        refine gf_X1_72 hx (ix k (7 + 8 * i)) (SW_clk hk (isQ_c (by omega))) rfl dX1_sumLost_19 ?_
        refine V_iadd hx dX1_sumLost_22 ?_
        refine V_istore_n hx dX1_sumLost_23 [(1, .int (iZ ((sm i (ltF T)) + (T (7 + 8 * i) 3)))), (2, .int (iZ ((i : Int)))), (0, .ref (ad (ix k 0)))] (by decide) rfl ?_
        refine V_iincN hx dX1_sumLost_24 1 rfl [(2, .int (iZ (((i + 1 : Nat) : Int)))), (1, .int (iZ ((sm i (ltF T)) + (T (7 + 8 * i) 3)))), (0, .ref (ad (ix k 0)))] (by decide) rfl ?_
        refine V_goto hx dX1_sumLost_27 4 (by decide) ?_
        refine V_sub (lv' := [(2, .int (iZ (((i + 1 : Nat) : Int)))), (1, .int (iZ ((sm i (ltF T)) + (T (7 + 8 * i) 3)))), (0, .ref (ad (ix k 0)))]) [0, 1, 2] rfl ?_
        refine V_lv (lv' := [(2, .int (iZ ((i + 1 : Nat) : Int))), (1, .int (iZ (sm (i + 1) (ltF T)))), (0, .ref (ad (ix k 0)))]) rfl ?_
        exact ih (i + 1) (by omega) (by omega)
  refine V_ws (ws' := SW g ad P k T) rfl ?_
  exact V_sub [0, 1, 2] rfl (hL4 (nc T + 1) 0 (by omega) (by omega))
set_option maxHeartbeats 4000000 in
set_option maxRecDepth 100000 in
theorem m_countDone (l : Launch) {g : GT} {ad : Nat → Nat} {P : Nat → TS} {k : Nat} (hk : k < 2) (T : TS) (hT : RG T) (hc0 : 0 ≤ T 0 1) (hc6 : T 0 1 ≤ 6) : MI l yX1_countDone cX1_countDone 3 .int (rmN 0) g [.ref (ad (ix k 0))] (SW g ad P k T) (fun z ws9 => z = sm (nc T) (dnF T) ∧ ws9 = SW g ad P k T) := by
  refine MI.of (own := RX1) (by decide) rfl (Nat.le_of_ble_eq_true rfl) (fun x hx hE => ?_)
  have hnc : ((nc T : Nat) : Int) = T 0 1 := Int.toNat_of_nonneg (by omega)
  refine V_lv (lv' := [(0, .ref (ad (ix k 0)))]) rfl ?_
  refine V_iconst hx dX1_countDone_0 ?_
  refine V_istore_n hx dX1_countDone_1 [(1, .int (iZ (0))), (0, .ref (ad (ix k 0)))] (by decide) rfl ?_
  refine V_iconst hx dX1_countDone_2 ?_
  refine V_istore_n hx dX1_countDone_3 [(2, .int (iZ (0))), (1, .int (iZ (0))), (0, .ref (ad (ix k 0)))] (by decide) rfl ?_
  have hL4 : ∀ (n : Nat) (i : Nat), nc T < i + n → i ≤ nc T → V x 0 0 (SW g ad P k T) 4 [(2, .int (iZ ((i : Int)))), (1, .int (iZ (sm i (dnF T)))), (0, .ref (ad (ix k 0)))] [] := by
    intro n
    induction n with
    | zero =>
      intro i g1 g2 
      exact absurd g1 (by omega)
    | succ n ih =>
      intro i g1 g2 
      refine V_iload_n hx dX1_countDone_4 0 rfl ?_
      refine V_aload_n hx dX1_countDone_5 2 rfl ?_
      refine gf_X1_38 hx (ix k 0) (SW_shop hk) rfl dX1_countDone_6 ?_
      refine V_icmp_ge hx dX1_countDone_9 38 (by decide) ⟨by omega, by omega⟩ (by first | assumption | exact hT _ _ | exact ⟨by omega, by omega⟩) (fun h9 => ?_) (fun h9 => ?_)
      · refine V_iload_n hx dX1_countDone_38 1 rfl ?_
        exact hE _ _ _ _ dX1_countDone_39 rfl ⟨by rw [show i = nc T by omega], rfl⟩
      · refine V_iload_n hx dX1_countDone_12 1 rfl ?_
        refine V_aload_n hx dX1_countDone_13 2 rfl ?_
        refine gf_X1_24 hx (ix k 0) (SW_shop hk) rfl dX1_countDone_14 ?_
        refine V_iload_n hx dX1_countDone_17 0 rfl ?_
        refine V_aald hx (by omega) (by omega) (by decide) (ix k 3) (SW_refs hk) (r := ad (ix k (7 + 8 * i))) rfl dX1_countDone_18 ?_
        refine gf_X1_128 hx (ix k (7 + 8 * i)) (SW_clk hk (isQ_c (by omega))) rfl dX1_countDone_19 ?_
        refine V_if_eq hx dX1_countDone_22 29 (by decide) (by first | assumption | exact hT _ _ | exact ⟨by omega, by omega⟩) (fun h22 => ?_) (fun h22 => ?_)
        · refine V_iconst hx dX1_countDone_29 ?_
          refine V_iadd hx dX1_countDone_30 ?_
          refine V_istore_n hx dX1_countDone_31 [(1, .int (iZ ((sm i (dnF T)) + 0))), (2, .int (iZ ((i : Int)))), (0, .ref (ad (ix k 0)))] (by decide) rfl ?_
          refine V_iincN hx dX1_countDone_32 1 rfl [(2, .int (iZ (((i + 1 : Nat) : Int)))), (1, .int (iZ ((sm i (dnF T)) + 0))), (0, .ref (ad (ix k 0)))] (by decide) rfl ?_
          refine V_goto hx dX1_countDone_35 4 (by decide) ?_
          refine V_sub (lv' := [(2, .int (iZ (((i + 1 : Nat) : Int)))), (1, .int (iZ ((sm i (dnF T)) + 0))), (0, .ref (ad (ix k 0)))]) [0, 1, 2] rfl ?_
          refine V_lv (lv' := [(2, .int (iZ ((i + 1 : Nat) : Int))), (1, .int (iZ (sm (i + 1) (dnF T)))), (0, .ref (ad (ix k 0)))]) (by simp only [sm, dnF, bz_f (show ¬ (T (7 + 8 * i) 2 ≠ 0) from fun h9 => h9 h22)]) ?_
          exact ih (i + 1) (by omega) (by omega)
        · refine V_iconst hx dX1_countDone_25 ?_
          refine V_goto hx dX1_countDone_26 30 (by decide) ?_
          refine V_iadd hx dX1_countDone_30 ?_
          refine V_istore_n hx dX1_countDone_31 [(1, .int (iZ ((sm i (dnF T)) + 1))), (2, .int (iZ ((i : Int)))), (0, .ref (ad (ix k 0)))] (by decide) rfl ?_
          refine V_iincN hx dX1_countDone_32 1 rfl [(2, .int (iZ (((i + 1 : Nat) : Int)))), (1, .int (iZ ((sm i (dnF T)) + 1))), (0, .ref (ad (ix k 0)))] (by decide) rfl ?_
          refine V_goto hx dX1_countDone_35 4 (by decide) ?_
          refine V_sub (lv' := [(2, .int (iZ (((i + 1 : Nat) : Int)))), (1, .int (iZ ((sm i (dnF T)) + 1))), (0, .ref (ad (ix k 0)))]) [0, 1, 2] rfl ?_
          refine V_lv (lv' := [(2, .int (iZ ((i + 1 : Nat) : Int))), (1, .int (iZ (sm (i + 1) (dnF T)))), (0, .ref (ad (ix k 0)))]) (by simp only [sm, dnF, bz_t h22]) ?_
          exact ih (i + 1) (by omega) (by omega)
  refine V_ws (ws' := SW g ad P k T) rfl ?_
  exact V_sub [0, 1, 2] rfl (hL4 (nc T + 1) 0 (by omega) (by omega))
set_option maxHeartbeats 4000000 in
set_option maxRecDepth 100000 in
theorem m_wouldLose (l : Launch) {g : GT} {ad : Nat → Nat} {P : Nat → TS} {k : Nat} (hk : k < 2) (T : TS) (hT : RG T) {q : Nat} (hq : isQ q) (hn0 : 0 ≤ T 0 0) (hn8 : T 0 0 ≤ 8) : MI l yX1_wouldLose cX1_wouldLose 2 .boolean (rmN 2) g [.ref (ad (ix k 0)), .ref (ad (ix k q))] (SW g ad P k T) (fun z ws9 => z = bz (T q 2 = 0 ∧ odP T q (nd T)) ∧ ws9 = SW g ad P k T) := by
  refine MI.of (own := RX1) (by decide) rfl (Nat.le_of_ble_eq_true rfl) (fun x hx hE => ?_)
  have hq7 := hq.1
  have hq8 := hq.2
  refine V_lv (lv' := [(0, .ref (ad (ix k 0))), (1, .ref (ad (ix k q)))]) rfl ?_
  refine V_aload_n hx dX1_wouldLose_0 1 rfl ?_
  refine gf_X1_128 hx (ix k q) (SW_clk hk hq) rfl dX1_wouldLose_1 ?_
  refine V_if_ne hx dX1_wouldLose_4 19 (by decide) (by first | assumption | exact hT _ _ | exact ⟨by omega, by omega⟩) (fun h4 => ?_) (fun h4 => ?_)
  · refine V_iconst hx dX1_wouldLose_19 ?_
    exact hE _ _ _ _ dX1_wouldLose_20 rfl ⟨(bz_f (by first | exact (fun h9 => h12 h9.2) | exact (fun h9 => h4 h9.1))).symm, rfl⟩
  · refine V_aload_n hx dX1_wouldLose_7 0 rfl ?_
    refine V_aload_n hx dX1_wouldLose_8 1 rfl ?_
    refine V_calli hx (m_isOutdated l hk T hT (q := q) hq (by omega) (by omega)) cw_X1_68 (RMn (by decide) (by decide)) rfl (ix k 0) (SW_shop hk) rfl rfl (Nat.le_of_ble_eq_true rfl) dX1_wouldLose_9 0 0 rfl rfl (fun z1 ws1 e1 => ?_)
    obtain ⟨rfl, rfl⟩ := e1
    refine V_ifb_eq hx dX1_wouldLose_12 19 (by decide) (fun h12 => ?_) (fun h12 => ?_)
    · refine V_iconst hx dX1_wouldLose_19 ?_
      exact hE _ _ _ _ dX1_wouldLose_20 rfl ⟨(bz_f (by first | exact (fun h9 => h12 h9.2) | exact (fun h9 => h4 h9.1))).symm, rfl⟩
    · refine V_iconst hx dX1_wouldLose_15 ?_
      refine V_goto hx dX1_wouldLose_16 20 (by decide) ?_
      exact hE _ _ _ _ dX1_wouldLose_20 rfl ⟨(bz_t ⟨by omega, h12⟩).symm, rfl⟩
set_option maxHeartbeats 4000000 in
set_option maxRecDepth 100000 in
theorem m_countLosers (l : Launch) {g : GT} {ad : Nat → Nat} {P : Nat → TS} {k : Nat} (hk : k < 2) (T : TS) (hT : RG T) (hn0 : 0 ≤ T 0 0) (hn8 : T 0 0 ≤ 8) (hc0 : 0 ≤ T 0 1) (hc6 : T 0 1 ≤ 6) : MI l yX1_countLosers cX1_countLosers 3 .int (rmN 3) g [.ref (ad (ix k 0))] (SW g ad P k T) (fun z ws9 => z = sm (nc T) (loF T) ∧ ws9 = SW g ad P k T) := by
  refine MI.of (own := RX1) (by decide) rfl (Nat.le_of_ble_eq_true rfl) (fun x hx hE => ?_)
  have hnc : ((nc T : Nat) : Int) = T 0 1 := Int.toNat_of_nonneg (by omega)
  refine V_lv (lv' := [(0, .ref (ad (ix k 0)))]) rfl ?_
  refine V_iconst hx dX1_countLosers_0 ?_
  refine V_istore_n hx dX1_countLosers_1 [(1, .int (iZ (0))), (0, .ref (ad (ix k 0)))] (by decide) rfl ?_
  refine V_iconst hx dX1_countLosers_2 ?_
  refine V_istore_n hx dX1_countLosers_3 [(2, .int (iZ (0))), (1, .int (iZ (0))), (0, .ref (ad (ix k 0)))] (by decide) rfl ?_
  have hL4 : ∀ (n : Nat) (i : Nat), nc T < i + n → i ≤ nc T → V x 0 0 (SW g ad P k T) 4 [(2, .int (iZ ((i : Int)))), (1, .int (iZ (sm i (loF T)))), (0, .ref (ad (ix k 0)))] [] := by
    intro n
    induction n with
    | zero =>
      intro i g1 g2 
      exact absurd g1 (by omega)
    | succ n ih =>
      intro i g1 g2 
      refine V_iload_n hx dX1_countLosers_4 0 rfl ?_
      refine V_aload_n hx dX1_countLosers_5 2 rfl ?_
      refine gf_X1_38 hx (ix k 0) (SW_shop hk) rfl dX1_countLosers_6 ?_
      refine V_icmp_ge hx dX1_countLosers_9 39 (by decide) ⟨by omega, by omega⟩ (by first | assumption | exact hT _ _ | exact ⟨by omega, by omega⟩) (fun h9 => ?_) (fun h9 => ?_)
      · refine V_iload_n hx dX1_countLosers_39 1 rfl ?_
        exact hE _ _ _ _ dX1_countLosers_40 rfl ⟨by rw [show i = nc T by omega], rfl⟩
      · refine V_iload_n hx dX1_countLosers_12 1 rfl ?_
        refine V_aload_n hx dX1_countLosers_13 2 rfl ?_
        refine V_aload_n hx dX1_countLosers_14 2 rfl ?_
        refine gf_X1_24 hx (ix k 0) (SW_shop hk) rfl dX1_countLosers_15 ?_
        refine V_iload_n hx dX1_countLosers_18 0 rfl ?_
        refine V_aald hx (by omega) (by omega) (by decide) (ix k 3) (SW_refs hk) (r := ad (ix k (7 + 8 * i))) rfl dX1_countLosers_19 ?_
        refine V_calli hx (m_wouldLose l hk T hT (q := 7 + 8 * i) (isQ_c (by omega)) (by omega) (by omega)) cw_X1_167 (RMn (by decide) (by decide)) rfl (ix k 0) (SW_shop hk) rfl rfl (Nat.le_of_ble_eq_true rfl) dX1_countLosers_20 0 0 rfl rfl (fun z1 ws1 e1 => ?_)
        obtain ⟨rfl, rfl⟩ := e1
        refine V_ifb_eq hx dX1_countLosers_23 30 (by decide) (fun h23 => ?_) (fun h23 => ?_)
        · refine V_iconst hx dX1_countLosers_30 ?_
          refine V_iadd hx dX1_countLosers_31 ?_
          refine V_istore_n hx dX1_countLosers_32 [(1, .int (iZ ((sm i (loF T)) + 0))), (2, .int (iZ ((i : Int)))), (0, .ref (ad (ix k 0)))] (by decide) rfl ?_
          refine V_iincN hx dX1_countLosers_33 1 rfl [(2, .int (iZ (((i + 1 : Nat) : Int)))), (1, .int (iZ ((sm i (loF T)) + 0))), (0, .ref (ad (ix k 0)))] (by decide) rfl ?_
          refine V_goto hx dX1_countLosers_36 4 (by decide) ?_
          refine V_sub (lv' := [(2, .int (iZ (((i + 1 : Nat) : Int)))), (1, .int (iZ ((sm i (loF T)) + 0))), (0, .ref (ad (ix k 0)))]) [0, 1, 2] rfl ?_
          refine V_lv (lv' := [(2, .int (iZ ((i + 1 : Nat) : Int))), (1, .int (iZ (sm (i + 1) (loF T)))), (0, .ref (ad (ix k 0)))]) (by simp only [sm, loF, bz_f h23]) ?_
          exact ih (i + 1) (by omega) (by omega)
        · refine V_iconst hx dX1_countLosers_26 ?_
          refine V_goto hx dX1_countLosers_27 31 (by decide) ?_
          refine V_iadd hx dX1_countLosers_31 ?_
          refine V_istore_n hx dX1_countLosers_32 [(1, .int (iZ ((sm i (loF T)) + 1))), (2, .int (iZ ((i : Int)))), (0, .ref (ad (ix k 0)))] (by decide) rfl ?_
          refine V_iincN hx dX1_countLosers_33 1 rfl [(2, .int (iZ (((i + 1 : Nat) : Int)))), (1, .int (iZ ((sm i (loF T)) + 1))), (0, .ref (ad (ix k 0)))] (by decide) rfl ?_
          refine V_goto hx dX1_countLosers_36 4 (by decide) ?_
          refine V_sub (lv' := [(2, .int (iZ (((i + 1 : Nat) : Int)))), (1, .int (iZ ((sm i (loF T)) + 1))), (0, .ref (ad (ix k 0)))]) [0, 1, 2] rfl ?_
          refine V_lv (lv' := [(2, .int (iZ ((i + 1 : Nat) : Int))), (1, .int (iZ (sm (i + 1) (loF T)))), (0, .ref (ad (ix k 0)))]) (by simp only [sm, loF, bz_t h23]) ?_
          exact ih (i + 1) (by omega) (by omega)
  refine V_ws (ws' := SW g ad P k T) rfl ?_
  exact V_sub [0, 1, 2] rfl (hL4 (nc T + 1) 0 (by omega) (by omega))
set_option maxHeartbeats 4000000 in
set_option maxRecDepth 100000 in
theorem m_countRememberers (l : Launch) {g : GT} {ad : Nat → Nat} {P : Nat → TS} {k : Nat} (hk : k < 2) (T : TS) (hT : RG T) (hc0 : 0 ≤ T 0 1) (hc6 : T 0 1 ≤ 6) {d : Int} (hd0 : 0 ≤ d) (hd8 : d < 8) : MI l yX1_countRememberers cX1_countRememberers 4 .int (rmN 1) g [.ref (ad (ix k 0)), .int (iZ (d))] (SW g ad P k T) (fun z ws9 => z = sm (nc T) (reF T d.toNat) ∧ ws9 = SW g ad P k T) := by
  refine MI.of (own := RX1) (by decide) rfl (Nat.le_of_ble_eq_true rfl) (fun x hx hE => ?_)
  have hnc : ((nc T : Nat) : Int) = T 0 1 := Int.toNat_of_nonneg (by omega)
  refine V_lv (lv' := [(0, .ref (ad (ix k 0))), (1, .int (iZ (d)))]) rfl ?_
  refine V_iconst hx dX1_countRememberers_0 ?_
  refine V_istore_n hx dX1_countRememberers_1 [(2, .int (iZ (0))), (0, .ref (ad (ix k 0))), (1, .int (iZ (d)))] (by decide) rfl ?_
  refine V_iconst hx dX1_countRememberers_2 ?_
  refine V_istore_n hx dX1_countRememberers_3 [(3, .int (iZ (0))), (2, .int (iZ (0))), (0, .ref (ad (ix k 0))), (1, .int (iZ (d)))] (by decide) rfl ?_
  have hL4 : ∀ (n : Nat) (i : Nat), nc T < i + n → i ≤ nc T → V x 0 0 (SW g ad P k T) 4 [(3, .int (iZ ((i : Int)))), (2, .int (iZ (sm i (reF T d.toNat)))), (0, .ref (ad (ix k 0))), (1, .int (iZ (d)))] [] := by
    intro n
    induction n with
    | zero =>
      intro i g1 g2 
      exact absurd g1 (by omega)
    | succ n ih =>
      intro i g1 g2 
      refine V_iload_n hx dX1_countRememberers_4 0 rfl ?_
      refine V_aload_n hx dX1_countRememberers_5 2 rfl ?_
      refine gf_X1_38 hx (ix k 0) (SW_shop hk) rfl dX1_countRememberers_6 ?_
      refine V_icmp_ge hx dX1_countRememberers_9 51 (by decide) ⟨by omega, by omega⟩ (by first | assumption | exact hT _ _ | exact ⟨by omega, by omega⟩) (fun h9 => ?_) (fun h9 => ?_)
      · refine V_iload_n hx dX1_countRememberers_51 1 rfl ?_
        exact hE _ _ _ _ dX1_countRememberers_52 rfl ⟨by rw [show i = nc T by omega], rfl⟩
      · refine V_iload_n hx dX1_countRememberers_12 1 rfl ?_
        refine V_aload_n hx dX1_countRememberers_13 2 rfl ?_
        refine gf_X1_24 hx (ix k 0) (SW_shop hk) rfl dX1_countRememberers_14 ?_
        refine V_iload_n hx dX1_countRememberers_17 0 rfl ?_
        refine V_aald hx (by omega) (by omega) (by decide) (ix k 3) (SW_refs hk) (r := ad (ix k (7 + 8 * i))) rfl dX1_countRememberers_18 ?_
        refine gf_X1_128 hx (ix k (7 + 8 * i)) (SW_clk hk (isQ_c (by omega))) rfl dX1_countRememberers_19 ?_
        refine V_if_ne hx dX1_countRememberers_22 42 (by decide) (by first | assumption | exact hT _ _ | exact ⟨by omega, by omega⟩) (fun h22 => ?_) (fun h22 => ?_)
        · refine V_iconst hx dX1_countRememberers_42 ?_
          refine V_iadd hx dX1_countRememberers_43 ?_
          refine V_istore_n hx dX1_countRememberers_44 [(2, .int (iZ ((sm i (reF T d.toNat)) + 0))), (3, .int (iZ ((i : Int)))), (0, .ref (ad (ix k 0))), (1, .int (iZ (d)))] (by decide) rfl ?_
          refine V_iincN hx dX1_countRememberers_45 1 rfl [(3, .int (iZ (((i + 1 : Nat) : Int)))), (2, .int (iZ ((sm i (reF T d.toNat)) + 0))), (0, .ref (ad (ix k 0))), (1, .int (iZ (d)))] (by decide) rfl ?_
          refine V_goto hx dX1_countRememberers_48 4 (by decide) ?_
          refine V_sub (lv' := [(3, .int (iZ (((i + 1 : Nat) : Int)))), (2, .int (iZ ((sm i (reF T d.toNat)) + 0))), (0, .ref (ad (ix k 0))), (1, .int (iZ (d)))]) [0, 1, 2, 3] rfl ?_
          refine V_lv (lv' := [(3, .int (iZ ((i + 1 : Nat) : Int))), (2, .int (iZ (sm (i + 1) (reF T d.toNat)))), (0, .ref (ad (ix k 0))), (1, .int (iZ (d)))]) (by first | simp only [sm, reF, bz_f (fun h9 : _ ∧ _ => h35 h9.2)] | simp only [sm, reF, bz_f (fun h9 : _ ∧ _ => h22 h9.1)]) ?_
          exact ih (i + 1) (by omega) (by omega)
        · refine V_aload_n hx dX1_countRememberers_25 2 rfl ?_
          refine gf_X1_24 hx (ix k 0) (SW_shop hk) rfl dX1_countRememberers_26 ?_
          refine V_iload_n hx dX1_countRememberers_29 0 rfl ?_
          refine V_aald hx (by omega) (by omega) (by decide) (ix k 3) (SW_refs hk) (r := ad (ix k (7 + 8 * i))) rfl dX1_countRememberers_30 ?_
          refine V_iload_n hx dX1_countRememberers_31 3 rfl ?_
          refine V_callNi hx (m_remembers l hk T hT (q := 7 + 8 * i) (isQ_c (by omega)) (d := d) (by omega) (by omega)) cw_X1_113 (RMn (by decide) (by decide)) rfl (ix k (7 + 8 * i)) (SW_clk hk (isQ_c (by omega))) rfl rfl (Nat.le_of_ble_eq_true rfl) dX1_countRememberers_32 0 0 rfl rfl (fun z1 ws1 e1 => ?_)
          obtain ⟨rfl, rfl⟩ := e1
          refine V_ifb_eq hx dX1_countRememberers_35 42 (by decide) (fun h35 => ?_) (fun h35 => ?_)
          · refine V_iconst hx dX1_countRememberers_42 ?_
            refine V_iadd hx dX1_countRememberers_43 ?_
            refine V_istore_n hx dX1_countRememberers_44 [(2, .int (iZ ((sm i (reF T d.toNat)) + 0))), (3, .int (iZ ((i : Int)))), (0, .ref (ad (ix k 0))), (1, .int (iZ (d)))] (by decide) rfl ?_
            refine V_iincN hx dX1_countRememberers_45 1 rfl [(3, .int (iZ (((i + 1 : Nat) : Int)))), (2, .int (iZ ((sm i (reF T d.toNat)) + 0))), (0, .ref (ad (ix k 0))), (1, .int (iZ (d)))] (by decide) rfl ?_
            refine V_goto hx dX1_countRememberers_48 4 (by decide) ?_
            refine V_sub (lv' := [(3, .int (iZ (((i + 1 : Nat) : Int)))), (2, .int (iZ ((sm i (reF T d.toNat)) + 0))), (0, .ref (ad (ix k 0))), (1, .int (iZ (d)))]) [0, 1, 2, 3] rfl ?_
            refine V_lv (lv' := [(3, .int (iZ ((i + 1 : Nat) : Int))), (2, .int (iZ (sm (i + 1) (reF T d.toNat)))), (0, .ref (ad (ix k 0))), (1, .int (iZ (d)))]) (by first | simp only [sm, reF, bz_f (fun h9 : _ ∧ _ => h35 h9.2)] | simp only [sm, reF, bz_f (fun h9 : _ ∧ _ => h22 h9.1)]) ?_
            exact ih (i + 1) (by omega) (by omega)
          · refine V_iconst hx dX1_countRememberers_38 ?_
            refine V_goto hx dX1_countRememberers_39 43 (by decide) ?_
            refine V_iadd hx dX1_countRememberers_43 ?_
            refine V_istore_n hx dX1_countRememberers_44 [(2, .int (iZ ((sm i (reF T d.toNat)) + 1))), (3, .int (iZ ((i : Int)))), (0, .ref (ad (ix k 0))), (1, .int (iZ (d)))] (by decide) rfl ?_
            refine V_iincN hx dX1_countRememberers_45 1 rfl [(3, .int (iZ (((i + 1 : Nat) : Int)))), (2, .int (iZ ((sm i (reF T d.toNat)) + 1))), (0, .ref (ad (ix k 0))), (1, .int (iZ (d)))] (by decide) rfl ?_
            refine V_goto hx dX1_countRememberers_48 4 (by decide) ?_
            refine V_sub (lv' := [(3, .int (iZ (((i + 1 : Nat) : Int)))), (2, .int (iZ ((sm i (reF T d.toNat)) + 1))), (0, .ref (ad (ix k 0))), (1, .int (iZ (d)))]) [0, 1, 2, 3] rfl ?_
            refine V_lv (lv' := [(3, .int (iZ ((i + 1 : Nat) : Int))), (2, .int (iZ (sm (i + 1) (reF T d.toNat)))), (0, .ref (ad (ix k 0))), (1, .int (iZ (d)))]) (by simp only [sm, reF, bz_t (And.intro h22 h35)]) ?_
            exact ih (i + 1) (by omega) (by omega)
  refine V_ws (ws' := SW g ad P k T) rfl ?_
  exact V_sub [0, 1, 2, 3] rfl (hL4 (nc T + 1) 0 (by omega) (by omega))
set_option maxHeartbeats 4000000 in
set_option maxRecDepth 100000 in
theorem m_countWriters (l : Launch) {g : GT} {ad : Nat → Nat} {P : Nat → TS} {k : Nat} (hk : k < 2) (T : TS) (hT : RG T) (hc0 : 0 ≤ T 0 1) (hc6 : T 0 1 ≤ 6) {d : Int} (hd0 : 0 ≤ d) (hd8 : d < 8) : MI l yX1_countWriters cX1_countWriters 4 .int (rmN 1) g [.ref (ad (ix k 0)), .int (iZ (d))] (SW g ad P k T) (fun z ws9 => z = sm (nc T) (wtF T d.toNat) ∧ ws9 = SW g ad P k T) := by
  refine MI.of (own := RX1) (by decide) rfl (Nat.le_of_ble_eq_true rfl) (fun x hx hE => ?_)
  have hnc : ((nc T : Nat) : Int) = T 0 1 := Int.toNat_of_nonneg (by omega)
  refine V_lv (lv' := [(0, .ref (ad (ix k 0))), (1, .int (iZ (d)))]) rfl ?_
  refine V_iconst hx dX1_countWriters_0 ?_
  refine V_istore_n hx dX1_countWriters_1 [(2, .int (iZ (0))), (0, .ref (ad (ix k 0))), (1, .int (iZ (d)))] (by decide) rfl ?_
  refine V_iconst hx dX1_countWriters_2 ?_
  refine V_istore_n hx dX1_countWriters_3 [(3, .int (iZ (0))), (2, .int (iZ (0))), (0, .ref (ad (ix k 0))), (1, .int (iZ (d)))] (by decide) rfl ?_
  have hL4 : ∀ (n : Nat) (i : Nat), nc T < i + n → i ≤ nc T → V x 0 0 (SW g ad P k T) 4 [(3, .int (iZ ((i : Int)))), (2, .int (iZ (sm i (wtF T d.toNat)))), (0, .ref (ad (ix k 0))), (1, .int (iZ (d)))] [] := by
    intro n
    induction n with
    | zero =>
      intro i g1 g2 
      exact absurd g1 (by omega)
    | succ n ih =>
      intro i g1 g2 
      refine V_iload_n hx dX1_countWriters_4 0 rfl ?_
      refine V_aload_n hx dX1_countWriters_5 2 rfl ?_
      refine gf_X1_38 hx (ix k 0) (SW_shop hk) rfl dX1_countWriters_6 ?_
      refine V_icmp_ge hx dX1_countWriters_9 51 (by decide) ⟨by omega, by omega⟩ (by first | assumption | exact hT _ _ | exact ⟨by omega, by omega⟩) (fun h9 => ?_) (fun h9 => ?_)
      · refine V_iload_n hx dX1_countWriters_51 1 rfl ?_
        exact hE _ _ _ _ dX1_countWriters_52 rfl ⟨by rw [show i = nc T by omega], rfl⟩
      · refine V_iload_n hx dX1_countWriters_12 1 rfl ?_
        refine V_aload_n hx dX1_countWriters_13 2 rfl ?_
        refine gf_X1_24 hx (ix k 0) (SW_shop hk) rfl dX1_countWriters_14 ?_
        refine V_iload_n hx dX1_countWriters_17 0 rfl ?_
        refine V_aald hx (by omega) (by omega) (by decide) (ix k 3) (SW_refs hk) (r := ad (ix k (7 + 8 * i))) rfl dX1_countWriters_18 ?_
        refine gf_X1_128 hx (ix k (7 + 8 * i)) (SW_clk hk (isQ_c (by omega))) rfl dX1_countWriters_19 ?_
        refine V_if_ne hx dX1_countWriters_22 42 (by decide) (by first | assumption | exact hT _ _ | exact ⟨by omega, by omega⟩) (fun h22 => ?_) (fun h22 => ?_)
        · refine V_iconst hx dX1_countWriters_42 ?_
          refine V_iadd hx dX1_countWriters_43 ?_
          refine V_istore_n hx dX1_countWriters_44 [(2, .int (iZ ((sm i (wtF T d.toNat)) + 0))), (3, .int (iZ ((i : Int)))), (0, .ref (ad (ix k 0))), (1, .int (iZ (d)))] (by decide) rfl ?_
          refine V_iincN hx dX1_countWriters_45 1 rfl [(3, .int (iZ (((i + 1 : Nat) : Int)))), (2, .int (iZ ((sm i (wtF T d.toNat)) + 0))), (0, .ref (ad (ix k 0))), (1, .int (iZ (d)))] (by decide) rfl ?_
          refine V_goto hx dX1_countWriters_48 4 (by decide) ?_
          refine V_sub (lv' := [(3, .int (iZ (((i + 1 : Nat) : Int)))), (2, .int (iZ ((sm i (wtF T d.toNat)) + 0))), (0, .ref (ad (ix k 0))), (1, .int (iZ (d)))]) [0, 1, 2, 3] rfl ?_
          refine V_lv (lv' := [(3, .int (iZ ((i + 1 : Nat) : Int))), (2, .int (iZ (sm (i + 1) (wtF T d.toNat)))), (0, .ref (ad (ix k 0))), (1, .int (iZ (d)))]) (by first | simp only [sm, wtF, bz_f (fun h9 : _ ∧ _ => h35 h9.2)] | simp only [sm, wtF, bz_f (fun h9 : _ ∧ _ => h22 h9.1)]) ?_
          exact ih (i + 1) (by omega) (by omega)
        · refine V_aload_n hx dX1_countWriters_25 2 rfl ?_
          refine gf_X1_24 hx (ix k 0) (SW_shop hk) rfl dX1_countWriters_26 ?_
          refine V_iload_n hx dX1_countWriters_29 0 rfl ?_
          refine V_aald hx (by omega) (by omega) (by decide) (ix k 3) (SW_refs hk) (r := ad (ix k (7 + 8 * i))) rfl dX1_countWriters_30 ?_
          refine V_iload_n hx dX1_countWriters_31 3 rfl ?_
          refine V_callNi hx (m_hasWritten l hk T hT (q := 7 + 8 * i) (isQ_c (by omega)) (d := d) (by omega) (by omega)) cw_X1_109 (RMn (by decide) (by decide)) rfl (ix k (7 + 8 * i)) (SW_clk hk (isQ_c (by omega))) rfl rfl (Nat.le_of_ble_eq_true rfl) dX1_countWriters_32 0 0 rfl rfl (fun z1 ws1 e1 => ?_)
          obtain ⟨rfl, rfl⟩ := e1
          refine V_ifb_eq hx dX1_countWriters_35 42 (by decide) (fun h35 => ?_) (fun h35 => ?_)
          · refine V_iconst hx dX1_countWriters_42 ?_
            refine V_iadd hx dX1_countWriters_43 ?_
            refine V_istore_n hx dX1_countWriters_44 [(2, .int (iZ ((sm i (wtF T d.toNat)) + 0))), (3, .int (iZ ((i : Int)))), (0, .ref (ad (ix k 0))), (1, .int (iZ (d)))] (by decide) rfl ?_
            refine V_iincN hx dX1_countWriters_45 1 rfl [(3, .int (iZ (((i + 1 : Nat) : Int)))), (2, .int (iZ ((sm i (wtF T d.toNat)) + 0))), (0, .ref (ad (ix k 0))), (1, .int (iZ (d)))] (by decide) rfl ?_
            refine V_goto hx dX1_countWriters_48 4 (by decide) ?_
            refine V_sub (lv' := [(3, .int (iZ (((i + 1 : Nat) : Int)))), (2, .int (iZ ((sm i (wtF T d.toNat)) + 0))), (0, .ref (ad (ix k 0))), (1, .int (iZ (d)))]) [0, 1, 2, 3] rfl ?_
            refine V_lv (lv' := [(3, .int (iZ ((i + 1 : Nat) : Int))), (2, .int (iZ (sm (i + 1) (wtF T d.toNat)))), (0, .ref (ad (ix k 0))), (1, .int (iZ (d)))]) (by first | simp only [sm, wtF, bz_f (fun h9 : _ ∧ _ => h35 h9.2)] | simp only [sm, wtF, bz_f (fun h9 : _ ∧ _ => h22 h9.1)]) ?_
            exact ih (i + 1) (by omega) (by omega)
          · refine V_iconst hx dX1_countWriters_38 ?_
            refine V_goto hx dX1_countWriters_39 43 (by decide) ?_
            refine V_iadd hx dX1_countWriters_43 ?_
            refine V_istore_n hx dX1_countWriters_44 [(2, .int (iZ ((sm i (wtF T d.toNat)) + 1))), (3, .int (iZ ((i : Int)))), (0, .ref (ad (ix k 0))), (1, .int (iZ (d)))] (by decide) rfl ?_
            refine V_iincN hx dX1_countWriters_45 1 rfl [(3, .int (iZ (((i + 1 : Nat) : Int)))), (2, .int (iZ ((sm i (wtF T d.toNat)) + 1))), (0, .ref (ad (ix k 0))), (1, .int (iZ (d)))] (by decide) rfl ?_
            refine V_goto hx dX1_countWriters_48 4 (by decide) ?_
            refine V_sub (lv' := [(3, .int (iZ (((i + 1 : Nat) : Int)))), (2, .int (iZ ((sm i (wtF T d.toNat)) + 1))), (0, .ref (ad (ix k 0))), (1, .int (iZ (d)))]) [0, 1, 2, 3] rfl ?_
            refine V_lv (lv' := [(3, .int (iZ ((i + 1 : Nat) : Int))), (2, .int (iZ (sm (i + 1) (wtF T d.toNat)))), (0, .ref (ad (ix k 0))), (1, .int (iZ (d)))]) (by simp only [sm, wtF, bz_t (And.intro h22 h35)]) ?_
            exact ih (i + 1) (by omega) (by omega)
  refine V_ws (ws' := SW g ad P k T) rfl ?_
  exact V_sub [0, 1, 2, 3] rfl (hL4 (nc T + 1) 0 (by omega) (by omega))
set_option maxHeartbeats 4000000 in
set_option maxRecDepth 100000 in
theorem m_kept (l : Launch) {g : GT} {ad : Nat → Nat} {P : Nat → TS} {k : Nat} (hk : k < 2) (T : TS) (hT : RG T) : MI l yX1_closingsKept cX1_closingsKept 1 .int (rmN 1) g [.ref (ad (ix k 0))] (SW g ad P k T) (fun z ws9 => z = kpV T ∧ ws9 = SW g ad P k T) := by
  refine MI.of (own := RX1) (by decide) rfl (Nat.le_of_ble_eq_true rfl) (fun x hx hE => ?_)
  refine V_lv (lv' := [(0, .ref (ad (ix k 0)))]) rfl ?_
  refine V_aload_n hx dX1_closingsKept_0 0 rfl ?_
  refine gf_X1_41 hx (ix k 0) (SW_shop hk) rfl dX1_closingsKept_1 ?_
  refine V_bipush hx dX1_closingsKept_4 rfl ?_
  refine V_min hx qm174 qm175 q13 qm176 (by first | assumption | exact hT _ _ | exact ⟨by omega, by omega⟩) ⟨by decide, by decide⟩ (by decide) (Nat.le_of_ble_eq_true rfl) (Nat.zero_le _) (Nat.zero_le _) dX1_closingsKept_6 ?_
  exact hE _ _ _ _ dX1_closingsKept_9 rfl ⟨rfl, rfl⟩
set_option maxHeartbeats 4000000 in
set_option maxRecDepth 100000 in
theorem m_closingFact (l : Launch) {g : GT} {ad : Nat → Nat} {P : Nat → TS} {k : Nat} (hk : k < 2) (T : TS) (hT : RG T) {b : Int} (hb0 : 0 ≤ b) (hb9 : b < 10) {what : Int} (hw0 : 0 ≤ what) (hw9 : what < 2147483648) : MI l yX1_closingFact cX1_closingFact 3 .int (rmN 0) g [.ref (ad (ix k 0)), .int (iZ (b)), .int (iZ (what))] (SW g ad P k T) (fun z ws9 => z = cfV T b what ∧ ws9 = SW g ad P k T) := by
  refine MI.of (own := RX1) (by decide) rfl (Nat.le_of_ble_eq_true rfl) (fun x hx hE => ?_)
  refine V_lv (lv' := [(0, .ref (ad (ix k 0))), (1, .int (iZ (b))), (2, .int (iZ (what)))]) rfl ?_
  refine V_iload_n hx dX1_closingFact_0 2 rfl ?_
  by_cases h1_0 : what = 0
  · refine V_lookup hx dX1_closingFact_1 rfl (by first | assumption | exact hT _ _ | exact ⟨by omega, by omega⟩) (off := 27) (by rw [h1_0]; rfl) 28 (by decide) ?_
    refine V_aload_n hx dX1_closingFact_28 0 rfl ?_
    refine gf_X1_29 hx (ix k 0) (SW_shop hk) rfl dX1_closingFact_29 ?_
    refine V_iload_n hx dX1_closingFact_32 1 rfl ?_
    refine V_iald hx (by omega) (by omega) (by decide) (ix k 4) (SW_10 hk (by decide)) (v := T 4 b.toNat) rfl dX1_closingFact_33 ?_
    exact hE _ _ _ _ dX1_closingFact_34 rfl ⟨by unfold cfV; simp [*], rfl⟩
  by_cases h1_1 : what = 1
  · refine V_lookup hx dX1_closingFact_1 rfl (by first | assumption | exact hT _ _ | exact ⟨by omega, by omega⟩) (off := 34) (by rw [h1_1]; rfl) 35 (by decide) ?_
    refine V_aload_n hx dX1_closingFact_35 0 rfl ?_
    refine gf_X1_32 hx (ix k 0) (SW_shop hk) rfl dX1_closingFact_36 ?_
    refine V_iload_n hx dX1_closingFact_39 1 rfl ?_
    refine V_iald hx (by omega) (by omega) (by decide) (ix k 5) (SW_10 hk (by decide)) (v := T 5 b.toNat) rfl dX1_closingFact_40 ?_
    exact hE _ _ _ _ dX1_closingFact_41 rfl ⟨by unfold cfV; simp [*], rfl⟩
  refine V_lookup hx dX1_closingFact_1 rfl (by first | assumption | exact hT _ _ | exact ⟨by omega, by omega⟩) (off := 41) (by simp [Op.lookupswitch.offset, Ne.symm h1_0, Ne.symm h1_1]) 42 (by decide) ?_
  refine V_aload_n hx dX1_closingFact_42 0 rfl ?_
  refine gf_X1_35 hx (ix k 0) (SW_shop hk) rfl dX1_closingFact_43 ?_
  refine V_iload_n hx dX1_closingFact_46 1 rfl ?_
  refine V_iald hx (by omega) (by omega) (by decide) (ix k 6) (SW_10 hk (by decide)) (v := T 6 b.toNat) rfl dX1_closingFact_47 ?_
  exact hE _ _ _ _ dX1_closingFact_48 rfl ⟨by unfold cfV; simp [*], rfl⟩
set_option maxHeartbeats 4000000 in
set_option maxRecDepth 100000 in
theorem m_countFact (l : Launch) {g : GT} {ad : Nat → Nat} {P : Nat → TS} {k : Nat} (hk : k < 2) (T : TS) (hT : RG T) (hn0 : 0 ≤ T 0 0) (hn8 : T 0 0 ≤ 8) (hc0 : 0 ≤ T 0 1) (hc6 : T 0 1 ≤ 6) {what : Int} (hw0 : 0 ≤ what) (hw9 : what < 2147483648) : MI l yX1_countFact cX1_countFact 2 .int (rmN 4) g [.ref (ad (ix k 0)), .int (iZ (what))] (SW g ad P k T) (fun z ws9 => z = cnV T what ∧ ws9 = SW g ad P k T) := by
  refine MI.of (own := RX1) (by decide) rfl (Nat.le_of_ble_eq_true rfl) (fun x hx hE => ?_)
  refine V_lv (lv' := [(0, .ref (ad (ix k 0))), (1, .int (iZ (what)))]) rfl ?_
  refine V_iload_n hx dX1_countFact_0 1 rfl ?_
  by_cases h1_0 : what = 0
  · refine V_tabIn hx dX1_countFact_1 (by first | assumption | exact hT _ _ | exact ⟨by omega, by omega⟩) (by omega) (by omega) (off := 39) (by rw [h1_0]; rfl) 40 (by decide) ?_
    refine V_aload_n hx dX1_countFact_40 0 rfl ?_
    refine gf_X1_9 hx (ix k 0) (SW_shop hk) rfl dX1_countFact_41 ?_
    exact hE _ _ _ _ dX1_countFact_44 rfl ⟨by unfold cnV; simp [*], rfl⟩
  by_cases h1_1 : what = 1
  · refine V_tabIn hx dX1_countFact_1 (by first | assumption | exact hT _ _ | exact ⟨by omega, by omega⟩) (by omega) (by omega) (off := 44) (by rw [h1_1]; rfl) 45 (by decide) ?_
    refine V_aload_n hx dX1_countFact_45 0 rfl ?_
    refine gf_X1_38 hx (ix k 0) (SW_shop hk) rfl dX1_countFact_46 ?_
    exact hE _ _ _ _ dX1_countFact_49 rfl ⟨by unfold cnV; simp [*], rfl⟩
  by_cases h1_2 : what = 2
  · refine V_tabIn hx dX1_countFact_1 (by first | assumption | exact hT _ _ | exact ⟨by omega, by omega⟩) (by omega) (by omega) (off := 49) (by rw [h1_2]; rfl) 50 (by decide) ?_
    refine V_aload_n hx dX1_countFact_50 0 rfl ?_
    refine V_calli hx (m_countDone l hk T hT (by omega) (by omega)) cw_X1_149 (RMn (by decide) (by decide)) rfl (ix k 0) (SW_shop hk) rfl rfl (Nat.le_of_ble_eq_true rfl) dX1_countFact_51 0 0 rfl rfl (fun z1 ws1 e1 => ?_)
    obtain ⟨rfl, rfl⟩ := e1
    exact hE _ _ _ _ dX1_countFact_54 rfl ⟨by unfold cnV; simp [*], rfl⟩
  by_cases h1_3 : what = 3
  · refine V_tabIn hx dX1_countFact_1 (by first | assumption | exact hT _ _ | exact ⟨by omega, by omega⟩) (by omega) (by omega) (off := 54) (by rw [h1_3]; rfl) 55 (by decide) ?_
    refine V_aload_n hx dX1_countFact_55 0 rfl ?_
    refine gf_X1_41 hx (ix k 0) (SW_shop hk) rfl dX1_countFact_56 ?_
    exact hE _ _ _ _ dX1_countFact_59 rfl ⟨by unfold cnV; simp [*], rfl⟩
  by_cases h1_4 : what = 4
  · refine V_tabIn hx dX1_countFact_1 (by first | assumption | exact hT _ _ | exact ⟨by omega, by omega⟩) (by omega) (by omega) (off := 59) (by rw [h1_4]; rfl) 60 (by decide) ?_
    refine V_aload_n hx dX1_countFact_60 0 rfl ?_
    refine V_calli hx (m_sumLost l hk T hT (by omega) (by omega)) cw_X1_152 (RMn (by decide) (by decide)) rfl (ix k 0) (SW_shop hk) rfl rfl (Nat.le_of_ble_eq_true rfl) dX1_countFact_61 0 0 rfl rfl (fun z2 ws2 e2 => ?_)
    obtain ⟨rfl, rfl⟩ := e2
    exact hE _ _ _ _ dX1_countFact_64 rfl ⟨by unfold cnV; simp [*], rfl⟩
  by_cases h1_5 : what = 5
  · refine V_tabIn hx dX1_countFact_1 (by first | assumption | exact hT _ _ | exact ⟨by omega, by omega⟩) (by omega) (by omega) (off := 64) (by rw [h1_5]; rfl) 65 (by decide) ?_
    refine V_aload_n hx dX1_countFact_65 0 rfl ?_
    refine V_calli hx (m_sumAmounts l hk T hT (by first | omega | exact hn0) (by first | omega | exact hn8)) cw_X1_55 (RMn (by decide) (by decide)) rfl (ix k 0) (SW_shop hk) rfl rfl (Nat.le_of_ble_eq_true rfl) dX1_countFact_66 0 0 rfl rfl (fun z3 ws3 e3 => ?_)
    obtain ⟨rfl, rfl⟩ := e3
    exact hE _ _ _ _ dX1_countFact_69 rfl ⟨by unfold cnV; simp [*], rfl⟩
  refine V_tabOut hx dX1_countFact_1 (by first | assumption | exact hT _ _ | exact ⟨by omega, by omega⟩) (by omega) 70 (by decide) ?_
  refine V_aload_n hx dX1_countFact_70 0 rfl ?_
  refine V_calli hx (m_countLosers l hk T hT (by omega) (by omega) (by omega) (by omega)) cw_X1_155 (RMn (by decide) (by decide)) rfl (ix k 0) (SW_shop hk) rfl rfl (Nat.le_of_ble_eq_true rfl) dX1_countFact_71 0 0 rfl rfl (fun z4 ws4 e4 => ?_)
  obtain ⟨rfl, rfl⟩ := e4
  exact hE _ _ _ _ dX1_countFact_74 rfl ⟨by unfold cnV; simp [*], rfl⟩
set_option maxHeartbeats 4000000 in
set_option maxRecDepth 100000 in
theorem m_drawerFact (l : Launch) {g : GT} {ad : Nat → Nat} {P : Nat → TS} {k : Nat} (hk : k < 2) (T : TS) (hT : RG T) (hc0 : 0 ≤ T 0 1) (hc6 : T 0 1 ≤ 6) {d : Int} (hd0 : 0 ≤ d) (hd8 : d < 8) {what : Int} (hw0 : 0 ≤ what) (hw9 : what < 2147483648) : MI l yX1_drawerFact cX1_drawerFact 3 .int (rmN 2) g [.ref (ad (ix k 0)), .int (iZ (d)), .int (iZ (what))] (SW g ad P k T) (fun z ws9 => z = drV T d what ∧ ws9 = SW g ad P k T) := by
  refine MI.of (own := RX1) (by decide) rfl (Nat.le_of_ble_eq_true rfl) (fun x hx hE => ?_)
  refine V_lv (lv' := [(0, .ref (ad (ix k 0))), (1, .int (iZ (d))), (2, .int (iZ (what)))]) rfl ?_
  refine V_iload_n hx dX1_drawerFact_0 2 rfl ?_
  by_cases h1_0 : what = 0
  · refine V_tabIn hx dX1_drawerFact_1 (by first | assumption | exact hT _ _ | exact ⟨by omega, by omega⟩) (by omega) (by omega) (off := 27) (by rw [h1_0]; rfl) 28 (by decide) ?_
    refine V_aload_n hx dX1_drawerFact_28 0 rfl ?_
    refine gf_X1_15 hx (ix k 0) (SW_shop hk) rfl dX1_drawerFact_29 ?_
    refine V_iload_n hx dX1_drawerFact_32 1 rfl ?_
    refine V_iald hx (by omega) (by omega) (by decide) (ix k 1) (SW_8 hk (Or.inl rfl) (by decide)) (v := T 1 d.toNat) rfl dX1_drawerFact_33 ?_
    exact hE _ _ _ _ dX1_drawerFact_34 rfl ⟨by unfold drV; simp [*], rfl⟩
  by_cases h1_1 : what = 1
  · refine V_tabIn hx dX1_drawerFact_1 (by first | assumption | exact hT _ _ | exact ⟨by omega, by omega⟩) (by omega) (by omega) (off := 34) (by rw [h1_1]; rfl) 35 (by decide) ?_
    refine V_aload_n hx dX1_drawerFact_35 0 rfl ?_
    refine gf_X1_19 hx (ix k 0) (SW_shop hk) rfl dX1_drawerFact_36 ?_
    refine V_iload_n hx dX1_drawerFact_39 1 rfl ?_
    refine V_iald hx (by omega) (by omega) (by decide) (ix k 2) (SW_8 hk (Or.inr (Or.inl rfl)) (by decide)) (v := T 2 d.toNat) rfl dX1_drawerFact_40 ?_
    exact hE _ _ _ _ dX1_drawerFact_41 rfl ⟨by unfold drV; simp [*], rfl⟩
  by_cases h1_2 : what = 2
  · refine V_tabIn hx dX1_drawerFact_1 (by first | assumption | exact hT _ _ | exact ⟨by omega, by omega⟩) (by omega) (by omega) (off := 41) (by rw [h1_2]; rfl) 42 (by decide) ?_
    refine V_aload_n hx dX1_drawerFact_42 0 rfl ?_
    refine V_iload_n hx dX1_drawerFact_43 1 rfl ?_
    refine V_calli hx (m_countRememberers l hk T hT (by omega) (by omega) (d := d) (by omega) (by omega)) cw_X1_158 (RMn (by decide) (by decide)) rfl (ix k 0) (SW_shop hk) rfl rfl (Nat.le_of_ble_eq_true rfl) dX1_drawerFact_44 0 0 rfl rfl (fun z1 ws1 e1 => ?_)
    obtain ⟨rfl, rfl⟩ := e1
    exact hE _ _ _ _ dX1_drawerFact_47 rfl ⟨by unfold drV; simp [*], rfl⟩
  refine V_tabOut hx dX1_drawerFact_1 (by first | assumption | exact hT _ _ | exact ⟨by omega, by omega⟩) (by omega) 48 (by decide) ?_
  refine V_aload_n hx dX1_drawerFact_48 0 rfl ?_
  refine V_iload_n hx dX1_drawerFact_49 1 rfl ?_
  refine V_calli hx (m_countWriters l hk T hT (by omega) (by omega) (d := d) (by omega) (by omega)) cw_X1_161 (RMn (by decide) (by decide)) rfl (ix k 0) (SW_shop hk) rfl rfl (Nat.le_of_ble_eq_true rfl) dX1_drawerFact_50 0 0 rfl rfl (fun z2 ws2 e2 => ?_)
  obtain ⟨rfl, rfl⟩ := e2
  exact hE _ _ _ _ dX1_drawerFact_53 rfl ⟨by unfold drV; simp [*], rfl⟩
set_option maxHeartbeats 4000000 in
set_option maxRecDepth 100000 in
theorem m_clerkFact (l : Launch) {g : GT} {ad : Nat → Nat} {P : Nat → TS} {k : Nat} (hk : k < 2) (T : TS) (hT : RG T) (hn0 : 0 ≤ T 0 0) (hn8 : T 0 0 ≤ 8) {c : Int} (ha0 : 0 ≤ c) (ha6 : c < 6) {what : Int} (hw0 : 0 ≤ what) (hw9 : what < 2147483648) : MI l yX1_clerkFact cX1_clerkFact 4 .int (rmN 3) g [.ref (ad (ix k 0)), .int (iZ (c)), .int (iZ (what))] (SW g ad P k T) (fun z ws9 => z = ckV T c what ∧ ws9 = SW g ad P k T) := by
  refine MI.of (own := RX1) (by decide) rfl (Nat.le_of_ble_eq_true rfl) (fun x hx hE => ?_)
  refine V_lv (lv' := [(0, .ref (ad (ix k 0))), (1, .int (iZ (c))), (2, .int (iZ (what)))]) rfl ?_
  refine V_aload_n hx dX1_clerkFact_0 0 rfl ?_
  refine gf_X1_24 hx (ix k 0) (SW_shop hk) rfl dX1_clerkFact_1 ?_
  refine V_iload_n hx dX1_clerkFact_4 1 rfl ?_
  refine V_aald hx (by omega) (by omega) (by decide) (ix k 3) (SW_refs hk) (r := ad (ix k (7 + 8 * c.toNat))) rfl dX1_clerkFact_5 ?_
  refine V_astore_n hx dX1_clerkFact_6 [(3, .ref (ad (ix k (7 + 8 * c.toNat)))), (0, .ref (ad (ix k 0))), (1, .int (iZ (c))), (2, .int (iZ (what)))] (by decide) rfl ?_
  refine V_iload_n hx dX1_clerkFact_7 3 rfl ?_
  by_cases h8_0 : what = 0
  · refine V_tabIn hx dX1_clerkFact_8 (by first | assumption | exact hT _ _ | exact ⟨by omega, by omega⟩) (by omega) (by omega) (off := 40) (by rw [h8_0]; rfl) 48 (by decide) ?_
    refine V_aload_n hx dX1_clerkFact_48 0 rfl ?_
    refine gf_X1_62 hx (ix k (7 + 8 * c.toNat)) (SW_clk hk (isQ_c (by omega))) rfl dX1_clerkFact_49 ?_
    exact hE _ _ _ _ dX1_clerkFact_52 rfl ⟨by unfold ckV; simp only [*]; first | (simp; done) | (simp; exact (bz_t (by first | assumption | omega)).symm) | (simp; exact (bz_f (by first | assumption | omega)).symm) | (unfold loF; simp; exact (bz_t (by first | assumption | omega)).symm) | (unfold loF; simp; exact (bz_f (by first | assumption | omega)).symm), rfl⟩
  by_cases h8_1 : what = 1
  · refine V_tabIn hx dX1_clerkFact_8 (by first | assumption | exact hT _ _ | exact ⟨by omega, by omega⟩) (by omega) (by omega) (off := 45) (by rw [h8_1]; rfl) 53 (by decide) ?_
    refine V_aload_n hx dX1_clerkFact_53 0 rfl ?_
    refine gf_X1_59 hx (ix k (7 + 8 * c.toNat)) (SW_clk hk (isQ_c (by omega))) rfl dX1_clerkFact_54 ?_
    exact hE _ _ _ _ dX1_clerkFact_57 rfl ⟨by unfold ckV; simp only [*]; first | (simp; done) | (simp; exact (bz_t (by first | assumption | omega)).symm) | (simp; exact (bz_f (by first | assumption | omega)).symm) | (unfold loF; simp; exact (bz_t (by first | assumption | omega)).symm) | (unfold loF; simp; exact (bz_f (by first | assumption | omega)).symm), rfl⟩
  by_cases h8_2 : what = 2
  · refine V_tabIn hx dX1_clerkFact_8 (by first | assumption | exact hT _ _ | exact ⟨by omega, by omega⟩) (by omega) (by omega) (off := 50) (by rw [h8_2]; rfl) 58 (by decide) ?_
    refine V_aload_n hx dX1_clerkFact_58 0 rfl ?_
    refine gf_X1_128 hx (ix k (7 + 8 * c.toNat)) (SW_clk hk (isQ_c (by omega))) rfl dX1_clerkFact_59 ?_
    refine V_if_eq hx dX1_clerkFact_62 69 (by decide) (by first | assumption | exact hT _ _ | exact ⟨by omega, by omega⟩) (fun h62 => ?_) (fun h62 => ?_)
    · refine V_iconst hx dX1_clerkFact_69 ?_
      exact hE _ _ _ _ dX1_clerkFact_70 rfl ⟨by unfold ckV; rw [if_neg (by omega), if_neg (by omega), if_pos (by omega)]; first | exact (bz_t h62).symm | exact (bz_f (fun h9 => h9 h62)).symm, rfl⟩
    · refine V_iconst hx dX1_clerkFact_65 ?_
      refine V_goto hx dX1_clerkFact_66 70 (by decide) ?_
      exact hE _ _ _ _ dX1_clerkFact_70 rfl ⟨by unfold ckV; rw [if_neg (by omega), if_neg (by omega), if_pos (by omega)]; first | exact (bz_t h62).symm | exact (bz_f (fun h9 => h9 h62)).symm, rfl⟩
  by_cases h8_3 : what = 3
  · refine V_tabIn hx dX1_clerkFact_8 (by first | assumption | exact hT _ _ | exact ⟨by omega, by omega⟩) (by omega) (by omega) (off := 63) (by rw [h8_3]; rfl) 71 (by decide) ?_
    refine V_aload_n hx dX1_clerkFact_71 0 rfl ?_
    refine gf_X1_72 hx (ix k (7 + 8 * c.toNat)) (SW_clk hk (isQ_c (by omega))) rfl dX1_clerkFact_72 ?_
    exact hE _ _ _ _ dX1_clerkFact_75 rfl ⟨by unfold ckV; simp only [*]; first | (simp; done) | (simp; exact (bz_t (by first | assumption | omega)).symm) | (simp; exact (bz_f (by first | assumption | omega)).symm) | (unfold loF; simp; exact (bz_t (by first | assumption | omega)).symm) | (unfold loF; simp; exact (bz_f (by first | assumption | omega)).symm), rfl⟩
  by_cases h8_4 : what = 4
  · refine V_tabIn hx dX1_clerkFact_8 (by first | assumption | exact hT _ _ | exact ⟨by omega, by omega⟩) (by omega) (by omega) (off := 68) (by rw [h8_4]; rfl) 76 (by decide) ?_
    refine V_aload_n hx dX1_clerkFact_76 0 rfl ?_
    refine V_callNi hx (m_countRemembered l hk T hT (q := 7 + 8 * c.toNat) (isQ_c (by omega))) cw_X1_164 (RMn (by decide) (by decide)) rfl (ix k (7 + 8 * c.toNat)) (SW_clk hk (isQ_c (by omega))) rfl rfl (Nat.le_of_ble_eq_true rfl) dX1_clerkFact_77 0 0 rfl rfl (fun z1 ws1 e1 => ?_)
    obtain ⟨rfl, rfl⟩ := e1
    exact hE _ _ _ _ dX1_clerkFact_80 rfl ⟨by unfold ckV; simp only [*]; first | (simp; done) | (simp; exact (bz_t (by first | assumption | omega)).symm) | (simp; exact (bz_f (by first | assumption | omega)).symm) | (unfold loF; simp; exact (bz_t (by first | assumption | omega)).symm) | (unfold loF; simp; exact (bz_f (by first | assumption | omega)).symm), rfl⟩
  by_cases h8_5 : what = 5
  · refine V_tabIn hx dX1_clerkFact_8 (by first | assumption | exact hT _ _ | exact ⟨by omega, by omega⟩) (by omega) (by omega) (off := 73) (by rw [h8_5]; rfl) 81 (by decide) ?_
    refine V_aload_n hx dX1_clerkFact_81 0 rfl ?_
    refine V_callNi hx (m_countWritten l hk T hT (q := 7 + 8 * c.toNat) (isQ_c (by omega))) cw_X1_132 (RMn (by decide) (by decide)) rfl (ix k (7 + 8 * c.toNat)) (SW_clk hk (isQ_c (by omega))) rfl rfl (Nat.le_of_ble_eq_true rfl) dX1_clerkFact_82 0 0 rfl rfl (fun z2 ws2 e2 => ?_)
    obtain ⟨rfl, rfl⟩ := e2
    exact hE _ _ _ _ dX1_clerkFact_85 rfl ⟨by unfold ckV; simp only [*]; first | (simp; done) | (simp; exact (bz_t (by first | assumption | omega)).symm) | (simp; exact (bz_f (by first | assumption | omega)).symm) | (unfold loF; simp; exact (bz_t (by first | assumption | omega)).symm) | (unfold loF; simp; exact (bz_f (by first | assumption | omega)).symm), rfl⟩
  refine V_tabOut hx dX1_clerkFact_8 (by first | assumption | exact hT _ _ | exact ⟨by omega, by omega⟩) (by omega) 86 (by decide) ?_
  refine V_aload_n hx dX1_clerkFact_86 1 rfl ?_
  refine V_aload_n hx dX1_clerkFact_87 0 rfl ?_
  refine V_calli hx (m_wouldLose l hk T hT (q := 7 + 8 * c.toNat) (isQ_c (by omega)) (by omega) (by omega)) cw_X1_167 (RMn (by decide) (by decide)) rfl (ix k 0) (SW_shop hk) rfl rfl (Nat.le_of_ble_eq_true rfl) dX1_clerkFact_88 0 0 rfl rfl (fun z3 ws3 e3 => ?_)
  obtain ⟨rfl, rfl⟩ := e3
  refine V_ifb_eq hx dX1_clerkFact_91 98 (by decide) (fun h91 => ?_) (fun h91 => ?_)
  · refine V_iconst hx dX1_clerkFact_98 ?_
    exact hE _ _ _ _ dX1_clerkFact_99 rfl ⟨by unfold ckV; simp only [*]; first | (simp; done) | (simp; exact (bz_t (by first | assumption | omega)).symm) | (simp; exact (bz_f (by first | assumption | omega)).symm) | (unfold loF; simp; exact (bz_t (by first | assumption | omega)).symm) | (unfold loF; simp; exact (bz_f (by first | assumption | omega)).symm), rfl⟩
  · refine V_iconst hx dX1_clerkFact_94 ?_
    refine V_goto hx dX1_clerkFact_95 99 (by decide) ?_
    exact hE _ _ _ _ dX1_clerkFact_99 rfl ⟨by unfold ckV; simp only [*]; first | (simp; done) | (simp; exact (bz_t (by first | assumption | omega)).symm) | (simp; exact (bz_f (by first | assumption | omega)).symm) | (unfold loF; simp; exact (bz_t (by first | assumption | omega)).symm) | (unfold loF; simp; exact (bz_f (by first | assumption | omega)).symm), rfl⟩
set_option maxHeartbeats 4000000 in
set_option maxRecDepth 100000 in
theorem m_isAny (l : Launch) {g : GT} {ad : Nat → Nat} {P : Nat → TS} {k : Nat} (hk : k < 2) (T : TS) (hT : RG T) (hc0 : 0 ≤ T 0 1) (hc6 : T 0 1 ≤ 6) : MI l yX1_isAnyAtWork cX1_isAnyAtWork 2 .boolean (rmN 1) g [.ref (ad (ix k 0))] (SW g ad P k T) (fun z ws9 => z = bz (∃ c, c < nc T ∧ awP T c) ∧ ws9 = SW g ad P k T) := by
  refine MI.of (own := RX1) (by decide) rfl (Nat.le_of_ble_eq_true rfl) (fun x hx hE => ?_)
  have hnc : ((nc T : Nat) : Int) = T 0 1 := Int.toNat_of_nonneg (by omega)
  refine V_lv (lv' := [(0, .ref (ad (ix k 0)))]) rfl ?_
  refine V_iconst hx dX1_isAnyAtWork_0 ?_
  refine V_istore_n hx dX1_isAnyAtWork_1 [(1, .int (iZ (0))), (0, .ref (ad (ix k 0)))] (by decide) rfl ?_
  have hL2 : ∀ (n : Nat) (i : Nat), nc T < i + n → i ≤ nc T → (∀ c, c < i → ¬ awP T c) → V x 0 0 (SW g ad P k T) 2 [(1, .int (iZ ((i : Int)))), (0, .ref (ad (ix k 0)))] [] := by
    intro n
    induction n with
    | zero =>
      intro i g1 g2 g3
      exact absurd g1 (by omega)
    | succ n ih =>
      intro i g1 g2 g3
      refine V_iload_n hx dX1_isAnyAtWork_2 0 rfl ?_
      refine V_aload_n hx dX1_isAnyAtWork_3 1 rfl ?_
      refine gf_X1_38 hx (ix k 0) (SW_shop hk) rfl dX1_isAnyAtWork_4 ?_
      refine V_icmp_ge hx dX1_isAnyAtWork_7 30 (by decide) ⟨by omega, by omega⟩ (by first | assumption | exact hT _ _ | exact ⟨by omega, by omega⟩) (fun h7 => ?_) (fun h7 => ?_)
      · refine V_iconst hx dX1_isAnyAtWork_30 ?_
        exact hE _ _ _ _ dX1_isAnyAtWork_31 rfl ⟨(bz_f (fun h9 => h9.elim (fun d h8 => g3 d (by omega) h8.2))).symm, rfl⟩
      · refine V_aload_n hx dX1_isAnyAtWork_10 1 rfl ?_
        refine gf_X1_24 hx (ix k 0) (SW_shop hk) rfl dX1_isAnyAtWork_11 ?_
        refine V_iload_n hx dX1_isAnyAtWork_14 0 rfl ?_
        refine V_aald hx (by omega) (by omega) (by decide) (ix k 3) (SW_refs hk) (r := ad (ix k (7 + 8 * i))) rfl dX1_isAnyAtWork_15 ?_
        refine V_callNi hx (m_isAtWork l hk T hT (q := 7 + 8 * i) (isQ_c (by omega))) cw_X1_138 (RMn (by decide) (by decide)) rfl (ix k (7 + 8 * i)) (SW_clk hk (isQ_c (by omega))) rfl rfl (Nat.le_of_ble_eq_true rfl) dX1_isAnyAtWork_16 0 0 rfl rfl (fun z1 ws1 e1 => ?_)
        obtain ⟨rfl, rfl⟩ := e1
        refine V_ifb_eq hx dX1_isAnyAtWork_19 24 (by decide) (fun h19 => ?_) (fun h19 => ?_)
        · refine V_iincN hx dX1_isAnyAtWork_24 0 rfl [(1, .int (iZ (((i + 1 : Nat) : Int)))), (0, .ref (ad (ix k 0)))] (by decide) rfl ?_
          refine V_goto hx dX1_isAnyAtWork_27 2 (by decide) ?_
          exact V_sub [0, 1] rfl (ih (i + 1) (by omega) (by omega) (lt_s g3 h19))
        · refine V_iconst hx dX1_isAnyAtWork_22 ?_
          exact hE _ _ _ _ dX1_isAnyAtWork_23 rfl ⟨(bz_t ⟨i, by omega, h19⟩).symm, rfl⟩
  refine V_ws (ws' := SW g ad P k T) rfl ?_
  exact V_sub [0, 1] rfl (hL2 (nc T + 1) 0 (by omega) (by omega) (fun d h9 => absurd h9 (Nat.not_lt_zero d)))
set_option maxHeartbeats 4000000 in
set_option maxRecDepth 100000 in
theorem m_clashes (l : Launch) {g : GT} {ad : Nat → Nat} {P : Nat → TS} {k : Nat} (hk : k < 2) (T : TS) (hT : RG T) (hn0 : 0 ≤ T 0 0) (hn8 : T 0 0 ≤ 8) {a b : Int} (ha0 : 0 ≤ a) (ha6 : a < 6) (hb0 : 0 ≤ b) (hb6 : b < 6) : MI l yX1_clashes cX1_clashes 6 .boolean (rmN 1) g [.ref (ad (ix k 0)), .int (iZ (a)), .int (iZ (b))] (SW g ad P k T) (fun z ws9 => z = bz (clP T a.toNat b.toNat) ∧ ws9 = SW g ad P k T) := by
  refine MI.of (own := RX1) (by decide) rfl (Nat.le_of_ble_eq_true rfl) (fun x hx hE => ?_)
  have hnd : ((nd T : Nat) : Int) = T 0 0 := Int.toNat_of_nonneg (by omega)
  refine V_lv (lv' := [(0, .ref (ad (ix k 0))), (1, .int (iZ (a))), (2, .int (iZ (b)))]) rfl ?_
  refine V_aload_n hx dX1_clashes_0 0 rfl ?_
  refine gf_X1_24 hx (ix k 0) (SW_shop hk) rfl dX1_clashes_1 ?_
  refine V_iload_n hx dX1_clashes_4 1 rfl ?_
  refine V_aald hx (by omega) (by omega) (by decide) (ix k 3) (SW_refs hk) (r := ad (ix k (7 + 8 * a.toNat))) rfl dX1_clashes_5 ?_
  refine V_astore_n hx dX1_clashes_6 [(3, .ref (ad (ix k (7 + 8 * a.toNat)))), (0, .ref (ad (ix k 0))), (1, .int (iZ (a))), (2, .int (iZ (b)))] (by decide) rfl ?_
  refine V_aload_n hx dX1_clashes_7 1 rfl ?_
  refine gf_X1_24 hx (ix k 0) (SW_shop hk) rfl dX1_clashes_8 ?_
  refine V_iload_n hx dX1_clashes_11 3 rfl ?_
  refine V_aald hx (by omega) (by omega) (by decide) (ix k 3) (SW_refs hk) (r := ad (ix k (7 + 8 * b.toNat))) rfl dX1_clashes_12 ?_
  refine V_astore hx dX1_clashes_13 [(4, .ref (ad (ix k (7 + 8 * b.toNat)))), (3, .ref (ad (ix k (7 + 8 * a.toNat)))), (0, .ref (ad (ix k 0))), (1, .int (iZ (a))), (2, .int (iZ (b)))] (by decide) rfl ?_
  refine V_iload_n hx dX1_clashes_15 3 rfl ?_
  refine V_iload_n hx dX1_clashes_16 4 rfl ?_
  refine V_icmp_eq hx dX1_clashes_17 35 (by decide) (by first | assumption | exact hT _ _ | exact ⟨by omega, by omega⟩) (by first | assumption | exact hT _ _ | exact ⟨by omega, by omega⟩) (fun h17 => ?_) (fun h17 => ?_)
  · refine V_iconst hx dX1_clashes_35 ?_
    exact hE _ _ _ _ dX1_clashes_36 rfl ⟨(bz_f (fun h9 => by obtain ⟨h1, h2, h3, -⟩ := h9; omega)).symm, rfl⟩
  · refine V_aload_n hx dX1_clashes_20 1 rfl ?_
    refine gf_X1_128 hx (ix k (7 + 8 * a.toNat)) (SW_clk hk (isQ_c (by omega))) rfl dX1_clashes_21 ?_
    refine V_if_ne hx dX1_clashes_24 35 (by decide) (by first | assumption | exact hT _ _ | exact ⟨by omega, by omega⟩) (fun h24 => ?_) (fun h24 => ?_)
    · refine V_iconst hx dX1_clashes_35 ?_
      exact hE _ _ _ _ dX1_clashes_36 rfl ⟨(bz_f (fun h9 => by obtain ⟨h1, h2, h3, -⟩ := h9; omega)).symm, rfl⟩
    · refine V_aload hx dX1_clashes_27 0 rfl ?_
      refine gf_X1_128 hx (ix k (7 + 8 * b.toNat)) (SW_clk hk (isQ_c (by omega))) rfl dX1_clashes_29 ?_
      refine V_if_eq hx dX1_clashes_32 37 (by decide) (by first | assumption | exact hT _ _ | exact ⟨by omega, by omega⟩) (fun h32 => ?_) (fun h32 => ?_)
      · refine V_iconst hx dX1_clashes_37 ?_
        refine V_istore hx dX1_clashes_38 [(5, .int (iZ (0))), (4, .ref (ad (ix k (7 + 8 * b.toNat)))), (3, .ref (ad (ix k (7 + 8 * a.toNat)))), (0, .ref (ad (ix k 0))), (1, .int (iZ (a))), (2, .int (iZ (b)))] (by decide) rfl ?_
        have hL40 : ∀ (n : Nat) (i : Nat), nd T < i + n → i ≤ nd T → (∀ d, d < i → ¬ (T (7 + 8 * a.toNat + 7) d ≠ -1 ∧ T (7 + 8 * b.toNat + 5) d ≠ -1)) → V x 0 0 (SW g ad P k T) 40 [(5, .int (iZ ((i : Int)))), (0, .ref (ad (ix k 0))), (1, .int (iZ (a))), (2, .int (iZ (b))), (3, .ref (ad (ix k (7 + 8 * a.toNat)))), (4, .ref (ad (ix k (7 + 8 * b.toNat))))] [] := by
          intro n
          induction n with
          | zero =>
            intro i g1 g2 g3
            exact absurd g1 (by omega)
          | succ n ih =>
            intro i g1 g2 g3
            refine V_iload hx dX1_clashes_40 0 rfl ?_
            refine V_aload_n hx dX1_clashes_42 1 rfl ?_
            refine gf_X1_9 hx (ix k 0) (SW_shop hk) rfl dX1_clashes_43 ?_
            refine V_icmp_ge hx dX1_clashes_46 76 (by decide) ⟨by omega, by omega⟩ (by first | assumption | exact hT _ _ | exact ⟨by omega, by omega⟩) (fun h46 => ?_) (fun h46 => ?_)
            · refine V_iconst hx dX1_clashes_76 ?_
              exact hE _ _ _ _ dX1_clashes_77 rfl ⟨(bz_f (fun h9 => by obtain ⟨-, -, -, d, h1, h2, h3⟩ := h9; exact g3 d (by omega) ⟨h2, h3⟩)).symm, rfl⟩
            · refine V_aload_n hx dX1_clashes_49 4 rfl ?_
              refine V_iload hx dX1_clashes_50 0 rfl ?_
              refine V_callNi hx (m_hasWritten l hk T hT (q := 7 + 8 * a.toNat) (isQ_c (by omega)) (d := (i : Int)) (by omega) (by omega)) cw_X1_109 (RMn (by decide) (by decide)) rfl (ix k (7 + 8 * a.toNat)) (SW_clk hk (isQ_c (by omega))) rfl rfl (Nat.le_of_ble_eq_true rfl) dX1_clashes_52 0 0 rfl rfl (fun z1 ws1 e1 => ?_)
              obtain ⟨rfl, rfl⟩ := e1
              refine V_top (b := bz (T (7 + 8 * a.toNat + 7) i ≠ -1)) rfl ?_
              refine V_ifb_eq hx dX1_clashes_55 70 (by decide) (fun h55 => ?_) (fun h55 => ?_)
              · refine V_iincN hx dX1_clashes_70 0 rfl [(5, .int (iZ (((i + 1 : Nat) : Int)))), (0, .ref (ad (ix k 0))), (1, .int (iZ (a))), (2, .int (iZ (b))), (3, .ref (ad (ix k (7 + 8 * a.toNat)))), (4, .ref (ad (ix k (7 + 8 * b.toNat))))] (by decide) rfl ?_
                refine V_goto hx dX1_clashes_73 40 (by decide) ?_
                exact V_sub [0, 1, 2, 3, 4, 5] rfl (ih (i + 1) (by omega) (by omega) (lt_s g3 (by first | exact (fun h9 => h65 h9.2) | exact (fun h9 => h55 h9.1))))
              · refine V_aload hx dX1_clashes_58 5 rfl ?_
                refine V_iload hx dX1_clashes_60 0 rfl ?_
                refine V_callNi hx (m_remembers l hk T hT (q := 7 + 8 * b.toNat) (isQ_c (by omega)) (d := (i : Int)) (by omega) (by omega)) cw_X1_113 (RMn (by decide) (by decide)) rfl (ix k (7 + 8 * b.toNat)) (SW_clk hk (isQ_c (by omega))) rfl rfl (Nat.le_of_ble_eq_true rfl) dX1_clashes_62 0 0 rfl rfl (fun z2 ws2 e2 => ?_)
                obtain ⟨rfl, rfl⟩ := e2
                refine V_top (b := bz (T (7 + 8 * b.toNat + 5) i ≠ -1)) rfl ?_
                refine V_ifb_eq hx dX1_clashes_65 70 (by decide) (fun h65 => ?_) (fun h65 => ?_)
                · refine V_iincN hx dX1_clashes_70 0 rfl [(5, .int (iZ (((i + 1 : Nat) : Int)))), (0, .ref (ad (ix k 0))), (1, .int (iZ (a))), (2, .int (iZ (b))), (3, .ref (ad (ix k (7 + 8 * a.toNat)))), (4, .ref (ad (ix k (7 + 8 * b.toNat))))] (by decide) rfl ?_
                  refine V_goto hx dX1_clashes_73 40 (by decide) ?_
                  exact V_sub [0, 1, 2, 3, 4, 5] rfl (ih (i + 1) (by omega) (by omega) (lt_s g3 (by first | exact (fun h9 => h65 h9.2) | exact (fun h9 => h55 h9.1))))
                · refine V_iconst hx dX1_clashes_68 ?_
                  exact hE _ _ _ _ dX1_clashes_69 rfl ⟨(bz_t ⟨by omega, by omega, by omega, i, by omega, h55, h65⟩).symm, rfl⟩
        refine V_ws (ws' := SW g ad P k T) rfl ?_
        exact V_sub [0, 3, 4, 5, 2, 1] rfl (hL40 (nd T + 1) 0 (by omega) (by omega) (fun d h9 => absurd h9 (Nat.not_lt_zero d)))
      · refine V_iconst hx dX1_clashes_35 ?_
        exact hE _ _ _ _ dX1_clashes_36 rfl ⟨(bz_f (fun h9 => by obtain ⟨h1, h2, h3, -⟩ := h9; omega)).symm, rfl⟩
set_option maxHeartbeats 4000000 in
set_option maxRecDepth 100000 in
theorem m_countClashes (l : Launch) {g : GT} {ad : Nat → Nat} {P : Nat → TS} {k : Nat} (hk : k < 2) (T : TS) (hT : RG T) (hn0 : 0 ≤ T 0 0) (hn8 : T 0 0 ≤ 8) (hc0 : 0 ≤ T 0 1) (hc6 : T 0 1 ≤ 6) {a : Int} (ha0 : 0 ≤ a) (ha6 : a < 6) : MI l yX1_countClashes cX1_countClashes 4 .int (rmN 2) g [.ref (ad (ix k 0)), .int (iZ (a))] (SW g ad P k T) (fun z ws9 => z = sm (nc T) (clF T a.toNat) ∧ ws9 = SW g ad P k T) := by
  refine MI.of (own := RX1) (by decide) rfl (Nat.le_of_ble_eq_true rfl) (fun x hx hE => ?_)
  have hnc : ((nc T : Nat) : Int) = T 0 1 := Int.toNat_of_nonneg (by omega)
  refine V_lv (lv' := [(0, .ref (ad (ix k 0))), (1, .int (iZ (a)))]) rfl ?_
  refine V_iconst hx dX1_countClashes_0 ?_
  refine V_istore_n hx dX1_countClashes_1 [(2, .int (iZ (0))), (0, .ref (ad (ix k 0))), (1, .int (iZ (a)))] (by decide) rfl ?_
  refine V_iconst hx dX1_countClashes_2 ?_
  refine V_istore_n hx dX1_countClashes_3 [(3, .int (iZ (0))), (2, .int (iZ (0))), (0, .ref (ad (ix k 0))), (1, .int (iZ (a)))] (by decide) rfl ?_
  have hL4 : ∀ (n : Nat) (i : Nat), nc T < i + n → i ≤ nc T → V x 0 0 (SW g ad P k T) 4 [(3, .int (iZ ((i : Int)))), (2, .int (iZ (sm i (clF T a.toNat)))), (0, .ref (ad (ix k 0))), (1, .int (iZ (a)))] [] := by
    intro n
    induction n with
    | zero =>
      intro i g1 g2 
      exact absurd g1 (by omega)
    | succ n ih =>
      intro i g1 g2 
      refine V_iload_n hx dX1_countClashes_4 0 rfl ?_
      refine V_aload_n hx dX1_countClashes_5 2 rfl ?_
      refine gf_X1_38 hx (ix k 0) (SW_shop hk) rfl dX1_countClashes_6 ?_
      refine V_icmp_ge hx dX1_countClashes_9 35 (by decide) ⟨by omega, by omega⟩ (by first | assumption | exact hT _ _ | exact ⟨by omega, by omega⟩) (fun h9 => ?_) (fun h9 => ?_)
      · refine V_iload_n hx dX1_countClashes_35 1 rfl ?_
        exact hE _ _ _ _ dX1_countClashes_36 rfl ⟨by rw [show i = nc T by omega], rfl⟩
      · refine V_iload_n hx dX1_countClashes_12 1 rfl ?_
        refine V_aload_n hx dX1_countClashes_13 2 rfl ?_
        refine V_iload_n hx dX1_countClashes_14 3 rfl ?_
        refine V_iload_n hx dX1_countClashes_15 0 rfl ?_
        refine V_calli hx (m_clashes l hk T hT (by omega) (by omega) (a := a) (b := (i : Int)) (by omega) (by omega) (by omega) (by omega)) cw_X1_145 (RMn (by decide) (by decide)) rfl (ix k 0) (SW_shop hk) rfl rfl (Nat.le_of_ble_eq_true rfl) dX1_countClashes_16 0 0 rfl rfl (fun z1 ws1 e1 => ?_)
        obtain ⟨rfl, rfl⟩ := e1
        refine V_top (b := bz (clP T a.toNat i)) rfl ?_
        refine V_ifb_eq hx dX1_countClashes_19 26 (by decide) (fun h19 => ?_) (fun h19 => ?_)
        · refine V_iconst hx dX1_countClashes_26 ?_
          refine V_iadd hx dX1_countClashes_27 ?_
          refine V_istore_n hx dX1_countClashes_28 [(2, .int (iZ ((sm i (clF T a.toNat)) + 0))), (3, .int (iZ ((i : Int)))), (0, .ref (ad (ix k 0))), (1, .int (iZ (a)))] (by decide) rfl ?_
          refine V_iincN hx dX1_countClashes_29 1 rfl [(3, .int (iZ (((i + 1 : Nat) : Int)))), (2, .int (iZ ((sm i (clF T a.toNat)) + 0))), (0, .ref (ad (ix k 0))), (1, .int (iZ (a)))] (by decide) rfl ?_
          refine V_goto hx dX1_countClashes_32 4 (by decide) ?_
          refine V_sub (lv' := [(3, .int (iZ (((i + 1 : Nat) : Int)))), (2, .int (iZ ((sm i (clF T a.toNat)) + 0))), (0, .ref (ad (ix k 0))), (1, .int (iZ (a)))]) [0, 1, 2, 3] rfl ?_
          refine V_lv (lv' := [(3, .int (iZ ((i + 1 : Nat) : Int))), (2, .int (iZ (sm (i + 1) (clF T a.toNat)))), (0, .ref (ad (ix k 0))), (1, .int (iZ (a)))]) (by simp only [sm, clF, bz_f h19]) ?_
          exact ih (i + 1) (by omega) (by omega)
        · refine V_iconst hx dX1_countClashes_22 ?_
          refine V_goto hx dX1_countClashes_23 27 (by decide) ?_
          refine V_iadd hx dX1_countClashes_27 ?_
          refine V_istore_n hx dX1_countClashes_28 [(2, .int (iZ ((sm i (clF T a.toNat)) + 1))), (3, .int (iZ ((i : Int)))), (0, .ref (ad (ix k 0))), (1, .int (iZ (a)))] (by decide) rfl ?_
          refine V_iincN hx dX1_countClashes_29 1 rfl [(3, .int (iZ (((i + 1 : Nat) : Int)))), (2, .int (iZ ((sm i (clF T a.toNat)) + 1))), (0, .ref (ad (ix k 0))), (1, .int (iZ (a)))] (by decide) rfl ?_
          refine V_goto hx dX1_countClashes_32 4 (by decide) ?_
          refine V_sub (lv' := [(3, .int (iZ (((i + 1 : Nat) : Int)))), (2, .int (iZ ((sm i (clF T a.toNat)) + 1))), (0, .ref (ad (ix k 0))), (1, .int (iZ (a)))]) [0, 1, 2, 3] rfl ?_
          refine V_lv (lv' := [(3, .int (iZ ((i + 1 : Nat) : Int))), (2, .int (iZ (sm (i + 1) (clF T a.toNat)))), (0, .ref (ad (ix k 0))), (1, .int (iZ (a)))]) (by simp only [sm, clF, bz_t h19]) ?_
          exact ih (i + 1) (by omega) (by omega)
  refine V_ws (ws' := SW g ad P k T) rfl ?_
  exact V_sub [0, 1, 2, 3] rfl (hL4 (nc T + 1) 0 (by omega) (by omega))
set_option maxHeartbeats 4000000 in
set_option maxRecDepth 100000 in
theorem m_goRound (l : Launch) {g : GT} {ad : Nat → Nat} {P : Nat → TS} {k : Nat} (hk : k < 2) (T : TS) (hG : GRok T) : MI l yX1_goRound cX1_goRound 3 .int (rmN 5) g [.ref (ad (ix k 0))] (SW g ad P k T) (fun z ws9 => z = (gr T (nc T)).2 ∧ ws9 = SW g ad P k ((gr T (nc T)).1)) := by
  refine MI.of (own := RX1) (by decide) rfl (Nat.le_of_ble_eq_true rfl) (fun x hx hE => ?_)
  obtain ⟨hT, ⟨hc0, hc6⟩, hN, hGi⟩ := id hG
  have hnc : ((nc T : Nat) : Int) = T 0 1 := Int.toNat_of_nonneg (by omega)
  refine V_lv (lv' := [(0, .ref (ad (ix k 0)))]) rfl ?_
  refine V_iconst hx dX1_goRound_0 ?_
  refine V_istore_n hx dX1_goRound_1 [(1, .int (iZ (0))), (0, .ref (ad (ix k 0)))] (by decide) rfl ?_
  refine V_iconst hx dX1_goRound_2 ?_
  refine V_istore_n hx dX1_goRound_3 [(2, .int (iZ (0))), (1, .int (iZ (0))), (0, .ref (ad (ix k 0)))] (by decide) rfl ?_
  have hL4 : ∀ (n : Nat) (i : Nat), nc T < i + n → i ≤ nc T → V x 0 0 (SW g ad P k ((gr T i).1)) 4 [(2, .int (iZ ((i : Int)))), (1, .int (iZ ((gr T i).2))), (0, .ref (ad (ix k 0)))] [] := by
    intro n
    induction n with
    | zero =>
      intro i g1 g2 
      exact absurd g1 (by omega)
    | succ n ih =>
      intro i g1 g2 
      have hNi := hN i
      refine V_iload_n hx dX1_goRound_4 0 rfl ?_
      refine V_aload_n hx dX1_goRound_5 2 rfl ?_
      refine gf_X1_38 hx (ix k 0) (SW_shop hk) rfl dX1_goRound_6 ?_
      refine V_icmp_ge hx dX1_goRound_9 42 (by decide) ⟨by omega, by omega⟩ ⟨by omega, by omega⟩ (fun h9 => ?_) (fun h9 => ?_)
      · refine V_iload_n hx dX1_goRound_42 1 rfl ?_
        exact hE _ _ _ _ dX1_goRound_43 rfl (by rw [show i = nc T by omega]; exact ⟨rfl, rfl⟩)
      · obtain ⟨hTi, hki⟩ := hGi i (by omega)
        refine V_aload_n hx dX1_goRound_12 2 rfl ?_
        refine gf_X1_24 hx (ix k 0) (SW_shop hk) rfl dX1_goRound_13 ?_
        refine V_iload_n hx dX1_goRound_16 0 rfl ?_
        refine V_aald hx (by omega) (by omega) (by decide) (ix k 3) (SW_refs hk) (r := ad (ix k (7 + 8 * i))) rfl dX1_goRound_17 ?_
        refine V_callNi hx (m_isAtWork l hk ((gr T i).1) hTi (q := 7 + 8 * i) (isQ_c (by omega))) cw_X1_138 (RMn (by decide) (by decide)) rfl (ix k (7 + 8 * i)) (SW_clk hk (isQ_c (by omega))) rfl rfl (Nat.le_of_ble_eq_true rfl) dX1_goRound_18 0 0 rfl rfl (fun z1 ws1 e1 => ?_)
        obtain ⟨rfl, rfl⟩ := e1
        refine V_ifb_eq hx dX1_goRound_21 36 (by decide) (fun h21 => ?_) (fun h21 => ?_)
        · refine V_iincN hx dX1_goRound_36 0 rfl [(2, .int (iZ (((i + 1 : Nat) : Int)))), (1, .int (iZ ((gr T i).2))), (0, .ref (ad (ix k 0)))] (by decide) rfl ?_
          refine V_goto hx dX1_goRound_39 4 (by decide) ?_
          refine V_ws (ws' := SW g ad P k ((gr T (i + 1)).1)) (by rw [gr_no h21]) ?_
          refine V_sub (lv' := [(2, .int (iZ (((i + 1 : Nat) : Int)))), (1, .int (iZ ((gr T i).2))), (0, .ref (ad (ix k 0)))]) [0, 1, 2] rfl ?_
          refine V_lv (lv' := [(2, .int (iZ ((i + 1 : Nat) : Int))), (1, .int (iZ ((gr T (i + 1)).2))), (0, .ref (ad (ix k 0)))]) (by rw [gr_no h21]) ?_
          exact ih (i + 1) (by omega) (by omega)
        · refine V_aload_n hx dX1_goRound_24 2 rfl ?_
          refine V_iload_n hx dX1_goRound_25 0 rfl ?_
          refine V_calli hx (m_takeTurn l hk ((gr T i).1) hTi (c := (i : Int)) (by omega) (by omega) hki) cw_X1_142 (RMn (by decide) (by decide)) rfl (ix k 0) (SW_shop hk) rfl rfl (Nat.le_of_ble_eq_true rfl) dX1_goRound_26 0 0 rfl rfl (fun z2 ws2 e2 => ?_)
          obtain ⟨rfl, rfl⟩ := e2
          refine V_top (b := tkV ((gr T i).1) i) rfl ?_
          refine V_ws (ws' := SW g ad P k (tkT ((gr T i).1) i)) rfl ?_
          refine V_iconst hx dX1_goRound_29 ?_
          refine V_icmp_ne hx dX1_goRound_30 36 (by decide) (rg_tkV _ _) ⟨by decide, by decide⟩ (fun h30 => ?_) (fun h30 => ?_)
          · refine V_iincN hx dX1_goRound_36 0 rfl [(2, .int (iZ (((i + 1 : Nat) : Int)))), (1, .int (iZ ((gr T i).2))), (0, .ref (ad (ix k 0)))] (by decide) rfl ?_
            refine V_goto hx dX1_goRound_39 4 (by decide) ?_
            refine V_ws (ws' := SW g ad P k ((gr T (i + 1)).1)) (by rw [gr_yes h21]) ?_
            refine V_sub (lv' := [(2, .int (iZ (((i + 1 : Nat) : Int)))), (1, .int (iZ ((gr T i).2))), (0, .ref (ad (ix k 0)))]) [0, 1, 2] rfl ?_
            refine V_lv (lv' := [(2, .int (iZ ((i + 1 : Nat) : Int))), (1, .int (iZ ((gr T (i + 1)).2))), (0, .ref (ad (ix k 0)))]) (by rw [gr_yes h21, bz_f h30, Int.add_zero]) ?_
            exact ih (i + 1) (by omega) (by omega)
          · refine V_iinc hx dX1_goRound_33 1 rfl [(1, .int (iZ ((gr T i).2 + (1)))), (2, .int (iZ ((i : Int)))), (0, .ref (ad (ix k 0)))] (by decide) rfl ?_
            refine V_iincN hx dX1_goRound_36 1 rfl [(2, .int (iZ (((i + 1 : Nat) : Int)))), (1, .int (iZ ((gr T i).2 + (1)))), (0, .ref (ad (ix k 0)))] (by decide) rfl ?_
            refine V_goto hx dX1_goRound_39 4 (by decide) ?_
            refine V_ws (ws' := SW g ad P k ((gr T (i + 1)).1)) (by rw [gr_yes h21]) ?_
            refine V_sub (lv' := [(2, .int (iZ (((i + 1 : Nat) : Int)))), (1, .int (iZ ((gr T i).2 + (1)))), (0, .ref (ad (ix k 0)))]) [0, 1, 2] rfl ?_
            refine V_lv (lv' := [(2, .int (iZ ((i + 1 : Nat) : Int))), (1, .int (iZ ((gr T (i + 1)).2))), (0, .ref (ad (ix k 0)))]) (by rw [gr_yes h21, bz_t h30]) ?_
            exact ih (i + 1) (by omega) (by omega)
  refine V_ws (ws' := SW g ad P k ((gr T 0).1)) rfl ?_
  exact V_sub [0, 1, 2] rfl (hL4 (nc T + 1) 0 (by omega) (by omega))
set_option maxHeartbeats 4000000 in
set_option maxRecDepth 100000 in
theorem m_goRounds (l : Launch) {g : GT} {ad : Nat → Nat} {P : Nat → TS} {k : Nat} (hk : k < 2) (T : TS) {r : Int} (hr0 : 0 ≤ r) (hr9 : r ≤ 50) (hG : ∀ j : Nat, (j : Int) < r → GRok (grs T j).1) : MI l yX1_goRounds cX1_goRounds 4 .int (rmN 6) g [.ref (ad (ix k 0)), .int (iZ (r))] (SW g ad P k T) (fun z ws9 => z = (grs T r.toNat).2 ∧ ws9 = SW g ad P k ((grs T r.toNat).1)) := by
  refine MI.of (own := RX1) (by decide) rfl (Nat.le_of_ble_eq_true rfl) (fun x hx hE => ?_)
  refine V_lv (lv' := [(0, .ref (ad (ix k 0))), (1, .int (iZ (r)))]) rfl ?_
  refine V_iconst hx dX1_goRounds_0 ?_
  refine V_istore_n hx dX1_goRounds_1 [(2, .int (iZ (0))), (0, .ref (ad (ix k 0))), (1, .int (iZ (r)))] (by decide) rfl ?_
  refine V_iconst hx dX1_goRounds_2 ?_
  refine V_istore_n hx dX1_goRounds_3 [(3, .int (iZ (0))), (2, .int (iZ (0))), (0, .ref (ad (ix k 0))), (1, .int (iZ (r)))] (by decide) rfl ?_
  have hL4 : ∀ (n : Nat) (i : Nat), r.toNat < i + n → i ≤ r.toNat → V x 0 0 (SW g ad P k ((grs T i).1)) 4 [(3, .int (iZ ((i : Int)))), (2, .int (iZ ((grs T i).2))), (0, .ref (ad (ix k 0))), (1, .int (iZ (r)))] [] := by
    intro n
    induction n with
    | zero =>
      intro i g1 g2 
      exact absurd g1 (by omega)
    | succ n ih =>
      intro i g1 g2 
      refine V_iload_n hx dX1_goRounds_4 0 rfl ?_
      refine V_iload_n hx dX1_goRounds_5 3 rfl ?_
      refine V_icmp_ge hx dX1_goRounds_6 22 (by decide) ⟨by omega, by omega⟩ ⟨by omega, by omega⟩ (fun h6 => ?_) (fun h6 => ?_)
      · refine V_iload_n hx dX1_goRounds_22 1 rfl ?_
        exact hE _ _ _ _ dX1_goRounds_23 rfl (by rw [show i = r.toNat by omega]; exact ⟨rfl, rfl⟩)
      · have hGr := hG i (by omega)
        refine V_iload_n hx dX1_goRounds_9 1 rfl ?_
        refine V_aload_n hx dX1_goRounds_10 2 rfl ?_
        refine V_calli hx (m_goRound l hk ((grs T i).1) hGr) cw_X1_135 (RMn (by decide) (by decide)) rfl (ix k 0) (SW_shop hk) rfl rfl (Nat.le_of_ble_eq_true rfl) dX1_goRounds_11 0 0 rfl rfl (fun z1 ws1 e1 => ?_)
        obtain ⟨rfl, rfl⟩ := e1
        refine V_iadd hx dX1_goRounds_14 ?_
        refine V_istore_n hx dX1_goRounds_15 [(2, .int (iZ (((grs T i).2) + ((gr ((grs T i).1) (nc ((grs T i).1))).2)))), (3, .int (iZ ((i : Int)))), (0, .ref (ad (ix k 0))), (1, .int (iZ (r)))] (by decide) rfl ?_
        refine V_iincN hx dX1_goRounds_16 1 rfl [(3, .int (iZ (((i + 1 : Nat) : Int)))), (2, .int (iZ (((grs T i).2) + ((gr ((grs T i).1) (nc ((grs T i).1))).2)))), (0, .ref (ad (ix k 0))), (1, .int (iZ (r)))] (by decide) rfl ?_
        refine V_goto hx dX1_goRounds_19 4 (by decide) ?_
        refine V_ws (ws' := SW g ad P k ((grs T (i + 1)).1)) rfl ?_
        refine V_sub (lv' := [(3, .int (iZ (((i + 1 : Nat) : Int)))), (2, .int (iZ (((grs T i).2) + ((gr ((grs T i).1) (nc ((grs T i).1))).2)))), (0, .ref (ad (ix k 0))), (1, .int (iZ (r)))]) [0, 1, 2, 3] rfl ?_
        refine V_lv (lv' := [(3, .int (iZ ((i + 1 : Nat) : Int))), (2, .int (iZ ((grs T (i + 1)).2))), (0, .ref (ad (ix k 0))), (1, .int (iZ r))]) rfl ?_
        exact ih (i + 1) (by omega) (by omega)
  refine V_ws (ws' := SW g ad P k ((grs T 0).1)) rfl ?_
  exact V_sub [0, 1, 2, 3] rfl (hL4 (r.toNat + 1) 0 (by omega) (by omega))
set_option maxHeartbeats 4000000 in
set_option maxRecDepth 100000 in
theorem m_workAlone (l : Launch) {g : GT} {ad : Nat → Nat} {P : Nat → TS} {k : Nat} (hk : k < 2) (T : TS) (hT : RG T) {c : Int} (hc0 : 0 ≤ c) (hc6 : c < 6) (hG : ∀ t : Nat, t ≤ 8 → RG (wal T c.toNat t) ∧ TKok (wal T c.toNat t) (7 + 8 * c.toNat)) : MV l yX1_workAlone cX1_workAlone 4 (rmN 5) g [.ref (ad (ix k 0)), .int (iZ (c))] (SW g ad P k T) (fun ws9 => ∃ i, i ≤ 9 ∧ (∀ j, j < i → awP (wal T c.toNat j) c.toNat) ∧ (i = 9 ∨ ¬ awP (wal T c.toNat i) c.toNat) ∧ ws9 = SW g ad P k (wal T c.toNat i)) := by
  refine MV.of (own := RX1) (by decide) rfl (Nat.le_of_ble_eq_true rfl) (fun x hx hE => ?_)
  refine V_lv (lv' := [(0, .ref (ad (ix k 0))), (1, .int (iZ (c)))]) rfl ?_
  refine V_aload_n hx dX1_workAlone_0 0 rfl ?_
  refine gf_X1_24 hx (ix k 0) (SW_shop hk) rfl dX1_workAlone_1 ?_
  refine V_iload_n hx dX1_workAlone_4 1 rfl ?_
  refine V_aald hx (by omega) (by omega) (by decide) (ix k 3) (SW_refs hk) (r := ad (ix k (7 + 8 * c.toNat))) rfl dX1_workAlone_5 ?_
  refine V_astore_n hx dX1_workAlone_6 [(2, .ref (ad (ix k (7 + 8 * c.toNat)))), (0, .ref (ad (ix k 0))), (1, .int (iZ (c)))] (by decide) rfl ?_
  refine V_aload_n hx dX1_workAlone_7 0 rfl ?_
  refine V_callNv hx (m_startOver l hk T (q := 7 + 8 * c.toNat) (isQ_c (by omega))) cw_X1_75 (RMn (by decide) (by decide)) rfl (ix k (7 + 8 * c.toNat)) (SW_clk hk (isQ_c (by omega))) rfl rfl (Nat.le_of_ble_eq_true rfl) dX1_workAlone_8 0 0 rfl rfl (fun ws1 e1 => ?_)
  subst e1
  refine V_iconst hx dX1_workAlone_11 ?_
  refine V_istore_n hx dX1_workAlone_12 [(3, .int (iZ (0))), (2, .ref (ad (ix k (7 + 8 * c.toNat)))), (0, .ref (ad (ix k 0))), (1, .int (iZ (c)))] (by decide) rfl ?_
  have hL13 : ∀ (n : Nat) (i : Nat), 9 < i + n → i ≤ 9 → (∀ j, j < i → awP (wal T c.toNat j) c.toNat) → V x 0 0 (SW g ad P k (wal T c.toNat i)) 13 [(3, .int (iZ ((i : Int)))), (0, .ref (ad (ix k 0))), (1, .int (iZ (c))), (2, .ref (ad (ix k (7 + 8 * c.toNat))))] [] := by
    intro n
    induction n with
    | zero =>
      intro i g1 g2 g3
      exact absurd g1 (by omega)
    | succ n ih =>
      intro i g1 g2 g3
      refine V_iload_n hx dX1_workAlone_13 0 rfl ?_
      refine V_bipush hx dX1_workAlone_14 rfl ?_
      refine V_icmp_gt hx dX1_workAlone_16 38 (by decide) ⟨by omega, by omega⟩ ⟨by decide, by decide⟩ (fun h16 => ?_) (fun h16 => ?_)
      · exact hE _ _ _ dX1_workAlone_38 (by first | exact ⟨i, g2, g3, Or.inr h23, rfl⟩ | exact ⟨i, g2, g3, Or.inl (by omega), rfl⟩)
      · obtain ⟨hTi, hki⟩ := hG i (by omega)
        refine V_aload_n hx dX1_workAlone_19 3 rfl ?_
        refine V_callNi hx (m_isAtWork l hk (wal T c.toNat i) hTi (q := 7 + 8 * c.toNat) (isQ_c (by omega))) cw_X1_138 (RMn (by decide) (by decide)) rfl (ix k (7 + 8 * c.toNat)) (SW_clk hk (isQ_c (by omega))) rfl rfl (Nat.le_of_ble_eq_true rfl) dX1_workAlone_20 0 0 rfl rfl (fun z2 ws2 e2 => ?_)
        obtain ⟨rfl, rfl⟩ := e2
        refine V_ifb_eq hx dX1_workAlone_23 38 (by decide) (fun h23 => ?_) (fun h23 => ?_)
        · exact hE _ _ _ dX1_workAlone_38 (by first | exact ⟨i, g2, g3, Or.inr h23, rfl⟩ | exact ⟨i, g2, g3, Or.inl (by omega), rfl⟩)
        · refine V_aload_n hx dX1_workAlone_26 1 rfl ?_
          refine V_iload_n hx dX1_workAlone_27 2 rfl ?_
          refine V_calli hx (m_takeTurn l hk (wal T c.toNat i) hTi (c := c) (by omega) (by omega) hki) cw_X1_142 (RMn (by decide) (by decide)) rfl (ix k 0) (SW_shop hk) rfl rfl (Nat.le_of_ble_eq_true rfl) dX1_workAlone_28 0 0 rfl rfl (fun z3 ws3 e3 => ?_)
          obtain ⟨rfl, rfl⟩ := e3
          refine V_pop hx dX1_workAlone_31 rfl ?_
          refine V_iincN hx dX1_workAlone_32 0 rfl [(3, .int (iZ (((i + 1 : Nat) : Int)))), (0, .ref (ad (ix k 0))), (1, .int (iZ (c))), (2, .ref (ad (ix k (7 + 8 * c.toNat))))] (by decide) rfl ?_
          refine V_goto hx dX1_workAlone_35 13 (by decide) ?_
          refine V_ws (ws' := SW g ad P k (wal T c.toNat (i + 1))) rfl ?_
          exact V_sub [0, 1, 2, 3] rfl (ih (i + 1) (by omega) (by omega) (lt_s g3 h23))
  refine V_ws (ws' := SW g ad P k (wal T c.toNat 0)) rfl ?_
  exact V_sub [0, 2, 3, 1] rfl (hL13 (9 + 1) 0 (by omega) (by omega) (fun d h9 => absurd h9 (Nat.not_lt_zero d)))
set_option maxHeartbeats 4000000 in
set_option maxRecDepth 100000 in
theorem m_sBecome (l : Launch) {g : GT} {ad : Nat → Nat} {P : Nat → TS} {k k' : Nat} (hk : k < 2) (hk' : k' < 2) (hne : k' ≠ k) (T : TS) (hc0 : 0 ≤ P k' 0 1) (hc6 : P k' 0 1 ≤ 6) (hdn : ∀ c : Nat, (c : Int) < P k' 0 1 → P k' (7 + 8 * c) 2 = 0 ∨ P k' (7 + 8 * c) 2 = 1) : MV l yX1_become cX1_become 3 (rmN 1) g [.ref (ad (ix k 0)), .ref (ad (ix k' 0))] (SW g ad P k T) (fun ws9 => ws9 = SW g ad P k (beT T (P k'))) := by
  refine MV.of (own := RX1) (by decide) rfl (Nat.le_of_ble_eq_true rfl) (fun x hx hE => ?_)
  have hnc : ((nc (P k') : Nat) : Int) = P k' 0 1 := Int.toNat_of_nonneg (by omega)
  refine V_lv (lv' := [(0, .ref (ad (ix k 0))), (1, .ref (ad (ix k' 0)))]) rfl ?_
  refine V_aload_n hx dX1_become_0 0 rfl ?_
  refine V_aload_n hx dX1_become_1 1 rfl ?_
  refine gf_X1_9 hx (ix k' 0) (SW_shop' hk' hne) rfl dX1_become_2 ?_
  refine pf_X1_9 hx (ix k 0) (SW_shop hk) (Nat.le_of_ble_eq_true rfl) (SW g ad P k (pt T (0) (0) (P k' 0 0))) SW_ss0 dX1_become_5 ?_
  refine V_aload_n hx dX1_become_8 0 rfl ?_
  refine V_aload_n hx dX1_become_9 1 rfl ?_
  refine gf_X1_38 hx (ix k' 0) (SW_shop' hk' hne) rfl dX1_become_10 ?_
  refine pf_X1_38 hx (ix k 0) (SW_shop hk) (Nat.le_of_ble_eq_true rfl) (SW g ad P k (pt (pt T (0) (0) (P k' 0 0)) (0) (1) (P k' 0 1))) SW_ss1 dX1_become_13 ?_
  refine V_aload_n hx dX1_become_16 0 rfl ?_
  refine V_aload_n hx dX1_become_17 1 rfl ?_
  refine gf_X1_41 hx (ix k' 0) (SW_shop' hk' hne) rfl dX1_become_18 ?_
  refine pf_X1_41 hx (ix k 0) (SW_shop hk) (Nat.le_of_ble_eq_true rfl) (SW g ad P k (pt (pt (pt T (0) (0) (P k' 0 0)) (0) (1) (P k' 0 1)) (0) (2) (P k' 0 2))) SW_ss2 dX1_become_21 ?_
  refine V_iconst hx dX1_become_24 ?_
  refine V_istore_n hx dX1_become_25 [(2, .int (iZ (0))), (0, .ref (ad (ix k 0))), (1, .ref (ad (ix k' 0)))] (by decide) rfl ?_
  have hL26 : ∀ (n : Nat) (i : Nat), 8 < i + n → i ≤ 8 → V x 0 0 (SW g ad P k (bs1 (bs0 T (P k')) (P k') i)) 26 [(2, .int (iZ ((i : Int)))), (0, .ref (ad (ix k 0))), (1, .ref (ad (ix k' 0)))] [] := by
    intro n
    induction n with
    | zero =>
      intro i g1 g2 
      exact absurd g1 (by omega)
    | succ n ih =>
      intro i g1 g2 
      refine V_iload_n hx dX1_become_26 0 rfl ?_
      refine V_bipush hx dX1_become_27 rfl ?_
      refine V_icmp_ge hx dX1_become_29 62 (by decide) ⟨by omega, by omega⟩ ⟨by decide, by decide⟩ (fun h29 => ?_) (fun h29 => ?_)
      · refine V_iconst hx dX1_become_62 ?_
        refine V_istore_n hx dX1_become_63 [(2, .int (iZ (0))), (0, .ref (ad (ix k 0))), (1, .ref (ad (ix k' 0)))] (by decide) rfl ?_
        have hL64 : ∀ (n : Nat) (i : Nat), nc (P k') < i + n → i ≤ nc (P k') → V x 0 0 (SW g ad P k (bsC (bs1 (bs0 T (P k')) (P k') 8) (P k') i)) 64 [(2, .int (iZ ((i : Int)))), (0, .ref (ad (ix k 0))), (1, .ref (ad (ix k' 0)))] [] := by
          intro n
          induction n with
          | zero =>
            intro i g1 g2 
            exact absurd g1 (by omega)
          | succ n ih =>
            intro i g1 g2 
            have e01 : bsC (bs1 (bs0 T (P k')) (P k') 8) (P k') i 0 1 = P k' 0 1 := by rw [bsC_ne (by omega), bs1_ne (by omega) (by omega)]; rfl
            refine V_iload_n hx dX1_become_64 0 rfl ?_
            refine V_aload_n hx dX1_become_65 1 rfl ?_
            refine gf_X1_38 hx (ix k 0) (SW_shop hk) rfl dX1_become_66 ?_
            refine V_icmp_ge hx dX1_become_69 93 (by decide) ⟨by omega, by omega⟩ ⟨by omega, by omega⟩ (fun h69 => ?_) (fun h69 => ?_)
            · refine V_iconst hx dX1_become_93 ?_
              refine V_istore_n hx dX1_become_94 [(2, .int (iZ (0))), (0, .ref (ad (ix k 0))), (1, .ref (ad (ix k' 0)))] (by decide) rfl ?_
              have hL95 : ∀ (n : Nat) (i : Nat), 10 < i + n → i ≤ 10 → V x 0 0 (SW g ad P k (bs3 (bsC (bs1 (bs0 T (P k')) (P k') 8) (P k') (nc (P k'))) (P k') i)) 95 [(2, .int (iZ ((i : Int)))), (0, .ref (ad (ix k 0))), (1, .ref (ad (ix k' 0)))] [] := by
                intro n
                induction n with
                | zero =>
                  intro i g1 g2 
                  exact absurd g1 (by omega)
                | succ n ih =>
                  intro i g1 g2 
                  refine V_iload_n hx dX1_become_95 0 rfl ?_
                  refine V_bipush hx dX1_become_96 rfl ?_
                  refine V_icmp_ge hx dX1_become_98 143 (by decide) ⟨by omega, by omega⟩ ⟨by decide, by decide⟩ (fun h98 => ?_) (fun h98 => ?_)
                  · exact hE _ _ _ dX1_become_143 (by rw [show i = 10 by omega]; rfl)
                  · refine V_aload_n hx dX1_become_101 1 rfl ?_
                    refine gf_X1_29 hx (ix k 0) (SW_shop hk) rfl dX1_become_102 ?_
                    refine V_iload_n hx dX1_become_105 0 rfl ?_
                    refine V_aload_n hx dX1_become_106 2 rfl ?_
                    refine gf_X1_29 hx (ix k' 0) (SW_shop' hk' hne) rfl dX1_become_107 ?_
                    refine V_iload_n hx dX1_become_110 0 rfl ?_
                    refine V_iald hx (by omega) (by omega) (by decide) (ix k' 4) (SW_10' hk' hne (by decide)) (v := P k' 4 i) rfl dX1_become_111 ?_
                    refine V_iast hx (by omega) (by omega) (by decide) (ix k 4) (SW_10 hk (by decide)) (SW g ad P k (pt (bs3 (bsC (bs1 (bs0 T (P k')) (P k') 8) (P k') (nc (P k'))) (P k') i) (4) (i) (P k' 4 i))) (SW_s10 (by decide)) dX1_become_112 ?_
                    refine V_aload_n hx dX1_become_113 1 rfl ?_
                    refine gf_X1_32 hx (ix k 0) (SW_shop hk) rfl dX1_become_114 ?_
                    refine V_iload_n hx dX1_become_117 0 rfl ?_
                    refine V_aload_n hx dX1_become_118 2 rfl ?_
                    refine gf_X1_32 hx (ix k' 0) (SW_shop' hk' hne) rfl dX1_become_119 ?_
                    refine V_iload_n hx dX1_become_122 0 rfl ?_
                    refine V_iald hx (by omega) (by omega) (by decide) (ix k' 5) (SW_10' hk' hne (by decide)) (v := P k' 5 i) rfl dX1_become_123 ?_
                    refine V_iast hx (by omega) (by omega) (by decide) (ix k 5) (SW_10 hk (by decide)) (SW g ad P k (pt (pt (bs3 (bsC (bs1 (bs0 T (P k')) (P k') 8) (P k') (nc (P k'))) (P k') i) (4) (i) (P k' 4 i)) (5) (i) (P k' 5 i))) (SW_s10 (by decide)) dX1_become_124 ?_
                    refine V_aload_n hx dX1_become_125 1 rfl ?_
                    refine gf_X1_35 hx (ix k 0) (SW_shop hk) rfl dX1_become_126 ?_
                    refine V_iload_n hx dX1_become_129 0 rfl ?_
                    refine V_aload_n hx dX1_become_130 2 rfl ?_
                    refine gf_X1_35 hx (ix k' 0) (SW_shop' hk' hne) rfl dX1_become_131 ?_
                    refine V_iload_n hx dX1_become_134 0 rfl ?_
                    refine V_iald hx (by omega) (by omega) (by decide) (ix k' 6) (SW_10' hk' hne (by decide)) (v := P k' 6 i) rfl dX1_become_135 ?_
                    refine V_iast hx (by omega) (by omega) (by decide) (ix k 6) (SW_10 hk (by decide)) (SW g ad P k (pt (pt (pt (bs3 (bsC (bs1 (bs0 T (P k')) (P k') 8) (P k') (nc (P k'))) (P k') i) (4) (i) (P k' 4 i)) (5) (i) (P k' 5 i)) (6) (i) (P k' 6 i))) (SW_s10 (by decide)) dX1_become_136 ?_
                    refine V_iincN hx dX1_become_137 0 rfl [(2, .int (iZ (((i + 1 : Nat) : Int)))), (0, .ref (ad (ix k 0))), (1, .ref (ad (ix k' 0)))] (by decide) rfl ?_
                    refine V_goto hx dX1_become_140 95 (by decide) ?_
                    refine V_ws (ws' := SW g ad P k (bs3 (bsC (bs1 (bs0 T (P k')) (P k') 8) (P k') (nc (P k'))) (P k') (i + 1))) (congrArg (SW g ad P k) (by funext a b; simp only [pt, bs3]; (repeat' split) <;> first | rfl | omega | grind)) ?_
                    exact V_sub [0, 1, 2] rfl (ih (i + 1) (by omega) (by omega))
              refine V_ws (ws' := SW g ad P k (bs3 (bsC (bs1 (bs0 T (P k')) (P k') 8) (P k') (nc (P k'))) (P k') 0)) (congrArg (SW g ad P k) (by rw [show i = nc (P k') by omega]; funext a b; simp only [bs3]; (repeat' split) <;> first | rfl | omega)) ?_
              exact V_sub [0, 1, 2] rfl (hL95 (10 + 1) 0 (by omega) (by omega))
            · have hdi := hdn i (by omega)
              refine V_aload_n hx dX1_become_72 1 rfl ?_
              refine gf_X1_24 hx (ix k 0) (SW_shop hk) rfl dX1_become_73 ?_
              refine V_iload_n hx dX1_become_76 0 rfl ?_
              refine V_aald hx (by omega) (by omega) (by decide) (ix k 3) (SW_refs hk) (r := ad (ix k (7 + 8 * i))) rfl dX1_become_77 ?_
              refine V_aload_n hx dX1_become_78 2 rfl ?_
              refine gf_X1_24 hx (ix k' 0) (SW_shop' hk' hne) rfl dX1_become_79 ?_
              refine V_iload_n hx dX1_become_82 0 rfl ?_
              refine V_aald hx (by omega) (by omega) (by decide) (ix k' 3) (SW_refs' hk' hne) (r := ad (ix k' (7 + 8 * i))) rfl dX1_become_83 ?_
              refine V_callNv hx (m_become l hk hk' hne (bsC (bs1 (bs0 T (P k')) (P k') 8) (P k') i) (q := 7 + 8 * i) (isQ_c (by omega)) hdi) cw_X1_44 (RMn (by decide) (by decide)) rfl (ix k (7 + 8 * i)) (SW_clk hk (isQ_c (by omega))) rfl rfl (Nat.le_of_ble_eq_true rfl) dX1_become_84 0 0 rfl rfl (fun ws1 e1 => ?_)
              subst e1
              refine V_iincN hx dX1_become_87 0 rfl [(2, .int (iZ (((i + 1 : Nat) : Int)))), (0, .ref (ad (ix k 0))), (1, .ref (ad (ix k' 0)))] (by decide) rfl ?_
              refine V_goto hx dX1_become_90 64 (by decide) ?_
              refine V_ws (ws' := SW g ad P k (bsC (bs1 (bs0 T (P k')) (P k') 8) (P k') (i + 1))) rfl ?_
              exact V_sub [0, 1, 2] rfl (ih (i + 1) (by omega) (by omega))
        refine V_ws (ws' := SW g ad P k (bsC (bs1 (bs0 T (P k')) (P k') 8) (P k') 0)) (by rw [show i = 8 by omega]; rfl) ?_
        exact V_sub [0, 1, 2] rfl (hL64 (nc (P k') + 1) 0 (by omega) (by omega))
      · refine V_aload_n hx dX1_become_32 1 rfl ?_
        refine gf_X1_15 hx (ix k 0) (SW_shop hk) rfl dX1_become_33 ?_
        refine V_iload_n hx dX1_become_36 0 rfl ?_
        refine V_aload_n hx dX1_become_37 2 rfl ?_
        refine gf_X1_15 hx (ix k' 0) (SW_shop' hk' hne) rfl dX1_become_38 ?_
        refine V_iload_n hx dX1_become_41 0 rfl ?_
        refine V_iald hx (by omega) (by omega) (by decide) (ix k' 1) (SW_8' hk' hne (Or.inl rfl) (by decide)) (v := P k' 1 i) rfl dX1_become_42 ?_
        refine V_iast hx (by omega) (by omega) (by decide) (ix k 1) (SW_8 hk (Or.inl rfl) (by decide)) (SW g ad P k (pt (bs1 (bs0 T (P k')) (P k') i) (1) (i) (P k' 1 i))) (SW_s8 (Or.inl rfl) (by decide)) dX1_become_43 ?_
        refine V_aload_n hx dX1_become_44 1 rfl ?_
        refine gf_X1_19 hx (ix k 0) (SW_shop hk) rfl dX1_become_45 ?_
        refine V_iload_n hx dX1_become_48 0 rfl ?_
        refine V_aload_n hx dX1_become_49 2 rfl ?_
        refine gf_X1_19 hx (ix k' 0) (SW_shop' hk' hne) rfl dX1_become_50 ?_
        refine V_iload_n hx dX1_become_53 0 rfl ?_
        refine V_iald hx (by omega) (by omega) (by decide) (ix k' 2) (SW_8' hk' hne (Or.inr (Or.inl rfl)) (by decide)) (v := P k' 2 i) rfl dX1_become_54 ?_
        refine V_iast hx (by omega) (by omega) (by decide) (ix k 2) (SW_8 hk (Or.inr (Or.inl rfl)) (by decide)) (SW g ad P k (pt (pt (bs1 (bs0 T (P k')) (P k') i) (1) (i) (P k' 1 i)) (2) (i) (P k' 2 i))) (SW_s8 (Or.inr (Or.inl rfl)) (by decide)) dX1_become_55 ?_
        refine V_iincN hx dX1_become_56 0 rfl [(2, .int (iZ (((i + 1 : Nat) : Int)))), (0, .ref (ad (ix k 0))), (1, .ref (ad (ix k' 0)))] (by decide) rfl ?_
        refine V_goto hx dX1_become_59 26 (by decide) ?_
        refine V_ws (ws' := SW g ad P k (bs1 (bs0 T (P k')) (P k') (i + 1))) (congrArg (SW g ad P k) (by funext a b; simp only [pt, bs1]; (repeat' split) <;> first | rfl | omega | grind)) ?_
        exact V_sub [0, 1, 2] rfl (ih (i + 1) (by omega) (by omega))
  refine V_ws (ws' := SW g ad P k (bs1 (bs0 T (P k')) (P k') 0)) (congrArg (SW g ad P k) (by funext a b; simp only [pt, bs1, bs0]; (repeat' split) <;> first | rfl | omega | grind)) ?_
  exact V_sub [0, 1, 2] rfl (hL26 (8 + 1) 0 (by omega) (by omega))
end
section
/-! throwing: the class's methods that may throw leave the world as it was -/
def xstrs : List (Nat × String) := [(21, "a till has 1 to 8 drawers"), (179, "no such drawer"), (37, "an amount is 0 to 9999"), (52, "there are 6 clerks"), (181, "no such clerk"), (183, "no such number to choose by"), (70, "the number or the drawers do not fit the kind"), (88, "the program takes no step"), (98, "the clerk is done or has no steps"), (185, "rounds are 1 to 50"), (125, "no such step"), (134, "no such closing")]
def xnames : List String := ["java/lang/RuntimeException", "java/lang/Exception"]
def TX9 (A : Nat → Prop) (U : State) (H : Heap) : Prop := vx_Zq Bundle.tN "UNASSIGNED_STACK" Bundle.steD A U H ∧ vx_Zq Bundle.tN "SUPPRESSED_SENTINEL" Bundle.listD A U H ∧ ∀ q ∈ xstrs, ∃ sa, vk_R RX2 q.1 q.2 sa U
theorem TX9.go {A B : Nat → Prop} {s U : State} {H0 H : Heap} (h : TX9 A s H0) (hq : ∀ a : Nat, a < H0.size → ¬ A a → H[a]? = H0[a]?) (hW : s.WarmedH U.vm) (hAB : ∀ q, B q → A q) : TX9 B U H :=
  ⟨((h.1.kept hq).moved hW.alike).narrow hAB, ((h.2.1.kept hq).moved hW.alike).narrow hAB, fun q hq9 => (h.2.2 q hq9).elim (fun sa h9 => ⟨sa, vk_R.warm hW h9⟩)⟩
def K0X (g : GT) (as : List Value) (sz : Nat) (ws : va_W) : Array Value → State → Prop := va_Pc as (fun U => U.heap.size = sz ∧ TB U ∧ va_P g.1 vwCl ws U.heap ∧ va_K g.1 vwCl (tyl g) U ∧ va_D (fun _ => True) ws ∧ TX9 (va_A ws sz) U U.heap)
def XP (g : GT) (ws : va_W) (sz : Nat) (pE : String → Prop) : String → State → State → Prop := vx_X (fun (_ : Unit) => True) (fun E _ t => pE E ∧ va_P g.1 vwCl ws t.heap ∧ va_D (va_A ws sz) ws) (va_A ws sz)
def MXI (l : Launch) (y : MethodName) (cc : ByteArray) (maxL : Nat) (ty : FieldType) (rm : Room) (g : GT) (as : List Value) (ws : va_W) (post : Int → va_W → Prop) (pE : String → Prop) : Prop :=
  ∀ sz, vx_Met l y [.code y cc maxL (some ty)] rm (K0X g as sz ws) (va_Qi (fun r ws' => ∃ z, r = iZ z ∧ post z ws') (KB g ws sz) (va_A ws sz)) (XP g ws sz pE) rm.cells rm.slots (va_A ws sz)
def MXV (l : Launch) (y : MethodName) (cc : ByteArray) (maxL : Nat) (rm : Room) (g : GT) (as : List Value) (ws : va_W) (post : va_W → Prop) (pE : String → Prop) : Prop :=
  ∀ sz, vx_Met l y [.code y cc maxL none] rm (K0X g as sz ws) (va_Qv post (KB g ws sz) (va_A ws sz)) (XP g ws sz pE) rm.cells rm.slots (va_A ws sz)
theorem K0X_blind {g : GT} {as : List Value} {sz : Nat} {ws : va_W} : FrameBlind (K0X g as sz ws) := by
  intro a U gg mk h
  obtain ⟨h1, h2, h3, h4, h5, h6, h7⟩ := h
  refine ⟨h1, h2, TB.same (s := U) (U := U.calling gg mk a) rfl h3, h4, va_K.moved (u := U) (U := U.calling gg mk a) (Vm.Alike.refl U.vm) h5, h6, ?_⟩
  exact h7.go (U := U.calling gg mk a) (fun _ _ _ => rfl) (State.WarmedH.refl U) (fun _ h => h)
/-- the words of a throw -/
def KT (ik ic is : Nat) (cls text : String) : Prop := Bundle.fit cls = true ∧ Cond.classLink RX2 ik cls ∈ tbl ∧ Cond.initialized cls ∈ tbl ∧ (∀ w ∈ vx_atS RX2 ic cls xnames, w ∈ tbl) ∧ (∀ w ∈ Cond.classLink RX2 ik cls :: Cond.initialized cls :: vx_atS RX2 ic cls xnames, vx_ot w = true) ∧ (is, text) ∈ xstrs
/-- where a throw ends a method: the world is the one that it began with -/
def TE (x : CT) (cc : ByteArray) (R : Room) (ws : va_W) (pE : String → Prop) : Prop :=
  ∀ (pc k n ik ic is : Nat) (lv : List (Nat × Value)) (st : List Value) (cls text : String), KT ik ic is cls text → decode cc pc = .ok (.new ik, 3) → decode cc (pc + 3) = .ok (.dup, 1) → decode cc (pc + 4) = .ok (.ldc is, 2) → decode cc (pc + 6) = .ok (.invokespecial ic, 3) → decode cc (pc + 9) = .ok (.athrow, 1) →
    5 < R.frames → (st.map fun v => v.category).sum + 82 ≤ R.locals → k + 1 ≤ R.cells → n + 6 ≤ R.slots → pE cls → V x k n ws pc lv st
def VX (x : CT) (k n : Nat) (ws : va_W) (pc : Nat) (lv : List (Nat × Value)) (st : List Value) (E : String) : Prop := match x with
  | (p, l, e, R, s, m, args, below, meth, c, g, nL, A, H0, Q) => ∀ (H : Heap) (locs : List Loc) (ls : Array Slot) (q : Addr) (ce : Cell), va_P g.1 vwCl ws H → va_D A ws → va_S A H0 H locs → lv_has ls nL lv → H[q]? = some ce → ce.vm = .none → s.vm.findClass E = some ce.cls →
      vx_W p l e R s m args below meth c H locs k n Q (F0 m pc ls st) q
def PX (x : CT) (R : Room) (ws : va_W) (pE : String → Prop) : Prop := ∀ (pc k n : Nat) (lv : List (Nat × Value)) (st : List Value) (E : String), k ≤ R.cells → n ≤ R.slots → pE E → VX x k n ws pc lv st E
def FZ (x : CT) : Prop := match x with
  | (_, _, _, _, s, _, _, _, _, _, _, _, A, H0, _) => H0 = s.heap ∧ TX9 A s H0
theorem TE_of {p : Program} {l : Launch} {e : Env} {R : Room} {s : State} {m : MethodId} {args : Array Value} {below : List Frame} {meth : Method} {c : Code} {g : GT} {nL : Nat} {cc : ByteArray} {ws : va_W} {pE : String → Prop} {Qc : Array Value → State → Outcome → State → Prop} (hl : l.stackTraces = false)
    (hx : FX (p, l, e, R, s, m, args, below, meth, c, g, nL, va_A ws s.heap.size, s.heap, vx_MQ below Qc (XP g ws s.heap.size pE) args s R.cells R.slots (va_A ws s.heap.size)) l R g nL cc RX2) (hz : TX9 (va_A ws s.heap.size) s s.heap) (ht : ∀ x ∈ c.exceptionTable.toList, False) :
    TE (p, l, e, R, s, m, args, below, meth, c, g, nL, va_A ws s.heap.size, s.heap, vx_MQ below Qc (XP g ws s.heap.size pE) args s R.cells R.slots (va_A ws s.heap.size)) cc R ws pE := by
  obtain ⟨-, -, -, -, hx, hb, hml, hown, hts, hK, hlk, hA⟩ := hx
  intro pc k n ik ic is lv st cls text kt d0 d3 d4 d6 d9 hf hlo hk hn hE H locs ls hP hD hS h
  obtain ⟨k1, k2, k3, k4, k5, k6⟩ := kt
  obtain ⟨sa, hsa⟩ := hz.2.2 _ k6
  refine vx_throwS (names := xnames) hx hb hl hown k1 (by decide) (hts _ _ k2) (hts _ _ k3) hsa (fun w hw => hts _ _ (k4 w hw)) k5 hz.1 hz.2.1 hS (h.1.trans hml.symm) d0 d3 d4 d6 d9 (fun x hx => (ht x hx).elim) hf hlo hk hn hlk ?_ hS.2.2 hk hn
  intro t hvm h1 h2
  exact ⟨(), trivial, ⟨hE, hP.kept (fun k q hq => h2 q.1 (hP k q hq).lt), hD⟩, Nat.le_trans hS.1 h1, fun q g1 g2 => (h2 q (Nat.lt_of_lt_of_le g1 hS.1)).trans (hS.2.1 q g1 g2)⟩
theorem PX_of {p : Program} {l : Launch} {e : Env} {R : Room} {s : State} {m : MethodId} {args : Array Value} {below : List Frame} {meth : Method} {c : Code} {g : GT} {nL : Nat} {ws : va_W} {pE : String → Prop} {Qc : Array Value → State → Outcome → State → Prop}
    (hlk : meth.locks = false) (ht : ∀ x ∈ c.exceptionTable.toList, False) :
    PX (p, l, e, R, s, m, args, below, meth, c, g, nL, va_A ws s.heap.size, s.heap, vx_MQ below Qc (XP g ws s.heap.size pE) args s R.cells R.slots (va_A ws s.heap.size)) R ws pE := by
  intro pc k n lv st E hk hn hE H locs ls q ce hP hD hS h hce hcv hcl
  refine vx_out (fun x hx => (ht x hx).elim) hlk hce hcv hcl ?_ hS.2.2 hk hn
  intro t ht9 hvm
  exact ⟨(), trivial, ⟨hE, by rw [ht9]; exact hP, hD⟩, hS.F ht9⟩
theorem MXI.of {own : String} {l : Launch} {y : MethodName} {cc : ByteArray} {maxL : Nat} {ty : FieldType} {rm : Room} {g : GT} {as : List Value} {ws : va_W} {post : Int → va_W → Prop} {pE : String → Prop} (hy : plainName y.cls = true) (ho : y.cls = own) (ho2 : own = RX2) (hst : l.stackTraces = false) (hL : (lg_sl as).length ≤ maxL)
    (body : ∀ x : CT, FX x l rm g maxL cc own → FZ x → TE x cc rm ws pE → PX x rm ws pE → (∀ (pc k n : Nat) (lv : List (Nat × Value)) (z : Int) (ws' : va_W), decode cc pc = .ok (.ireturn, 1) → narrow ty (.int (iZ z)) = .int (iZ z) → k ≤ rm.cells → n ≤ rm.slots → post z ws' → V x k n ws' pc lv [.int (iZ z)]) → V x 0 0 ws 0 (lv_args 0 as) []) : MXI l y cc maxL ty rm g as ws post pE := by
  subst ho
  intro sz
  refine vx_ofW (cc := cc) (maxL := maxL) (ret := some ty) hy rfl ?_
  intro p e s m args below meth c s₁ B hml ht hv
  obtain ⟨rfl, hsz, hT, hP, hK, hD0, hZ⟩ := hv
  subst hsz
  have hx := B.exec
  have hb := B.bytes
  have hr := B.returns
  have hown : s.vm.findClass y.cls = some m.cls := findClass_of_methodNamed B.named
  have hlocks := B.notSynchronized
  have hD := hD0.self (sz := s.heap.size)
  have hS : va_S (va_A ws s.heap.size) s.heap s.heap [] := va_S.rf
  have hl := lv_entry as (n := maxL) hL
  rw [lg_entry_eq]
  have hF : FX (p, l, e, rm, s, m, as.toArray, below, meth, c, g, maxL, va_A ws s.heap.size, s.heap, vx_MQ below (va_Qi (fun r ws' => ∃ z, r = iZ z ∧ post z ws') (KB g ws s.heap.size) (va_A ws s.heap.size)) (XP g ws s.heap.size pE) as.toArray s rm.cells rm.slots (va_A ws s.heap.size)) l rm g maxL cc y.cls := ⟨rfl, rfl, rfl, rfl, hx, hb, hml, hown, hT, hK, hlocks, fun q h => Or.inr h⟩
  refine body _ hF ⟨rfl, hZ⟩ (TE_of hst (ho2 ▸ hF) hZ ht) (PX_of hlocks ht) ?_ s.heap [] _ hP hD hS hl
  intro pc k n lv z ws' hd hn hk9 hn9 hp H locs ls hP hD hS h
  exact vx_ret (W.widen hk9 hn9 (W.zret hx hb hr hn (fun t ht hW => ⟨⟨iZ z, ws', rfl, ⟨z, rfl, hp⟩, by rw [ht]; exact hP, hD⟩, hS.F ht⟩) hS.2.2 hd hlocks))
theorem MXV.of {own : String} {l : Launch} {y : MethodName} {cc : ByteArray} {maxL : Nat} {rm : Room} {g : GT} {as : List Value} {ws : va_W} {post : va_W → Prop} {pE : String → Prop} (hy : plainName y.cls = true) (ho : y.cls = own) (ho2 : own = RX2) (hst : l.stackTraces = false) (hL : (lg_sl as).length ≤ maxL)
    (body : ∀ x : CT, FX x l rm g maxL cc own → FZ x → TE x cc rm ws pE → PX x rm ws pE → (∀ (pc k n : Nat) (lv : List (Nat × Value)) (ws' : va_W), decode cc pc = .ok (.return_, 1) → k ≤ rm.cells → n ≤ rm.slots → post ws' → V x k n ws' pc lv []) → V x 0 0 ws 0 (lv_args 0 as) []) : MXV l y cc maxL rm g as ws post pE := by
  subst ho
  intro sz
  refine vx_ofW (cc := cc) (maxL := maxL) (ret := none) hy rfl ?_
  intro p e s m args below meth c s₁ B hml ht hv
  obtain ⟨rfl, hsz, hT, hP, hK, hD0, hZ⟩ := hv
  subst hsz
  have hx := B.exec
  have hb := B.bytes
  have hr := B.returns
  have hown : s.vm.findClass y.cls = some m.cls := findClass_of_methodNamed B.named
  have hlocks := B.notSynchronized
  have hD := hD0.self (sz := s.heap.size)
  have hS : va_S (va_A ws s.heap.size) s.heap s.heap [] := va_S.rf
  have hl := lv_entry as (n := maxL) hL
  rw [lg_entry_eq]
  have hF : FX (p, l, e, rm, s, m, as.toArray, below, meth, c, g, maxL, va_A ws s.heap.size, s.heap, vx_MQ below (va_Qv post (KB g ws s.heap.size) (va_A ws s.heap.size)) (XP g ws s.heap.size pE) as.toArray s rm.cells rm.slots (va_A ws s.heap.size)) l rm g maxL cc y.cls := ⟨rfl, rfl, rfl, rfl, hx, hb, hml, hown, hT, hK, hlocks, fun q h => Or.inr h⟩
  refine body _ hF ⟨rfl, hZ⟩ (TE_of hst (ho2 ▸ hF) hZ ht) (PX_of hlocks ht) ?_ s.heap [] _ hP hD hS hl
  intro pc k n lv ws' hd hk9 hn9 hp H locs ls hP hD hS h
  exact vx_ret (W.widen hk9 hn9 (W.vret hx hb hr (fun t ht hW => ⟨⟨ws', rfl, hp, by rw [ht]; exact hP, hD⟩, hS.F ht⟩) hS.2.2 hd hlocks))
section VXC
variable {x : CT} {l : Launch} {R : Room} {g : GT} {nL : Nat} {cc : ByteArray} {own : String} {k n : Nat} {ws ws0 : va_W} {pc : Nat} {lv : List (Nat × Value)} {st0 st : List Value}
variable {y : MethodName} {bytes : ByteArray} {maxL index np : Nat} {ty : FieldType} {rm : Room} {as : List Value} {b : Nat} {pE pE' : String → Prop}
theorem K0X_at {s : State} {A : Nat → Prop} {H H0 : Heap} {locs : List Loc} (hT : TB s) (hK : va_K g.1 vwCl (tyl g) s) (hP : va_P g.1 vwCl ws H) (hD : va_D A ws) (hS : va_S A H0 H locs) (hZ : TX9 A s H0) (hF : ∀ q, va_A ws H.size q → A q) : ∀ U : State, U.heap = H → s.WarmedH U.vm → K0X g as H.size ws as.toArray U :=
  fun U hU hW => ⟨rfl, by rw [hU], TB.warm hW hT, by rw [hU]; exact hP, va_K.moved hW.alike hK, hD.weaken (fun _ _ _ _ => trivial), by rw [hU]; exact hZ.go hS.2.1 hW hF⟩
/-- a method that may throw, called by one that lets it pass; the callee's throw leaves the world as it was -/
theorem V_callXv {post : va_W → Prop} (hx : FX x l R g nL cc own) (hz : FZ x) (hp : PX x R ws pE) (hM : MXV l y bytes maxL rm g (.ref b :: as) ws post pE') (cw : CWD own index y bytes maxL none np) (hR : RM R rm maxL k n) {ci N : Nat} {T : u_T} {fs : List Value} (hc : vwCl[ci]? = some (y.cls, T, N)) (i : Nat) (he : ws[i]? = some (b, .inr (ci, fs)))
    (hst : st0 = as.reverse ++ .ref b :: st) (hn : as.length = np) (hcat : (st.map fun v => v.category).sum ≤ 8) (hd : decode cc pc = .ok (.invokevirtual index, 3)) (k' n' : Nat) (hk' : k + rm.cells = k') (hn' : n + rm.slots = n') (hpe : ∀ E, pE' E → pE E) (kk : ∀ (ws' : va_W), post ws' → V x k' n' ws' (pc + 3) lv st) : V x k n ws pc lv st0 := by
  subst hk' hn'
  obtain ⟨p, l', e, R', s, m, args, below, meth, c, g', nL', A, H0, Q⟩ := x
  obtain ⟨rfl, rfl, rfl, rfl, hx, hb, hml, hown, hts, hK, hlk, hA⟩ := hx
  obtain ⟨-, hZ⟩ := hz
  intro H locs ls hP hD hS h
  have hF := va_A_of hD hS hA
  refine vx_callv (vx_runV (As := as) (rest := st) (Ts := []) ⟨hx, hb, hml, hown, fun _ h => by cases h⟩ (hM H.size) (cwd_of hts cw hR) ⟨K0X_blind, V_recv hK hP hc i he, K0X_at hts hK hP hD hS hZ hF⟩ rfl hn h.1 hst (lv_room hcat) hd hR.2.2) hS (fun q _ h => hF q h) hF (fun q _ h => hF q h) (fun E ce q9 u t H1 locs1 ht hvm hw hB hz1 hk1 hS1 g1 g2 g3 => ?_) (fun ws' t H1 locs1 ht hvm hw hB hz1 hk1 hS1 => ?_)
  · exact hp pc (k + rm.cells) (n + rm.slots) lv st E hR.2.2.1 hR.2.2.2 (hpe E hB.1) H1 locs1 ls q9 ce (ht ▸ hB.2.1) (hB.2.2.weaken (fun _ q _ h => hF q.1 h)) hS1 h g1 g2 g3
  · exact kk ws' hw H1 locs1 ls (ht ▸ hB.1) (hB.2.weaken (fun _ q _ h => hF q.1 h)) hS1 h
theorem V_callXSv {post : va_W → Prop} (hx : FX x l R g nL cc own) (hz : FZ x) (hp : PX x R ws pE) (hM : MXV l y bytes maxL rm g as ws post pE') (cw : CSD own index y bytes maxL none np) (hR : RM R rm maxL k n)
    (hst : st0 = as.reverse ++ st) (hn : as.length = np) (hcat : (st.map fun v => v.category).sum ≤ 8) (hd : decode cc pc = .ok (.invokestatic index, 3)) (k' n' : Nat) (hk' : k + rm.cells = k') (hn' : n + rm.slots = n') (hpe : ∀ E, pE' E → pE E) (kk : ∀ (ws' : va_W), post ws' → V x k' n' ws' (pc + 3) lv st) : V x k n ws pc lv st0 := by
  subst hk' hn'
  obtain ⟨p, l', e, R', s, m, args, below, meth, c, g', nL', A, H0, Q⟩ := x
  obtain ⟨rfl, rfl, rfl, rfl, hx, hb, hml, hown, hts, hK, hlk, hA⟩ := hx
  obtain ⟨-, hZ⟩ := hz
  intro H locs ls hP hD hS h
  have hF := va_A_of hD hS hA
  refine vx_callv (vx_runS (As := as) (rest := st) (Ts := []) ⟨hx, hb, hml, hown, fun _ h => by cases h⟩ (hM H.size) (csd_of hts cw hR) ⟨K0X_blind, K0X_at hts hK hP hD hS hZ hF⟩ rfl hn h.1 hst (lv_room hcat) hd hR.2.2) hS (fun q _ h => hF q h) hF (fun q _ h => hF q h) (fun E ce q9 u t H1 locs1 ht hvm hw hB hz1 hk1 hS1 g1 g2 g3 => ?_) (fun ws' t H1 locs1 ht hvm hw hB hz1 hk1 hS1 => ?_)
  · exact hp pc (k + rm.cells) (n + rm.slots) lv st E hR.2.2.1 hR.2.2.2 (hpe E hB.1) H1 locs1 ls q9 ce (ht ▸ hB.2.1) (hB.2.2.weaken (fun _ q _ h => hF q.1 h)) hS1 h g1 g2 g3
  · exact kk ws' hw H1 locs1 ls (ht ▸ hB.1) (hB.2.weaken (fun _ q _ h => hF q.1 h)) hS1 h
end VXC
theorem xat_IAE : ∀ w ∈ vx_atS RX2 23 "java/lang/IllegalArgumentException" xnames, w ∈ tbl := by
  have h : (vx_atS RX2 23 "java/lang/IllegalArgumentException" xnames).all (fun w => lw_tbl.contains w && tbw w) = true := by decide +kernel
  intro w hw
  have h1 := List.all_eq_true.mp h w hw
  rw [Bool.and_eq_true] at h1
  exact List.mem_filter.mpr ⟨List.contains_iff_mem.mp h1.1, h1.2⟩
theorem xot_IAE : ∀ w ∈ Cond.classLink RX2 19 "java/lang/IllegalArgumentException" :: Cond.initialized "java/lang/IllegalArgumentException" :: vx_atS RX2 23 "java/lang/IllegalArgumentException" xnames, vx_ot w = true := by
  have h : (Cond.classLink RX2 19 "java/lang/IllegalArgumentException" :: Cond.initialized "java/lang/IllegalArgumentException" :: vx_atS RX2 23 "java/lang/IllegalArgumentException" xnames).all vx_ot = true := by decide +kernel
  exact List.all_eq_true.mp h
theorem xat_IOOBE : ∀ w ∈ vx_atS RX2 127 "java/lang/IndexOutOfBoundsException" xnames, w ∈ tbl := by
  have h : (vx_atS RX2 127 "java/lang/IndexOutOfBoundsException" xnames).all (fun w => lw_tbl.contains w && tbw w) = true := by decide +kernel
  intro w hw
  have h1 := List.all_eq_true.mp h w hw
  rw [Bool.and_eq_true] at h1
  exact List.mem_filter.mpr ⟨List.contains_iff_mem.mp h1.1, h1.2⟩
theorem xot_IOOBE : ∀ w ∈ Cond.classLink RX2 123 "java/lang/IndexOutOfBoundsException" :: Cond.initialized "java/lang/IndexOutOfBoundsException" :: vx_atS RX2 127 "java/lang/IndexOutOfBoundsException" xnames, vx_ot w = true := by
  have h : (Cond.classLink RX2 123 "java/lang/IndexOutOfBoundsException" :: Cond.initialized "java/lang/IndexOutOfBoundsException" :: vx_atS RX2 127 "java/lang/IndexOutOfBoundsException" xnames).all vx_ot = true := by decide +kernel
  exact List.all_eq_true.mp h
theorem xat_ISE : ∀ w ∈ vx_atS RX2 54 "java/lang/IllegalStateException" xnames, w ∈ tbl := by
  have h : (vx_atS RX2 54 "java/lang/IllegalStateException" xnames).all (fun w => lw_tbl.contains w && tbw w) = true := by decide +kernel
  intro w hw
  have h1 := List.all_eq_true.mp h w hw
  rw [Bool.and_eq_true] at h1
  exact List.mem_filter.mpr ⟨List.contains_iff_mem.mp h1.1, h1.2⟩
theorem xot_ISE : ∀ w ∈ Cond.classLink RX2 50 "java/lang/IllegalStateException" :: Cond.initialized "java/lang/IllegalStateException" :: vx_atS RX2 54 "java/lang/IllegalStateException" xnames, vx_ot w = true := by
  have h : (Cond.classLink RX2 50 "java/lang/IllegalStateException" :: Cond.initialized "java/lang/IllegalStateException" :: vx_atS RX2 54 "java/lang/IllegalStateException" xnames).all vx_ot = true := by decide +kernel
  exact List.all_eq_true.mp h
theorem kt_IAE {is : Nat} {text : String} (h : (is, text) ∈ xstrs) : KT 19 23 is "java/lang/IllegalArgumentException" text := ⟨by decide, q300, q9, xat_IAE, xot_IAE, h⟩
theorem kt_IOOBE {is : Nat} {text : String} (h : (is, text) ∈ xstrs) : KT 123 127 is "java/lang/IndexOutOfBoundsException" text := ⟨by decide, q384, q10, xat_IOOBE, xot_IOOBE, h⟩
theorem kt_ISE {is : Nat} {text : String} (h : (is, text) ∈ xstrs) : KT 50 54 is "java/lang/IllegalStateException" text := ⟨by decide, q413, q11, xat_ISE, xot_ISE, h⟩
end
section
/-! the class TillOptimists: its public methods; the world is SW g ad P 0 T, T what is now -/
theorem SW_tillx {g : GT} {ad : Nat → Nat} {P : Nat → TS} {k : Nat} {T : TS} : (SW g ad P k T)[0]? = some (ad 0, .inr (2, [.ref (ad (ix 0 0)), .ref (ad (ix 1 0))])) := SW_till
def rmX (n c : Nat) : Room := { frames := n, cells := c, slots := 6 * c, locals := 40 * n }
def SHP (T : TS) : Prop := RG T ∧ (1 ≤ T 0 0 ∧ T 0 0 ≤ 8) ∧ (0 ≤ T 0 1 ∧ T 0 1 ≤ 6) ∧ (0 ≤ T 0 2 ∧ T 0 2 < 2147483647)
def eIO : String := "java/lang/IndexOutOfBoundsException"
def eIA : String := "java/lang/IllegalArgumentException"
def eIS : String := "java/lang/IllegalStateException"
set_option maxHeartbeats 4000000 in
set_option maxRecDepth 100000 in
theorem x_needDrawer (l : Launch) {g : GT} {ad : Nat → Nat} (hst : l.stackTraces = false) {P : Nat → TS} (T : TS) (hS : SHP T) {d : Int} (hd : rg d) : MXV l yX2_needDrawer cX2_needDrawer 2 (rmX 6 1) g [.ref (ad 0), .int (iZ (d))] (SW g ad P 0 T) (fun ws9 => (0 ≤ d ∧ d < T 0 0) ∧ ws9 = SW g ad P 0 T) (fun E => E = eIO ∧ ¬ (0 ≤ d ∧ d < T 0 0)) := by
  refine MXV.of (own := RX2) (by decide) rfl rfl hst (Nat.le_of_ble_eq_true rfl) (fun x hx hz hTE hPX hE => ?_)
  have hk : 0 < 2 := by decide
  obtain ⟨hT, ⟨hn1, hn8⟩, ⟨hc0, hc6⟩, ⟨hl0, hl9⟩⟩ := id hS
  have hn0 : 0 ≤ T 0 0 := by omega
  refine V_lv (lv' := [(0, .ref (ad 0)), (1, .int (iZ (d)))]) rfl ?_
  refine V_iload_n hx dX2_needDrawer_0 1 rfl ?_
  refine V_if_lt hx dX2_needDrawer_1 15 (by decide) (by first | assumption | exact hT _ _ | exact ⟨by omega, by omega⟩) (fun h1 => ?_) (fun h1 => ?_)
  · exact hTE _ _ _ _ _ _ _ _ _ _ (kt_IOOBE (is := 179) (text := "no such drawer") (List.mem_of_getElem? (i := 1) rfl)) dX2_needDrawer_15 dX2_needDrawer_18 dX2_needDrawer_19 dX2_needDrawer_21 dX2_needDrawer_24 (by decide) (Nat.le_of_ble_eq_true rfl) (Nat.le_of_ble_eq_true rfl) (Nat.le_of_ble_eq_true rfl) ⟨rfl, by omega⟩
  · refine V_iload_n hx dX2_needDrawer_4 1 rfl ?_
    refine V_aload_n hx dX2_needDrawer_5 0 rfl ?_
    refine gf_X2_10 hx 0 (SW_tillx) rfl dX2_needDrawer_6 ?_
    refine gf_X2_26 hx (ix 0 0) (SW_shop hk) rfl dX2_needDrawer_9 ?_
    refine V_icmp_lt hx dX2_needDrawer_12 25 (by decide) (by first | assumption | exact hT _ _ | exact ⟨by omega, by omega⟩) (by first | assumption | exact hT _ _ | exact ⟨by omega, by omega⟩) (fun h12 => ?_) (fun h12 => ?_)
    · exact hE _ _ _ _ _ dX2_needDrawer_25 (Nat.le_of_ble_eq_true rfl) (Nat.le_of_ble_eq_true rfl) ⟨⟨by omega, by omega⟩, rfl⟩
    · exact hTE _ _ _ _ _ _ _ _ _ _ (kt_IOOBE (is := 179) (text := "no such drawer") (List.mem_of_getElem? (i := 1) rfl)) dX2_needDrawer_15 dX2_needDrawer_18 dX2_needDrawer_19 dX2_needDrawer_21 dX2_needDrawer_24 (by decide) (Nat.le_of_ble_eq_true rfl) (Nat.le_of_ble_eq_true rfl) (Nat.le_of_ble_eq_true rfl) ⟨rfl, by omega⟩
set_option maxHeartbeats 4000000 in
set_option maxRecDepth 100000 in
theorem x_needClerk (l : Launch) {g : GT} {ad : Nat → Nat} (hst : l.stackTraces = false) {P : Nat → TS} (T : TS) (hS : SHP T) {d : Int} (hd : rg d) : MXV l yX2_needClerk cX2_needClerk 2 (rmX 6 1) g [.ref (ad 0), .int (iZ (d))] (SW g ad P 0 T) (fun ws9 => (0 ≤ d ∧ d < T 0 1) ∧ ws9 = SW g ad P 0 T) (fun E => E = eIO ∧ ¬ (0 ≤ d ∧ d < T 0 1)) := by
  refine MXV.of (own := RX2) (by decide) rfl rfl hst (Nat.le_of_ble_eq_true rfl) (fun x hx hz hTE hPX hE => ?_)
  have hk : 0 < 2 := by decide
  obtain ⟨hT, ⟨hn1, hn8⟩, ⟨hc0, hc6⟩, ⟨hl0, hl9⟩⟩ := id hS
  have hn0 : 0 ≤ T 0 0 := by omega
  refine V_lv (lv' := [(0, .ref (ad 0)), (1, .int (iZ (d)))]) rfl ?_
  refine V_iload_n hx dX2_needClerk_0 1 rfl ?_
  refine V_if_lt hx dX2_needClerk_1 15 (by decide) (by first | assumption | exact hT _ _ | exact ⟨by omega, by omega⟩) (fun h1 => ?_) (fun h1 => ?_)
  · exact hTE _ _ _ _ _ _ _ _ _ _ (kt_IOOBE (is := 181) (text := "no such clerk") (List.mem_of_getElem? (i := 4) rfl)) dX2_needClerk_15 dX2_needClerk_18 dX2_needClerk_19 dX2_needClerk_21 dX2_needClerk_24 (by decide) (Nat.le_of_ble_eq_true rfl) (Nat.le_of_ble_eq_true rfl) (Nat.le_of_ble_eq_true rfl) ⟨rfl, by omega⟩
  · refine V_iload_n hx dX2_needClerk_4 1 rfl ?_
    refine V_aload_n hx dX2_needClerk_5 0 rfl ?_
    refine gf_X2_10 hx 0 (SW_tillx) rfl dX2_needClerk_6 ?_
    refine gf_X2_47 hx (ix 0 0) (SW_shop hk) rfl dX2_needClerk_9 ?_
    refine V_icmp_lt hx dX2_needClerk_12 25 (by decide) (by first | assumption | exact hT _ _ | exact ⟨by omega, by omega⟩) (by first | assumption | exact hT _ _ | exact ⟨by omega, by omega⟩) (fun h12 => ?_) (fun h12 => ?_)
    · exact hE _ _ _ _ _ dX2_needClerk_25 (Nat.le_of_ble_eq_true rfl) (Nat.le_of_ble_eq_true rfl) ⟨⟨by omega, by omega⟩, rfl⟩
    · exact hTE _ _ _ _ _ _ _ _ _ _ (kt_IOOBE (is := 181) (text := "no such clerk") (List.mem_of_getElem? (i := 4) rfl)) dX2_needClerk_15 dX2_needClerk_18 dX2_needClerk_19 dX2_needClerk_21 dX2_needClerk_24 (by decide) (Nat.le_of_ble_eq_true rfl) (Nat.le_of_ble_eq_true rfl) (Nat.le_of_ble_eq_true rfl) ⟨rfl, by omega⟩
set_option maxHeartbeats 4000000 in
set_option maxRecDepth 100000 in
theorem x_needWhat (l : Launch) {g : GT} {ad : Nat → Nat} (hst : l.stackTraces = false) {P : Nat → TS} (T : TS) (hS : SHP T) {d lo hi : Int} (hd : rg d) (hlo : rg lo) (hhi : rg hi) : MXV l yX2_needWhat cX2_needWhat 3 (rmX 6 1) g [.int (iZ (d)), .int (iZ (lo)), .int (iZ (hi))] (SW g ad P 0 T) (fun ws9 => (lo ≤ d ∧ d ≤ hi) ∧ ws9 = SW g ad P 0 T) (fun E => E = eIO ∧ ¬ (lo ≤ d ∧ d ≤ hi)) := by
  refine MXV.of (own := RX2) (by decide) rfl rfl hst (Nat.le_of_ble_eq_true rfl) (fun x hx hz hTE hPX hE => ?_)
  have hk : 0 < 2 := by decide
  obtain ⟨hT, ⟨hn1, hn8⟩, ⟨hc0, hc6⟩, ⟨hl0, hl9⟩⟩ := id hS
  have hn0 : 0 ≤ T 0 0 := by omega
  refine V_lv (lv' := [(0, .int (iZ (d))), (1, .int (iZ (lo))), (2, .int (iZ (hi)))]) rfl ?_
  refine V_iload_n hx dX2_needWhat_0 0 rfl ?_
  refine V_iload_n hx dX2_needWhat_1 1 rfl ?_
  refine V_icmp_lt hx dX2_needWhat_2 10 (by decide) (by first | assumption | exact hT _ _ | exact ⟨by omega, by omega⟩) (by first | assumption | exact hT _ _ | exact ⟨by omega, by omega⟩) (fun h2 => ?_) (fun h2 => ?_)
  · exact hTE _ _ _ _ _ _ _ _ _ _ (kt_IOOBE (is := 183) (text := "no such number to choose by") (List.mem_of_getElem? (i := 5) rfl)) dX2_needWhat_10 dX2_needWhat_13 dX2_needWhat_14 dX2_needWhat_16 dX2_needWhat_19 (by decide) (Nat.le_of_ble_eq_true rfl) (Nat.le_of_ble_eq_true rfl) (Nat.le_of_ble_eq_true rfl) ⟨rfl, by omega⟩
  · refine V_iload_n hx dX2_needWhat_5 0 rfl ?_
    refine V_iload_n hx dX2_needWhat_6 2 rfl ?_
    refine V_icmp_le hx dX2_needWhat_7 20 (by decide) (by first | assumption | exact hT _ _ | exact ⟨by omega, by omega⟩) (by first | assumption | exact hT _ _ | exact ⟨by omega, by omega⟩) (fun h7 => ?_) (fun h7 => ?_)
    · exact hE _ _ _ _ _ dX2_needWhat_20 (Nat.le_of_ble_eq_true rfl) (Nat.le_of_ble_eq_true rfl) ⟨⟨by omega, by omega⟩, rfl⟩
    · exact hTE _ _ _ _ _ _ _ _ _ _ (kt_IOOBE (is := 183) (text := "no such number to choose by") (List.mem_of_getElem? (i := 5) rfl)) dX2_needWhat_10 dX2_needWhat_13 dX2_needWhat_14 dX2_needWhat_16 dX2_needWhat_19 (by decide) (Nat.le_of_ble_eq_true rfl) (Nat.le_of_ble_eq_true rfl) (Nat.le_of_ble_eq_true rfl) ⟨rfl, by omega⟩
set_option maxHeartbeats 4000000 in
set_option maxRecDepth 100000 in
theorem x_needRounds (l : Launch) {g : GT} {ad : Nat → Nat} (hst : l.stackTraces = false) {P : Nat → TS} (T : TS) (hS : SHP T) {d : Int} (hd : rg d) : MXV l yX2_needRounds cX2_needRounds 1 (rmX 6 1) g [.int (iZ (d))] (SW g ad P 0 T) (fun ws9 => (1 ≤ d ∧ d ≤ 50) ∧ ws9 = SW g ad P 0 T) (fun E => E = eIA ∧ ¬ (1 ≤ d ∧ d ≤ 50)) := by
  refine MXV.of (own := RX2) (by decide) rfl rfl hst (Nat.le_of_ble_eq_true rfl) (fun x hx hz hTE hPX hE => ?_)
  have hk : 0 < 2 := by decide
  obtain ⟨hT, ⟨hn1, hn8⟩, ⟨hc0, hc6⟩, ⟨hl0, hl9⟩⟩ := id hS
  have hn0 : 0 ≤ T 0 0 := by omega
  refine V_lv (lv' := [(0, .int (iZ (d)))]) rfl ?_
  refine V_iload_n hx dX2_needRounds_0 0 rfl ?_
  refine V_iconst hx dX2_needRounds_1 ?_
  refine V_icmp_lt hx dX2_needRounds_2 11 (by decide) (by first | assumption | exact hT _ _ | exact ⟨by omega, by omega⟩) ⟨by decide, by decide⟩ (fun h2 => ?_) (fun h2 => ?_)
  · exact hTE _ _ _ _ _ _ _ _ _ _ (kt_IAE (is := 185) (text := "rounds are 1 to 50") (List.mem_of_getElem? (i := 9) rfl)) dX2_needRounds_11 dX2_needRounds_14 dX2_needRounds_15 dX2_needRounds_17 dX2_needRounds_20 (by decide) (Nat.le_of_ble_eq_true rfl) (Nat.le_of_ble_eq_true rfl) (Nat.le_of_ble_eq_true rfl) ⟨rfl, by omega⟩
  · refine V_iload_n hx dX2_needRounds_5 0 rfl ?_
    refine V_bipush hx dX2_needRounds_6 rfl ?_
    refine V_icmp_le hx dX2_needRounds_8 21 (by decide) (by first | assumption | exact hT _ _ | exact ⟨by omega, by omega⟩) ⟨by decide, by decide⟩ (fun h8 => ?_) (fun h8 => ?_)
    · exact hE _ _ _ _ _ dX2_needRounds_21 (Nat.le_of_ble_eq_true rfl) (Nat.le_of_ble_eq_true rfl) ⟨⟨by omega, by omega⟩, rfl⟩
    · exact hTE _ _ _ _ _ _ _ _ _ _ (kt_IAE (is := 185) (text := "rounds are 1 to 50") (List.mem_of_getElem? (i := 9) rfl)) dX2_needRounds_11 dX2_needRounds_14 dX2_needRounds_15 dX2_needRounds_17 dX2_needRounds_20 (by decide) (Nat.le_of_ble_eq_true rfl) (Nat.le_of_ble_eq_true rfl) (Nat.le_of_ble_eq_true rfl) ⟨rfl, by omega⟩
set_option maxHeartbeats 4000000 in
set_option maxRecDepth 100000 in
theorem x_till (l : Launch) {g : GT} {ad : Nat → Nat} (hst : l.stackTraces = false) {P : Nat → TS} (T : TS) (hS : SHP T) {a : Int} (ha : rg a) : MXI l yX2_till cX2_till 3 .int (rmX 8 1) g [.ref (ad 0), .int (iZ (a))] (SW g ad P 0 T) (fun z ws9 => (1 ≤ a ∧ a ≤ 8) ∧ z = T 0 0 ∧ ws9 = SW g ad P 0 (bgT T a 8)) (fun E => E = eIA ∧ ¬ (1 ≤ a ∧ a ≤ 8)) := by
  refine MXI.of (own := RX2) (by decide) rfl rfl hst (Nat.le_of_ble_eq_true rfl) (fun x hx hz hTE hPX hE => ?_)
  have hk : 0 < 2 := by decide
  obtain ⟨hT, ⟨hn1, hn8⟩, ⟨hc0, hc6⟩, ⟨hl0, hl9⟩⟩ := id hS
  have hn0 : 0 ≤ T 0 0 := by omega
  refine V_lv (lv' := [(0, .ref (ad 0)), (1, .int (iZ (a)))]) rfl ?_
  refine V_iload_n hx dX2_till_0 1 rfl ?_
  refine V_iconst hx dX2_till_1 ?_
  refine V_icmp_lt hx dX2_till_2 11 (by decide) (by first | assumption | exact hT _ _ | exact ⟨by omega, by omega⟩) ⟨by decide, by decide⟩ (fun h2 => ?_) (fun h2 => ?_)
  · exact hTE _ _ _ _ _ _ _ _ _ _ (kt_IAE (is := 21) (text := "a till has 1 to 8 drawers") (List.mem_of_getElem? (i := 0) rfl)) dX2_till_11 dX2_till_14 dX2_till_15 dX2_till_17 dX2_till_20 (by decide) (Nat.le_of_ble_eq_true rfl) (Nat.le_of_ble_eq_true rfl) (Nat.le_of_ble_eq_true rfl) ⟨rfl, by omega⟩
  · refine V_iload_n hx dX2_till_5 1 rfl ?_
    refine V_bipush hx dX2_till_6 rfl ?_
    refine V_icmp_le hx dX2_till_8 21 (by decide) (by first | assumption | exact hT _ _ | exact ⟨by omega, by omega⟩) ⟨by decide, by decide⟩ (fun h8 => ?_) (fun h8 => ?_)
    · refine V_aload_n hx dX2_till_21 0 rfl ?_
      refine gf_X2_10 hx 0 (SW_tillx) rfl dX2_till_22 ?_
      refine gf_X2_26 hx (ix 0 0) (SW_shop hk) rfl dX2_till_25 ?_
      refine V_istore_n hx dX2_till_28 [(2, .int (iZ (T 0 0))), (0, .ref (ad 0)), (1, .int (iZ (a)))] (by decide) rfl ?_
      refine V_aload_n hx dX2_till_29 1 rfl ?_
      refine gf_X2_10 hx 0 (SW_tillx) rfl dX2_till_30 ?_
      refine V_iload_n hx dX2_till_33 2 rfl ?_
      refine V_callNv hx (m_sBegin l hk T (m := a)) cw_X2_30 ⟨Nat.le_of_ble_eq_true rfl, Nat.le_of_ble_eq_true rfl, Nat.le_of_ble_eq_true rfl, Nat.le_of_ble_eq_true rfl⟩ rfl (ix 0 0) (SW_shop hk) rfl rfl (Nat.le_of_ble_eq_true rfl) dX2_till_34 0 0 rfl rfl (fun ws1 e1 => ?_)
      subst e1
      refine V_iload_n hx dX2_till_37 0 rfl ?_
      exact hE _ _ _ _ _ _ dX2_till_38 rfl (Nat.le_of_ble_eq_true rfl) (Nat.le_of_ble_eq_true rfl) ⟨⟨by omega, by omega⟩, rfl, rfl⟩
    · exact hTE _ _ _ _ _ _ _ _ _ _ (kt_IAE (is := 21) (text := "a till has 1 to 8 drawers") (List.mem_of_getElem? (i := 0) rfl)) dX2_till_11 dX2_till_14 dX2_till_15 dX2_till_17 dX2_till_20 (by decide) (Nat.le_of_ble_eq_true rfl) (Nat.le_of_ble_eq_true rfl) (Nat.le_of_ble_eq_true rfl) ⟨rfl, by omega⟩
set_option maxHeartbeats 4000000 in
set_option maxRecDepth 100000 in
theorem x_pay (l : Launch) {g : GT} {ad : Nat → Nat} (hst : l.stackTraces = false) {P : Nat → TS} (T : TS) (hS : SHP T) {d a : Int} (hd : rg d) (ha : rg a) : MXI l yX2_pay cX2_pay 4 .int (rmX 8 2) g [.ref (ad 0), .int (iZ (d)), .int (iZ (a))] (SW g ad P 0 T) (fun z ws9 => ((0 ≤ d ∧ d < T 0 0) ∧ (0 ≤ a ∧ a ≤ 9999)) ∧ z = T 1 d.toNat ∧ ws9 = SW g ad P 0 (pyT T d.toNat a)) (fun E => (E = eIO ∧ ¬ (0 ≤ d ∧ d < T 0 0)) ∨ (E = eIA ∧ (0 ≤ d ∧ d < T 0 0) ∧ ¬ (0 ≤ a ∧ a ≤ 9999))) := by
  refine MXI.of (own := RX2) (by decide) rfl rfl hst (Nat.le_of_ble_eq_true rfl) (fun x hx hz hTE hPX hE => ?_)
  have hk : 0 < 2 := by decide
  obtain ⟨hT, ⟨hn1, hn8⟩, ⟨hc0, hc6⟩, ⟨hl0, hl9⟩⟩ := id hS
  have hn0 : 0 ≤ T 0 0 := by omega
  refine V_lv (lv' := [(0, .ref (ad 0)), (1, .int (iZ (d))), (2, .int (iZ (a)))]) rfl ?_
  refine V_aload_n hx dX2_pay_0 0 rfl ?_
  refine V_iload_n hx dX2_pay_1 1 rfl ?_
  refine V_callXv hx hz hPX (x_needDrawer l hst (P := P) T hS (d := d) (by first | assumption | exact hT _ _ | exact ⟨by omega, by omega⟩)) cw_X2_34 ⟨Nat.le_of_ble_eq_true rfl, Nat.le_of_ble_eq_true rfl, Nat.le_of_ble_eq_true rfl, Nat.le_of_ble_eq_true rfl⟩ rfl 0 SW_tillx rfl rfl (Nat.le_of_ble_eq_true rfl) dX2_pay_2 1 6 rfl rfl (fun E he => Or.inl he) (fun ws1 e1 => ?_)
  obtain ⟨⟨v2, w2⟩, rfl⟩ := e1
  refine V_iload_n hx dX2_pay_5 2 rfl ?_
  refine V_if_lt hx dX2_pay_6 16 (by decide) (by first | assumption | exact hT _ _ | exact ⟨by omega, by omega⟩) (fun h6 => ?_) (fun h6 => ?_)
  · exact hTE _ _ _ _ _ _ _ _ _ _ (kt_IAE (is := 37) (text := "an amount is 0 to 9999") (List.mem_of_getElem? (i := 2) rfl)) dX2_pay_16 dX2_pay_19 dX2_pay_20 dX2_pay_22 dX2_pay_25 (by decide) (Nat.le_of_ble_eq_true rfl) (Nat.le_of_ble_eq_true rfl) (Nat.le_of_ble_eq_true rfl) (Or.inr ⟨rfl, ⟨by omega, by omega⟩, by omega⟩)
  · refine V_iload_n hx dX2_pay_9 2 rfl ?_
    refine V_sipush hx dX2_pay_10 rfl ?_
    refine V_icmp_le hx dX2_pay_13 26 (by decide) (by first | assumption | exact hT _ _ | exact ⟨by omega, by omega⟩) ⟨by decide, by decide⟩ (fun h13 => ?_) (fun h13 => ?_)
    · refine V_aload_n hx dX2_pay_26 0 rfl ?_
      refine gf_X2_10 hx 0 (SW_tillx) rfl dX2_pay_27 ?_
      refine gf_X2_39 hx (ix 0 0) (SW_shop hk) rfl dX2_pay_30 ?_
      refine V_iload_n hx dX2_pay_33 1 rfl ?_
      refine V_iald hx (by omega) (by omega) (by decide) (ix 0 1) (SW_8 hk (Or.inl rfl) (by decide)) (v := T 1 d.toNat) rfl dX2_pay_34 ?_
      refine V_istore_n hx dX2_pay_35 [(3, .int (iZ (T 1 d.toNat))), (0, .ref (ad 0)), (1, .int (iZ (d))), (2, .int (iZ (a)))] (by decide) rfl ?_
      refine V_aload_n hx dX2_pay_36 1 rfl ?_
      refine gf_X2_10 hx 0 (SW_tillx) rfl dX2_pay_37 ?_
      refine V_iload_n hx dX2_pay_40 2 rfl ?_
      refine V_iload_n hx dX2_pay_41 3 rfl ?_
      refine V_callNv hx (m_pay l hk T hT (by omega) (by omega) (by omega) (by omega) (d := d) (by omega) (by omega) (v := a) (by first | assumption | exact hT _ _ | exact ⟨by omega, by omega⟩)) cw_X2_43 ⟨Nat.le_of_ble_eq_true rfl, Nat.le_of_ble_eq_true rfl, Nat.le_of_ble_eq_true rfl, Nat.le_of_ble_eq_true rfl⟩ rfl (ix 0 0) (SW_shop hk) rfl rfl (Nat.le_of_ble_eq_true rfl) dX2_pay_42 1 6 rfl rfl (fun ws2 e2 => ?_)
      subst e2
      refine V_iload_n hx dX2_pay_45 0 rfl ?_
      exact hE _ _ _ _ _ _ dX2_pay_46 rfl (Nat.le_of_ble_eq_true rfl) (Nat.le_of_ble_eq_true rfl) ⟨⟨⟨by omega, by omega⟩, ⟨by omega, by omega⟩⟩, rfl, rfl⟩
    · exact hTE _ _ _ _ _ _ _ _ _ _ (kt_IAE (is := 37) (text := "an amount is 0 to 9999") (List.mem_of_getElem? (i := 2) rfl)) dX2_pay_16 dX2_pay_19 dX2_pay_20 dX2_pay_22 dX2_pay_25 (by decide) (Nat.le_of_ble_eq_true rfl) (Nat.le_of_ble_eq_true rfl) (Nat.le_of_ble_eq_true rfl) (Or.inr ⟨rfl, ⟨by omega, by omega⟩, by omega⟩)
set_option maxHeartbeats 4000000 in
set_option maxRecDepth 100000 in
theorem x_clerk (l : Launch) {g : GT} {ad : Nat → Nat} (hst : l.stackTraces = false) {P : Nat → TS} (T : TS) (hS : SHP T) : MXI l yX2_clerk cX2_clerk 1 .int (rmX 8 1) g [.ref (ad 0)] (SW g ad P 0 T) (fun z ws9 => T 0 1 < 6 ∧ z = T 0 1 ∧ ws9 = SW g ad P 0 (acT T)) (fun E => E = eIS ∧ ¬ T 0 1 < 6) := by
  refine MXI.of (own := RX2) (by decide) rfl rfl hst (Nat.le_of_ble_eq_true rfl) (fun x hx hz hTE hPX hE => ?_)
  have hk : 0 < 2 := by decide
  obtain ⟨hT, ⟨hn1, hn8⟩, ⟨hc0, hc6⟩, ⟨hl0, hl9⟩⟩ := id hS
  have hn0 : 0 ≤ T 0 0 := by omega
  refine V_lv (lv' := [(0, .ref (ad 0))]) rfl ?_
  refine V_aload_n hx dX2_clerk_0 0 rfl ?_
  refine gf_X2_10 hx 0 (SW_tillx) rfl dX2_clerk_1 ?_
  refine gf_X2_47 hx (ix 0 0) (SW_shop hk) rfl dX2_clerk_4 ?_
  refine V_bipush hx dX2_clerk_7 rfl ?_
  refine V_icmp_lt hx dX2_clerk_9 22 (by decide) (by first | assumption | exact hT _ _ | exact ⟨by omega, by omega⟩) ⟨by decide, by decide⟩ (fun h9 => ?_) (fun h9 => ?_)
  · refine V_aload_n hx dX2_clerk_22 0 rfl ?_
    refine gf_X2_10 hx 0 (SW_tillx) rfl dX2_clerk_23 ?_
    refine V_callNi hx (m_addClerk l hk T hT (by omega) (by omega)) cw_X2_55 ⟨Nat.le_of_ble_eq_true rfl, Nat.le_of_ble_eq_true rfl, Nat.le_of_ble_eq_true rfl, Nat.le_of_ble_eq_true rfl⟩ rfl (ix 0 0) (SW_shop hk) rfl rfl (Nat.le_of_ble_eq_true rfl) dX2_clerk_26 0 0 rfl rfl (fun z1 ws1 e1 => ?_)
    obtain ⟨rfl, rfl⟩ := e1
    exact hE _ _ _ _ _ _ dX2_clerk_29 rfl (Nat.le_of_ble_eq_true rfl) (Nat.le_of_ble_eq_true rfl) ⟨by omega, rfl, rfl⟩
  · exact hTE _ _ _ _ _ _ _ _ _ _ (kt_ISE (is := 52) (text := "there are 6 clerks") (List.mem_of_getElem? (i := 3) rfl)) dX2_clerk_12 dX2_clerk_15 dX2_clerk_16 dX2_clerk_18 dX2_clerk_21 (by decide) (Nat.le_of_ble_eq_true rfl) (Nat.le_of_ble_eq_true rfl) (Nat.le_of_ble_eq_true rfl) ⟨rfl, by omega⟩
end
