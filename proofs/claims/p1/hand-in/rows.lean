section
-- ===== PART A: goes FIRST, ahead of the names: the tables' words, and 'selects' of the private methods out of them =====
/-- a private method of a class that the tables say can be made, by its rows of tables_1 -/
def lw_okq (q : MethodName × Nat) : Prop := (q.1.cls ≠ "java/lang/invoke/MethodHandle" ∧ q.1.cls ≠ "java/lang/invoke/VarHandle") ∧ Cond.instantiable q.1.cls q.2 ∈ tables_1 ∧ Cond.privateMethod q.1 ∈ tables_1 ∧ Cond.instanceMethod q.1 ∈ tables_1
theorem lw_p0 : lw_okq (⟨"RollCutter", "forget", "()V"⟩, 13) := ⟨⟨by decide +kernel, by decide +kernel⟩, List.mem_of_getElem? (i := 23) (by decide +kernel), List.mem_of_getElem? (i := 416) (by decide +kernel), List.mem_of_getElem? (i := 417) (by decide +kernel)⟩
theorem lw_p1 : lw_okq (⟨"RollCutter", "settle", "(I)V"⟩, 13) := ⟨⟨by decide +kernel, by decide +kernel⟩, List.mem_of_getElem? (i := 23) (by decide +kernel), List.mem_of_getElem? (i := 470) (by decide +kernel), List.mem_of_getElem? (i := 471) (by decide +kernel)⟩
theorem lw_p2 : lw_okq (⟨"RollCutter$Master", "begin", "(LRollCutter$Shop;)V"⟩, 14) := ⟨⟨by decide +kernel, by decide +kernel⟩, List.mem_of_getElem? (i := 126) (by decide +kernel), List.mem_of_getElem? (i := 478) (by decide +kernel), List.mem_of_getElem? (i := 479) (by decide +kernel)⟩
theorem lw_p3 : lw_okq (⟨"RollCutter$Master", "addUp", "()V"⟩, 14) := ⟨⟨by decide +kernel, by decide +kernel⟩, List.mem_of_getElem? (i := 126) (by decide +kernel), List.mem_of_getElem? (i := 505) (by decide +kernel), List.mem_of_getElem? (i := 506) (by decide +kernel)⟩
theorem lw_p4 : lw_okq (⟨"RollCutter$Master", "dearest", "(LRollCutter$Shop;LRollCutter$Search;)I"⟩, 14) := ⟨⟨by decide +kernel, by decide +kernel⟩, List.mem_of_getElem? (i := 126) (by decide +kernel), List.mem_of_getElem? (i := 510) (by decide +kernel), List.mem_of_getElem? (i := 511) (by decide +kernel)⟩
theorem lw_p5 : lw_okq (⟨"RollCutter$Master", "findSteps", "(I)V"⟩, 14) := ⟨⟨by decide +kernel, by decide +kernel⟩, List.mem_of_getElem? (i := 126) (by decide +kernel), List.mem_of_getElem? (i := 531) (by decide +kernel), List.mem_of_getElem? (i := 532) (by decide +kernel)⟩
theorem lw_p6 : lw_okq (⟨"RollCutter$Master", "rowToTake", "()I"⟩, 14) := ⟨⟨by decide +kernel, by decide +kernel⟩, List.mem_of_getElem? (i := 126) (by decide +kernel), List.mem_of_getElem? (i := 536) (by decide +kernel), List.mem_of_getElem? (i := 537) (by decide +kernel)⟩
theorem lw_p7 : lw_okq (⟨"RollCutter$Master", "isLess", "(II)Z"⟩, 14) := ⟨⟨by decide +kernel, by decide +kernel⟩, List.mem_of_getElem? (i := 126) (by decide +kernel), List.mem_of_getElem? (i := 540) (by decide +kernel), List.mem_of_getElem? (i := 541) (by decide +kernel)⟩
theorem lw_p8 : lw_okq (⟨"RollCutter$Master", "note", "(II)V"⟩, 14) := ⟨⟨by decide +kernel, by decide +kernel⟩, List.mem_of_getElem? (i := 126) (by decide +kernel), List.mem_of_getElem? (i := 544) (by decide +kernel), List.mem_of_getElem? (i := 545) (by decide +kernel)⟩
theorem lw_p9 : lw_okq (⟨"RollCutter$Master", "exchange", "(I)V"⟩, 14) := ⟨⟨by decide +kernel, by decide +kernel⟩, List.mem_of_getElem? (i := 126) (by decide +kernel), List.mem_of_getElem? (i := 562) (by decide +kernel), List.mem_of_getElem? (i := 563) (by decide +kernel)⟩
theorem lw_p10 : lw_okq (⟨"RollCutter$Planner", "cutDown", "(LRollCutter$Shop;II)V"⟩, 5) := ⟨⟨by decide +kernel, by decide +kernel⟩, List.mem_of_getElem? (i := 191) (by decide +kernel), List.mem_of_getElem? (i := 575) (by decide +kernel), List.mem_of_getElem? (i := 576) (by decide +kernel)⟩
theorem lw_p11 : lw_okq (⟨"RollCutter$Planner", "timesInRest", "(LRollCutter$Shop;I)I"⟩, 5) := ⟨⟨by decide +kernel, by decide +kernel⟩, List.mem_of_getElem? (i := 191) (by decide +kernel), List.mem_of_getElem? (i := 587) (by decide +kernel), List.mem_of_getElem? (i := 588) (by decide +kernel)⟩
theorem lw_p12 : lw_okq (⟨"RollCutter$Planner", "layRolls", "(LRollCutter$Master;)V"⟩, 5) := ⟨⟨by decide +kernel, by decide +kernel⟩, List.mem_of_getElem? (i := 191) (by decide +kernel), List.mem_of_getElem? (i := 596) (by decide +kernel), List.mem_of_getElem? (i := 597) (by decide +kernel)⟩
theorem lw_p13 : lw_okq (⟨"RollCutter$Planner", "trimmed", "(LRollCutter$Shop;I)I"⟩, 5) := ⟨⟨by decide +kernel, by decide +kernel⟩, List.mem_of_getElem? (i := 191) (by decide +kernel), List.mem_of_getElem? (i := 603) (by decide +kernel), List.mem_of_getElem? (i := 604) (by decide +kernel)⟩
theorem lw_p14 : lw_okq (⟨"RollCutter$Stacks", "standTogether", "(I)V"⟩, 6) := ⟨⟨by decide +kernel, by decide +kernel⟩, List.mem_of_getElem? (i := 243) (by decide +kernel), List.mem_of_getElem? (i := 623) (by decide +kernel), List.mem_of_getElem? (i := 624) (by decide +kernel)⟩
theorem lw_p15 : lw_okq (⟨"RollCutter$Stacks", "findPeaks", "(I)V"⟩, 6) := ⟨⟨by decide +kernel, by decide +kernel⟩, List.mem_of_getElem? (i := 243) (by decide +kernel), List.mem_of_getElem? (i := 627) (by decide +kernel), List.mem_of_getElem? (i := 628) (by decide +kernel)⟩
def lw_privs_1 : List (MethodName × Nat) := [(⟨"RollCutter", "forget", "()V"⟩, 13), (⟨"RollCutter", "settle", "(I)V"⟩, 13), (⟨"RollCutter$Master", "begin", "(LRollCutter$Shop;)V"⟩, 14), (⟨"RollCutter$Master", "addUp", "()V"⟩, 14), (⟨"RollCutter$Master", "dearest", "(LRollCutter$Shop;LRollCutter$Search;)I"⟩, 14), (⟨"RollCutter$Master", "findSteps", "(I)V"⟩, 14), (⟨"RollCutter$Master", "rowToTake", "()I"⟩, 14), (⟨"RollCutter$Master", "isLess", "(II)Z"⟩, 14), (⟨"RollCutter$Master", "note", "(II)V"⟩, 14), (⟨"RollCutter$Master", "exchange", "(I)V"⟩, 14), (⟨"RollCutter$Planner", "cutDown", "(LRollCutter$Shop;II)V"⟩, 5), (⟨"RollCutter$Planner", "timesInRest", "(LRollCutter$Shop;I)I"⟩, 5), (⟨"RollCutter$Planner", "layRolls", "(LRollCutter$Master;)V"⟩, 5), (⟨"RollCutter$Planner", "trimmed", "(LRollCutter$Shop;I)I"⟩, 5), (⟨"RollCutter$Stacks", "standTogether", "(I)V"⟩, 6), (⟨"RollCutter$Stacks", "findPeaks", "(I)V"⟩, 6)]
theorem lw_r1 : ∀ q ∈ lw_privs_1, lw_okq q := List.forall_mem_cons.mpr ⟨lw_p0, List.forall_mem_cons.mpr ⟨lw_p1, List.forall_mem_cons.mpr ⟨lw_p2, List.forall_mem_cons.mpr ⟨lw_p3, List.forall_mem_cons.mpr ⟨lw_p4, List.forall_mem_cons.mpr ⟨lw_p5, List.forall_mem_cons.mpr ⟨lw_p6, List.forall_mem_cons.mpr ⟨lw_p7, List.forall_mem_cons.mpr ⟨lw_p8, List.forall_mem_cons.mpr ⟨lw_p9, List.forall_mem_cons.mpr ⟨lw_p10, List.forall_mem_cons.mpr ⟨lw_p11, List.forall_mem_cons.mpr ⟨lw_p12, List.forall_mem_cons.mpr ⟨lw_p13, List.forall_mem_cons.mpr ⟨lw_p14, List.forall_mem_cons.mpr ⟨lw_p15, fun _ h => absurd h List.not_mem_nil⟩⟩⟩⟩⟩⟩⟩⟩⟩⟩⟩⟩⟩⟩⟩⟩
theorem lw_p16 : lw_okq (⟨"RollCutter$Stacks", "peakWith", "(II)I"⟩, 6) := ⟨⟨by decide +kernel, by decide +kernel⟩, List.mem_of_getElem? (i := 243) (by decide +kernel), List.mem_of_getElem? (i := 631) (by decide +kernel), List.mem_of_getElem? (i := 632) (by decide +kernel)⟩
theorem lw_p17 : lw_okq (⟨"RollCutter$Stacks", "openWith", "(II)I"⟩, 6) := ⟨⟨by decide +kernel, by decide +kernel⟩, List.mem_of_getElem? (i := 243) (by decide +kernel), List.mem_of_getElem? (i := 635) (by decide +kernel), List.mem_of_getElem? (i := 636) (by decide +kernel)⟩
theorem lw_p18 : lw_okq (⟨"RollCutter$Stacks", "follow", "(I)V"⟩, 6) := ⟨⟨by decide +kernel, by decide +kernel⟩, List.mem_of_getElem? (i := 243) (by decide +kernel), List.mem_of_getElem? (i := 647) (by decide +kernel), List.mem_of_getElem? (i := 648) (by decide +kernel)⟩
theorem lw_p19 : lw_okq (⟨"RollCutter", "piecesAsked", "(II)I"⟩, 13) := ⟨⟨by decide +kernel, by decide +kernel⟩, List.mem_of_getElem? (i := 23) (by decide +kernel), List.mem_of_getElem? (i := 667) (by decide +kernel), List.mem_of_getElem? (i := 668) (by decide +kernel)⟩
theorem lw_p20 : lw_okq (⟨"RollCutter$Shop", "smallestOffcut", "(I)I"⟩, 8) := ⟨⟨by decide +kernel, by decide +kernel⟩, List.mem_of_getElem? (i := 31) (by decide +kernel), List.mem_of_getElem? (i := 794) (by decide +kernel), List.mem_of_getElem? (i := 795) (by decide +kernel)⟩
theorem lw_p21 : lw_okq (⟨"RollCutter$Book", "readEntry", "(LRollCutter$Tape;LRollCutter$Shop;)V"⟩, 3) := ⟨⟨by decide +kernel, by decide +kernel⟩, List.mem_of_getElem? (i := 298) (by decide +kernel), List.mem_of_getElem? (i := 836) (by decide +kernel), List.mem_of_getElem? (i := 837) (by decide +kernel)⟩
theorem lw_p22 : lw_okq (⟨"RollCutter$Book", "hasWidthIn", "(I)Z"⟩, 3) := ⟨⟨by decide +kernel, by decide +kernel⟩, List.mem_of_getElem? (i := 298) (by decide +kernel), List.mem_of_getElem? (i := 858) (by decide +kernel), List.mem_of_getElem? (i := 859) (by decide +kernel)⟩
theorem lw_p23 : lw_okq (⟨"RollCutter$Condition", "readEither", "(LRollCutter$Tape;I)V"⟩, 7) := ⟨⟨by decide +kernel, by decide +kernel⟩, List.mem_of_getElem? (i := 317) (by decide +kernel), List.mem_of_getElem? (i := 885) (by decide +kernel), List.mem_of_getElem? (i := 886) (by decide +kernel)⟩
theorem lw_p24 : lw_okq (⟨"RollCutter$Condition", "readBoth", "(LRollCutter$Tape;I)V"⟩, 7) := ⟨⟨by decide +kernel, by decide +kernel⟩, List.mem_of_getElem? (i := 317) (by decide +kernel), List.mem_of_getElem? (i := 889) (by decide +kernel), List.mem_of_getElem? (i := 890) (by decide +kernel)⟩
theorem lw_p25 : lw_okq (⟨"RollCutter$Condition", "readSingle", "(LRollCutter$Tape;I)V"⟩, 7) := ⟨⟨by decide +kernel, by decide +kernel⟩, List.mem_of_getElem? (i := 317) (by decide +kernel), List.mem_of_getElem? (i := 893) (by decide +kernel), List.mem_of_getElem? (i := 894) (by decide +kernel)⟩
theorem lw_p26 : lw_okq (⟨"RollCutter$Condition", "readCompare", "(LRollCutter$Tape;)V"⟩, 7) := ⟨⟨by decide +kernel, by decide +kernel⟩, List.mem_of_getElem? (i := 317) (by decide +kernel), List.mem_of_getElem? (i := 899) (by decide +kernel), List.mem_of_getElem? (i := 900) (by decide +kernel)⟩
theorem lw_p27 : lw_okq (⟨"RollCutter$Condition", "addStep", "(I)V"⟩, 7) := ⟨⟨by decide +kernel, by decide +kernel⟩, List.mem_of_getElem? (i := 317) (by decide +kernel), List.mem_of_getElem? (i := 967) (by decide +kernel), List.mem_of_getElem? (i := 968) (by decide +kernel)⟩
theorem lw_p28 : lw_okq (⟨"RollCutter$Condition", "isSo", "(I)Z"⟩, 7) := ⟨⟨by decide +kernel, by decide +kernel⟩, List.mem_of_getElem? (i := 317) (by decide +kernel), List.mem_of_getElem? (i := 980) (by decide +kernel), List.mem_of_getElem? (i := 981) (by decide +kernel)⟩
theorem lw_p29 : lw_okq (⟨"RollCutter", "spellPattern", "(I)V"⟩, 13) := ⟨⟨by decide +kernel, by decide +kernel⟩, List.mem_of_getElem? (i := 23) (by decide +kernel), List.mem_of_getElem? (i := 1036) (by decide +kernel), List.mem_of_getElem? (i := 1037) (by decide +kernel)⟩
theorem lw_p30 : lw_okq (⟨"RollCutter$Master", "cameBefore", "(I)Z"⟩, 14) := ⟨⟨by decide +kernel, by decide +kernel⟩, List.mem_of_getElem? (i := 126) (by decide +kernel), List.mem_of_getElem? (i := 1056) (by decide +kernel), List.mem_of_getElem? (i := 1057) (by decide +kernel)⟩
theorem lw_p31 : lw_okq (⟨"RollCutterModel", "ofWidth", "(I)I"⟩, 43) := ⟨⟨by decide +kernel, by decide +kernel⟩, List.mem_of_getElem? (i := 1073) (by decide +kernel), List.mem_of_getElem? (i := 1216) (by decide +kernel), List.mem_of_getElem? (i := 1217) (by decide +kernel)⟩
def lw_privs_2 : List (MethodName × Nat) := [(⟨"RollCutter$Stacks", "peakWith", "(II)I"⟩, 6), (⟨"RollCutter$Stacks", "openWith", "(II)I"⟩, 6), (⟨"RollCutter$Stacks", "follow", "(I)V"⟩, 6), (⟨"RollCutter", "piecesAsked", "(II)I"⟩, 13), (⟨"RollCutter$Shop", "smallestOffcut", "(I)I"⟩, 8), (⟨"RollCutter$Book", "readEntry", "(LRollCutter$Tape;LRollCutter$Shop;)V"⟩, 3), (⟨"RollCutter$Book", "hasWidthIn", "(I)Z"⟩, 3), (⟨"RollCutter$Condition", "readEither", "(LRollCutter$Tape;I)V"⟩, 7), (⟨"RollCutter$Condition", "readBoth", "(LRollCutter$Tape;I)V"⟩, 7), (⟨"RollCutter$Condition", "readSingle", "(LRollCutter$Tape;I)V"⟩, 7), (⟨"RollCutter$Condition", "readCompare", "(LRollCutter$Tape;)V"⟩, 7), (⟨"RollCutter$Condition", "addStep", "(I)V"⟩, 7), (⟨"RollCutter$Condition", "isSo", "(I)Z"⟩, 7), (⟨"RollCutter", "spellPattern", "(I)V"⟩, 13), (⟨"RollCutter$Master", "cameBefore", "(I)Z"⟩, 14), (⟨"RollCutterModel", "ofWidth", "(I)I"⟩, 43)]
theorem lw_r2 : ∀ q ∈ lw_privs_2, lw_okq q := List.forall_mem_cons.mpr ⟨lw_p16, List.forall_mem_cons.mpr ⟨lw_p17, List.forall_mem_cons.mpr ⟨lw_p18, List.forall_mem_cons.mpr ⟨lw_p19, List.forall_mem_cons.mpr ⟨lw_p20, List.forall_mem_cons.mpr ⟨lw_p21, List.forall_mem_cons.mpr ⟨lw_p22, List.forall_mem_cons.mpr ⟨lw_p23, List.forall_mem_cons.mpr ⟨lw_p24, List.forall_mem_cons.mpr ⟨lw_p25, List.forall_mem_cons.mpr ⟨lw_p26, List.forall_mem_cons.mpr ⟨lw_p27, List.forall_mem_cons.mpr ⟨lw_p28, List.forall_mem_cons.mpr ⟨lw_p29, List.forall_mem_cons.mpr ⟨lw_p30, List.forall_mem_cons.mpr ⟨lw_p31, fun _ h => absurd h List.not_mem_nil⟩⟩⟩⟩⟩⟩⟩⟩⟩⟩⟩⟩⟩⟩⟩⟩
theorem lw_p32 : lw_okq (⟨"RollCutterModel", "comes", "(II)V"⟩, 43) := ⟨⟨by decide +kernel, by decide +kernel⟩, List.mem_of_getElem? (i := 1073) (by decide +kernel), List.mem_of_getElem? (i := 1220) (by decide +kernel), List.mem_of_getElem? (i := 1221) (by decide +kernel)⟩
theorem lw_p33 : lw_okq (⟨"RollCutterModel", "isOrder", "(I)Z"⟩, 43) := ⟨⟨by decide +kernel, by decide +kernel⟩, List.mem_of_getElem? (i := 1073) (by decide +kernel), List.mem_of_getElem? (i := 1228) (by decide +kernel), List.mem_of_getElem? (i := 1229) (by decide +kernel)⟩
theorem lw_p34 : lw_okq (⟨"RollCutterModel", "widest", "()I"⟩, 43) := ⟨⟨by decide +kernel, by decide +kernel⟩, List.mem_of_getElem? (i := 1073) (by decide +kernel), List.mem_of_getElem? (i := 1244) (by decide +kernel), List.mem_of_getElem? (i := 1245) (by decide +kernel)⟩
theorem lw_p35 : lw_okq (⟨"RollCutterModel", "triesAll", "(I)V"⟩, 43) := ⟨⟨by decide +kernel, by decide +kernel⟩, List.mem_of_getElem? (i := 1073) (by decide +kernel), List.mem_of_getElem? (i := 1253) (by decide +kernel), List.mem_of_getElem? (i := 1254) (by decide +kernel)⟩
theorem lw_p36 : lw_okq (⟨"RollCutterModel", "tries", "(IIII)V"⟩, 43) := ⟨⟨by decide +kernel, by decide +kernel⟩, List.mem_of_getElem? (i := 1073) (by decide +kernel), List.mem_of_getElem? (i := 1257) (by decide +kernel), List.mem_of_getElem? (i := 1258) (by decide +kernel)⟩
theorem lw_p37 : lw_okq (⟨"RollCutterModel", "weighs", "(I)V"⟩, 43) := ⟨⟨by decide +kernel, by decide +kernel⟩, List.mem_of_getElem? (i := 1073) (by decide +kernel), List.mem_of_getElem? (i := 1261) (by decide +kernel), List.mem_of_getElem? (i := 1262) (by decide +kernel)⟩
theorem lw_p38 : lw_okq (⟨"RollCutterModel", "isFull", "([II)Z"⟩, 43) := ⟨⟨by decide +kernel, by decide +kernel⟩, List.mem_of_getElem? (i := 1073) (by decide +kernel), List.mem_of_getElem? (i := 1265) (by decide +kernel), List.mem_of_getElem? (i := 1266) (by decide +kernel)⟩
theorem lw_p39 : lw_okq (⟨"RollCutterModel", "used", "([II)I"⟩, 43) := ⟨⟨by decide +kernel, by decide +kernel⟩, List.mem_of_getElem? (i := 1073) (by decide +kernel), List.mem_of_getElem? (i := 1269) (by decide +kernel), List.mem_of_getElem? (i := 1270) (by decide +kernel)⟩
theorem lw_p40 : lw_okq (⟨"RollCutterModel", "finds", "()V"⟩, 43) := ⟨⟨by decide +kernel, by decide +kernel⟩, List.mem_of_getElem? (i := 1073) (by decide +kernel), List.mem_of_getElem? (i := 1281) (by decide +kernel), List.mem_of_getElem? (i := 1282) (by decide +kernel)⟩
theorem lw_p41 : lw_okq (⟨"RollCutterModel", "beginsRows", "()V"⟩, 43) := ⟨⟨by decide +kernel, by decide +kernel⟩, List.mem_of_getElem? (i := 1073) (by decide +kernel), List.mem_of_getElem? (i := 1285) (by decide +kernel), List.mem_of_getElem? (i := 1286) (by decide +kernel)⟩
theorem lw_p42 : lw_okq (⟨"RollCutterModel", "isWanted", "(I)Z"⟩, 43) := ⟨⟨by decide +kernel, by decide +kernel⟩, List.mem_of_getElem? (i := 1073) (by decide +kernel), List.mem_of_getElem? (i := 1289) (by decide +kernel), List.mem_of_getElem? (i := 1290) (by decide +kernel)⟩
theorem lw_p43 : lw_okq (⟨"RollCutterModel", "reckons", "()V"⟩, 43) := ⟨⟨by decide +kernel, by decide +kernel⟩, List.mem_of_getElem? (i := 1073) (by decide +kernel), List.mem_of_getElem? (i := 1293) (by decide +kernel), List.mem_of_getElem? (i := 1294) (by decide +kernel)⟩
theorem lw_p44 : lw_okq (⟨"RollCutterModel", "minor", "(III)J"⟩, 43) := ⟨⟨by decide +kernel, by decide +kernel⟩, List.mem_of_getElem? (i := 1073) (by decide +kernel), List.mem_of_getElem? (i := 1297) (by decide +kernel), List.mem_of_getElem? (i := 1298) (by decide +kernel)⟩
theorem lw_p45 : lw_okq (⟨"RollCutterModel", "rowTaken", "()I"⟩, 43) := ⟨⟨by decide +kernel, by decide +kernel⟩, List.mem_of_getElem? (i := 1073) (by decide +kernel), List.mem_of_getElem? (i := 1302) (by decide +kernel), List.mem_of_getElem? (i := 1303) (by decide +kernel)⟩
theorem lw_p46 : lw_okq (⟨"RollCutterModel", "against", "(II)I"⟩, 43) := ⟨⟨by decide +kernel, by decide +kernel⟩, List.mem_of_getElem? (i := 1073) (by decide +kernel), List.mem_of_getElem? (i := 1306) (by decide +kernel), List.mem_of_getElem? (i := 1307) (by decide +kernel)⟩
theorem lw_p47 : lw_okq (⟨"RollCutterModel", "plans", "()V"⟩, 43) := ⟨⟨by decide +kernel, by decide +kernel⟩, List.mem_of_getElem? (i := 1073) (by decide +kernel), List.mem_of_getElem? (i := 1310) (by decide +kernel), List.mem_of_getElem? (i := 1311) (by decide +kernel)⟩
def lw_privs_3 : List (MethodName × Nat) := [(⟨"RollCutterModel", "comes", "(II)V"⟩, 43), (⟨"RollCutterModel", "isOrder", "(I)Z"⟩, 43), (⟨"RollCutterModel", "widest", "()I"⟩, 43), (⟨"RollCutterModel", "triesAll", "(I)V"⟩, 43), (⟨"RollCutterModel", "tries", "(IIII)V"⟩, 43), (⟨"RollCutterModel", "weighs", "(I)V"⟩, 43), (⟨"RollCutterModel", "isFull", "([II)Z"⟩, 43), (⟨"RollCutterModel", "used", "([II)I"⟩, 43), (⟨"RollCutterModel", "finds", "()V"⟩, 43), (⟨"RollCutterModel", "beginsRows", "()V"⟩, 43), (⟨"RollCutterModel", "isWanted", "(I)Z"⟩, 43), (⟨"RollCutterModel", "reckons", "()V"⟩, 43), (⟨"RollCutterModel", "minor", "(III)J"⟩, 43), (⟨"RollCutterModel", "rowTaken", "()I"⟩, 43), (⟨"RollCutterModel", "against", "(II)I"⟩, 43), (⟨"RollCutterModel", "plans", "()V"⟩, 43)]
theorem lw_r3 : ∀ q ∈ lw_privs_3, lw_okq q := List.forall_mem_cons.mpr ⟨lw_p32, List.forall_mem_cons.mpr ⟨lw_p33, List.forall_mem_cons.mpr ⟨lw_p34, List.forall_mem_cons.mpr ⟨lw_p35, List.forall_mem_cons.mpr ⟨lw_p36, List.forall_mem_cons.mpr ⟨lw_p37, List.forall_mem_cons.mpr ⟨lw_p38, List.forall_mem_cons.mpr ⟨lw_p39, List.forall_mem_cons.mpr ⟨lw_p40, List.forall_mem_cons.mpr ⟨lw_p41, List.forall_mem_cons.mpr ⟨lw_p42, List.forall_mem_cons.mpr ⟨lw_p43, List.forall_mem_cons.mpr ⟨lw_p44, List.forall_mem_cons.mpr ⟨lw_p45, List.forall_mem_cons.mpr ⟨lw_p46, List.forall_mem_cons.mpr ⟨lw_p47, fun _ h => absurd h List.not_mem_nil⟩⟩⟩⟩⟩⟩⟩⟩⟩⟩⟩⟩⟩⟩⟩⟩
theorem lw_p48 : lw_okq (⟨"RollCutterModel", "cutsUp", "()V"⟩, 43) := ⟨⟨by decide +kernel, by decide +kernel⟩, List.mem_of_getElem? (i := 1073) (by decide +kernel), List.mem_of_getElem? (i := 1314) (by decide +kernel), List.mem_of_getElem? (i := 1315) (by decide +kernel)⟩
theorem lw_p49 : lw_okq (⟨"RollCutterModel", "cutsMore", "([III)V"⟩, 43) := ⟨⟨by decide +kernel, by decide +kernel⟩, List.mem_of_getElem? (i := 1073) (by decide +kernel), List.mem_of_getElem? (i := 1318) (by decide +kernel), List.mem_of_getElem? (i := 1319) (by decide +kernel)⟩
theorem lw_p50 : lw_okq (⟨"RollCutterModel", "rollsOfCuts", "()I"⟩, 43) := ⟨⟨by decide +kernel, by decide +kernel⟩, List.mem_of_getElem? (i := 1073) (by decide +kernel), List.mem_of_getElem? (i := 1322) (by decide +kernel), List.mem_of_getElem? (i := 1323) (by decide +kernel)⟩
theorem lw_p51 : lw_okq (⟨"RollCutterModel", "cutsDown", "()V"⟩, 43) := ⟨⟨by decide +kernel, by decide +kernel⟩, List.mem_of_getElem? (i := 1073) (by decide +kernel), List.mem_of_getElem? (i := 1326) (by decide +kernel), List.mem_of_getElem? (i := 1327) (by decide +kernel)⟩
theorem lw_p52 : lw_okq (⟨"RollCutterModel", "lines", "()V"⟩, 43) := ⟨⟨by decide +kernel, by decide +kernel⟩, List.mem_of_getElem? (i := 1073) (by decide +kernel), List.mem_of_getElem? (i := 1330) (by decide +kernel), List.mem_of_getElem? (i := 1331) (by decide +kernel)⟩
theorem lw_p53 : lw_okq (⟨"RollCutterModel", "lineUp", "(III)V"⟩, 43) := ⟨⟨by decide +kernel, by decide +kernel⟩, List.mem_of_getElem? (i := 1073) (by decide +kernel), List.mem_of_getElem? (i := 1334) (by decide +kernel), List.mem_of_getElem? (i := 1335) (by decide +kernel)⟩
theorem lw_p54 : lw_okq (⟨"RollCutterModel", "openAt", "([II)I"⟩, 43) := ⟨⟨by decide +kernel, by decide +kernel⟩, List.mem_of_getElem? (i := 1073) (by decide +kernel), List.mem_of_getElem? (i := 1338) (by decide +kernel), List.mem_of_getElem? (i := 1339) (by decide +kernel)⟩
theorem lw_p55 : lw_okq (⟨"RollCutterModel", "tells", "([III)I"⟩, 43) := ⟨⟨by decide +kernel, by decide +kernel⟩, List.mem_of_getElem? (i := 1073) (by decide +kernel), List.mem_of_getElem? (i := 1347) (by decide +kernel), List.mem_of_getElem? (i := 1348) (by decide +kernel)⟩
theorem lw_p56 : lw_okq (⟨"RollCutterModel", "wantedAt", "(I)I"⟩, 43) := ⟨⟨by decide +kernel, by decide +kernel⟩, List.mem_of_getElem? (i := 1073) (by decide +kernel), List.mem_of_getElem? (i := 1363) (by decide +kernel), List.mem_of_getElem? (i := 1364) (by decide +kernel)⟩
theorem lw_p57 : lw_okq (⟨"RollCutterModel", "sumOfAmounts", "()J"⟩, 43) := ⟨⟨by decide +kernel, by decide +kernel⟩, List.mem_of_getElem? (i := 1073) (by decide +kernel), List.mem_of_getElem? (i := 1376) (by decide +kernel), List.mem_of_getElem? (i := 1377) (by decide +kernel)⟩
theorem lw_p58 : lw_okq (⟨"RollCutterModel", "wasteOf", "(I)I"⟩, 43) := ⟨⟨by decide +kernel, by decide +kernel⟩, List.mem_of_getElem? (i := 1073) (by decide +kernel), List.mem_of_getElem? (i := 1408) (by decide +kernel), List.mem_of_getElem? (i := 1409) (by decide +kernel)⟩
theorem lw_p59 : lw_okq (⟨"RollCutterModel", "leaves", "(II)V"⟩, 43) := ⟨⟨by decide +kernel, by decide +kernel⟩, List.mem_of_getElem? (i := 1073) (by decide +kernel), List.mem_of_getElem? (i := 1432) (by decide +kernel), List.mem_of_getElem? (i := 1433) (by decide +kernel)⟩
theorem lw_p60 : lw_okq (⟨"RollCutterModel", "offcutFor", "(I)I"⟩, 43) := ⟨⟨by decide +kernel, by decide +kernel⟩, List.mem_of_getElem? (i := 1073) (by decide +kernel), List.mem_of_getElem? (i := 1440) (by decide +kernel), List.mem_of_getElem? (i := 1441) (by decide +kernel)⟩
theorem lw_p61 : lw_okq (⟨"RollCutterModel", "begins", "()V"⟩, 43) := ⟨⟨by decide +kernel, by decide +kernel⟩, List.mem_of_getElem? (i := 1073) (by decide +kernel), List.mem_of_getElem? (i := 1464) (by decide +kernel), List.mem_of_getElem? (i := 1465) (by decide +kernel)⟩
theorem lw_p62 : lw_okq (⟨"RollCutterModel", "readOrder", "()V"⟩, 43) := ⟨⟨by decide +kernel, by decide +kernel⟩, List.mem_of_getElem? (i := 1073) (by decide +kernel), List.mem_of_getElem? (i := 1468) (by decide +kernel), List.mem_of_getElem? (i := 1469) (by decide +kernel)⟩
theorem lw_p63 : lw_okq (⟨"RollCutterModel", "wrong", "(I)V"⟩, 43) := ⟨⟨by decide +kernel, by decide +kernel⟩, List.mem_of_getElem? (i := 1073) (by decide +kernel), List.mem_of_getElem? (i := 1472) (by decide +kernel), List.mem_of_getElem? (i := 1473) (by decide +kernel)⟩
def lw_privs_4 : List (MethodName × Nat) := [(⟨"RollCutterModel", "cutsUp", "()V"⟩, 43), (⟨"RollCutterModel", "cutsMore", "([III)V"⟩, 43), (⟨"RollCutterModel", "rollsOfCuts", "()I"⟩, 43), (⟨"RollCutterModel", "cutsDown", "()V"⟩, 43), (⟨"RollCutterModel", "lines", "()V"⟩, 43), (⟨"RollCutterModel", "lineUp", "(III)V"⟩, 43), (⟨"RollCutterModel", "openAt", "([II)I"⟩, 43), (⟨"RollCutterModel", "tells", "([III)I"⟩, 43), (⟨"RollCutterModel", "wantedAt", "(I)I"⟩, 43), (⟨"RollCutterModel", "sumOfAmounts", "()J"⟩, 43), (⟨"RollCutterModel", "wasteOf", "(I)I"⟩, 43), (⟨"RollCutterModel", "leaves", "(II)V"⟩, 43), (⟨"RollCutterModel", "offcutFor", "(I)I"⟩, 43), (⟨"RollCutterModel", "begins", "()V"⟩, 43), (⟨"RollCutterModel", "readOrder", "()V"⟩, 43), (⟨"RollCutterModel", "wrong", "(I)V"⟩, 43)]
theorem lw_r4 : ∀ q ∈ lw_privs_4, lw_okq q := List.forall_mem_cons.mpr ⟨lw_p48, List.forall_mem_cons.mpr ⟨lw_p49, List.forall_mem_cons.mpr ⟨lw_p50, List.forall_mem_cons.mpr ⟨lw_p51, List.forall_mem_cons.mpr ⟨lw_p52, List.forall_mem_cons.mpr ⟨lw_p53, List.forall_mem_cons.mpr ⟨lw_p54, List.forall_mem_cons.mpr ⟨lw_p55, List.forall_mem_cons.mpr ⟨lw_p56, List.forall_mem_cons.mpr ⟨lw_p57, List.forall_mem_cons.mpr ⟨lw_p58, List.forall_mem_cons.mpr ⟨lw_p59, List.forall_mem_cons.mpr ⟨lw_p60, List.forall_mem_cons.mpr ⟨lw_p61, List.forall_mem_cons.mpr ⟨lw_p62, List.forall_mem_cons.mpr ⟨lw_p63, fun _ h => absurd h List.not_mem_nil⟩⟩⟩⟩⟩⟩⟩⟩⟩⟩⟩⟩⟩⟩⟩⟩
theorem lw_p64 : lw_okq (⟨"RollCutterModel", "number", "(II)I"⟩, 43) := ⟨⟨by decide +kernel, by decide +kernel⟩, List.mem_of_getElem? (i := 1073) (by decide +kernel), List.mem_of_getElem? (i := 1476) (by decide +kernel), List.mem_of_getElem? (i := 1477) (by decide +kernel)⟩
theorem lw_p65 : lw_okq (⟨"RollCutterModel", "here", "()I"⟩, 43) := ⟨⟨by decide +kernel, by decide +kernel⟩, List.mem_of_getElem? (i := 1073) (by decide +kernel), List.mem_of_getElem? (i := 1480) (by decide +kernel), List.mem_of_getElem? (i := 1481) (by decide +kernel)⟩
theorem lw_p66 : lw_okq (⟨"RollCutterModel", "must", "(I)V"⟩, 43) := ⟨⟨by decide +kernel, by decide +kernel⟩, List.mem_of_getElem? (i := 1073) (by decide +kernel), List.mem_of_getElem? (i := 1484) (by decide +kernel), List.mem_of_getElem? (i := 1485) (by decide +kernel)⟩
theorem lw_p67 : lw_okq (⟨"RollCutterModel", "takes", "(I)Z"⟩, 43) := ⟨⟨by decide +kernel, by decide +kernel⟩, List.mem_of_getElem? (i := 1073) (by decide +kernel), List.mem_of_getElem? (i := 1488) (by decide +kernel), List.mem_of_getElem? (i := 1489) (by decide +kernel)⟩
theorem lw_p68 : lw_okq (⟨"RollCutterModel", "meant", "(Z)I"⟩, 43) := ⟨⟨by decide +kernel, by decide +kernel⟩, List.mem_of_getElem? (i := 1073) (by decide +kernel), List.mem_of_getElem? (i := 1496) (by decide +kernel), List.mem_of_getElem? (i := 1497) (by decide +kernel)⟩
theorem lw_p69 : lw_okq (⟨"RollCutterModel", "isSo", "(I)Z"⟩, 43) := ⟨⟨by decide +kernel, by decide +kernel⟩, List.mem_of_getElem? (i := 1073) (by decide +kernel), List.mem_of_getElem? (i := 1500) (by decide +kernel), List.mem_of_getElem? (i := 1501) (by decide +kernel)⟩
theorem lw_p70 : lw_okq (⟨"RollCutterModel", "either", "()Z"⟩, 43) := ⟨⟨by decide +kernel, by decide +kernel⟩, List.mem_of_getElem? (i := 1073) (by decide +kernel), List.mem_of_getElem? (i := 1504) (by decide +kernel), List.mem_of_getElem? (i := 1505) (by decide +kernel)⟩
theorem lw_p71 : lw_okq (⟨"RollCutterModel", "both", "()Z"⟩, 43) := ⟨⟨by decide +kernel, by decide +kernel⟩, List.mem_of_getElem? (i := 1073) (by decide +kernel), List.mem_of_getElem? (i := 1508) (by decide +kernel), List.mem_of_getElem? (i := 1509) (by decide +kernel)⟩
theorem lw_p72 : lw_okq (⟨"RollCutterModel", "one", "()Z"⟩, 43) := ⟨⟨by decide +kernel, by decide +kernel⟩, List.mem_of_getElem? (i := 1073) (by decide +kernel), List.mem_of_getElem? (i := 1512) (by decide +kernel), List.mem_of_getElem? (i := 1513) (by decide +kernel)⟩
theorem lw_p73 : lw_okq (⟨"RollCutterModel", "opens", "(I)Z"⟩, 43) := ⟨⟨by decide +kernel, by decide +kernel⟩, List.mem_of_getElem? (i := 1073) (by decide +kernel), List.mem_of_getElem? (i := 1516) (by decide +kernel), List.mem_of_getElem? (i := 1517) (by decide +kernel)⟩
theorem lw_p74 : lw_okq (⟨"RollCutterModel", "word", "()I"⟩, 43) := ⟨⟨by decide +kernel, by decide +kernel⟩, List.mem_of_getElem? (i := 1073) (by decide +kernel), List.mem_of_getElem? (i := 1520) (by decide +kernel), List.mem_of_getElem? (i := 1521) (by decide +kernel)⟩
theorem lw_p75 : lw_okq (⟨"RollCutterModel", "valueOf", "(II)I"⟩, 43) := ⟨⟨by decide +kernel, by decide +kernel⟩, List.mem_of_getElem? (i := 1073) (by decide +kernel), List.mem_of_getElem? (i := 1526) (by decide +kernel), List.mem_of_getElem? (i := 1527) (by decide +kernel)⟩
theorem lw_p76 : lw_okq (⟨"RollCutterModel", "readCut", "()V"⟩, 43) := ⟨⟨by decide +kernel, by decide +kernel⟩, List.mem_of_getElem? (i := 1073) (by decide +kernel), List.mem_of_getElem? (i := 1538) (by decide +kernel), List.mem_of_getElem? (i := 1539) (by decide +kernel)⟩
theorem lw_p77 : lw_okq (⟨"RollCutterModel", "isPattern", "([II)Z"⟩, 43) := ⟨⟨by decide +kernel, by decide +kernel⟩, List.mem_of_getElem? (i := 1073) (by decide +kernel), List.mem_of_getElem? (i := 1542) (by decide +kernel), List.mem_of_getElem? (i := 1543) (by decide +kernel)⟩
theorem lw_p78 : lw_okq (⟨"RollCutterModel", "puts", "(I)V"⟩, 43) := ⟨⟨by decide +kernel, by decide +kernel⟩, List.mem_of_getElem? (i := 1073) (by decide +kernel), List.mem_of_getElem? (i := 1550) (by decide +kernel), List.mem_of_getElem? (i := 1551) (by decide +kernel)⟩
theorem lw_p79 : lw_okq (⟨"RollCutterModel", "putsNumber", "(I)V"⟩, 43) := ⟨⟨by decide +kernel, by decide +kernel⟩, List.mem_of_getElem? (i := 1073) (by decide +kernel), List.mem_of_getElem? (i := 1554) (by decide +kernel), List.mem_of_getElem? (i := 1555) (by decide +kernel)⟩
def lw_privs_5 : List (MethodName × Nat) := [(⟨"RollCutterModel", "number", "(II)I"⟩, 43), (⟨"RollCutterModel", "here", "()I"⟩, 43), (⟨"RollCutterModel", "must", "(I)V"⟩, 43), (⟨"RollCutterModel", "takes", "(I)Z"⟩, 43), (⟨"RollCutterModel", "meant", "(Z)I"⟩, 43), (⟨"RollCutterModel", "isSo", "(I)Z"⟩, 43), (⟨"RollCutterModel", "either", "()Z"⟩, 43), (⟨"RollCutterModel", "both", "()Z"⟩, 43), (⟨"RollCutterModel", "one", "()Z"⟩, 43), (⟨"RollCutterModel", "opens", "(I)Z"⟩, 43), (⟨"RollCutterModel", "word", "()I"⟩, 43), (⟨"RollCutterModel", "valueOf", "(II)I"⟩, 43), (⟨"RollCutterModel", "readCut", "()V"⟩, 43), (⟨"RollCutterModel", "isPattern", "([II)Z"⟩, 43), (⟨"RollCutterModel", "puts", "(I)V"⟩, 43), (⟨"RollCutterModel", "putsNumber", "(I)V"⟩, 43)]
theorem lw_r5 : ∀ q ∈ lw_privs_5, lw_okq q := List.forall_mem_cons.mpr ⟨lw_p64, List.forall_mem_cons.mpr ⟨lw_p65, List.forall_mem_cons.mpr ⟨lw_p66, List.forall_mem_cons.mpr ⟨lw_p67, List.forall_mem_cons.mpr ⟨lw_p68, List.forall_mem_cons.mpr ⟨lw_p69, List.forall_mem_cons.mpr ⟨lw_p70, List.forall_mem_cons.mpr ⟨lw_p71, List.forall_mem_cons.mpr ⟨lw_p72, List.forall_mem_cons.mpr ⟨lw_p73, List.forall_mem_cons.mpr ⟨lw_p74, List.forall_mem_cons.mpr ⟨lw_p75, List.forall_mem_cons.mpr ⟨lw_p76, List.forall_mem_cons.mpr ⟨lw_p77, List.forall_mem_cons.mpr ⟨lw_p78, List.forall_mem_cons.mpr ⟨lw_p79, fun _ h => absurd h List.not_mem_nil⟩⟩⟩⟩⟩⟩⟩⟩⟩⟩⟩⟩⟩⟩⟩⟩
theorem lw_p80 : lw_okq (⟨"RollCutterModel", "unlike", "()I"⟩, 43) := ⟨⟨by decide +kernel, by decide +kernel⟩, List.mem_of_getElem? (i := 1073) (by decide +kernel), List.mem_of_getElem? (i := 1567) (by decide +kernel), List.mem_of_getElem? (i := 1568) (by decide +kernel)⟩
def lw_privs_6 : List (MethodName × Nat) := [(⟨"RollCutterModel", "unlike", "()I"⟩, 43)]
theorem lw_r6 : ∀ q ∈ lw_privs_6, lw_okq q := List.forall_mem_cons.mpr ⟨lw_p80, fun _ h => absurd h List.not_mem_nil⟩
def lw_privs : List (MethodName × Nat) := lw_privs_1 ++ (lw_privs_2 ++ (lw_privs_3 ++ (lw_privs_4 ++ (lw_privs_5 ++ (lw_privs_6)))))
def lw_tbl : List Cond := k2_sels lw_privs ++ tables_1
theorem lw_privs_ok : ∀ q ∈ lw_privs, lw_okq q := by
  show ∀ q ∈ lw_privs_1 ++ (lw_privs_2 ++ (lw_privs_3 ++ (lw_privs_4 ++ (lw_privs_5 ++ (lw_privs_6))))), lw_okq q
  exact List.forall_mem_append.mpr ⟨lw_r1, List.forall_mem_append.mpr ⟨lw_r2, List.forall_mem_append.mpr ⟨lw_r3, List.forall_mem_append.mpr ⟨lw_r4, List.forall_mem_append.mpr ⟨lw_r5, lw_r6⟩⟩⟩⟩⟩
-- ===== end of PART A; then your names; then what follows =====
/-! names: classes, fields, methods, instructions (printed by wip/p1/gen1.py) -/
def xF_0 : u_T := fun k => match k with
  | 0 => ("RollCutter", "shop", "LRollCutter$Shop;", true)
  | 1 => ("RollCutter", "imaged", "LRollCutter$Shop;", true)
  | 2 => ("RollCutter", "hasImage", "Z", false)
  | 3 => ("RollCutter", "search", "LRollCutter$Search;", true)
  | 4 => ("RollCutter", "master", "LRollCutter$Master;", true)
  | 5 => ("RollCutter", "planner", "LRollCutter$Planner;", true)
  | 6 => ("RollCutter", "stacks", "LRollCutter$Stacks;", true)
  | 7 => ("RollCutter", "tape", "LRollCutter$Tape;", true)
  | 8 => ("RollCutter", "bookText", "LRollCutter$Book;", true)
  | 9 => ("RollCutter", "condition", "LRollCutter$Condition;", true)
  | 10 => ("RollCutter", "sheet", "LRollCutter$Paper;", true)
  | 11 => ("RollCutter", "counted", "[I", true)
  | _ => ("RollCutter", "settled", "I", false)
def xt_0 : Nat → FieldType := fun k => match k with
  | 0 => .object "RollCutter$Shop"
  | 1 => .object "RollCutter$Shop"
  | 2 => .boolean
  | 3 => .object "RollCutter$Search"
  | 4 => .object "RollCutter$Master"
  | 5 => .object "RollCutter$Planner"
  | 6 => .object "RollCutter$Stacks"
  | 7 => .object "RollCutter$Tape"
  | 8 => .object "RollCutter$Book"
  | 9 => .object "RollCutter$Condition"
  | 10 => .object "RollCutter$Paper"
  | 11 => .array (.int)
  | _ => .int
def xF_1 : u_T := fun k => match k with
  | 0 => ("RollCutter$Shop", "orders", "I", false)
  | 1 => ("RollCutter$Shop", "width", "[I", true)
  | 2 => ("RollCutter$Shop", "wants", "[I", true)
  | 3 => ("RollCutter$Shop", "size", "I", false)
  | 4 => ("RollCutter$Shop", "kerf", "I", false)
  | 5 => ("RollCutter$Shop", "knives", "I", false)
  | 6 => ("RollCutter$Shop", "keep", "I", false)
  | _ => ("RollCutter$Shop", "offcuts", "[I", true)
def xt_1 : Nat → FieldType := fun k => match k with
  | 0 => .int
  | 1 => .array (.int)
  | 2 => .array (.int)
  | 3 => .int
  | 4 => .int
  | 5 => .int
  | 6 => .int
  | _ => .array (.int)
def xF_2 : u_T := fun k => match k with
  | 0 => ("RollCutter$Search", "kinds", "I", false)
  | 1 => ("RollCutter$Search", "unit", "[I", true)
  | 2 => ("RollCutter$Search", "span", "[I", true)
  | 3 => ("RollCutter$Search", "most", "[I", true)
  | 4 => ("RollCutter$Search", "gain", "[J", true)
  | 5 => ("RollCutter$Search", "topGain", "[J", true)
  | 6 => ("RollCutter$Search", "topSpan", "[I", true)
  | 7 => ("RollCutter$Search", "best", "J", false)
  | _ => ("RollCutter$Search", "found", "I", false)
def xt_2 : Nat → FieldType := fun k => match k with
  | 0 => .int
  | 1 => .array (.int)
  | 2 => .array (.int)
  | 3 => .array (.int)
  | 4 => .array (.long)
  | 5 => .array (.long)
  | 6 => .array (.int)
  | 7 => .long
  | _ => .int
def xF_3 : u_T := fun k => match k with
  | 0 => ("RollCutter$Master", "rows", "I", false)
  | 1 => ("RollCutter$Master", "order", "[I", true)
  | 2 => ("RollCutter$Master", "place", "[I", true)
  | 3 => ("RollCutter$Master", "wants", "[I", true)
  | 4 => ("RollCutter$Master", "began", "[I", true)
  | 5 => ("RollCutter$Master", "pattern", "[I", true)
  | 6 => ("RollCutter$Master", "share", "[[J", true)
  | 7 => ("RollCutter$Master", "amount", "[J", true)
  | 8 => ("RollCutter$Master", "price", "[J", true)
  | 9 => ("RollCutter$Master", "step", "[J", true)
  | 10 => ("RollCutter$Master", "under", "J", false)
  | 11 => ("RollCutter$Master", "rounds", "I", false)
  | 12 => ("RollCutter$Master", "cameRow", "[I", false)
  | _ => ("RollCutter$Master", "camePattern", "[I", false)
def xt_3 : Nat → FieldType := fun k => match k with
  | 0 => .int
  | 1 => .array (.int)
  | 2 => .array (.int)
  | 3 => .array (.int)
  | 4 => .array (.int)
  | 5 => .array (.int)
  | 6 => .array (.array (.long))
  | 7 => .array (.long)
  | 8 => .array (.long)
  | 9 => .array (.long)
  | 10 => .long
  | 11 => .int
  | 12 => .array (.int)
  | _ => .array (.int)
def xF_4 : u_T := fun k => match k with
  | 0 => ("RollCutter$Planner", "down", "LRollCutter$Plan;", true)
  | 1 => ("RollCutter$Planner", "up", "LRollCutter$Plan;", true)
  | 2 => ("RollCutter$Planner", "rest", "[I", true)
  | 3 => ("RollCutter$Planner", "roll", "[I", true)
  | _ => ("RollCutter$Planner", "laid", "I", false)
def xt_4 : Nat → FieldType := fun k => match k with
  | 0 => .object "RollCutter$Plan"
  | 1 => .object "RollCutter$Plan"
  | 2 => .array (.int)
  | 3 => .array (.int)
  | _ => .int
def xF_5 : u_T := fun k => match k with
  | 0 => ("RollCutter$Plan", "cuts", "I", false)
  | 1 => ("RollCutter$Plan", "rollCount", "I", false)
  | 2 => ("RollCutter$Plan", "pattern", "[I", true)
  | _ => ("RollCutter$Plan", "times", "[I", true)
def xt_5 : Nat → FieldType := fun k => match k with
  | 0 => .int
  | 1 => .int
  | 2 => .array (.int)
  | _ => .array (.int)
def xF_6 : u_T := fun k => match k with
  | 0 => ("RollCutter$Stacks", "beside", "[I", true)
  | 1 => ("RollCutter$Stacks", "leastPeak", "[I", true)
  | 2 => ("RollCutter$Stacks", "turn", "[I", true)
  | 3 => ("RollCutter$Stacks", "opened", "[I", true)
  | 4 => ("RollCutter$Stacks", "turns", "I", false)
  | _ => ("RollCutter$Stacks", "highest", "I", false)
def xt_6 : Nat → FieldType := fun k => match k with
  | 0 => .array (.int)
  | 1 => .array (.int)
  | 2 => .array (.int)
  | 3 => .array (.int)
  | 4 => .int
  | _ => .int
def xF_7 : u_T := fun k => match k with
  | 0 => ("RollCutter$Tape", "bytes", "[I", true)
  | 1 => ("RollCutter$Tape", "length", "I", false)
  | 2 => ("RollCutter$Tape", "at", "I", false)
  | _ => ("RollCutter$Tape", "fault", "I", false)
def xt_7 : Nat → FieldType := fun k => match k with
  | 0 => .array (.int)
  | 1 => .int
  | 2 => .int
  | _ => .int
def xF_8 : u_T := fun k => match k with
  | 0 => ("RollCutter$Book", "entries", "I", false)
  | 1 => ("RollCutter$Book", "width", "[I", true)
  | _ => ("RollCutter$Book", "wants", "[I", true)
def xt_8 : Nat → FieldType := fun k => match k with
  | 0 => .int
  | 1 => .array (.int)
  | _ => .array (.int)
def xF_9 : u_T := fun k => match k with
  | 0 => ("RollCutter$Condition", "kind", "[I", true)
  | 1 => ("RollCutter$Condition", "word", "[I", true)
  | 2 => ("RollCutter$Condition", "sign", "[I", true)
  | 3 => ("RollCutter$Condition", "number", "[I", true)
  | 4 => ("RollCutter$Condition", "steps", "I", false)
  | 5 => ("RollCutter$Condition", "value", "[I", true)
  | _ => ("RollCutter$Condition", "stack", "[Z", true)
def xt_9 : Nat → FieldType := fun k => match k with
  | 0 => .array (.int)
  | 1 => .array (.int)
  | 2 => .array (.int)
  | 3 => .array (.int)
  | 4 => .int
  | 5 => .array (.int)
  | _ => .array (.boolean)
def xF_10 : u_T := fun k => match k with
  | 0 => ("RollCutter$Paper", "bytes", "[I", false)
  | _ => ("RollCutter$Paper", "length", "I", false)
def xt_10 : Nat → FieldType := fun k => match k with
  | 0 => .array (.int)
  | _ => .int
def xF_11 : u_T := fun k => match k with
  | 0 => ("RollCutterModel", "g", "[I", true)
  | 1 => ("RollCutterModel", "kept", "[I", true)
  | 2 => ("RollCutterModel", "isKept", "Z", false)
  | 3 => ("RollCutterModel", "isDone", "Z", false)
  | 4 => ("RollCutterModel", "tried", "[I", true)
  | 5 => ("RollCutterModel", "top", "[I", true)
  | 6 => ("RollCutterModel", "found", "[I", true)
  | 7 => ("RollCutterModel", "best", "J", false)
  | 8 => ("RollCutterModel", "rowMany", "I", false)
  | 9 => ("RollCutterModel", "wanted", "[I", true)
  | 10 => ("RollCutterModel", "rows", "[I", true)
  | 11 => ("RollCutterModel", "firstRows", "[I", true)
  | 12 => ("RollCutterModel", "shares", "[J", true)
  | 13 => ("RollCutterModel", "prices", "[J", true)
  | 14 => ("RollCutterModel", "amounts", "[J", true)
  | 15 => ("RollCutterModel", "steps", "[J", true)
  | 16 => ("RollCutterModel", "below", "J", false)
  | 17 => ("RollCutterModel", "cameMany", "I", false)
  | 18 => ("RollCutterModel", "cameRow", "[I", true)
  | 19 => ("RollCutterModel", "came", "[I", true)
  | 20 => ("RollCutterModel", "cutMany", "I", false)
  | 21 => ("RollCutterModel", "cutTimes", "[I", true)
  | 22 => ("RollCutterModel", "cuts", "[I", true)
  | 23 => ("RollCutterModel", "rollsBy", "[I", true)
  | 24 => ("RollCutterModel", "left", "[I", true)
  | 25 => ("RollCutterModel", "pieceMany", "I", false)
  | 26 => ("RollCutterModel", "pieceRolls", "[I", true)
  | 27 => ("RollCutterModel", "leastPeak", "I", false)
  | 28 => ("RollCutterModel", "line", "[I", true)
  | 29 => ("RollCutterModel", "bestLine", "[I", true)
  | 30 => ("RollCutterModel", "tape", "[B", true)
  | 31 => ("RollCutterModel", "taped", "I", false)
  | 32 => ("RollCutterModel", "spot", "I", false)
  | 33 => ("RollCutterModel", "fault", "I", false)
  | 34 => ("RollCutterModel", "asked", "I", false)
  | 35 => ("RollCutterModel", "open", "I", false)
  | 36 => ("RollCutterModel", "toldCut", "[I", true)
  | 37 => ("RollCutterModel", "toldSum", "[I", true)
  | 38 => ("RollCutterModel", "toldRolls", "I", false)
  | 39 => ("RollCutterModel", "toldMany", "I", false)
  | 40 => ("RollCutterModel", "toldWrong", "I", false)
  | 41 => ("RollCutterModel", "paper", "[I", true)
  | _ => ("RollCutterModel", "papered", "I", false)
def xt_11 : Nat → FieldType := fun k => match k with
  | 0 => .array (.int)
  | 1 => .array (.int)
  | 2 => .boolean
  | 3 => .boolean
  | 4 => .array (.int)
  | 5 => .array (.int)
  | 6 => .array (.int)
  | 7 => .long
  | 8 => .int
  | 9 => .array (.int)
  | 10 => .array (.int)
  | 11 => .array (.int)
  | 12 => .array (.long)
  | 13 => .array (.long)
  | 14 => .array (.long)
  | 15 => .array (.long)
  | 16 => .long
  | 17 => .int
  | 18 => .array (.int)
  | 19 => .array (.int)
  | 20 => .int
  | 21 => .array (.int)
  | 22 => .array (.int)
  | 23 => .array (.int)
  | 24 => .array (.int)
  | 25 => .int
  | 26 => .array (.int)
  | 27 => .int
  | 28 => .array (.int)
  | 29 => .array (.int)
  | 30 => .array (.byte)
  | 31 => .int
  | 32 => .int
  | 33 => .int
  | 34 => .int
  | 35 => .int
  | 36 => .array (.int)
  | 37 => .array (.int)
  | 38 => .int
  | 39 => .int
  | 40 => .int
  | 41 => .array (.int)
  | _ => .int
def xcl : List vw_C := [("RollCutter", xF_0, 13), ("RollCutter$Shop", xF_1, 8), ("RollCutter$Search", xF_2, 9), ("RollCutter$Master", xF_3, 14), ("RollCutter$Planner", xF_4, 5), ("RollCutter$Plan", xF_5, 4), ("RollCutter$Stacks", xF_6, 6), ("RollCutter$Tape", xF_7, 4), ("RollCutter$Book", xF_8, 3), ("RollCutter$Condition", xF_9, 7), ("RollCutter$Paper", xF_10, 2), ("RollCutterModel", xF_11, 43)]
def xtt : List (Nat → FieldType) := [xt_0, xt_1, xt_2, xt_3, xt_4, xt_5, xt_6, xt_7, xt_8, xt_9, xt_10, xt_11]
def xdf : List (List Value) := [[.null, .null, .int 0, .null, .null, .null, .null, .null, .null, .null, .null, .null, .int 0], [.int 0, .null, .null, .int 0, .int 0, .int 0, .int 0, .null], [.int 0, .null, .null, .null, .null, .null, .null, .long 0, .int 0], [.int 0, .null, .null, .null, .null, .null, .null, .null, .null, .null, .long 0, .int 0, .null, .null], [.null, .null, .null, .null, .int 0], [.int 0, .int 0, .null, .null], [.null, .null, .null, .null, .int 0, .int 0], [.null, .int 0, .int 0, .int 0], [.int 0, .null, .null], [.null, .null, .null, .null, .int 0, .null, .null], [.null, .int 0], [.null, .null, .int 0, .int 0, .null, .null, .null, .long 0, .int 0, .null, .null, .null, .null, .null, .null, .null, .long 0, .int 0, .null, .null, .int 0, .null, .null, .null, .null, .int 0, .null, .int 0, .null, .null, .null, .int 0, .int 0, .int 0, .int 0, .int 0, .null, .null, .int 0, .int 0, .int 0, .null, .int 0]]
def xlp : List (List Nat) := [[454, 456, 458, 460, 462, 464, 466, 468, 470, 472, 474, 476, 478], [153, 155, 157, 159, 161, 163, 165, 167], [186, 188, 190, 192, 194, 196, 198, 200, 202], [242, 244, 246, 248, 250, 252, 254, 256, 258, 260, 262, 264, 266, 268], [312, 314, 316, 318, 320], [296, 298, 300, 302], [338, 340, 342, 344, 346, 348], [369, 371, 373, 375], [390, 392, 394], [410, 412, 414, 416, 418, 420, 422], [436, 438], [1202, 1204, 1206, 1208, 1210, 1212, 1214, 1216, 1218, 1220, 1222, 1224, 1226, 1228, 1230, 1232, 1234, 1236, 1238, 1240, 1242, 1244, 1246, 1248, 1250, 1252, 1254, 1256, 1258, 1260, 1262, 1264, 1266, 1268, 1270, 1272, 1274, 1276, 1278, 1280, 1282, 1284, 1286]]
def xinst : List (Nat × Nat) := [(104, 82), (112, 83), (172, 84), (207, 85), (272, 86), (278, 87), (324, 88), (352, 89), (379, 90), (398, 91), (427, 92), (1154, 93)]
/-- pc, instruction, its length, three numbers of the link -/
abbrev xE : Type := Nat × ClassFile.Instr × Nat × Nat × Nat × Nat
/-- name, code, locals, result, new cells, new slots, arguments, class, places of: code, instance or static, selects, initialized -/
abbrev xM : Type := MethodName × ByteArray × Nat × Option FieldType × Nat × Nat × Nat × Nat × Nat × Nat × Nat × Nat
/-- RollCutter.<init>()V -/
def xT_0 : List xE := [(0, .aload_n 0, 1, 0, 0, 0),
  (1, .invokespecial 3, 3, 108, 6, 0),
  (4, .aload_n 0, 1, 0, 0, 0),
  (5, .new 9, 3, 111, 1, 0),
  (8, .dup, 1, 0, 0, 0),
  (9, .invokespecial 11, 3, 113, 5, 155),
  (12, .putfield 12, 3, 441, 0, 4),
  (15, .aload_n 0, 1, 0, 0, 0),
  (16, .new 9, 3, 111, 1, 0),
  (19, .dup, 1, 0, 0, 0),
  (20, .invokespecial 11, 3, 113, 5, 155),
  (23, .putfield 16, 3, 442, 1, 4),
  (26, .aload_n 0, 1, 0, 0, 0),
  (27, .iconst 0, 1, 0, 0, 0),
  (28, .putfield 19, 3, 443, 2, 3),
  (31, .aload_n 0, 1, 0, 0, 0),
  (32, .new 23, 3, 171, 2, 0),
  (35, .dup, 1, 0, 0, 0),
  (36, .invokespecial 25, 3, 173, 5, 151),
  (39, .putfield 26, 3, 444, 3, 4),
  (42, .aload_n 0, 1, 0, 0, 0),
  (43, .new 30, 3, 206, 3, 0),
  (46, .dup, 1, 0, 0, 0),
  (47, .invokespecial 32, 3, 208, 5, 135),
  (50, .putfield 33, 3, 445, 4, 4),
  (53, .aload_n 0, 1, 0, 0, 0),
  (54, .new 37, 3, 271, 4, 0),
  (57, .dup, 1, 0, 0, 0),
  (58, .invokespecial 39, 3, 273, 5, 146),
  (61, .putfield 40, 3, 446, 5, 4),
  (64, .aload_n 0, 1, 0, 0, 0),
  (65, .new 44, 3, 323, 6, 0),
  (68, .dup, 1, 0, 0, 0),
  (69, .invokespecial 46, 3, 325, 5, 166),
  (72, .putfield 47, 3, 447, 6, 4),
  (75, .aload_n 0, 1, 0, 0, 0),
  (76, .new 51, 3, 351, 7, 0),
  (79, .dup, 1, 0, 0, 0),
  (80, .invokespecial 53, 3, 353, 5, 171),
  (83, .putfield 54, 3, 448, 7, 4),
  (86, .aload_n 0, 1, 0, 0, 0),
  (87, .new 58, 3, 378, 8, 0),
  (90, .dup, 1, 0, 0, 0),
  (91, .invokespecial 60, 3, 380, 5, 123),
  (94, .putfield 61, 3, 449, 8, 4),
  (97, .aload_n 0, 1, 0, 0, 0),
  (98, .new 65, 3, 397, 9, 0),
  (101, .dup, 1, 0, 0, 0),
  (102, .invokespecial 67, 3, 399, 5, 127),
  (105, .putfield 68, 3, 450, 9, 4),
  (108, .aload_n 0, 1, 0, 0, 0),
  (109, .new 72, 3, 426, 10, 0),
  (112, .dup, 1, 0, 0, 0),
  (113, .invokespecial 74, 3, 428, 5, 143),
  (116, .putfield 75, 3, 451, 10, 4),
  (119, .aload_n 0, 1, 0, 0, 0),
  (120, .iconst 2, 1, 0, 0, 0),
  (121, .newarray .int, 2, 170, 0, 0),
  (123, .dup, 1, 0, 0, 0),
  (124, .iconst 0, 1, 0, 0, 0),
  (125, .iconst (-1), 1, 0, 0, 0),
  (126, .iastore, 1, 0, 0, 0),
  (127, .dup, 1, 0, 0, 0),
  (128, .iconst 1, 1, 0, 0, 0),
  (129, .iconst (-1), 1, 0, 0, 0),
  (130, .iastore, 1, 0, 0, 0),
  (131, .putfield 79, 3, 452, 11, 4),
  (134, .aload_n 0, 1, 0, 0, 0),
  (135, .iconst 0, 1, 0, 0, 0),
  (136, .putfield 83, 3, 453, 12, 0),
  (139, .return_, 1, 0, 0, 0)]
/-- RollCutter.order(II)I -/
def xT_1 : List xE := [(0, .iload_n 1, 1, 0, 0, 0),
  (1, .iconst 5, 1, 0, 0, 0),
  (2, .if_icmp .lt (25), 3, 0, 0, 0),
  (5, .iload_n 1, 1, 0, 0, 0),
  (6, .aload_n 0, 1, 0, 0, 0),
  (7, .getfield 12, 3, 441, 0, 4),
  (10, .getfield 87, 3, 135, 103, 0),
  (13, .if_icmp .gt (14), 3, 0, 0, 0),
  (16, .aload_n 0, 1, 0, 0, 0),
  (17, .getfield 12, 3, 441, 0, 4),
  (20, .iload_n 1, 1, 0, 0, 0),
  (21, .invokevirtual 90, 3, 485, 0, 158),
  (24, .ifCond .eq (6), 3, 0, 0, 0),
  (27, .bipush (-2), 2, 0, 0, 0),
  (29, .ireturn, 1, 0, 0, 0),
  (30, .iload_n 2, 1, 0, 0, 0),
  (31, .invokestatic 94, 3, 489, 2, 41),
  (34, .ifCond .ne (6), 3, 0, 0, 0),
  (37, .bipush (-2), 2, 0, 0, 0),
  (39, .ireturn, 1, 0, 0, 0),
  (40, .aload_n 0, 1, 0, 0, 0),
  (41, .getfield 12, 3, 441, 0, 4),
  (44, .getfield 97, 3, 118, 100, 0),
  (47, .bipush (6), 2, 0, 0, 0),
  (49, .if_icmp .lt (6), 3, 0, 0, 0),
  (52, .bipush (-4), 2, 0, 0, 0),
  (54, .ireturn, 1, 0, 0, 0),
  (55, .aload_n 0, 1, 0, 0, 0),
  (56, .getfield 12, 3, 441, 0, 4),
  (59, .iload_n 1, 1, 0, 0, 0),
  (60, .iload_n 2, 1, 0, 0, 0),
  (61, .invokevirtual 100, 3, 492, 0, 159),
  (64, .aload_n 0, 1, 0, 0, 0),
  (65, .invokevirtual 104, 3, 496, 0, 39),
  (68, .aload_n 0, 1, 0, 0, 0),
  (69, .getfield 12, 3, 441, 0, 4),
  (72, .getfield 97, 3, 118, 100, 0),
  (75, .iconst 1, 1, 0, 0, 0),
  (76, .isub, 1, 0, 0, 0),
  (77, .ireturn, 1, 0, 0, 0)]
/-- RollCutter.due(II)I -/
def xT_2 : List xE := [(0, .aload_n 0, 1, 0, 0, 0),
  (1, .getfield 12, 3, 441, 0, 4),
  (4, .iload_n 1, 1, 0, 0, 0),
  (5, .invokevirtual 107, 3, 504, 0, 157),
  (8, .ifCond .ne (5), 3, 0, 0, 0),
  (11, .iconst (-1), 1, 0, 0, 0),
  (12, .ireturn, 1, 0, 0, 0),
  (13, .iload_n 2, 1, 0, 0, 0),
  (14, .invokestatic 94, 3, 489, 2, 41),
  (17, .ifCond .ne (6), 3, 0, 0, 0),
  (20, .bipush (-2), 2, 0, 0, 0),
  (22, .ireturn, 1, 0, 0, 0),
  (23, .aload_n 0, 1, 0, 0, 0),
  (24, .getfield 12, 3, 441, 0, 4),
  (27, .getfield 110, 3, 131, 102, 4),
  (30, .iload_n 1, 1, 0, 0, 0),
  (31, .iaload, 1, 0, 0, 0),
  (32, .istore_n 3, 1, 0, 0, 0),
  (33, .aload_n 0, 1, 0, 0, 0),
  (34, .getfield 12, 3, 441, 0, 4),
  (37, .getfield 110, 3, 131, 102, 4),
  (40, .iload_n 1, 1, 0, 0, 0),
  (41, .iload_n 2, 1, 0, 0, 0),
  (42, .iastore, 1, 0, 0, 0),
  (43, .aload_n 0, 1, 0, 0, 0),
  (44, .invokevirtual 104, 3, 496, 0, 39),
  (47, .iload_n 3, 1, 0, 0, 0),
  (48, .ireturn, 1, 0, 0, 0)]
/-- RollCutter.of(II)I -/
def xT_3 : List xE := [(0, .aload_n 0, 1, 0, 0, 0),
  (1, .getfield 12, 3, 441, 0, 4),
  (4, .iload_n 1, 1, 0, 0, 0),
  (5, .invokevirtual 107, 3, 504, 0, 157),
  (8, .ifCond .ne (5), 3, 0, 0, 0),
  (11, .iconst (-1), 1, 0, 0, 0),
  (12, .ireturn, 1, 0, 0, 0),
  (13, .iload_n 2, 1, 0, 0, 0),
  (14, .ifCond .ne (13), 3, 0, 0, 0),
  (17, .aload_n 0, 1, 0, 0, 0),
  (18, .getfield 12, 3, 441, 0, 4),
  (21, .getfield 113, 3, 127, 101, 4),
  (24, .iload_n 1, 1, 0, 0, 0),
  (25, .iaload, 1, 0, 0, 0),
  (26, .ireturn, 1, 0, 0, 0),
  (27, .iload_n 2, 1, 0, 0, 0),
  (28, .iconst 1, 1, 0, 0, 0),
  (29, .if_icmp .ne (15), 3, 0, 0, 0),
  (32, .aload_n 0, 1, 0, 0, 0),
  (33, .getfield 12, 3, 441, 0, 4),
  (36, .getfield 110, 3, 131, 102, 4),
  (39, .iload_n 1, 1, 0, 0, 0),
  (40, .iaload, 1, 0, 0, 0),
  (41, .goto (4), 3, 0, 0, 0),
  (44, .iconst (-1), 1, 0, 0, 0),
  (45, .ireturn, 1, 0, 0, 0)]
/-- RollCutter.drop()I -/
def xT_4 : List xE := [(0, .aload_n 0, 1, 0, 0, 0),
  (1, .getfield 12, 3, 441, 0, 4),
  (4, .getfield 97, 3, 118, 100, 0),
  (7, .ifCond .gt (6), 3, 0, 0, 0),
  (10, .bipush (-3), 2, 0, 0, 0),
  (12, .ireturn, 1, 0, 0, 0),
  (13, .aload_n 0, 1, 0, 0, 0),
  (14, .getfield 12, 3, 441, 0, 4),
  (17, .dup, 1, 0, 0, 0),
  (18, .getfield 97, 3, 118, 100, 0),
  (21, .iconst 1, 1, 0, 0, 0),
  (22, .isub, 1, 0, 0, 0),
  (23, .putfield 97, 3, 118, 100, 0),
  (26, .aload_n 0, 1, 0, 0, 0),
  (27, .invokevirtual 104, 3, 496, 0, 39),
  (30, .aload_n 0, 1, 0, 0, 0),
  (31, .getfield 12, 3, 441, 0, 4),
  (34, .getfield 97, 3, 118, 100, 0),
  (37, .ireturn, 1, 0, 0, 0)]
/-- RollCutter.machine(II)I -/
def xT_5 : List xE := [(0, .iload_n 1, 1, 0, 0, 0),
  (1, .tableswitch (173) (0) (3) #[31, 76, 107, 140], 31, 0, 0, 0),
  (32, .iload_n 2, 1, 0, 0, 0),
  (33, .bipush (20), 2, 0, 0, 0),
  (35, .if_icmp .lt (20), 3, 0, 0, 0),
  (38, .iload_n 2, 1, 0, 0, 0),
  (39, .bipush (60), 2, 0, 0, 0),
  (41, .if_icmp .gt (14), 3, 0, 0, 0),
  (44, .iload_n 2, 1, 0, 0, 0),
  (45, .aload_n 0, 1, 0, 0, 0),
  (46, .getfield 12, 3, 441, 0, 4),
  (49, .invokevirtual 116, 3, 520, 0, 160),
  (52, .if_icmp .ge (6), 3, 0, 0, 0),
  (55, .bipush (-2), 2, 0, 0, 0),
  (57, .ireturn, 1, 0, 0, 0),
  (58, .aload_n 0, 1, 0, 0, 0),
  (59, .getfield 12, 3, 441, 0, 4),
  (62, .getfield 87, 3, 135, 103, 0),
  (65, .istore_n 3, 1, 0, 0, 0),
  (66, .aload_n 0, 1, 0, 0, 0),
  (67, .getfield 12, 3, 441, 0, 4),
  (70, .iload_n 2, 1, 0, 0, 0),
  (71, .putfield 87, 3, 135, 103, 0),
  (74, .goto (102), 3, 0, 0, 0),
  (77, .iload_n 2, 1, 0, 0, 0),
  (78, .ifCond .lt (8), 3, 0, 0, 0),
  (81, .iload_n 2, 1, 0, 0, 0),
  (82, .iconst 2, 1, 0, 0, 0),
  (83, .if_icmp .le (6), 3, 0, 0, 0),
  (86, .bipush (-2), 2, 0, 0, 0),
  (88, .ireturn, 1, 0, 0, 0),
  (89, .aload_n 0, 1, 0, 0, 0),
  (90, .getfield 12, 3, 441, 0, 4),
  (93, .getfield 120, 3, 143, 104, 0),
  (96, .istore_n 3, 1, 0, 0, 0),
  (97, .aload_n 0, 1, 0, 0, 0),
  (98, .getfield 12, 3, 441, 0, 4),
  (101, .iload_n 2, 1, 0, 0, 0),
  (102, .putfield 120, 3, 143, 104, 0),
  (105, .goto (71), 3, 0, 0, 0),
  (108, .iload_n 2, 1, 0, 0, 0),
  (109, .iconst 1, 1, 0, 0, 0),
  (110, .if_icmp .lt (9), 3, 0, 0, 0),
  (113, .iload_n 2, 1, 0, 0, 0),
  (114, .bipush (12), 2, 0, 0, 0),
  (116, .if_icmp .le (6), 3, 0, 0, 0),
  (119, .bipush (-2), 2, 0, 0, 0),
  (121, .ireturn, 1, 0, 0, 0),
  (122, .aload_n 0, 1, 0, 0, 0),
  (123, .getfield 12, 3, 441, 0, 4),
  (126, .getfield 123, 3, 147, 105, 0),
  (129, .istore_n 3, 1, 0, 0, 0),
  (130, .aload_n 0, 1, 0, 0, 0),
  (131, .getfield 12, 3, 441, 0, 4),
  (134, .iload_n 2, 1, 0, 0, 0),
  (135, .putfield 123, 3, 147, 105, 0),
  (138, .goto (38), 3, 0, 0, 0),
  (141, .iload_n 2, 1, 0, 0, 0),
  (142, .iconst 1, 1, 0, 0, 0),
  (143, .if_icmp .lt (9), 3, 0, 0, 0),
  (146, .iload_n 2, 1, 0, 0, 0),
  (147, .bipush (60), 2, 0, 0, 0),
  (149, .if_icmp .le (6), 3, 0, 0, 0),
  (152, .bipush (-2), 2, 0, 0, 0),
  (154, .ireturn, 1, 0, 0, 0),
  (155, .aload_n 0, 1, 0, 0, 0),
  (156, .getfield 12, 3, 441, 0, 4),
  (159, .getfield 126, 3, 150, 106, 0),
  (162, .istore_n 3, 1, 0, 0, 0),
  (163, .aload_n 0, 1, 0, 0, 0),
  (164, .getfield 12, 3, 441, 0, 4),
  (167, .iload_n 2, 1, 0, 0, 0),
  (168, .putfield 126, 3, 150, 106, 0),
  (171, .goto (5), 3, 0, 0, 0),
  (174, .iconst (-1), 1, 0, 0, 0),
  (175, .ireturn, 1, 0, 0, 0),
  (176, .aload_n 0, 1, 0, 0, 0),
  (177, .invokevirtual 104, 3, 496, 0, 39),
  (180, .iload_n 3, 1, 0, 0, 0),
  (181, .ireturn, 1, 0, 0, 0)]
/-- RollCutter.patterns(I)I -/
def xT_6 : List xE := [(0, .iload_n 1, 1, 0, 0, 0),
  (1, .ifCond .eq (10), 3, 0, 0, 0),
  (4, .iload_n 1, 1, 0, 0, 0),
  (5, .iconst 1, 1, 0, 0, 0),
  (6, .if_icmp .eq (5), 3, 0, 0, 0),
  (9, .iconst (-1), 1, 0, 0, 0),
  (10, .ireturn, 1, 0, 0, 0),
  (11, .aload_n 0, 1, 0, 0, 0),
  (12, .getfield 79, 3, 452, 11, 4),
  (15, .iload_n 1, 1, 0, 0, 0),
  (16, .iaload, 1, 0, 0, 0),
  (17, .iconst (-1), 1, 0, 0, 0),
  (18, .if_icmp .ne (26), 3, 0, 0, 0),
  (21, .aload_n 0, 1, 0, 0, 0),
  (22, .getfield 79, 3, 452, 11, 4),
  (25, .iload_n 1, 1, 0, 0, 0),
  (26, .aload_n 0, 1, 0, 0, 0),
  (27, .getfield 12, 3, 441, 0, 4),
  (30, .iload_n 1, 1, 0, 0, 0),
  (31, .iconst 1, 1, 0, 0, 0),
  (32, .if_icmp .ne (7), 3, 0, 0, 0),
  (35, .iconst 1, 1, 0, 0, 0),
  (36, .goto (4), 3, 0, 0, 0),
  (39, .iconst 0, 1, 0, 0, 0),
  (40, .invokevirtual 129, 3, 532, 0, 164),
  (43, .iastore, 1, 0, 0, 0),
  (44, .aload_n 0, 1, 0, 0, 0),
  (45, .getfield 79, 3, 452, 11, 4),
  (48, .iload_n 1, 1, 0, 0, 0),
  (49, .iaload, 1, 0, 0, 0),
  (50, .ireturn, 1, 0, 0, 0)]
/-- RollCutter.rows()I -/
def xT_7 : List xE := [(0, .aload_n 0, 1, 0, 0, 0),
  (1, .iconst 1, 1, 0, 0, 0),
  (2, .invokevirtual 133, 3, 550, 0, 40),
  (5, .aload_n 0, 1, 0, 0, 0),
  (6, .getfield 33, 3, 445, 4, 4),
  (9, .getfield 137, 3, 216, 300, 0),
  (12, .ireturn, 1, 0, 0, 0)]
/-- RollCutter.row(II)I -/
def xT_8 : List xE := [(0, .aload_n 0, 1, 0, 0, 0),
  (1, .iconst 1, 1, 0, 0, 0),
  (2, .invokevirtual 133, 3, 550, 0, 40),
  (5, .aload_n 0, 1, 0, 0, 0),
  (6, .getfield 33, 3, 445, 4, 4),
  (9, .iload_n 1, 1, 0, 0, 0),
  (10, .invokevirtual 140, 3, 735, 0, 136),
  (13, .ifCond .ne (5), 3, 0, 0, 0),
  (16, .iconst (-1), 1, 0, 0, 0),
  (17, .ireturn, 1, 0, 0, 0),
  (18, .aload_n 0, 1, 0, 0, 0),
  (19, .getfield 33, 3, 445, 4, 4),
  (22, .getfield 143, 3, 224, 305, 4),
  (25, .iload_n 1, 1, 0, 0, 0),
  (26, .iaload, 1, 0, 0, 0),
  (27, .istore_n 3, 1, 0, 0, 0),
  (28, .iload_n 2, 1, 0, 0, 0),
  (29, .ifCond .ne (8), 3, 0, 0, 0),
  (32, .iload_n 3, 1, 0, 0, 0),
  (33, .invokestatic 146, 3, 739, 99, 0),
  (36, .ireturn, 1, 0, 0, 0),
  (37, .iload_n 2, 1, 0, 0, 0),
  (38, .iconst 1, 1, 0, 0, 0),
  (39, .if_icmp .ne (14), 3, 0, 0, 0),
  (42, .aload_n 0, 1, 0, 0, 0),
  (43, .getfield 12, 3, 441, 0, 4),
  (46, .iload_n 3, 1, 0, 0, 0),
  (47, .invokevirtual 150, 3, 740, 99, 0),
  (50, .goto (9), 3, 0, 0, 0),
  (53, .aload_n 0, 1, 0, 0, 0),
  (54, .iload_n 3, 1, 0, 0, 0),
  (55, .iload_n 2, 1, 0, 0, 0),
  (56, .invokevirtual 153, 3, 747, 99, 0),
  (59, .ireturn, 1, 0, 0, 0)]
/-- RollCutter.amount(II)J -/
def xT_9 : List xE := [(0, .aload_n 0, 1, 0, 0, 0),
  (1, .iconst 1, 1, 0, 0, 0),
  (2, .invokevirtual 133, 3, 550, 0, 40),
  (5, .aload_n 0, 1, 0, 0, 0),
  (6, .getfield 33, 3, 445, 4, 4),
  (9, .iload_n 1, 1, 0, 0, 0),
  (10, .invokevirtual 140, 3, 735, 0, 136),
  (13, .ifCond .eq (10), 3, 0, 0, 0),
  (16, .iload_n 2, 1, 0, 0, 0),
  (17, .invokestatic 157, 3, 755, 2, 42),
  (20, .ifCond .ne (7), 3, 0, 0, 0),
  (23, .ldc2_w 160, 3, 758, 18446744073709551615, 0),
  (26, .lreturn, 1, 0, 0, 0),
  (27, .aload_n 0, 1, 0, 0, 0),
  (28, .getfield 33, 3, 445, 4, 4),
  (31, .getfield 162, 3, 229, 307, 4),
  (34, .iload_n 1, 1, 0, 0, 0),
  (35, .laload, 1, 0, 0, 0),
  (36, .aload_n 0, 1, 0, 0, 0),
  (37, .getfield 33, 3, 445, 4, 4),
  (40, .getfield 166, 3, 235, 310, 1),
  (43, .iload_n 2, 1, 0, 0, 0),
  (44, .invokestatic 170, 3, 759, 2, 46),
  (47, .lreturn, 1, 0, 0, 0)]
/-- RollCutter.share(III)J -/
def xT_10 : List xE := [(0, .aload_n 0, 1, 0, 0, 0),
  (1, .iconst 1, 1, 0, 0, 0),
  (2, .invokevirtual 133, 3, 550, 0, 40),
  (5, .aload_n 0, 1, 0, 0, 0),
  (6, .getfield 33, 3, 445, 4, 4),
  (9, .iload_n 1, 1, 0, 0, 0),
  (10, .invokevirtual 140, 3, 735, 0, 136),
  (13, .ifCond .eq (21), 3, 0, 0, 0),
  (16, .aload_n 0, 1, 0, 0, 0),
  (17, .getfield 33, 3, 445, 4, 4),
  (20, .iload_n 2, 1, 0, 0, 0),
  (21, .invokevirtual 174, 3, 771, 99, 0),
  (24, .ifCond .eq (10), 3, 0, 0, 0),
  (27, .iload_n 3, 1, 0, 0, 0),
  (28, .invokestatic 157, 3, 755, 2, 42),
  (31, .ifCond .ne (7), 3, 0, 0, 0),
  (34, .ldc2_w 177, 3, 775, 18446744072709551616, 0),
  (37, .lreturn, 1, 0, 0, 0),
  (38, .aload_n 0, 1, 0, 0, 0),
  (39, .getfield 33, 3, 445, 4, 4),
  (42, .getfield 179, 3, 226, 306, 4),
  (45, .iload_n 1, 1, 0, 0, 0),
  (46, .aaload, 1, 0, 0, 0),
  (47, .aload_n 0, 1, 0, 0, 0),
  (48, .getfield 33, 3, 445, 4, 4),
  (51, .getfield 183, 3, 219, 302, 4),
  (54, .iload_n 2, 1, 0, 0, 0),
  (55, .iaload, 1, 0, 0, 0),
  (56, .laload, 1, 0, 0, 0),
  (57, .aload_n 0, 1, 0, 0, 0),
  (58, .getfield 33, 3, 445, 4, 4),
  (61, .getfield 166, 3, 235, 310, 1),
  (64, .iload_n 3, 1, 0, 0, 0),
  (65, .invokestatic 170, 3, 759, 2, 46),
  (68, .lreturn, 1, 0, 0, 0)]
/-- RollCutter.price(II)J -/
def xT_11 : List xE := [(0, .aload_n 0, 1, 0, 0, 0),
  (1, .getfield 12, 3, 441, 0, 4),
  (4, .iload_n 1, 1, 0, 0, 0),
  (5, .invokevirtual 107, 3, 504, 0, 157),
  (8, .ifCond .eq (10), 3, 0, 0, 0),
  (11, .iload_n 2, 1, 0, 0, 0),
  (12, .invokestatic 157, 3, 755, 2, 42),
  (15, .ifCond .ne (7), 3, 0, 0, 0),
  (18, .ldc2_w 160, 3, 758, 18446744073709551615, 0),
  (21, .lreturn, 1, 0, 0, 0),
  (22, .aload_n 0, 1, 0, 0, 0),
  (23, .iconst 1, 1, 0, 0, 0),
  (24, .invokevirtual 133, 3, 550, 0, 40),
  (27, .aload_n 0, 1, 0, 0, 0),
  (28, .getfield 33, 3, 445, 4, 4),
  (31, .iload_n 1, 1, 0, 0, 0),
  (32, .invokevirtual 174, 3, 771, 99, 0),
  (35, .ifCond .ne (10), 3, 0, 0, 0),
  (38, .lconst 0, 1, 0, 0, 0),
  (39, .lconst 1, 1, 0, 0, 0),
  (40, .iload_n 2, 1, 0, 0, 0),
  (41, .invokestatic 170, 3, 759, 2, 46),
  (44, .lreturn, 1, 0, 0, 0),
  (45, .aload_n 0, 1, 0, 0, 0),
  (46, .getfield 33, 3, 445, 4, 4),
  (49, .getfield 186, 3, 231, 308, 4),
  (52, .aload_n 0, 1, 0, 0, 0),
  (53, .getfield 33, 3, 445, 4, 4),
  (56, .getfield 183, 3, 219, 302, 4),
  (59, .iload_n 1, 1, 0, 0, 0),
  (60, .iaload, 1, 0, 0, 0),
  (61, .laload, 1, 0, 0, 0),
  (62, .aload_n 0, 1, 0, 0, 0),
  (63, .getfield 33, 3, 445, 4, 4),
  (66, .getfield 166, 3, 235, 310, 1),
  (69, .iload_n 2, 1, 0, 0, 0),
  (70, .invokestatic 170, 3, 759, 2, 46),
  (73, .lreturn, 1, 0, 0, 0)]
/-- RollCutter.bound(I)J -/
def xT_12 : List xE := [(0, .iload_n 1, 1, 0, 0, 0),
  (1, .invokestatic 157, 3, 755, 2, 42),
  (4, .ifCond .ne (7), 3, 0, 0, 0),
  (7, .ldc2_w 160, 3, 758, 18446744073709551615, 0),
  (10, .lreturn, 1, 0, 0, 0),
  (11, .aload_n 0, 1, 0, 0, 0),
  (12, .iconst 1, 1, 0, 0, 0),
  (13, .invokevirtual 133, 3, 550, 0, 40),
  (16, .aload_n 0, 1, 0, 0, 0),
  (17, .getfield 33, 3, 445, 4, 4),
  (20, .invokevirtual 189, 3, 784, 0, 141),
  (23, .aload_n 0, 1, 0, 0, 0),
  (24, .getfield 33, 3, 445, 4, 4),
  (27, .getfield 166, 3, 235, 310, 1),
  (30, .iload_n 1, 1, 0, 0, 0),
  (31, .invokestatic 170, 3, 759, 2, 46),
  (34, .lreturn, 1, 0, 0, 0)]
/-- RollCutter.least()I -/
def xT_13 : List xE := [(0, .aload_n 0, 1, 0, 0, 0),
  (1, .iconst 1, 1, 0, 0, 0),
  (2, .invokevirtual 133, 3, 550, 0, 40),
  (5, .aload_n 0, 1, 0, 0, 0),
  (6, .getfield 33, 3, 445, 4, 4),
  (9, .invokevirtual 189, 3, 784, 0, 141),
  (12, .aload_n 0, 1, 0, 0, 0),
  (13, .getfield 33, 3, 445, 4, 4),
  (16, .getfield 166, 3, 235, 310, 1),
  (19, .invokestatic 193, 3, 792, 2, 45),
  (22, .l2i, 1, 0, 0, 0),
  (23, .ireturn, 1, 0, 0, 0)]
/-- RollCutter.rounds()I -/
def xT_14 : List xE := [(0, .aload_n 0, 1, 0, 0, 0),
  (1, .iconst 1, 1, 0, 0, 0),
  (2, .invokevirtual 133, 3, 550, 0, 40),
  (5, .aload_n 0, 1, 0, 0, 0),
  (6, .getfield 33, 3, 445, 4, 4),
  (9, .getfield 197, 3, 237, 311, 0),
  (12, .ireturn, 1, 0, 0, 0)]
/-- RollCutter.came(II)I -/
def xT_15 : List xE := [(0, .aload_n 0, 1, 0, 0, 0),
  (1, .iconst 1, 1, 0, 0, 0),
  (2, .invokevirtual 133, 3, 550, 0, 40),
  (5, .iload_n 1, 1, 0, 0, 0),
  (6, .ifCond .lt (14), 3, 0, 0, 0),
  (9, .iload_n 1, 1, 0, 0, 0),
  (10, .aload_n 0, 1, 0, 0, 0),
  (11, .getfield 33, 3, 445, 4, 4),
  (14, .getfield 197, 3, 237, 311, 0),
  (17, .if_icmp .lt (5), 3, 0, 0, 0),
  (20, .iconst (-1), 1, 0, 0, 0),
  (21, .ireturn, 1, 0, 0, 0),
  (22, .iload_n 2, 1, 0, 0, 0),
  (23, .ifCond .ne (13), 3, 0, 0, 0),
  (26, .aload_n 0, 1, 0, 0, 0),
  (27, .getfield 33, 3, 445, 4, 4),
  (30, .getfield 200, 3, 239, 312, 4),
  (33, .iload_n 1, 1, 0, 0, 0),
  (34, .iaload, 1, 0, 0, 0),
  (35, .ireturn, 1, 0, 0, 0),
  (36, .aload_n 0, 1, 0, 0, 0),
  (37, .getfield 33, 3, 445, 4, 4),
  (40, .getfield 203, 3, 241, 313, 4),
  (43, .iload_n 1, 1, 0, 0, 0),
  (44, .iaload, 1, 0, 0, 0),
  (45, .istore_n 3, 1, 0, 0, 0),
  (46, .iload_n 2, 1, 0, 0, 0),
  (47, .iconst 1, 1, 0, 0, 0),
  (48, .if_icmp .ne (10), 3, 0, 0, 0),
  (51, .iload_n 3, 1, 0, 0, 0),
  (52, .invokestatic 146, 3, 739, 99, 0),
  (55, .goto (9), 3, 0, 0, 0),
  (58, .aload_n 0, 1, 0, 0, 0),
  (59, .iload_n 3, 1, 0, 0, 0),
  (60, .iload_n 2, 1, 0, 0, 0),
  (61, .invokevirtual 153, 3, 747, 99, 0),
  (64, .ireturn, 1, 0, 0, 0)]
/-- RollCutter.leeway(I)I -/
def xT_16 : List xE := [(0, .aload_n 0, 1, 0, 0, 0),
  (1, .getfield 12, 3, 441, 0, 4),
  (4, .iload_n 1, 1, 0, 0, 0),
  (5, .invokevirtual 107, 3, 504, 0, 157),
  (8, .ifCond .ne (5), 3, 0, 0, 0),
  (11, .iconst (-1), 1, 0, 0, 0),
  (12, .ireturn, 1, 0, 0, 0),
  (13, .aload_n 0, 1, 0, 0, 0),
  (14, .iconst 1, 1, 0, 0, 0),
  (15, .invokevirtual 133, 3, 550, 0, 40),
  (18, .aload_n 0, 1, 0, 0, 0),
  (19, .getfield 33, 3, 445, 4, 4),
  (22, .iload_n 1, 1, 0, 0, 0),
  (23, .invokevirtual 174, 3, 771, 99, 0),
  (26, .ifCond .ne (6), 3, 0, 0, 0),
  (29, .bipush (-3), 2, 0, 0, 0),
  (31, .ireturn, 1, 0, 0, 0),
  (32, .aload_n 0, 1, 0, 0, 0),
  (33, .getfield 33, 3, 445, 4, 4),
  (36, .aload_n 0, 1, 0, 0, 0),
  (37, .getfield 33, 3, 445, 4, 4),
  (40, .getfield 183, 3, 219, 302, 4),
  (43, .iload_n 1, 1, 0, 0, 0),
  (44, .iaload, 1, 0, 0, 0),
  (45, .invokevirtual 206, 3, 805, 99, 0),
  (48, .lstore_n 2, 1, 0, 0, 0),
  (49, .lload_n 2, 1, 0, 0, 0),
  (50, .lconst 0, 1, 0, 0, 0),
  (51, .lcmp, 1, 0, 0, 0),
  (52, .ifCond .ge (8), 3, 0, 0, 0),
  (55, .bipush (-5), 2, 0, 0, 0),
  (57, .goto (5), 3, 0, 0, 0),
  (60, .lload_n 2, 1, 0, 0, 0),
  (61, .l2i, 1, 0, 0, 0),
  (62, .ireturn, 1, 0, 0, 0)]
/-- RollCutter.rolls(I)I -/
def xT_17 : List xE := [(0, .iload_n 1, 1, 0, 0, 0),
  (1, .ifCond .lt (8), 3, 0, 0, 0),
  (4, .iload_n 1, 1, 0, 0, 0),
  (5, .iconst 2, 1, 0, 0, 0),
  (6, .if_icmp .le (5), 3, 0, 0, 0),
  (9, .iconst (-1), 1, 0, 0, 0),
  (10, .ireturn, 1, 0, 0, 0),
  (11, .aload_n 0, 1, 0, 0, 0),
  (12, .iconst 2, 1, 0, 0, 0),
  (13, .invokevirtual 133, 3, 550, 0, 40),
  (16, .iload_n 1, 1, 0, 0, 0),
  (17, .ifCond .ne (14), 3, 0, 0, 0),
  (20, .aload_n 0, 1, 0, 0, 0),
  (21, .getfield 40, 3, 446, 5, 4),
  (24, .getfield 210, 3, 306, 400, 4),
  (27, .getfield 214, 3, 288, 501, 0),
  (30, .ireturn, 1, 0, 0, 0),
  (31, .iload_n 1, 1, 0, 0, 0),
  (32, .iconst 1, 1, 0, 0, 0),
  (33, .if_icmp .ne (16), 3, 0, 0, 0),
  (36, .aload_n 0, 1, 0, 0, 0),
  (37, .getfield 40, 3, 446, 5, 4),
  (40, .getfield 219, 3, 308, 401, 4),
  (43, .getfield 214, 3, 288, 501, 0),
  (46, .goto (13), 3, 0, 0, 0),
  (49, .aload_n 0, 1, 0, 0, 0),
  (50, .getfield 40, 3, 446, 5, 4),
  (53, .invokevirtual 222, 3, 691, 0, 147),
  (56, .getfield 214, 3, 288, 501, 0),
  (59, .ireturn, 1, 0, 0, 0)]
/-- RollCutter.cut(II)I -/
def xT_18 : List xE := [(0, .aload_n 0, 1, 0, 0, 0),
  (1, .iconst 2, 1, 0, 0, 0),
  (2, .invokevirtual 133, 3, 550, 0, 40),
  (5, .aload_n 0, 1, 0, 0, 0),
  (6, .getfield 40, 3, 446, 5, 4),
  (9, .invokevirtual 222, 3, 691, 0, 147),
  (12, .astore_n 3, 1, 0, 0, 0),
  (13, .iload_n 1, 1, 0, 0, 0),
  (14, .iconst (-1), 1, 0, 0, 0),
  (15, .if_icmp .ne (8), 3, 0, 0, 0),
  (18, .aload_n 3, 1, 0, 0, 0),
  (19, .getfield 226, 3, 285, 500, 0),
  (22, .ireturn, 1, 0, 0, 0),
  (23, .iload_n 1, 1, 0, 0, 0),
  (24, .ifCond .lt (11), 3, 0, 0, 0),
  (27, .iload_n 1, 1, 0, 0, 0),
  (28, .aload_n 3, 1, 0, 0, 0),
  (29, .getfield 226, 3, 285, 500, 0),
  (32, .if_icmp .lt (5), 3, 0, 0, 0),
  (35, .iconst (-1), 1, 0, 0, 0),
  (36, .ireturn, 1, 0, 0, 0),
  (37, .aload_n 3, 1, 0, 0, 0),
  (38, .getfield 229, 3, 292, 502, 4),
  (41, .iload_n 1, 1, 0, 0, 0),
  (42, .iaload, 1, 0, 0, 0),
  (43, .istore 4, 2, 0, 0, 0),
  (45, .iload_n 2, 1, 0, 0, 0),
  (46, .tableswitch (71) (0) (3) #[30, 37, 43, 53], 30, 0, 0, 0),
  (76, .aload_n 3, 1, 0, 0, 0),
  (77, .getfield 230, 3, 295, 503, 4),
  (80, .iload_n 1, 1, 0, 0, 0),
  (81, .iaload, 1, 0, 0, 0),
  (82, .ireturn, 1, 0, 0, 0),
  (83, .iload 4, 2, 0, 0, 0),
  (85, .invokestatic 146, 3, 739, 99, 0),
  (88, .ireturn, 1, 0, 0, 0),
  (89, .aload_n 0, 1, 0, 0, 0),
  (90, .getfield 12, 3, 441, 0, 4),
  (93, .iload 4, 2, 0, 0, 0),
  (95, .invokevirtual 150, 3, 740, 99, 0),
  (98, .ireturn, 1, 0, 0, 0),
  (99, .aload_n 0, 1, 0, 0, 0),
  (100, .getfield 12, 3, 441, 0, 4),
  (103, .iload 4, 2, 0, 0, 0),
  (105, .invokevirtual 233, 3, 821, 99, 0),
  (108, .ifCond .eq (7), 3, 0, 0, 0),
  (111, .iconst 1, 1, 0, 0, 0),
  (112, .goto (4), 3, 0, 0, 0),
  (115, .iconst 0, 1, 0, 0, 0),
  (116, .ireturn, 1, 0, 0, 0),
  (117, .aload_n 0, 1, 0, 0, 0),
  (118, .iload 4, 2, 0, 0, 0),
  (120, .iload_n 2, 1, 0, 0, 0),
  (121, .invokevirtual 153, 3, 747, 99, 0),
  (124, .ireturn, 1, 0, 0, 0)]
/-- RollCutter.waste(I)I -/
def xT_19 : List xE := [(0, .aload_n 0, 1, 0, 0, 0),
  (1, .iconst 2, 1, 0, 0, 0),
  (2, .invokevirtual 133, 3, 550, 0, 40),
  (5, .aload_n 0, 1, 0, 0, 0),
  (6, .getfield 40, 3, 446, 5, 4),
  (9, .invokevirtual 222, 3, 691, 0, 147),
  (12, .astore_n 2, 1, 0, 0, 0),
  (13, .iload_n 1, 1, 0, 0, 0),
  (14, .iconst (-1), 1, 0, 0, 0),
  (15, .if_icmp .lt (11), 3, 0, 0, 0),
  (18, .iload_n 1, 1, 0, 0, 0),
  (19, .aload_n 2, 1, 0, 0, 0),
  (20, .getfield 214, 3, 288, 501, 0),
  (23, .if_icmp .lt (5), 3, 0, 0, 0),
  (26, .iconst (-1), 1, 0, 0, 0),
  (27, .ireturn, 1, 0, 0, 0),
  (28, .iconst 0, 1, 0, 0, 0),
  (29, .istore_n 3, 1, 0, 0, 0),
  (30, .iconst 0, 1, 0, 0, 0),
  (31, .istore 4, 2, 0, 0, 0),
  (33, .iconst 0, 1, 0, 0, 0),
  (34, .istore 5, 2, 0, 0, 0),
  (36, .iload 5, 2, 0, 0, 0),
  (38, .aload_n 2, 1, 0, 0, 0),
  (39, .getfield 226, 3, 285, 500, 0),
  (42, .if_icmp .ge (79), 3, 0, 0, 0),
  (45, .aload_n 0, 1, 0, 0, 0),
  (46, .getfield 12, 3, 441, 0, 4),
  (49, .getfield 87, 3, 135, 103, 0),
  (52, .aload_n 0, 1, 0, 0, 0),
  (53, .getfield 12, 3, 441, 0, 4),
  (56, .aload_n 2, 1, 0, 0, 0),
  (57, .getfield 229, 3, 292, 502, 4),
  (60, .iload 5, 2, 0, 0, 0),
  (62, .iaload, 1, 0, 0, 0),
  (63, .invokevirtual 150, 3, 740, 99, 0),
  (66, .isub, 1, 0, 0, 0),
  (67, .istore 6, 2, 0, 0, 0),
  (69, .iload_n 1, 1, 0, 0, 0),
  (70, .iload_n 3, 1, 0, 0, 0),
  (71, .if_icmp .lt (19), 3, 0, 0, 0),
  (74, .iload_n 1, 1, 0, 0, 0),
  (75, .iload_n 3, 1, 0, 0, 0),
  (76, .aload_n 2, 1, 0, 0, 0),
  (77, .getfield 230, 3, 295, 503, 4),
  (80, .iload 5, 2, 0, 0, 0),
  (82, .iaload, 1, 0, 0, 0),
  (83, .iadd, 1, 0, 0, 0),
  (84, .if_icmp .ge (6), 3, 0, 0, 0),
  (87, .iload 6, 2, 0, 0, 0),
  (89, .ireturn, 1, 0, 0, 0),
  (90, .iload_n 3, 1, 0, 0, 0),
  (91, .aload_n 2, 1, 0, 0, 0),
  (92, .getfield 230, 3, 295, 503, 4),
  (95, .iload 5, 2, 0, 0, 0),
  (97, .iaload, 1, 0, 0, 0),
  (98, .iadd, 1, 0, 0, 0),
  (99, .istore_n 3, 1, 0, 0, 0),
  (100, .iload 4, 2, 0, 0, 0),
  (102, .iload 6, 2, 0, 0, 0),
  (104, .aload_n 2, 1, 0, 0, 0),
  (105, .getfield 230, 3, 295, 503, 4),
  (108, .iload 5, 2, 0, 0, 0),
  (110, .iaload, 1, 0, 0, 0),
  (111, .imul, 1, 0, 0, 0),
  (112, .iadd, 1, 0, 0, 0),
  (113, .istore 4, 2, 0, 0, 0),
  (115, .iinc 5 (1), 3, 0, 0, 0),
  (118, .goto (-82), 3, 0, 0, 0),
  (121, .iload 4, 2, 0, 0, 0),
  (123, .ireturn, 1, 0, 0, 0)]
/-- RollCutter.wasting(I)I -/
def xT_20 : List xE := [(0, .aload_n 0, 1, 0, 0, 0),
  (1, .iconst 2, 1, 0, 0, 0),
  (2, .invokevirtual 133, 3, 550, 0, 40),
  (5, .aload_n 0, 1, 0, 0, 0),
  (6, .getfield 40, 3, 446, 5, 4),
  (9, .invokevirtual 222, 3, 691, 0, 147),
  (12, .astore_n 2, 1, 0, 0, 0),
  (13, .iconst 0, 1, 0, 0, 0),
  (14, .istore_n 3, 1, 0, 0, 0),
  (15, .iconst 0, 1, 0, 0, 0),
  (16, .istore 4, 2, 0, 0, 0),
  (18, .iload 4, 2, 0, 0, 0),
  (20, .aload_n 2, 1, 0, 0, 0),
  (21, .getfield 226, 3, 285, 500, 0),
  (24, .if_icmp .ge (45), 3, 0, 0, 0),
  (27, .aload_n 0, 1, 0, 0, 0),
  (28, .getfield 12, 3, 441, 0, 4),
  (31, .getfield 87, 3, 135, 103, 0),
  (34, .aload_n 0, 1, 0, 0, 0),
  (35, .getfield 12, 3, 441, 0, 4),
  (38, .aload_n 2, 1, 0, 0, 0),
  (39, .getfield 229, 3, 292, 502, 4),
  (42, .iload 4, 2, 0, 0, 0),
  (44, .iaload, 1, 0, 0, 0),
  (45, .invokevirtual 150, 3, 740, 99, 0),
  (48, .isub, 1, 0, 0, 0),
  (49, .iload_n 1, 1, 0, 0, 0),
  (50, .if_icmp .lt (13), 3, 0, 0, 0),
  (53, .iload_n 3, 1, 0, 0, 0),
  (54, .aload_n 2, 1, 0, 0, 0),
  (55, .getfield 230, 3, 295, 503, 4),
  (58, .iload 4, 2, 0, 0, 0),
  (60, .iaload, 1, 0, 0, 0),
  (61, .iadd, 1, 0, 0, 0),
  (62, .istore_n 3, 1, 0, 0, 0),
  (63, .iinc 4 (1), 3, 0, 0, 0),
  (66, .goto (-48), 3, 0, 0, 0),
  (69, .iload_n 3, 1, 0, 0, 0),
  (70, .ireturn, 1, 0, 0, 0)]
/-- RollCutter.peak()I -/
def xT_21 : List xE := [(0, .aload_n 0, 1, 0, 0, 0),
  (1, .iconst 3, 1, 0, 0, 0),
  (2, .invokevirtual 133, 3, 550, 0, 40),
  (5, .aload_n 0, 1, 0, 0, 0),
  (6, .getfield 47, 3, 447, 6, 4),
  (9, .getfield 236, 3, 337, 605, 0),
  (12, .ireturn, 1, 0, 0, 0)]
/-- RollCutter.sequence(I)I -/
def xT_22 : List xE := [(0, .aload_n 0, 1, 0, 0, 0),
  (1, .iconst 3, 1, 0, 0, 0),
  (2, .invokevirtual 133, 3, 550, 0, 40),
  (5, .aload_n 0, 1, 0, 0, 0),
  (6, .getfield 47, 3, 447, 6, 4),
  (9, .iload_n 1, 1, 0, 0, 0),
  (10, .invokevirtual 239, 3, 842, 0, 167),
  (13, .ifCond .eq (15), 3, 0, 0, 0),
  (16, .aload_n 0, 1, 0, 0, 0),
  (17, .getfield 47, 3, 447, 6, 4),
  (20, .getfield 242, 3, 332, 602, 4),
  (23, .iload_n 1, 1, 0, 0, 0),
  (24, .iaload, 1, 0, 0, 0),
  (25, .goto (4), 3, 0, 0, 0),
  (28, .iconst (-1), 1, 0, 0, 0),
  (29, .ireturn, 1, 0, 0, 0)]
/-- RollCutter.open(I)I -/
def xT_23 : List xE := [(0, .aload_n 0, 1, 0, 0, 0),
  (1, .iconst 3, 1, 0, 0, 0),
  (2, .invokevirtual 133, 3, 550, 0, 40),
  (5, .aload_n 0, 1, 0, 0, 0),
  (6, .getfield 47, 3, 447, 6, 4),
  (9, .iload_n 1, 1, 0, 0, 0),
  (10, .invokevirtual 239, 3, 842, 0, 167),
  (13, .ifCond .eq (15), 3, 0, 0, 0),
  (16, .aload_n 0, 1, 0, 0, 0),
  (17, .getfield 47, 3, 447, 6, 4),
  (20, .getfield 245, 3, 334, 603, 4),
  (23, .iload_n 1, 1, 0, 0, 0),
  (24, .iaload, 1, 0, 0, 0),
  (25, .goto (4), 3, 0, 0, 0),
  (28, .iconst (-1), 1, 0, 0, 0),
  (29, .ireturn, 1, 0, 0, 0)]
/-- RollCutter.carry()I -/
def xT_24 : List xE := [(0, .aload_n 0, 1, 0, 0, 0),
  (1, .getfield 12, 3, 441, 0, 4),
  (4, .invokevirtual 248, 3, 854, 0, 162),
  (7, .ifCond .ne (6), 3, 0, 0, 0),
  (10, .bipush (-3), 2, 0, 0, 0),
  (12, .ireturn, 1, 0, 0, 0),
  (13, .aload_n 0, 1, 0, 0, 0),
  (14, .iconst 2, 1, 0, 0, 0),
  (15, .invokevirtual 133, 3, 550, 0, 40),
  (18, .aload_n 0, 1, 0, 0, 0),
  (19, .getfield 40, 3, 446, 5, 4),
  (22, .invokevirtual 222, 3, 691, 0, 147),
  (25, .astore_n 1, 1, 0, 0, 0),
  (26, .iconst 0, 1, 0, 0, 0),
  (27, .istore_n 2, 1, 0, 0, 0),
  (28, .iload_n 2, 1, 0, 0, 0),
  (29, .aload_n 1, 1, 0, 0, 0),
  (30, .getfield 226, 3, 285, 500, 0),
  (33, .if_icmp .ge (45), 3, 0, 0, 0),
  (36, .aload_n 0, 1, 0, 0, 0),
  (37, .getfield 12, 3, 441, 0, 4),
  (40, .getfield 87, 3, 135, 103, 0),
  (43, .aload_n 0, 1, 0, 0, 0),
  (44, .getfield 12, 3, 441, 0, 4),
  (47, .aload_n 1, 1, 0, 0, 0),
  (48, .getfield 229, 3, 292, 502, 4),
  (51, .iload_n 2, 1, 0, 0, 0),
  (52, .iaload, 1, 0, 0, 0),
  (53, .invokevirtual 150, 3, 740, 99, 0),
  (56, .isub, 1, 0, 0, 0),
  (57, .istore_n 3, 1, 0, 0, 0),
  (58, .aload_n 0, 1, 0, 0, 0),
  (59, .getfield 12, 3, 441, 0, 4),
  (62, .iload_n 3, 1, 0, 0, 0),
  (63, .aload_n 1, 1, 0, 0, 0),
  (64, .getfield 230, 3, 295, 503, 4),
  (67, .iload_n 2, 1, 0, 0, 0),
  (68, .iaload, 1, 0, 0, 0),
  (69, .invokevirtual 251, 3, 858, 99, 0),
  (72, .iinc 2 (1), 3, 0, 0, 0),
  (75, .goto (-47), 3, 0, 0, 0),
  (78, .iconst 0, 1, 0, 0, 0),
  (79, .istore_n 2, 1, 0, 0, 0),
  (80, .iload_n 2, 1, 0, 0, 0),
  (81, .aload_n 0, 1, 0, 0, 0),
  (82, .getfield 12, 3, 441, 0, 4),
  (85, .getfield 97, 3, 118, 100, 0),
  (88, .if_icmp .ge (19), 3, 0, 0, 0),
  (91, .aload_n 0, 1, 0, 0, 0),
  (92, .getfield 12, 3, 441, 0, 4),
  (95, .getfield 110, 3, 131, 102, 4),
  (98, .iload_n 2, 1, 0, 0, 0),
  (99, .iconst 0, 1, 0, 0, 0),
  (100, .iastore, 1, 0, 0, 0),
  (101, .iinc 2 (1), 3, 0, 0, 0),
  (104, .goto (-24), 3, 0, 0, 0),
  (107, .aload_n 0, 1, 0, 0, 0),
  (108, .invokevirtual 104, 3, 496, 0, 39),
  (111, .aload_n 1, 1, 0, 0, 0),
  (112, .getfield 214, 3, 288, 501, 0),
  (115, .ireturn, 1, 0, 0, 0)]
/-- RollCutter.serve()I -/
def xT_25 : List xE := [(0, .iconst 0, 1, 0, 0, 0),
  (1, .istore_n 1, 1, 0, 0, 0),
  (2, .bipush (61), 2, 0, 0, 0),
  (4, .istore_n 2, 1, 0, 0, 0),
  (5, .iconst 0, 1, 0, 0, 0),
  (6, .istore_n 3, 1, 0, 0, 0),
  (7, .iload_n 3, 1, 0, 0, 0),
  (8, .aload_n 0, 1, 0, 0, 0),
  (9, .getfield 12, 3, 441, 0, 4),
  (12, .getfield 97, 3, 118, 100, 0),
  (15, .if_icmp .ge (50), 3, 0, 0, 0),
  (18, .aload_n 0, 1, 0, 0, 0),
  (19, .getfield 12, 3, 441, 0, 4),
  (22, .iload_n 2, 1, 0, 0, 0),
  (23, .invokevirtual 254, 3, 869, 0, 161),
  (26, .istore 4, 2, 0, 0, 0),
  (28, .iload 4, 2, 0, 0, 0),
  (30, .ifCond .ge (6), 3, 0, 0, 0),
  (33, .goto (32), 3, 0, 0, 0),
  (36, .aload_n 0, 1, 0, 0, 0),
  (37, .getfield 12, 3, 441, 0, 4),
  (40, .getfield 113, 3, 127, 101, 4),
  (43, .iload 4, 2, 0, 0, 0),
  (45, .iaload, 1, 0, 0, 0),
  (46, .istore_n 2, 1, 0, 0, 0),
  (47, .iload_n 1, 1, 0, 0, 0),
  (48, .aload_n 0, 1, 0, 0, 0),
  (49, .getfield 12, 3, 441, 0, 4),
  (52, .iload 4, 2, 0, 0, 0),
  (54, .invokevirtual 257, 3, 870, 99, 0),
  (57, .iadd, 1, 0, 0, 0),
  (58, .istore_n 1, 1, 0, 0, 0),
  (59, .iinc 3 (1), 3, 0, 0, 0),
  (62, .goto (-55), 3, 0, 0, 0),
  (65, .aload_n 0, 1, 0, 0, 0),
  (66, .invokevirtual 104, 3, 496, 0, 39),
  (69, .iload_n 1, 1, 0, 0, 0),
  (70, .ireturn, 1, 0, 0, 0)]
/-- RollCutter.store(I)I -/
def xT_26 : List xE := [(0, .iload_n 1, 1, 0, 0, 0),
  (1, .iconst (-1), 1, 0, 0, 0),
  (2, .if_icmp .ne (11), 3, 0, 0, 0),
  (5, .aload_n 0, 1, 0, 0, 0),
  (6, .getfield 12, 3, 441, 0, 4),
  (9, .invokevirtual 260, 3, 883, 0, 165),
  (12, .ireturn, 1, 0, 0, 0),
  (13, .iload_n 1, 1, 0, 0, 0),
  (14, .invokestatic 263, 3, 887, 2, 43),
  (17, .ifCond .eq (15), 3, 0, 0, 0),
  (20, .aload_n 0, 1, 0, 0, 0),
  (21, .getfield 12, 3, 441, 0, 4),
  (24, .getfield 266, 3, 152, 107, 4),
  (27, .iload_n 1, 1, 0, 0, 0),
  (28, .iaload, 1, 0, 0, 0),
  (29, .goto (4), 3, 0, 0, 0),
  (32, .iconst (-1), 1, 0, 0, 0),
  (33, .ireturn, 1, 0, 0, 0)]
/-- RollCutter.put(I)I -/
def xT_27 : List xE := [(0, .iload_n 1, 1, 0, 0, 0),
  (1, .invokestatic 263, 3, 887, 2, 43),
  (4, .ifCond .ne (6), 3, 0, 0, 0),
  (7, .bipush (-2), 2, 0, 0, 0),
  (9, .ireturn, 1, 0, 0, 0),
  (10, .aload_n 0, 1, 0, 0, 0),
  (11, .getfield 12, 3, 441, 0, 4),
  (14, .getfield 266, 3, 152, 107, 4),
  (17, .iload_n 1, 1, 0, 0, 0),
  (18, .iaload, 1, 0, 0, 0),
  (19, .sipush (999), 3, 0, 0, 0),
  (22, .if_icmp .lt (6), 3, 0, 0, 0),
  (25, .bipush (-4), 2, 0, 0, 0),
  (27, .ireturn, 1, 0, 0, 0),
  (28, .aload_n 0, 1, 0, 0, 0),
  (29, .getfield 12, 3, 441, 0, 4),
  (32, .getfield 266, 3, 152, 107, 4),
  (35, .iload_n 1, 1, 0, 0, 0),
  (36, .dup2, 1, 0, 0, 0),
  (37, .iaload, 1, 0, 0, 0),
  (38, .iconst 1, 1, 0, 0, 0),
  (39, .iadd, 1, 0, 0, 0),
  (40, .iastore, 1, 0, 0, 0),
  (41, .aload_n 0, 1, 0, 0, 0),
  (42, .getfield 12, 3, 441, 0, 4),
  (45, .getfield 266, 3, 152, 107, 4),
  (48, .iload_n 1, 1, 0, 0, 0),
  (49, .iaload, 1, 0, 0, 0),
  (50, .ireturn, 1, 0, 0, 0)]
/-- RollCutter.feed(I)I -/
def xT_28 : List xE := [(0, .iload_n 1, 1, 0, 0, 0),
  (1, .iconst 1, 1, 0, 0, 0),
  (2, .if_icmp .lt (9), 3, 0, 0, 0),
  (5, .iload_n 1, 1, 0, 0, 0),
  (6, .bipush (127), 2, 0, 0, 0),
  (8, .if_icmp .le (6), 3, 0, 0, 0),
  (11, .bipush (-2), 2, 0, 0, 0),
  (13, .ireturn, 1, 0, 0, 0),
  (14, .aload_n 0, 1, 0, 0, 0),
  (15, .getfield 54, 3, 448, 7, 4),
  (18, .getfield 269, 3, 362, 701, 0),
  (21, .bipush (90), 2, 0, 0, 0),
  (23, .if_icmp .lt (6), 3, 0, 0, 0),
  (26, .bipush (-4), 2, 0, 0, 0),
  (28, .ireturn, 1, 0, 0, 0),
  (29, .aload_n 0, 1, 0, 0, 0),
  (30, .getfield 54, 3, 448, 7, 4),
  (33, .iload_n 1, 1, 0, 0, 0),
  (34, .invokevirtual 272, 3, 896, 0, 172),
  (37, .aload_n 0, 1, 0, 0, 0),
  (38, .getfield 54, 3, 448, 7, 4),
  (41, .getfield 269, 3, 362, 701, 0),
  (44, .ireturn, 1, 0, 0, 0)]
/-- RollCutter.clear()I -/
def xT_29 : List xE := [(0, .aload_n 0, 1, 0, 0, 0),
  (1, .getfield 54, 3, 448, 7, 4),
  (4, .getfield 269, 3, 362, 701, 0),
  (7, .istore_n 1, 1, 0, 0, 0),
  (8, .aload_n 0, 1, 0, 0, 0),
  (9, .getfield 54, 3, 448, 7, 4),
  (12, .iconst 0, 1, 0, 0, 0),
  (13, .putfield 269, 3, 362, 701, 0),
  (16, .iload_n 1, 1, 0, 0, 0),
  (17, .ireturn, 1, 0, 0, 0)]
/-- RollCutter.book()I -/
def xT_30 : List xE := [(0, .aload_n 0, 1, 0, 0, 0),
  (1, .getfield 61, 3, 449, 8, 4),
  (4, .aload_n 0, 1, 0, 0, 0),
  (5, .getfield 54, 3, 448, 7, 4),
  (8, .aload_n 0, 1, 0, 0, 0),
  (9, .getfield 12, 3, 441, 0, 4),
  (12, .invokevirtual 275, 3, 908, 0, 124),
  (15, .aload_n 0, 1, 0, 0, 0),
  (16, .getfield 54, 3, 448, 7, 4),
  (19, .invokevirtual 279, 3, 955, 0, 174),
  (22, .ifCond .eq (14), 3, 0, 0, 0),
  (25, .bipush (-100), 2, 0, 0, 0),
  (27, .aload_n 0, 1, 0, 0, 0),
  (28, .getfield 54, 3, 448, 7, 4),
  (31, .getfield 283, 3, 368, 703, 0),
  (34, .isub, 1, 0, 0, 0),
  (35, .ireturn, 1, 0, 0, 0),
  (36, .iconst 0, 1, 0, 0, 0),
  (37, .istore_n 1, 1, 0, 0, 0),
  (38, .iload_n 1, 1, 0, 0, 0),
  (39, .aload_n 0, 1, 0, 0, 0),
  (40, .getfield 61, 3, 449, 8, 4),
  (43, .getfield 286, 3, 385, 800, 0),
  (46, .if_icmp .ge (34), 3, 0, 0, 0),
  (49, .aload_n 0, 1, 0, 0, 0),
  (50, .getfield 12, 3, 441, 0, 4),
  (53, .aload_n 0, 1, 0, 0, 0),
  (54, .getfield 61, 3, 449, 8, 4),
  (57, .getfield 289, 3, 387, 801, 4),
  (60, .iload_n 1, 1, 0, 0, 0),
  (61, .iaload, 1, 0, 0, 0),
  (62, .aload_n 0, 1, 0, 0, 0),
  (63, .getfield 61, 3, 449, 8, 4),
  (66, .getfield 290, 3, 389, 802, 4),
  (69, .iload_n 1, 1, 0, 0, 0),
  (70, .iaload, 1, 0, 0, 0),
  (71, .invokevirtual 100, 3, 492, 0, 159),
  (74, .iinc 1 (1), 3, 0, 0, 0),
  (77, .goto (-39), 3, 0, 0, 0),
  (80, .aload_n 0, 1, 0, 0, 0),
  (81, .invokevirtual 104, 3, 496, 0, 39),
  (84, .aload_n 0, 1, 0, 0, 0),
  (85, .getfield 61, 3, 449, 8, 4),
  (88, .getfield 286, 3, 385, 800, 0),
  (91, .ireturn, 1, 0, 0, 0)]
/-- RollCutter.pick()I -/
def xT_31 : List xE := [(0, .aload_n 0, 1, 0, 0, 0),
  (1, .getfield 68, 3, 450, 9, 4),
  (4, .aload_n 0, 1, 0, 0, 0),
  (5, .getfield 54, 3, 448, 7, 4),
  (8, .invokevirtual 291, 3, 960, 0, 128),
  (11, .aload_n 0, 1, 0, 0, 0),
  (12, .getfield 54, 3, 448, 7, 4),
  (15, .invokevirtual 279, 3, 955, 0, 174),
  (18, .ifCond .eq (14), 3, 0, 0, 0),
  (21, .bipush (-100), 2, 0, 0, 0),
  (23, .aload_n 0, 1, 0, 0, 0),
  (24, .getfield 54, 3, 448, 7, 4),
  (27, .getfield 283, 3, 368, 703, 0),
  (30, .isub, 1, 0, 0, 0),
  (31, .ireturn, 1, 0, 0, 0),
  (32, .aload_n 0, 1, 0, 0, 0),
  (33, .iconst 2, 1, 0, 0, 0),
  (34, .invokevirtual 133, 3, 550, 0, 40),
  (37, .aload_n 0, 1, 0, 0, 0),
  (38, .getfield 40, 3, 446, 5, 4),
  (41, .invokevirtual 222, 3, 691, 0, 147),
  (44, .astore_n 1, 1, 0, 0, 0),
  (45, .iconst 0, 1, 0, 0, 0),
  (46, .istore_n 2, 1, 0, 0, 0),
  (47, .iconst 0, 1, 0, 0, 0),
  (48, .istore_n 3, 1, 0, 0, 0),
  (49, .iload_n 3, 1, 0, 0, 0),
  (50, .aload_n 1, 1, 0, 0, 0),
  (51, .getfield 226, 3, 285, 500, 0),
  (54, .if_icmp .ge (28), 3, 0, 0, 0),
  (57, .aload_n 0, 1, 0, 0, 0),
  (58, .getfield 68, 3, 450, 9, 4),
  (61, .aload_n 0, 1, 0, 0, 0),
  (62, .getfield 12, 3, 441, 0, 4),
  (65, .aload_n 1, 1, 0, 0, 0),
  (66, .iload_n 3, 1, 0, 0, 0),
  (67, .invokevirtual 294, 3, 1052, 99, 0),
  (70, .ifCond .eq (6), 3, 0, 0, 0),
  (73, .iinc 2 (1), 3, 0, 0, 0),
  (76, .iinc 3 (1), 3, 0, 0, 0),
  (79, .goto (-30), 3, 0, 0, 0),
  (82, .iload_n 2, 1, 0, 0, 0),
  (83, .ireturn, 1, 0, 0, 0)]
/-- RollCutter.first()I -/
def xT_32 : List xE := [(0, .aload_n 0, 1, 0, 0, 0),
  (1, .getfield 68, 3, 450, 9, 4),
  (4, .aload_n 0, 1, 0, 0, 0),
  (5, .getfield 54, 3, 448, 7, 4),
  (8, .invokevirtual 291, 3, 960, 0, 128),
  (11, .aload_n 0, 1, 0, 0, 0),
  (12, .getfield 54, 3, 448, 7, 4),
  (15, .invokevirtual 279, 3, 955, 0, 174),
  (18, .ifCond .eq (14), 3, 0, 0, 0),
  (21, .bipush (-100), 2, 0, 0, 0),
  (23, .aload_n 0, 1, 0, 0, 0),
  (24, .getfield 54, 3, 448, 7, 4),
  (27, .getfield 283, 3, 368, 703, 0),
  (30, .isub, 1, 0, 0, 0),
  (31, .ireturn, 1, 0, 0, 0),
  (32, .aload_n 0, 1, 0, 0, 0),
  (33, .iconst 2, 1, 0, 0, 0),
  (34, .invokevirtual 133, 3, 550, 0, 40),
  (37, .aload_n 0, 1, 0, 0, 0),
  (38, .getfield 40, 3, 446, 5, 4),
  (41, .invokevirtual 222, 3, 691, 0, 147),
  (44, .astore_n 1, 1, 0, 0, 0),
  (45, .iconst 0, 1, 0, 0, 0),
  (46, .istore_n 2, 1, 0, 0, 0),
  (47, .iload_n 2, 1, 0, 0, 0),
  (48, .aload_n 1, 1, 0, 0, 0),
  (49, .getfield 226, 3, 285, 500, 0),
  (52, .if_icmp .ge (27), 3, 0, 0, 0),
  (55, .aload_n 0, 1, 0, 0, 0),
  (56, .getfield 68, 3, 450, 9, 4),
  (59, .aload_n 0, 1, 0, 0, 0),
  (60, .getfield 12, 3, 441, 0, 4),
  (63, .aload_n 1, 1, 0, 0, 0),
  (64, .iload_n 2, 1, 0, 0, 0),
  (65, .invokevirtual 294, 3, 1052, 99, 0),
  (68, .ifCond .eq (5), 3, 0, 0, 0),
  (71, .iload_n 2, 1, 0, 0, 0),
  (72, .ireturn, 1, 0, 0, 0),
  (73, .iinc 2 (1), 3, 0, 0, 0),
  (76, .goto (-29), 3, 0, 0, 0),
  (79, .bipush (-5), 2, 0, 0, 0),
  (81, .ireturn, 1, 0, 0, 0)]
/-- RollCutter.judge()I -/
def xT_33 : List xE := [(0, .aload_n 0, 1, 0, 0, 0),
  (1, .getfield 54, 3, 448, 7, 4),
  (4, .invokevirtual 298, 3, 1073, 0, 173),
  (7, .aload_n 0, 1, 0, 0, 0),
  (8, .getfield 54, 3, 448, 7, 4),
  (11, .aload_n 0, 1, 0, 0, 0),
  (12, .getfield 12, 3, 441, 0, 4),
  (15, .invokestatic 301, 3, 1074, 2, 182),
  (18, .istore_n 1, 1, 0, 0, 0),
  (19, .aload_n 0, 1, 0, 0, 0),
  (20, .getfield 54, 3, 448, 7, 4),
  (23, .iconst 0, 1, 0, 0, 0),
  (24, .putfield 269, 3, 362, 701, 0),
  (27, .aload_n 0, 1, 0, 0, 0),
  (28, .getfield 54, 3, 448, 7, 4),
  (31, .invokevirtual 279, 3, 955, 0, 174),
  (34, .ifCond .eq (16), 3, 0, 0, 0),
  (37, .bipush (-100), 2, 0, 0, 0),
  (39, .aload_n 0, 1, 0, 0, 0),
  (40, .getfield 54, 3, 448, 7, 4),
  (43, .getfield 283, 3, 368, 703, 0),
  (46, .isub, 1, 0, 0, 0),
  (47, .goto (4), 3, 0, 0, 0),
  (50, .iload_n 1, 1, 0, 0, 0),
  (51, .ireturn, 1, 0, 0, 0)]
/-- RollCutter.spell()I -/
def xT_34 : List xE := [(0, .aload_n 0, 1, 0, 0, 0),
  (1, .iconst 2, 1, 0, 0, 0),
  (2, .invokevirtual 133, 3, 550, 0, 40),
  (5, .aload_n 0, 1, 0, 0, 0),
  (6, .getfield 40, 3, 446, 5, 4),
  (9, .invokevirtual 222, 3, 691, 0, 147),
  (12, .astore_n 1, 1, 0, 0, 0),
  (13, .aload_n 0, 1, 0, 0, 0),
  (14, .getfield 75, 3, 451, 10, 4),
  (17, .iconst 0, 1, 0, 0, 0),
  (18, .putfield 307, 3, 435, 1001, 0),
  (21, .iconst 0, 1, 0, 0, 0),
  (22, .istore_n 2, 1, 0, 0, 0),
  (23, .iload_n 2, 1, 0, 0, 0),
  (24, .aload_n 1, 1, 0, 0, 0),
  (25, .getfield 226, 3, 285, 500, 0),
  (28, .if_icmp .ge (54), 3, 0, 0, 0),
  (31, .iload_n 2, 1, 0, 0, 0),
  (32, .ifCond .le (12), 3, 0, 0, 0),
  (35, .aload_n 0, 1, 0, 0, 0),
  (36, .getfield 75, 3, 451, 10, 4),
  (39, .bipush (59), 2, 0, 0, 0),
  (41, .invokevirtual 308, 3, 1106, 99, 0),
  (44, .aload_n 0, 1, 0, 0, 0),
  (45, .getfield 75, 3, 451, 10, 4),
  (48, .aload_n 1, 1, 0, 0, 0),
  (49, .getfield 230, 3, 295, 503, 4),
  (52, .iload_n 2, 1, 0, 0, 0),
  (53, .iaload, 1, 0, 0, 0),
  (54, .invokevirtual 311, 3, 1111, 99, 0),
  (57, .aload_n 0, 1, 0, 0, 0),
  (58, .getfield 75, 3, 451, 10, 4),
  (61, .bipush (120), 2, 0, 0, 0),
  (63, .invokevirtual 308, 3, 1106, 99, 0),
  (66, .aload_n 0, 1, 0, 0, 0),
  (67, .aload_n 1, 1, 0, 0, 0),
  (68, .getfield 229, 3, 292, 502, 4),
  (71, .iload_n 2, 1, 0, 0, 0),
  (72, .iaload, 1, 0, 0, 0),
  (73, .invokevirtual 314, 3, 1116, 99, 0),
  (76, .iinc 2 (1), 3, 0, 0, 0),
  (79, .goto (-56), 3, 0, 0, 0),
  (82, .aload_n 0, 1, 0, 0, 0),
  (83, .getfield 75, 3, 451, 10, 4),
  (86, .getfield 307, 3, 435, 1001, 0),
  (89, .ireturn, 1, 0, 0, 0)]
/-- RollCutter.paper(I)I -/
def xT_35 : List xE := [(0, .iload_n 1, 1, 0, 0, 0),
  (1, .ifCond .lt (26), 3, 0, 0, 0),
  (4, .iload_n 1, 1, 0, 0, 0),
  (5, .aload_n 0, 1, 0, 0, 0),
  (6, .getfield 75, 3, 451, 10, 4),
  (9, .getfield 307, 3, 435, 1001, 0),
  (12, .if_icmp .ge (15), 3, 0, 0, 0),
  (15, .aload_n 0, 1, 0, 0, 0),
  (16, .getfield 75, 3, 451, 10, 4),
  (19, .getfield 317, 3, 433, 1000, 4),
  (22, .iload_n 1, 1, 0, 0, 0),
  (23, .iaload, 1, 0, 0, 0),
  (24, .goto (4), 3, 0, 0, 0),
  (27, .iconst (-1), 1, 0, 0, 0),
  (28, .ireturn, 1, 0, 0, 0)]
/-- RollCutter.told(I)I -/
def xT_36 : List xE := [(0, .iload_n 1, 1, 0, 0, 0),
  (1, .tableswitch (140) (0) (9) #[55, 63, 71, 79, 87, 95, 103, 111, 119, 127], 55, 0, 0, 0),
  (56, .aload_n 0, 1, 0, 0, 0),
  (57, .getfield 12, 3, 441, 0, 4),
  (60, .getfield 97, 3, 118, 100, 0),
  (63, .ireturn, 1, 0, 0, 0),
  (64, .aload_n 0, 1, 0, 0, 0),
  (65, .getfield 12, 3, 441, 0, 4),
  (68, .invokevirtual 320, 3, 1128, 0, 163),
  (71, .ireturn, 1, 0, 0, 0),
  (72, .aload_n 0, 1, 0, 0, 0),
  (73, .getfield 12, 3, 441, 0, 4),
  (76, .invokevirtual 248, 3, 854, 0, 162),
  (79, .ireturn, 1, 0, 0, 0),
  (80, .aload_n 0, 1, 0, 0, 0),
  (81, .getfield 12, 3, 441, 0, 4),
  (84, .getfield 87, 3, 135, 103, 0),
  (87, .ireturn, 1, 0, 0, 0),
  (88, .aload_n 0, 1, 0, 0, 0),
  (89, .getfield 12, 3, 441, 0, 4),
  (92, .getfield 120, 3, 143, 104, 0),
  (95, .ireturn, 1, 0, 0, 0),
  (96, .aload_n 0, 1, 0, 0, 0),
  (97, .getfield 12, 3, 441, 0, 4),
  (100, .getfield 123, 3, 147, 105, 0),
  (103, .ireturn, 1, 0, 0, 0),
  (104, .aload_n 0, 1, 0, 0, 0),
  (105, .getfield 12, 3, 441, 0, 4),
  (108, .getfield 126, 3, 150, 106, 0),
  (111, .ireturn, 1, 0, 0, 0),
  (112, .aload_n 0, 1, 0, 0, 0),
  (113, .getfield 54, 3, 448, 7, 4),
  (116, .getfield 269, 3, 362, 701, 0),
  (119, .ireturn, 1, 0, 0, 0),
  (120, .aload_n 0, 1, 0, 0, 0),
  (121, .getfield 75, 3, 451, 10, 4),
  (124, .getfield 307, 3, 435, 1001, 0),
  (127, .ireturn, 1, 0, 0, 0),
  (128, .aload_n 0, 1, 0, 0, 0),
  (129, .iconst 1, 1, 0, 0, 0),
  (130, .invokevirtual 133, 3, 550, 0, 40),
  (133, .aload_n 0, 1, 0, 0, 0),
  (134, .getfield 33, 3, 445, 4, 4),
  (137, .invokevirtual 323, 3, 1132, 0, 142),
  (140, .ireturn, 1, 0, 0, 0),
  (141, .iconst (-1), 1, 0, 0, 0),
  (142, .ireturn, 1, 0, 0, 0)]
/-- RollCutter.image()I -/
def xT_37 : List xE := [(0, .aload_n 0, 1, 0, 0, 0),
  (1, .getfield 16, 3, 442, 1, 4),
  (4, .aload_n 0, 1, 0, 0, 0),
  (5, .getfield 12, 3, 441, 0, 4),
  (8, .invokevirtual 326, 3, 1144, 0, 156),
  (11, .aload_n 0, 1, 0, 0, 0),
  (12, .iconst 1, 1, 0, 0, 0),
  (13, .putfield 19, 3, 443, 2, 3),
  (16, .aload_n 0, 1, 0, 0, 0),
  (17, .getfield 12, 3, 441, 0, 4),
  (20, .getfield 97, 3, 118, 100, 0),
  (23, .ireturn, 1, 0, 0, 0)]
/-- RollCutter.undo()I -/
def xT_38 : List xE := [(0, .aload_n 0, 1, 0, 0, 0),
  (1, .getfield 19, 3, 443, 2, 3),
  (4, .ifCond .ne (6), 3, 0, 0, 0),
  (7, .bipush (-3), 2, 0, 0, 0),
  (9, .ireturn, 1, 0, 0, 0),
  (10, .aload_n 0, 1, 0, 0, 0),
  (11, .getfield 12, 3, 441, 0, 4),
  (14, .aload_n 0, 1, 0, 0, 0),
  (15, .getfield 16, 3, 442, 1, 4),
  (18, .invokevirtual 326, 3, 1144, 0, 156),
  (21, .aload_n 0, 1, 0, 0, 0),
  (22, .invokevirtual 104, 3, 496, 0, 39),
  (25, .aload_n 0, 1, 0, 0, 0),
  (26, .getfield 12, 3, 441, 0, 4),
  (29, .getfield 97, 3, 118, 100, 0),
  (32, .ireturn, 1, 0, 0, 0)]
/-- RollCutter.forget()V -/
def xT_39 : List xE := [(0, .aload_n 0, 1, 0, 0, 0),
  (1, .iconst 0, 1, 0, 0, 0),
  (2, .putfield 83, 3, 453, 12, 0),
  (5, .aload_n 0, 1, 0, 0, 0),
  (6, .getfield 79, 3, 452, 11, 4),
  (9, .iconst 0, 1, 0, 0, 0),
  (10, .iconst (-1), 1, 0, 0, 0),
  (11, .iastore, 1, 0, 0, 0),
  (12, .aload_n 0, 1, 0, 0, 0),
  (13, .getfield 79, 3, 452, 11, 4),
  (16, .iconst 1, 1, 0, 0, 0),
  (17, .iconst (-1), 1, 0, 0, 0),
  (18, .iastore, 1, 0, 0, 0),
  (19, .return_, 1, 0, 0, 0)]
/-- RollCutter.settle(I)V -/
def xT_40 : List xE := [(0, .iload_n 1, 1, 0, 0, 0),
  (1, .iconst 1, 1, 0, 0, 0),
  (2, .if_icmp .lt (31), 3, 0, 0, 0),
  (5, .aload_n 0, 1, 0, 0, 0),
  (6, .getfield 83, 3, 453, 12, 0),
  (9, .iconst 1, 1, 0, 0, 0),
  (10, .if_icmp .ge (23), 3, 0, 0, 0),
  (13, .aload_n 0, 1, 0, 0, 0),
  (14, .getfield 33, 3, 445, 4, 4),
  (17, .aload_n 0, 1, 0, 0, 0),
  (18, .getfield 12, 3, 441, 0, 4),
  (21, .aload_n 0, 1, 0, 0, 0),
  (22, .getfield 26, 3, 444, 3, 4),
  (25, .invokevirtual 330, 3, 554, 0, 137),
  (28, .aload_n 0, 1, 0, 0, 0),
  (29, .iconst 1, 1, 0, 0, 0),
  (30, .putfield 83, 3, 453, 12, 0),
  (33, .iload_n 1, 1, 0, 0, 0),
  (34, .iconst 2, 1, 0, 0, 0),
  (35, .if_icmp .lt (50), 3, 0, 0, 0),
  (38, .aload_n 0, 1, 0, 0, 0),
  (39, .getfield 83, 3, 453, 12, 0),
  (42, .iconst 2, 1, 0, 0, 0),
  (43, .if_icmp .ge (42), 3, 0, 0, 0),
  (46, .aload_n 0, 1, 0, 0, 0),
  (47, .getfield 40, 3, 446, 5, 4),
  (50, .aload_n 0, 1, 0, 0, 0),
  (51, .getfield 12, 3, 441, 0, 4),
  (54, .aload_n 0, 1, 0, 0, 0),
  (55, .getfield 33, 3, 445, 4, 4),
  (58, .aload_n 0, 1, 0, 0, 0),
  (59, .getfield 26, 3, 444, 3, 4),
  (62, .invokevirtual 334, 3, 646, 0, 148),
  (65, .aload_n 0, 1, 0, 0, 0),
  (66, .getfield 40, 3, 446, 5, 4),
  (69, .aload_n 0, 1, 0, 0, 0),
  (70, .getfield 12, 3, 441, 0, 4),
  (73, .aload_n 0, 1, 0, 0, 0),
  (74, .getfield 33, 3, 445, 4, 4),
  (77, .invokevirtual 338, 3, 672, 0, 149),
  (80, .aload_n 0, 1, 0, 0, 0),
  (81, .iconst 2, 1, 0, 0, 0),
  (82, .putfield 83, 3, 453, 12, 0),
  (85, .iload_n 1, 1, 0, 0, 0),
  (86, .iconst 3, 1, 0, 0, 0),
  (87, .if_icmp .lt (34), 3, 0, 0, 0),
  (90, .aload_n 0, 1, 0, 0, 0),
  (91, .getfield 83, 3, 453, 12, 0),
  (94, .iconst 3, 1, 0, 0, 0),
  (95, .if_icmp .ge (26), 3, 0, 0, 0),
  (98, .aload_n 0, 1, 0, 0, 0),
  (99, .getfield 47, 3, 447, 6, 4),
  (102, .aload_n 0, 1, 0, 0, 0),
  (103, .getfield 12, 3, 441, 0, 4),
  (106, .aload_n 0, 1, 0, 0, 0),
  (107, .getfield 40, 3, 446, 5, 4),
  (110, .invokevirtual 222, 3, 691, 0, 147),
  (113, .invokevirtual 342, 3, 695, 0, 168),
  (116, .aload_n 0, 1, 0, 0, 0),
  (117, .iconst 3, 1, 0, 0, 0),
  (118, .putfield 83, 3, 453, 12, 0),
  (121, .return_, 1, 0, 0, 0)]
/-- RollCutter.isDue(I)Z -/
def xT_41 : List xE := [(0, .iload_n 0, 1, 0, 0, 0),
  (1, .ifCond .lt (13), 3, 0, 0, 0),
  (4, .iload_n 0, 1, 0, 0, 0),
  (5, .bipush (40), 2, 0, 0, 0),
  (7, .if_icmp .gt (7), 3, 0, 0, 0),
  (10, .iconst 1, 1, 0, 0, 0),
  (11, .goto (4), 3, 0, 0, 0),
  (14, .iconst 0, 1, 0, 0, 0),
  (15, .ireturn, 1, 0, 0, 0)]
/-- RollCutter.isPart(I)Z -/
def xT_42 : List xE := [(0, .iload_n 0, 1, 0, 0, 0),
  (1, .ifCond .eq (8), 3, 0, 0, 0),
  (4, .iload_n 0, 1, 0, 0, 0),
  (5, .iconst 1, 1, 0, 0, 0),
  (6, .if_icmp .ne (7), 3, 0, 0, 0),
  (9, .iconst 1, 1, 0, 0, 0),
  (10, .goto (4), 3, 0, 0, 0),
  (13, .iconst 0, 1, 0, 0, 0),
  (14, .ireturn, 1, 0, 0, 0)]
/-- RollCutter.isOffcut(I)Z -/
def xT_43 : List xE := [(0, .iload_n 0, 1, 0, 0, 0),
  (1, .iconst 1, 1, 0, 0, 0),
  (2, .if_icmp .lt (13), 3, 0, 0, 0),
  (5, .iload_n 0, 1, 0, 0, 0),
  (6, .bipush (60), 2, 0, 0, 0),
  (8, .if_icmp .gt (7), 3, 0, 0, 0),
  (11, .iconst 1, 1, 0, 0, 0),
  (12, .goto (4), 3, 0, 0, 0),
  (15, .iconst 0, 1, 0, 0, 0),
  (16, .ireturn, 1, 0, 0, 0)]
/-- RollCutter.quotient(JJ)J -/
def xT_44 : List xE := [(0, .lload_n 2, 1, 0, 0, 0),
  (1, .lconst 0, 1, 0, 0, 0),
  (2, .lcmp, 1, 0, 0, 0),
  (3, .ifCond .ne (7), 3, 0, 0, 0),
  (6, .lconst 0, 1, 0, 0, 0),
  (7, .goto (6), 3, 0, 0, 0),
  (10, .lload_n 0, 1, 0, 0, 0),
  (11, .lload_n 2, 1, 0, 0, 0),
  (12, .ldiv, 1, 0, 0, 0),
  (13, .lreturn, 1, 0, 0, 0)]
/-- RollCutter.roundedUp(JJ)J -/
def xT_45 : List xE := [(0, .lload_n 2, 1, 0, 0, 0),
  (1, .lconst 0, 1, 0, 0, 0),
  (2, .lcmp, 1, 0, 0, 0),
  (3, .ifCond .ne (7), 3, 0, 0, 0),
  (6, .lconst 0, 1, 0, 0, 0),
  (7, .goto (10), 3, 0, 0, 0),
  (10, .lload_n 0, 1, 0, 0, 0),
  (11, .lload_n 2, 1, 0, 0, 0),
  (12, .ladd, 1, 0, 0, 0),
  (13, .lconst 1, 1, 0, 0, 0),
  (14, .lsub, 1, 0, 0, 0),
  (15, .lload_n 2, 1, 0, 0, 0),
  (16, .ldiv, 1, 0, 0, 0),
  (17, .lreturn, 1, 0, 0, 0)]
/-- RollCutter.lowest(JJI)J -/
def xT_46 : List xE := [(0, .lload_n 0, 1, 0, 0, 0),
  (1, .invokestatic 349, 3, 762, 8, 0),
  (4, .lstore 5, 2, 0, 0, 0),
  (6, .lload_n 2, 1, 0, 0, 0),
  (7, .invokestatic 349, 3, 762, 8, 0),
  (10, .lstore 7, 2, 0, 0, 0),
  (12, .iconst 0, 1, 0, 0, 0),
  (13, .istore 9, 2, 0, 0, 0),
  (15, .iload 9, 2, 0, 0, 0),
  (17, .ldc_w 355, 3, 765, 1000000, 0),
  (20, .if_icmp .ge (31), 3, 0, 0, 0),
  (23, .lload 7, 2, 0, 0, 0),
  (25, .lconst 0, 1, 0, 0, 0),
  (26, .lcmp, 1, 0, 0, 0),
  (27, .ifCond .eq (24), 3, 0, 0, 0),
  (30, .lload 5, 2, 0, 0, 0),
  (32, .lload 7, 2, 0, 0, 0),
  (34, .lrem, 1, 0, 0, 0),
  (35, .lstore 10, 2, 0, 0, 0),
  (37, .lload 7, 2, 0, 0, 0),
  (39, .lstore 5, 2, 0, 0, 0),
  (41, .lload 10, 2, 0, 0, 0),
  (43, .lstore 7, 2, 0, 0, 0),
  (45, .iinc 9 (1), 3, 0, 0, 0),
  (48, .goto (-33), 3, 0, 0, 0),
  (51, .iload 4, 2, 0, 0, 0),
  (53, .ifCond .ne (7), 3, 0, 0, 0),
  (56, .lload_n 0, 1, 0, 0, 0),
  (57, .goto (4), 3, 0, 0, 0),
  (60, .lload_n 2, 1, 0, 0, 0),
  (61, .lload 5, 2, 0, 0, 0),
  (63, .invokestatic 356, 3, 766, 2, 44),
  (66, .lreturn, 1, 0, 0, 0)]
/-- RollCutterModel.<init>()V -/
def xT_47 : List xE := [(0, .aload_n 0, 1, 0, 0, 0),
  (1, .invokespecial 3, 3, 1158, 6, 0),
  (4, .aload_n 0, 1, 0, 0, 0),
  (5, .bipush (78), 2, 0, 0, 0),
  (7, .newarray .int, 2, 170, 0, 0),
  (9, .putfield 9, 3, 1159, 1100, 4),
  (12, .aload_n 0, 1, 0, 0, 0),
  (13, .bipush (78), 2, 0, 0, 0),
  (15, .newarray .int, 2, 170, 0, 0),
  (17, .putfield 13, 3, 1160, 1101, 4),
  (20, .aload_n 0, 1, 0, 0, 0),
  (21, .bipush (6), 2, 0, 0, 0),
  (23, .newarray .int, 2, 170, 0, 0),
  (25, .putfield 16, 3, 1163, 1104, 4),
  (28, .aload_n 0, 1, 0, 0, 0),
  (29, .bipush (6), 2, 0, 0, 0),
  (31, .newarray .int, 2, 170, 0, 0),
  (33, .putfield 19, 3, 1164, 1105, 4),
  (36, .aload_n 0, 1, 0, 0, 0),
  (37, .bipush (6), 2, 0, 0, 0),
  (39, .newarray .int, 2, 170, 0, 0),
  (41, .putfield 22, 3, 1165, 1106, 4),
  (44, .aload_n 0, 1, 0, 0, 0),
  (45, .bipush (6), 2, 0, 0, 0),
  (47, .newarray .int, 2, 170, 0, 0),
  (49, .putfield 25, 3, 1168, 1109, 4),
  (52, .aload_n 0, 1, 0, 0, 0),
  (53, .bipush (36), 2, 0, 0, 0),
  (55, .newarray .int, 2, 170, 0, 0),
  (57, .putfield 28, 3, 1169, 1110, 4),
  (60, .aload_n 0, 1, 0, 0, 0),
  (61, .bipush (36), 2, 0, 0, 0),
  (63, .newarray .int, 2, 170, 0, 0),
  (65, .putfield 31, 3, 1170, 1111, 4),
  (68, .aload_n 0, 1, 0, 0, 0),
  (69, .bipush (36), 2, 0, 0, 0),
  (71, .newarray .long, 2, 205, 1, 0),
  (73, .putfield 34, 3, 1171, 1112, 4),
  (76, .aload_n 0, 1, 0, 0, 0),
  (77, .bipush (6), 2, 0, 0, 0),
  (79, .newarray .long, 2, 205, 1, 0),
  (81, .putfield 38, 3, 1172, 1113, 4),
  (84, .aload_n 0, 1, 0, 0, 0),
  (85, .bipush (6), 2, 0, 0, 0),
  (87, .newarray .long, 2, 205, 1, 0),
  (89, .putfield 41, 3, 1173, 1114, 4),
  (92, .aload_n 0, 1, 0, 0, 0),
  (93, .bipush (6), 2, 0, 0, 0),
  (95, .newarray .long, 2, 205, 1, 0),
  (97, .putfield 44, 3, 1174, 1115, 4),
  (100, .aload_n 0, 1, 0, 0, 0),
  (101, .sipush (300), 3, 0, 0, 0),
  (104, .newarray .int, 2, 170, 0, 0),
  (106, .putfield 47, 3, 1177, 1118, 4),
  (109, .aload_n 0, 1, 0, 0, 0),
  (110, .sipush (1800), 3, 0, 0, 0),
  (113, .newarray .int, 2, 170, 0, 0),
  (115, .putfield 50, 3, 1178, 1119, 4),
  (118, .aload_n 0, 1, 0, 0, 0),
  (119, .sipush (260), 3, 0, 0, 0),
  (122, .newarray .int, 2, 170, 0, 0),
  (124, .putfield 53, 3, 1180, 1121, 4),
  (127, .aload_n 0, 1, 0, 0, 0),
  (128, .sipush (1560), 3, 0, 0, 0),
  (131, .newarray .int, 2, 170, 0, 0),
  (133, .putfield 56, 3, 1181, 1122, 4),
  (136, .aload_n 0, 1, 0, 0, 0),
  (137, .iconst 2, 1, 0, 0, 0),
  (138, .newarray .int, 2, 170, 0, 0),
  (140, .putfield 59, 3, 1182, 1123, 4),
  (143, .aload_n 0, 1, 0, 0, 0),
  (144, .bipush (6), 2, 0, 0, 0),
  (146, .newarray .int, 2, 170, 0, 0),
  (148, .putfield 62, 3, 1183, 1124, 4),
  (151, .aload_n 0, 1, 0, 0, 0),
  (152, .sipush (1560), 3, 0, 0, 0),
  (155, .newarray .int, 2, 170, 0, 0),
  (157, .putfield 65, 3, 1185, 1126, 4),
  (160, .aload_n 0, 1, 0, 0, 0),
  (161, .bipush (6), 2, 0, 0, 0),
  (163, .newarray .int, 2, 170, 0, 0),
  (165, .putfield 68, 3, 1187, 1128, 4),
  (168, .aload_n 0, 1, 0, 0, 0),
  (169, .bipush (6), 2, 0, 0, 0),
  (171, .newarray .int, 2, 170, 0, 0),
  (173, .putfield 71, 3, 1188, 1129, 4),
  (176, .aload_n 0, 1, 0, 0, 0),
  (177, .bipush (90), 2, 0, 0, 0),
  (179, .newarray .byte, 2, 1064, 2, 0),
  (181, .putfield 74, 3, 1189, 1130, 4),
  (184, .aload_n 0, 1, 0, 0, 0),
  (185, .bipush (6), 2, 0, 0, 0),
  (187, .newarray .int, 2, 170, 0, 0),
  (189, .putfield 78, 3, 1195, 1136, 4),
  (192, .aload_n 0, 1, 0, 0, 0),
  (193, .bipush (6), 2, 0, 0, 0),
  (195, .newarray .int, 2, 170, 0, 0),
  (197, .putfield 81, 3, 1196, 1137, 4),
  (200, .aload_n 0, 1, 0, 0, 0),
  (201, .sipush (6000), 3, 0, 0, 0),
  (204, .newarray .int, 2, 170, 0, 0),
  (206, .putfield 84, 3, 1200, 1141, 4),
  (209, .aload_n 0, 1, 0, 0, 0),
  (210, .getfield 9, 3, 1159, 1100, 4),
  (213, .iconst 0, 1, 0, 0, 0),
  (214, .bipush (60), 2, 0, 0, 0),
  (216, .iastore, 1, 0, 0, 0),
  (217, .aload_n 0, 1, 0, 0, 0),
  (218, .getfield 9, 3, 1159, 1100, 4),
  (221, .iconst 2, 1, 0, 0, 0),
  (222, .bipush (12), 2, 0, 0, 0),
  (224, .iastore, 1, 0, 0, 0),
  (225, .aload_n 0, 1, 0, 0, 0),
  (226, .getfield 9, 3, 1159, 1100, 4),
  (229, .iconst 3, 1, 0, 0, 0),
  (230, .bipush (10), 2, 0, 0, 0),
  (232, .iastore, 1, 0, 0, 0),
  (233, .return_, 1, 0, 0, 0)]
/-- RollCutterModel.in(III)Z -/
def xT_48 : List xE := [(0, .iload_n 0, 1, 0, 0, 0),
  (1, .iload_n 1, 1, 0, 0, 0),
  (2, .if_icmp .lt (12), 3, 0, 0, 0),
  (5, .iload_n 0, 1, 0, 0, 0),
  (6, .iload_n 2, 1, 0, 0, 0),
  (7, .if_icmp .gt (7), 3, 0, 0, 0),
  (10, .iconst 1, 1, 0, 0, 0),
  (11, .goto (4), 3, 0, 0, 0),
  (14, .iconst 0, 1, 0, 0, 0),
  (15, .ireturn, 1, 0, 0, 0)]
/-- RollCutterModel.isOrder(I)Z -/
def xT_49 : List xE := [(0, .iload_n 1, 1, 0, 0, 0),
  (1, .iconst 0, 1, 0, 0, 0),
  (2, .aload_n 0, 1, 0, 0, 0),
  (3, .getfield 9, 3, 1159, 1100, 4),
  (6, .iconst 4, 1, 0, 0, 0),
  (7, .iaload, 1, 0, 0, 0),
  (8, .iconst 1, 1, 0, 0, 0),
  (9, .isub, 1, 0, 0, 0),
  (10, .invokestatic 87, 3, 1293, 2, 48),
  (13, .ireturn, 1, 0, 0, 0)]
/-- RollCutterModel.ofWidth(I)I -/
def xT_50 : List xE := [(0, .iconst 0, 1, 0, 0, 0),
  (1, .istore_n 2, 1, 0, 0, 0),
  (2, .iload_n 2, 1, 0, 0, 0),
  (3, .aload_n 0, 1, 0, 0, 0),
  (4, .getfield 9, 3, 1159, 1100, 4),
  (7, .iconst 4, 1, 0, 0, 0),
  (8, .iaload, 1, 0, 0, 0),
  (9, .if_icmp .ge (23), 3, 0, 0, 0),
  (12, .aload_n 0, 1, 0, 0, 0),
  (13, .getfield 9, 3, 1159, 1100, 4),
  (16, .iconst 5, 1, 0, 0, 0),
  (17, .iload_n 2, 1, 0, 0, 0),
  (18, .iadd, 1, 0, 0, 0),
  (19, .iaload, 1, 0, 0, 0),
  (20, .iload_n 1, 1, 0, 0, 0),
  (21, .if_icmp .ne (5), 3, 0, 0, 0),
  (24, .iload_n 2, 1, 0, 0, 0),
  (25, .ireturn, 1, 0, 0, 0),
  (26, .iinc 2 (1), 3, 0, 0, 0),
  (29, .goto (-27), 3, 0, 0, 0),
  (32, .iconst (-1), 1, 0, 0, 0),
  (33, .ireturn, 1, 0, 0, 0)]
/-- RollCutterModel.comes(II)V -/
def xT_51 : List xE := [(0, .aload_n 0, 1, 0, 0, 0),
  (1, .getfield 9, 3, 1159, 1100, 4),
  (4, .iconst 5, 1, 0, 0, 0),
  (5, .aload_n 0, 1, 0, 0, 0),
  (6, .getfield 9, 3, 1159, 1100, 4),
  (9, .iconst 4, 1, 0, 0, 0),
  (10, .iaload, 1, 0, 0, 0),
  (11, .iadd, 1, 0, 0, 0),
  (12, .iload_n 1, 1, 0, 0, 0),
  (13, .iastore, 1, 0, 0, 0),
  (14, .aload_n 0, 1, 0, 0, 0),
  (15, .getfield 9, 3, 1159, 1100, 4),
  (18, .bipush (11), 2, 0, 0, 0),
  (20, .aload_n 0, 1, 0, 0, 0),
  (21, .getfield 9, 3, 1159, 1100, 4),
  (24, .iconst 4, 1, 0, 0, 0),
  (25, .iaload, 1, 0, 0, 0),
  (26, .iadd, 1, 0, 0, 0),
  (27, .iload_n 2, 1, 0, 0, 0),
  (28, .iastore, 1, 0, 0, 0),
  (29, .aload_n 0, 1, 0, 0, 0),
  (30, .getfield 9, 3, 1159, 1100, 4),
  (33, .iconst 4, 1, 0, 0, 0),
  (34, .dup2, 1, 0, 0, 0),
  (35, .iaload, 1, 0, 0, 0),
  (36, .iconst 1, 1, 0, 0, 0),
  (37, .iadd, 1, 0, 0, 0),
  (38, .iastore, 1, 0, 0, 0),
  (39, .aload_n 0, 1, 0, 0, 0),
  (40, .iconst 0, 1, 0, 0, 0),
  (41, .putfield 91, 3, 1162, 1103, 3),
  (44, .return_, 1, 0, 0, 0)]
/-- RollCutterModel.order(II)I -/
def xT_52 : List xE := [(0, .iload_n 1, 1, 0, 0, 0),
  (1, .iconst 5, 1, 0, 0, 0),
  (2, .aload_n 0, 1, 0, 0, 0),
  (3, .getfield 9, 3, 1159, 1100, 4),
  (6, .iconst 0, 1, 0, 0, 0),
  (7, .iaload, 1, 0, 0, 0),
  (8, .invokestatic 87, 3, 1293, 2, 48),
  (11, .ifCond .eq (21), 3, 0, 0, 0),
  (14, .aload_n 0, 1, 0, 0, 0),
  (15, .iload_n 1, 1, 0, 0, 0),
  (16, .invokevirtual 95, 3, 1296, 0, 50),
  (19, .ifCond .ge (13), 3, 0, 0, 0),
  (22, .iload_n 2, 1, 0, 0, 0),
  (23, .iconst 0, 1, 0, 0, 0),
  (24, .bipush (40), 2, 0, 0, 0),
  (26, .invokestatic 87, 3, 1293, 2, 48),
  (29, .ifCond .ne (6), 3, 0, 0, 0),
  (32, .bipush (-2), 2, 0, 0, 0),
  (34, .ireturn, 1, 0, 0, 0),
  (35, .aload_n 0, 1, 0, 0, 0),
  (36, .getfield 9, 3, 1159, 1100, 4),
  (39, .iconst 4, 1, 0, 0, 0),
  (40, .iaload, 1, 0, 0, 0),
  (41, .bipush (6), 2, 0, 0, 0),
  (43, .if_icmp .ne (6), 3, 0, 0, 0),
  (46, .bipush (-4), 2, 0, 0, 0),
  (48, .ireturn, 1, 0, 0, 0),
  (49, .aload_n 0, 1, 0, 0, 0),
  (50, .iload_n 1, 1, 0, 0, 0),
  (51, .iload_n 2, 1, 0, 0, 0),
  (52, .invokevirtual 99, 3, 1300, 0, 51),
  (55, .aload_n 0, 1, 0, 0, 0),
  (56, .getfield 9, 3, 1159, 1100, 4),
  (59, .iconst 4, 1, 0, 0, 0),
  (60, .iaload, 1, 0, 0, 0),
  (61, .iconst 1, 1, 0, 0, 0),
  (62, .isub, 1, 0, 0, 0),
  (63, .ireturn, 1, 0, 0, 0)]
/-- RollCutterModel.due(II)I -/
def xT_53 : List xE := [(0, .aload_n 0, 1, 0, 0, 0),
  (1, .iload_n 1, 1, 0, 0, 0),
  (2, .invokevirtual 103, 3, 1308, 0, 49),
  (5, .ifCond .ne (5), 3, 0, 0, 0),
  (8, .iconst (-1), 1, 0, 0, 0),
  (9, .ireturn, 1, 0, 0, 0),
  (10, .iload_n 2, 1, 0, 0, 0),
  (11, .iconst 0, 1, 0, 0, 0),
  (12, .bipush (40), 2, 0, 0, 0),
  (14, .invokestatic 87, 3, 1293, 2, 48),
  (17, .ifCond .ne (6), 3, 0, 0, 0),
  (20, .bipush (-2), 2, 0, 0, 0),
  (22, .ireturn, 1, 0, 0, 0),
  (23, .aload_n 0, 1, 0, 0, 0),
  (24, .getfield 9, 3, 1159, 1100, 4),
  (27, .bipush (11), 2, 0, 0, 0),
  (29, .iload_n 1, 1, 0, 0, 0),
  (30, .iadd, 1, 0, 0, 0),
  (31, .iaload, 1, 0, 0, 0),
  (32, .istore_n 3, 1, 0, 0, 0),
  (33, .aload_n 0, 1, 0, 0, 0),
  (34, .getfield 9, 3, 1159, 1100, 4),
  (37, .bipush (11), 2, 0, 0, 0),
  (39, .iload_n 1, 1, 0, 0, 0),
  (40, .iadd, 1, 0, 0, 0),
  (41, .iload_n 2, 1, 0, 0, 0),
  (42, .iastore, 1, 0, 0, 0),
  (43, .aload_n 0, 1, 0, 0, 0),
  (44, .iconst 0, 1, 0, 0, 0),
  (45, .putfield 91, 3, 1162, 1103, 3),
  (48, .iload_n 3, 1, 0, 0, 0),
  (49, .ireturn, 1, 0, 0, 0)]
/-- RollCutterModel.of(II)I -/
def xT_54 : List xE := [(0, .aload_n 0, 1, 0, 0, 0),
  (1, .iload_n 1, 1, 0, 0, 0),
  (2, .invokevirtual 103, 3, 1308, 0, 49),
  (5, .ifCond .eq (32), 3, 0, 0, 0),
  (8, .iload_n 2, 1, 0, 0, 0),
  (9, .iconst 0, 1, 0, 0, 0),
  (10, .iconst 1, 1, 0, 0, 0),
  (11, .invokestatic 87, 3, 1293, 2, 48),
  (14, .ifCond .eq (23), 3, 0, 0, 0),
  (17, .aload_n 0, 1, 0, 0, 0),
  (18, .getfield 9, 3, 1159, 1100, 4),
  (21, .iload_n 2, 1, 0, 0, 0),
  (22, .ifCond .ne (7), 3, 0, 0, 0),
  (25, .iconst 5, 1, 0, 0, 0),
  (26, .goto (5), 3, 0, 0, 0),
  (29, .bipush (11), 2, 0, 0, 0),
  (31, .iload_n 1, 1, 0, 0, 0),
  (32, .iadd, 1, 0, 0, 0),
  (33, .iaload, 1, 0, 0, 0),
  (34, .goto (4), 3, 0, 0, 0),
  (37, .iconst (-1), 1, 0, 0, 0),
  (38, .ireturn, 1, 0, 0, 0)]
/-- RollCutterModel.drop()I -/
def xT_55 : List xE := [(0, .aload_n 0, 1, 0, 0, 0),
  (1, .getfield 9, 3, 1159, 1100, 4),
  (4, .iconst 4, 1, 0, 0, 0),
  (5, .iaload, 1, 0, 0, 0),
  (6, .ifCond .ne (6), 3, 0, 0, 0),
  (9, .bipush (-3), 2, 0, 0, 0),
  (11, .ireturn, 1, 0, 0, 0),
  (12, .aload_n 0, 1, 0, 0, 0),
  (13, .getfield 9, 3, 1159, 1100, 4),
  (16, .iconst 4, 1, 0, 0, 0),
  (17, .dup2, 1, 0, 0, 0),
  (18, .iaload, 1, 0, 0, 0),
  (19, .iconst 1, 1, 0, 0, 0),
  (20, .isub, 1, 0, 0, 0),
  (21, .iastore, 1, 0, 0, 0),
  (22, .aload_n 0, 1, 0, 0, 0),
  (23, .iconst 0, 1, 0, 0, 0),
  (24, .putfield 91, 3, 1162, 1103, 3),
  (27, .aload_n 0, 1, 0, 0, 0),
  (28, .getfield 9, 3, 1159, 1100, 4),
  (31, .iconst 4, 1, 0, 0, 0),
  (32, .iaload, 1, 0, 0, 0),
  (33, .ireturn, 1, 0, 0, 0)]
/-- RollCutterModel.widest()I -/
def xT_56 : List xE := [(0, .iconst 0, 1, 0, 0, 0),
  (1, .istore_n 1, 1, 0, 0, 0),
  (2, .iconst 0, 1, 0, 0, 0),
  (3, .istore_n 2, 1, 0, 0, 0),
  (4, .iload_n 2, 1, 0, 0, 0),
  (5, .aload_n 0, 1, 0, 0, 0),
  (6, .getfield 9, 3, 1159, 1100, 4),
  (9, .iconst 4, 1, 0, 0, 0),
  (10, .iaload, 1, 0, 0, 0),
  (11, .if_icmp .ge (22), 3, 0, 0, 0),
  (14, .iload_n 1, 1, 0, 0, 0),
  (15, .aload_n 0, 1, 0, 0, 0),
  (16, .getfield 9, 3, 1159, 1100, 4),
  (19, .iconst 5, 1, 0, 0, 0),
  (20, .iload_n 2, 1, 0, 0, 0),
  (21, .iadd, 1, 0, 0, 0),
  (22, .iaload, 1, 0, 0, 0),
  (23, .invokestatic 107, 3, 1328, 7, 0),
  (26, .istore_n 1, 1, 0, 0, 0),
  (27, .iinc 2 (1), 3, 0, 0, 0),
  (30, .goto (-26), 3, 0, 0, 0),
  (33, .iload_n 1, 1, 0, 0, 0),
  (34, .ireturn, 1, 0, 0, 0)]
/-- RollCutterModel.machine(II)I -/
def xT_57 : List xE := [(0, .iload_n 1, 1, 0, 0, 0),
  (1, .iconst 0, 1, 0, 0, 0),
  (2, .iconst 3, 1, 0, 0, 0),
  (3, .invokestatic 87, 3, 1293, 2, 48),
  (6, .ifCond .ne (5), 3, 0, 0, 0),
  (9, .iconst (-1), 1, 0, 0, 0),
  (10, .ireturn, 1, 0, 0, 0),
  (11, .iload_n 1, 1, 0, 0, 0),
  (12, .ifCond .ne (21), 3, 0, 0, 0),
  (15, .iload_n 2, 1, 0, 0, 0),
  (16, .bipush (20), 2, 0, 0, 0),
  (18, .aload_n 0, 1, 0, 0, 0),
  (19, .invokevirtual 113, 3, 1324, 0, 56),
  (22, .invokestatic 107, 3, 1328, 7, 0),
  (25, .bipush (60), 2, 0, 0, 0),
  (27, .invokestatic 87, 3, 1293, 2, 48),
  (30, .goto (39), 3, 0, 0, 0),
  (33, .iload_n 1, 1, 0, 0, 0),
  (34, .iconst 1, 1, 0, 0, 0),
  (35, .if_icmp .ne (12), 3, 0, 0, 0),
  (38, .iload_n 2, 1, 0, 0, 0),
  (39, .iconst 0, 1, 0, 0, 0),
  (40, .iconst 2, 1, 0, 0, 0),
  (41, .invokestatic 87, 3, 1293, 2, 48),
  (44, .goto (25), 3, 0, 0, 0),
  (47, .iload_n 1, 1, 0, 0, 0),
  (48, .iconst 2, 1, 0, 0, 0),
  (49, .if_icmp .ne (13), 3, 0, 0, 0),
  (52, .iload_n 2, 1, 0, 0, 0),
  (53, .iconst 1, 1, 0, 0, 0),
  (54, .bipush (12), 2, 0, 0, 0),
  (56, .invokestatic 87, 3, 1293, 2, 48),
  (59, .goto (10), 3, 0, 0, 0),
  (62, .iload_n 2, 1, 0, 0, 0),
  (63, .iconst 1, 1, 0, 0, 0),
  (64, .bipush (60), 2, 0, 0, 0),
  (66, .invokestatic 87, 3, 1293, 2, 48),
  (69, .istore_n 3, 1, 0, 0, 0),
  (70, .iload_n 3, 1, 0, 0, 0),
  (71, .ifCond .ne (6), 3, 0, 0, 0),
  (74, .bipush (-2), 2, 0, 0, 0),
  (76, .ireturn, 1, 0, 0, 0),
  (77, .aload_n 0, 1, 0, 0, 0),
  (78, .getfield 9, 3, 1159, 1100, 4),
  (81, .iload_n 1, 1, 0, 0, 0),
  (82, .iaload, 1, 0, 0, 0),
  (83, .istore 4, 2, 0, 0, 0),
  (85, .aload_n 0, 1, 0, 0, 0),
  (86, .getfield 9, 3, 1159, 1100, 4),
  (89, .iload_n 1, 1, 0, 0, 0),
  (90, .iload_n 2, 1, 0, 0, 0),
  (91, .iastore, 1, 0, 0, 0),
  (92, .aload_n 0, 1, 0, 0, 0),
  (93, .iconst 0, 1, 0, 0, 0),
  (94, .putfield 91, 3, 1162, 1103, 3),
  (97, .iload 4, 2, 0, 0, 0),
  (99, .ireturn, 1, 0, 0, 0)]
/-- RollCutterModel.piecesOf([II)I -/
def xT_58 : List xE := [(0, .iconst 0, 1, 0, 0, 0),
  (1, .istore_n 2, 1, 0, 0, 0),
  (2, .iconst 0, 1, 0, 0, 0),
  (3, .istore_n 3, 1, 0, 0, 0),
  (4, .iload_n 3, 1, 0, 0, 0),
  (5, .bipush (6), 2, 0, 0, 0),
  (7, .if_icmp .ge (17), 3, 0, 0, 0),
  (10, .iload_n 2, 1, 0, 0, 0),
  (11, .aload_n 0, 1, 0, 0, 0),
  (12, .iload_n 1, 1, 0, 0, 0),
  (13, .iload_n 3, 1, 0, 0, 0),
  (14, .iadd, 1, 0, 0, 0),
  (15, .iaload, 1, 0, 0, 0),
  (16, .iadd, 1, 0, 0, 0),
  (17, .istore_n 2, 1, 0, 0, 0),
  (18, .iinc 3 (1), 3, 0, 0, 0),
  (21, .goto (-17), 3, 0, 0, 0),
  (24, .iload_n 2, 1, 0, 0, 0),
  (25, .ireturn, 1, 0, 0, 0)]
/-- RollCutterModel.tries(IIII)V -/
def xT_59 : List xE := [(0, .iload_n 1, 1, 0, 0, 0),
  (1, .aload_n 0, 1, 0, 0, 0),
  (2, .getfield 9, 3, 1159, 1100, 4),
  (5, .iconst 4, 1, 0, 0, 0),
  (6, .iaload, 1, 0, 0, 0),
  (7, .if_icmp .ne (20), 3, 0, 0, 0),
  (10, .iload_n 3, 1, 0, 0, 0),
  (11, .aload_n 0, 1, 0, 0, 0),
  (12, .getfield 9, 3, 1159, 1100, 4),
  (15, .iconst 2, 1, 0, 0, 0),
  (16, .iaload, 1, 0, 0, 0),
  (17, .if_icmp .ge (9), 3, 0, 0, 0),
  (20, .aload_n 0, 1, 0, 0, 0),
  (21, .iload 4, 2, 0, 0, 0),
  (23, .invokevirtual 124, 3, 1341, 99, 0),
  (26, .return_, 1, 0, 0, 0),
  (27, .aload_n 0, 1, 0, 0, 0),
  (28, .getfield 9, 3, 1159, 1100, 4),
  (31, .iconst 5, 1, 0, 0, 0),
  (32, .iload_n 1, 1, 0, 0, 0),
  (33, .iadd, 1, 0, 0, 0),
  (34, .iaload, 1, 0, 0, 0),
  (35, .aload_n 0, 1, 0, 0, 0),
  (36, .getfield 9, 3, 1159, 1100, 4),
  (39, .iconst 1, 1, 0, 0, 0),
  (40, .iaload, 1, 0, 0, 0),
  (41, .iadd, 1, 0, 0, 0),
  (42, .istore 5, 2, 0, 0, 0),
  (44, .aload_n 0, 1, 0, 0, 0),
  (45, .getfield 19, 3, 1164, 1105, 4),
  (48, .iload_n 1, 1, 0, 0, 0),
  (49, .iaload, 1, 0, 0, 0),
  (50, .iload_n 3, 1, 0, 0, 0),
  (51, .iload_n 2, 1, 0, 0, 0),
  (52, .iload 5, 2, 0, 0, 0),
  (54, .idiv, 1, 0, 0, 0),
  (55, .invokestatic 128, 3, 1356, 11, 0),
  (58, .invokestatic 128, 3, 1356, 11, 0),
  (61, .istore 6, 2, 0, 0, 0),
  (63, .iload 6, 2, 0, 0, 0),
  (65, .ifCond .lt (37), 3, 0, 0, 0),
  (68, .aload_n 0, 1, 0, 0, 0),
  (69, .getfield 16, 3, 1163, 1104, 4),
  (72, .iload_n 1, 1, 0, 0, 0),
  (73, .iload 6, 2, 0, 0, 0),
  (75, .iastore, 1, 0, 0, 0),
  (76, .aload_n 0, 1, 0, 0, 0),
  (77, .iload_n 1, 1, 0, 0, 0),
  (78, .iconst 1, 1, 0, 0, 0),
  (79, .iadd, 1, 0, 0, 0),
  (80, .iload_n 2, 1, 0, 0, 0),
  (81, .iload 6, 2, 0, 0, 0),
  (83, .iload 5, 2, 0, 0, 0),
  (85, .imul, 1, 0, 0, 0),
  (86, .isub, 1, 0, 0, 0),
  (87, .iload_n 3, 1, 0, 0, 0),
  (88, .iload 6, 2, 0, 0, 0),
  (90, .isub, 1, 0, 0, 0),
  (91, .iload 4, 2, 0, 0, 0),
  (93, .invokevirtual 131, 3, 1337, 0, 59),
  (96, .iinc 6 (-1), 3, 0, 0, 0),
  (99, .goto (-36), 3, 0, 0, 0),
  (102, .aload_n 0, 1, 0, 0, 0),
  (103, .getfield 16, 3, 1163, 1104, 4),
  (106, .iload_n 1, 1, 0, 0, 0),
  (107, .iconst 0, 1, 0, 0, 0),
  (108, .iastore, 1, 0, 0, 0),
  (109, .return_, 1, 0, 0, 0)]
/-- RollCutterModel.triesAll(I)V -/
def xT_60 : List xE := [(0, .aload_n 0, 1, 0, 0, 0),
  (1, .lconst 0, 1, 0, 0, 0),
  (2, .putfield 135, 3, 1166, 1107, 1),
  (5, .aload_n 0, 1, 0, 0, 0),
  (6, .iconst 0, 1, 0, 0, 0),
  (7, .aload_n 0, 1, 0, 0, 0),
  (8, .getfield 9, 3, 1159, 1100, 4),
  (11, .iconst 0, 1, 0, 0, 0),
  (12, .iaload, 1, 0, 0, 0),
  (13, .aload_n 0, 1, 0, 0, 0),
  (14, .getfield 9, 3, 1159, 1100, 4),
  (17, .iconst 1, 1, 0, 0, 0),
  (18, .iaload, 1, 0, 0, 0),
  (19, .iadd, 1, 0, 0, 0),
  (20, .aload_n 0, 1, 0, 0, 0),
  (21, .getfield 9, 3, 1159, 1100, 4),
  (24, .iconst 2, 1, 0, 0, 0),
  (25, .iaload, 1, 0, 0, 0),
  (26, .iload_n 1, 1, 0, 0, 0),
  (27, .invokevirtual 131, 3, 1337, 0, 59),
  (30, .return_, 1, 0, 0, 0)]
/-- RollCutterModel.patterns(I)I -/
def xT_61 : List xE := [(0, .iload_n 1, 1, 0, 0, 0),
  (1, .iconst 0, 1, 0, 0, 0),
  (2, .iconst 1, 1, 0, 0, 0),
  (3, .invokestatic 87, 3, 1293, 2, 48),
  (6, .ifCond .ne (5), 3, 0, 0, 0),
  (9, .iconst (-1), 1, 0, 0, 0),
  (10, .ireturn, 1, 0, 0, 0),
  (11, .iconst 0, 1, 0, 0, 0),
  (12, .istore_n 2, 1, 0, 0, 0),
  (13, .iload_n 2, 1, 0, 0, 0),
  (14, .bipush (6), 2, 0, 0, 0),
  (16, .if_icmp .ge (17), 3, 0, 0, 0),
  (19, .aload_n 0, 1, 0, 0, 0),
  (20, .getfield 19, 3, 1164, 1105, 4),
  (23, .iload_n 2, 1, 0, 0, 0),
  (24, .bipush (12), 2, 0, 0, 0),
  (26, .iastore, 1, 0, 0, 0),
  (27, .iinc 2 (1), 3, 0, 0, 0),
  (30, .goto (-17), 3, 0, 0, 0),
  (33, .aload_n 0, 1, 0, 0, 0),
  (34, .iload_n 1, 1, 0, 0, 0),
  (35, .invokevirtual 143, 3, 1333, 0, 60),
  (38, .aload_n 0, 1, 0, 0, 0),
  (39, .getfield 135, 3, 1166, 1107, 1),
  (42, .l2i, 1, 0, 0, 0),
  (43, .ireturn, 1, 0, 0, 0)]
/-- RollCutterModel.minor(III)J -/
def xT_62 : List xE := [(0, .iload_n 1, 1, 0, 0, 0),
  (1, .aload_n 0, 1, 0, 0, 0),
  (2, .getfield 146, 3, 1167, 1108, 0),
  (5, .if_icmp .ne (5), 3, 0, 0, 0),
  (8, .lconst 1, 1, 0, 0, 0),
  (9, .lreturn, 1, 0, 0, 0),
  (10, .iload_n 1, 1, 0, 0, 0),
  (11, .iload_n 2, 1, 0, 0, 0),
  (12, .if_icmp .ne (13), 3, 0, 0, 0),
  (15, .aload_n 0, 1, 0, 0, 0),
  (16, .iload_n 1, 1, 0, 0, 0),
  (17, .iconst 1, 1, 0, 0, 0),
  (18, .iadd, 1, 0, 0, 0),
  (19, .iload_n 2, 1, 0, 0, 0),
  (20, .iload_n 3, 1, 0, 0, 0),
  (21, .invokevirtual 150, 3, 1377, 0, 62),
  (24, .lreturn, 1, 0, 0, 0),
  (25, .lconst 0, 1, 0, 0, 0),
  (26, .lstore 4, 2, 0, 0, 0),
  (28, .iconst 1, 1, 0, 0, 0),
  (29, .istore 6, 2, 0, 0, 0),
  (31, .iconst 0, 1, 0, 0, 0),
  (32, .istore 7, 2, 0, 0, 0),
  (34, .iload 7, 2, 0, 0, 0),
  (36, .aload_n 0, 1, 0, 0, 0),
  (37, .getfield 146, 3, 1167, 1108, 0),
  (40, .if_icmp .ge (78), 3, 0, 0, 0),
  (43, .iload_n 3, 1, 0, 0, 0),
  (44, .iload 7, 2, 0, 0, 0),
  (46, .ishr, 1, 0, 0, 0),
  (47, .iconst 1, 1, 0, 0, 0),
  (48, .iand, 1, 0, 0, 0),
  (49, .ifCond .ne (6), 3, 0, 0, 0),
  (52, .goto (60), 3, 0, 0, 0),
  (55, .aload_n 0, 1, 0, 0, 0),
  (56, .getfield 28, 3, 1169, 1110, 4),
  (59, .bipush (6), 2, 0, 0, 0),
  (61, .iload 7, 2, 0, 0, 0),
  (63, .imul, 1, 0, 0, 0),
  (64, .aload_n 0, 1, 0, 0, 0),
  (65, .getfield 25, 3, 1168, 1109, 4),
  (68, .iload_n 1, 1, 0, 0, 0),
  (69, .iaload, 1, 0, 0, 0),
  (70, .iadd, 1, 0, 0, 0),
  (71, .iaload, 1, 0, 0, 0),
  (72, .istore 8, 2, 0, 0, 0),
  (74, .iload 8, 2, 0, 0, 0),
  (76, .ifCond .eq (31), 3, 0, 0, 0),
  (79, .lload 4, 2, 0, 0, 0),
  (81, .iload 6, 2, 0, 0, 0),
  (83, .iload 8, 2, 0, 0, 0),
  (85, .imul, 1, 0, 0, 0),
  (86, .i2l, 1, 0, 0, 0),
  (87, .aload_n 0, 1, 0, 0, 0),
  (88, .iload_n 1, 1, 0, 0, 0),
  (89, .iconst 1, 1, 0, 0, 0),
  (90, .iadd, 1, 0, 0, 0),
  (91, .iload_n 2, 1, 0, 0, 0),
  (92, .iload_n 3, 1, 0, 0, 0),
  (93, .iconst 1, 1, 0, 0, 0),
  (94, .iload 7, 2, 0, 0, 0),
  (96, .ishl, 1, 0, 0, 0),
  (97, .iconst (-1), 1, 0, 0, 0),
  (98, .ixor, 1, 0, 0, 0),
  (99, .iand, 1, 0, 0, 0),
  (100, .invokevirtual 150, 3, 1377, 0, 62),
  (103, .lmul, 1, 0, 0, 0),
  (104, .ladd, 1, 0, 0, 0),
  (105, .lstore 4, 2, 0, 0, 0),
  (107, .iload 6, 2, 0, 0, 0),
  (109, .ineg, 1, 0, 0, 0),
  (110, .istore 6, 2, 0, 0, 0),
  (112, .iinc 7 (1), 3, 0, 0, 0),
  (115, .goto (-81), 3, 0, 0, 0),
  (118, .lload 4, 2, 0, 0, 0),
  (120, .lreturn, 1, 0, 0, 0)]
/-- RollCutterModel.reckons()V -/
def xT_63 : List xE := [(0, .iconst 1, 1, 0, 0, 0),
  (1, .aload_n 0, 1, 0, 0, 0),
  (2, .getfield 146, 3, 1167, 1108, 0),
  (5, .ishl, 1, 0, 0, 0),
  (6, .iconst 1, 1, 0, 0, 0),
  (7, .isub, 1, 0, 0, 0),
  (8, .istore_n 1, 1, 0, 0, 0),
  (9, .aload_n 0, 1, 0, 0, 0),
  (10, .iconst 0, 1, 0, 0, 0),
  (11, .iconst (-1), 1, 0, 0, 0),
  (12, .iload_n 1, 1, 0, 0, 0),
  (13, .invokevirtual 150, 3, 1377, 0, 62),
  (16, .lstore_n 2, 1, 0, 0, 0),
  (17, .lload_n 2, 1, 0, 0, 0),
  (18, .lconst 0, 1, 0, 0, 0),
  (19, .lcmp, 1, 0, 0, 0),
  (20, .ifCond .ge (9), 3, 0, 0, 0),
  (23, .ldc2_w 154, 3, 1381, 18446744073709551615, 0),
  (26, .goto (4), 3, 0, 0, 0),
  (29, .lconst 1, 1, 0, 0, 0),
  (30, .lstore 4, 2, 0, 0, 0),
  (32, .aload_n 0, 1, 0, 0, 0),
  (33, .lload_n 2, 1, 0, 0, 0),
  (34, .lload 4, 2, 0, 0, 0),
  (36, .lmul, 1, 0, 0, 0),
  (37, .putfield 156, 3, 1175, 1116, 1),
  (40, .iconst 0, 1, 0, 0, 0),
  (41, .istore 6, 2, 0, 0, 0),
  (43, .iload 6, 2, 0, 0, 0),
  (45, .bipush (6), 2, 0, 0, 0),
  (47, .if_icmp .ge (17), 3, 0, 0, 0),
  (50, .aload_n 0, 1, 0, 0, 0),
  (51, .getfield 38, 3, 1172, 1113, 4),
  (54, .iload 6, 2, 0, 0, 0),
  (56, .lconst 0, 1, 0, 0, 0),
  (57, .lastore, 1, 0, 0, 0),
  (58, .iinc 6 (1), 3, 0, 0, 0),
  (61, .goto (-18), 3, 0, 0, 0),
  (64, .iconst 0, 1, 0, 0, 0),
  (65, .istore 6, 2, 0, 0, 0),
  (67, .iload 6, 2, 0, 0, 0),
  (69, .aload_n 0, 1, 0, 0, 0),
  (70, .getfield 146, 3, 1167, 1108, 0),
  (73, .if_icmp .ge (134), 3, 0, 0, 0),
  (76, .aload_n 0, 1, 0, 0, 0),
  (77, .getfield 41, 3, 1173, 1114, 4),
  (80, .iload 6, 2, 0, 0, 0),
  (82, .lconst 0, 1, 0, 0, 0),
  (83, .lastore, 1, 0, 0, 0),
  (84, .iconst 0, 1, 0, 0, 0),
  (85, .istore 7, 2, 0, 0, 0),
  (87, .iload 7, 2, 0, 0, 0),
  (89, .aload_n 0, 1, 0, 0, 0),
  (90, .getfield 146, 3, 1167, 1108, 0),
  (93, .if_icmp .ge (108), 3, 0, 0, 0),
  (96, .aload_n 0, 1, 0, 0, 0),
  (97, .iconst 0, 1, 0, 0, 0),
  (98, .iload 7, 2, 0, 0, 0),
  (100, .iload_n 1, 1, 0, 0, 0),
  (101, .iconst 1, 1, 0, 0, 0),
  (102, .iload 6, 2, 0, 0, 0),
  (104, .ishl, 1, 0, 0, 0),
  (105, .iconst (-1), 1, 0, 0, 0),
  (106, .ixor, 1, 0, 0, 0),
  (107, .iand, 1, 0, 0, 0),
  (108, .invokevirtual 150, 3, 1377, 0, 62),
  (111, .lload 4, 2, 0, 0, 0),
  (113, .lmul, 1, 0, 0, 0),
  (114, .iload 6, 2, 0, 0, 0),
  (116, .iload 7, 2, 0, 0, 0),
  (118, .iadd, 1, 0, 0, 0),
  (119, .iconst 2, 1, 0, 0, 0),
  (120, .irem, 1, 0, 0, 0),
  (121, .ifCond .ne (7), 3, 0, 0, 0),
  (124, .lconst 1, 1, 0, 0, 0),
  (125, .goto (6), 3, 0, 0, 0),
  (128, .ldc2_w 154, 3, 1381, 18446744073709551615, 0),
  (131, .lmul, 1, 0, 0, 0),
  (132, .lstore 8, 2, 0, 0, 0),
  (134, .aload_n 0, 1, 0, 0, 0),
  (135, .getfield 34, 3, 1171, 1112, 4),
  (138, .bipush (6), 2, 0, 0, 0),
  (140, .iload 6, 2, 0, 0, 0),
  (142, .imul, 1, 0, 0, 0),
  (143, .iload 7, 2, 0, 0, 0),
  (145, .iadd, 1, 0, 0, 0),
  (146, .lload 8, 2, 0, 0, 0),
  (148, .lastore, 1, 0, 0, 0),
  (149, .aload_n 0, 1, 0, 0, 0),
  (150, .getfield 41, 3, 1173, 1114, 4),
  (153, .iload 6, 2, 0, 0, 0),
  (155, .dup2, 1, 0, 0, 0),
  (156, .laload, 1, 0, 0, 0),
  (157, .lload 8, 2, 0, 0, 0),
  (159, .aload_n 0, 1, 0, 0, 0),
  (160, .getfield 9, 3, 1159, 1100, 4),
  (163, .bipush (11), 2, 0, 0, 0),
  (165, .aload_n 0, 1, 0, 0, 0),
  (166, .getfield 25, 3, 1168, 1109, 4),
  (169, .iload 7, 2, 0, 0, 0),
  (171, .iaload, 1, 0, 0, 0),
  (172, .iadd, 1, 0, 0, 0),
  (173, .iaload, 1, 0, 0, 0),
  (174, .i2l, 1, 0, 0, 0),
  (175, .lmul, 1, 0, 0, 0),
  (176, .ladd, 1, 0, 0, 0),
  (177, .lastore, 1, 0, 0, 0),
  (178, .aload_n 0, 1, 0, 0, 0),
  (179, .getfield 38, 3, 1172, 1113, 4),
  (182, .aload_n 0, 1, 0, 0, 0),
  (183, .getfield 25, 3, 1168, 1109, 4),
  (186, .iload 7, 2, 0, 0, 0),
  (188, .iaload, 1, 0, 0, 0),
  (189, .dup2, 1, 0, 0, 0),
  (190, .laload, 1, 0, 0, 0),
  (191, .lload 8, 2, 0, 0, 0),
  (193, .ladd, 1, 0, 0, 0),
  (194, .lastore, 1, 0, 0, 0),
  (195, .iinc 7 (1), 3, 0, 0, 0),
  (198, .goto (-111), 3, 0, 0, 0),
  (201, .iinc 6 (1), 3, 0, 0, 0),
  (204, .goto (-137), 3, 0, 0, 0),
  (207, .return_, 1, 0, 0, 0)]
/-- RollCutterModel.beginsRows()V -/
def xT_64 : List xE := [(0, .aload_n 0, 1, 0, 0, 0),
  (1, .iconst 0, 1, 0, 0, 0),
  (2, .putfield 146, 3, 1167, 1108, 0),
  (5, .aload_n 0, 1, 0, 0, 0),
  (6, .iconst 0, 1, 0, 0, 0),
  (7, .putfield 162, 3, 1176, 1117, 0),
  (10, .iconst 0, 1, 0, 0, 0),
  (11, .istore_n 1, 1, 0, 0, 0),
  (12, .iload_n 1, 1, 0, 0, 0),
  (13, .bipush (36), 2, 0, 0, 0),
  (15, .if_icmp .ge (16), 3, 0, 0, 0),
  (18, .aload_n 0, 1, 0, 0, 0),
  (19, .getfield 28, 3, 1169, 1110, 4),
  (22, .iload_n 1, 1, 0, 0, 0),
  (23, .iconst 0, 1, 0, 0, 0),
  (24, .iastore, 1, 0, 0, 0),
  (25, .iinc 1 (1), 3, 0, 0, 0),
  (28, .goto (-16), 3, 0, 0, 0),
  (31, .iconst 0, 1, 0, 0, 0),
  (32, .istore_n 1, 1, 0, 0, 0),
  (33, .iload_n 1, 1, 0, 0, 0),
  (34, .bipush (6), 2, 0, 0, 0),
  (36, .if_icmp .ge (125), 3, 0, 0, 0),
  (39, .iload_n 1, 1, 0, 0, 0),
  (40, .aload_n 0, 1, 0, 0, 0),
  (41, .getfield 9, 3, 1159, 1100, 4),
  (44, .iconst 4, 1, 0, 0, 0),
  (45, .iaload, 1, 0, 0, 0),
  (46, .if_icmp .ge (15), 3, 0, 0, 0),
  (49, .aload_n 0, 1, 0, 0, 0),
  (50, .iload_n 1, 1, 0, 0, 0),
  (51, .invokevirtual 165, 3, 1369, 99, 0),
  (54, .ifCond .eq (7), 3, 0, 0, 0),
  (57, .iconst 1, 1, 0, 0, 0),
  (58, .goto (4), 3, 0, 0, 0),
  (61, .iconst 0, 1, 0, 0, 0),
  (62, .istore_n 2, 1, 0, 0, 0),
  (63, .aload_n 0, 1, 0, 0, 0),
  (64, .getfield 19, 3, 1164, 1105, 4),
  (67, .iload_n 1, 1, 0, 0, 0),
  (68, .iload_n 2, 1, 0, 0, 0),
  (69, .ifCond .eq (8), 3, 0, 0, 0),
  (72, .bipush (12), 2, 0, 0, 0),
  (74, .goto (4), 3, 0, 0, 0),
  (77, .iconst 0, 1, 0, 0, 0),
  (78, .iastore, 1, 0, 0, 0),
  (79, .iload_n 2, 1, 0, 0, 0),
  (80, .ifCond .eq (75), 3, 0, 0, 0),
  (83, .aload_n 0, 1, 0, 0, 0),
  (84, .getfield 25, 3, 1168, 1109, 4),
  (87, .aload_n 0, 1, 0, 0, 0),
  (88, .getfield 146, 3, 1167, 1108, 0),
  (91, .iload_n 1, 1, 0, 0, 0),
  (92, .iastore, 1, 0, 0, 0),
  (93, .aload_n 0, 1, 0, 0, 0),
  (94, .getfield 28, 3, 1169, 1110, 4),
  (97, .bipush (6), 2, 0, 0, 0),
  (99, .aload_n 0, 1, 0, 0, 0),
  (100, .getfield 146, 3, 1167, 1108, 0),
  (103, .imul, 1, 0, 0, 0),
  (104, .iload_n 1, 1, 0, 0, 0),
  (105, .iadd, 1, 0, 0, 0),
  (106, .aload_n 0, 1, 0, 0, 0),
  (107, .getfield 9, 3, 1159, 1100, 4),
  (110, .iconst 2, 1, 0, 0, 0),
  (111, .iaload, 1, 0, 0, 0),
  (112, .aload_n 0, 1, 0, 0, 0),
  (113, .getfield 9, 3, 1159, 1100, 4),
  (116, .iconst 0, 1, 0, 0, 0),
  (117, .iaload, 1, 0, 0, 0),
  (118, .aload_n 0, 1, 0, 0, 0),
  (119, .getfield 9, 3, 1159, 1100, 4),
  (122, .iconst 1, 1, 0, 0, 0),
  (123, .iaload, 1, 0, 0, 0),
  (124, .iadd, 1, 0, 0, 0),
  (125, .aload_n 0, 1, 0, 0, 0),
  (126, .getfield 9, 3, 1159, 1100, 4),
  (129, .iconst 5, 1, 0, 0, 0),
  (130, .iload_n 1, 1, 0, 0, 0),
  (131, .iadd, 1, 0, 0, 0),
  (132, .iaload, 1, 0, 0, 0),
  (133, .aload_n 0, 1, 0, 0, 0),
  (134, .getfield 9, 3, 1159, 1100, 4),
  (137, .iconst 1, 1, 0, 0, 0),
  (138, .iaload, 1, 0, 0, 0),
  (139, .iadd, 1, 0, 0, 0),
  (140, .idiv, 1, 0, 0, 0),
  (141, .invokestatic 128, 3, 1356, 11, 0),
  (144, .iastore, 1, 0, 0, 0),
  (145, .aload_n 0, 1, 0, 0, 0),
  (146, .dup, 1, 0, 0, 0),
  (147, .getfield 146, 3, 1167, 1108, 0),
  (150, .iconst 1, 1, 0, 0, 0),
  (151, .iadd, 1, 0, 0, 0),
  (152, .putfield 146, 3, 1167, 1108, 0),
  (155, .iinc 1 (1), 3, 0, 0, 0),
  (158, .goto (-125), 3, 0, 0, 0),
  (161, .iconst 0, 1, 0, 0, 0),
  (162, .istore_n 1, 1, 0, 0, 0),
  (163, .iload_n 1, 1, 0, 0, 0),
  (164, .bipush (36), 2, 0, 0, 0),
  (166, .if_icmp .ge (21), 3, 0, 0, 0),
  (169, .aload_n 0, 1, 0, 0, 0),
  (170, .getfield 31, 3, 1170, 1111, 4),
  (173, .iload_n 1, 1, 0, 0, 0),
  (174, .aload_n 0, 1, 0, 0, 0),
  (175, .getfield 28, 3, 1169, 1110, 4),
  (178, .iload_n 1, 1, 0, 0, 0),
  (179, .iaload, 1, 0, 0, 0),
  (180, .iastore, 1, 0, 0, 0),
  (181, .iinc 1 (1), 3, 0, 0, 0),
  (184, .goto (-21), 3, 0, 0, 0),
  (187, .return_, 1, 0, 0, 0)]
/-- RollCutterModel.finds()V -/
def xT_65 : List xE := [(0, .aload_n 0, 1, 0, 0, 0),
  (1, .getfield 91, 3, 1162, 1103, 3),
  (4, .ifCond .eq (4), 3, 0, 0, 0),
  (7, .return_, 1, 0, 0, 0),
  (8, .aload_n 0, 1, 0, 0, 0),
  (9, .iconst 1, 1, 0, 0, 0),
  (10, .putfield 91, 3, 1162, 1103, 3),
  (13, .aload_n 0, 1, 0, 0, 0),
  (14, .invokevirtual 168, 3, 1365, 0, 64),
  (17, .aload_n 0, 1, 0, 0, 0),
  (18, .invokevirtual 171, 3, 1373, 0, 63),
  (21, .aload_n 0, 1, 0, 0, 0),
  (22, .iconst 2, 1, 0, 0, 0),
  (23, .invokevirtual 143, 3, 1333, 0, 60),
  (26, .aload_n 0, 1, 0, 0, 0),
  (27, .getfield 135, 3, 1166, 1107, 1),
  (30, .aload_n 0, 1, 0, 0, 0),
  (31, .getfield 156, 3, 1175, 1116, 1),
  (34, .lcmp, 1, 0, 0, 0),
  (35, .ifCond .le (91), 3, 0, 0, 0),
  (38, .aload_n 0, 1, 0, 0, 0),
  (39, .invokevirtual 174, 3, 1382, 99, 0),
  (42, .istore_n 1, 1, 0, 0, 0),
  (43, .aload_n 0, 1, 0, 0, 0),
  (44, .getfield 47, 3, 1177, 1118, 4),
  (47, .aload_n 0, 1, 0, 0, 0),
  (48, .getfield 162, 3, 1176, 1117, 0),
  (51, .iload_n 1, 1, 0, 0, 0),
  (52, .iastore, 1, 0, 0, 0),
  (53, .iconst 0, 1, 0, 0, 0),
  (54, .istore_n 2, 1, 0, 0, 0),
  (55, .iload_n 2, 1, 0, 0, 0),
  (56, .bipush (6), 2, 0, 0, 0),
  (58, .if_icmp .ge (46), 3, 0, 0, 0),
  (61, .aload_n 0, 1, 0, 0, 0),
  (62, .getfield 50, 3, 1178, 1119, 4),
  (65, .bipush (6), 2, 0, 0, 0),
  (67, .aload_n 0, 1, 0, 0, 0),
  (68, .getfield 162, 3, 1176, 1117, 0),
  (71, .imul, 1, 0, 0, 0),
  (72, .iload_n 2, 1, 0, 0, 0),
  (73, .iadd, 1, 0, 0, 0),
  (74, .aload_n 0, 1, 0, 0, 0),
  (75, .getfield 22, 3, 1165, 1106, 4),
  (78, .iload_n 2, 1, 0, 0, 0),
  (79, .iaload, 1, 0, 0, 0),
  (80, .iastore, 1, 0, 0, 0),
  (81, .aload_n 0, 1, 0, 0, 0),
  (82, .getfield 28, 3, 1169, 1110, 4),
  (85, .bipush (6), 2, 0, 0, 0),
  (87, .iload_n 1, 1, 0, 0, 0),
  (88, .imul, 1, 0, 0, 0),
  (89, .iload_n 2, 1, 0, 0, 0),
  (90, .iadd, 1, 0, 0, 0),
  (91, .aload_n 0, 1, 0, 0, 0),
  (92, .getfield 22, 3, 1165, 1106, 4),
  (95, .iload_n 2, 1, 0, 0, 0),
  (96, .iaload, 1, 0, 0, 0),
  (97, .iastore, 1, 0, 0, 0),
  (98, .iinc 2 (1), 3, 0, 0, 0),
  (101, .goto (-46), 3, 0, 0, 0),
  (104, .aload_n 0, 1, 0, 0, 0),
  (105, .dup, 1, 0, 0, 0),
  (106, .getfield 162, 3, 1176, 1117, 0),
  (109, .iconst 1, 1, 0, 0, 0),
  (110, .iadd, 1, 0, 0, 0),
  (111, .putfield 162, 3, 1176, 1117, 0),
  (114, .aload_n 0, 1, 0, 0, 0),
  (115, .invokevirtual 171, 3, 1373, 0, 63),
  (118, .aload_n 0, 1, 0, 0, 0),
  (119, .iconst 2, 1, 0, 0, 0),
  (120, .invokevirtual 143, 3, 1333, 0, 60),
  (123, .goto (-97), 3, 0, 0, 0),
  (126, .aload_n 0, 1, 0, 0, 0),
  (127, .invokevirtual 177, 3, 1390, 0, 82),
  (130, .aload_n 0, 1, 0, 0, 0),
  (131, .invokevirtual 180, 3, 1410, 0, 88),
  (134, .return_, 1, 0, 0, 0)]
/-- RollCutterModel.rows()I -/
def xT_66 : List xE := [(0, .aload_n 0, 1, 0, 0, 0),
  (1, .invokevirtual 183, 3, 1361, 0, 65),
  (4, .aload_n 0, 1, 0, 0, 0),
  (5, .getfield 146, 3, 1167, 1108, 0),
  (8, .ireturn, 1, 0, 0, 0)]
/-- RollCutterModel.row(II)I -/
def xT_67 : List xE := [(0, .aload_n 0, 1, 0, 0, 0),
  (1, .invokevirtual 183, 3, 1361, 0, 65),
  (4, .iload_n 1, 1, 0, 0, 0),
  (5, .iconst 0, 1, 0, 0, 0),
  (6, .aload_n 0, 1, 0, 0, 0),
  (7, .getfield 146, 3, 1167, 1108, 0),
  (10, .iconst 1, 1, 0, 0, 0),
  (11, .isub, 1, 0, 0, 0),
  (12, .invokestatic 87, 3, 1293, 2, 48),
  (15, .ifCond .ne (5), 3, 0, 0, 0),
  (18, .iconst (-1), 1, 0, 0, 0),
  (19, .ireturn, 1, 0, 0, 0),
  (20, .iload_n 2, 1, 0, 0, 0),
  (21, .ifCond .ne (17), 3, 0, 0, 0),
  (24, .aload_n 0, 1, 0, 0, 0),
  (25, .getfield 28, 3, 1169, 1110, 4),
  (28, .bipush (6), 2, 0, 0, 0),
  (30, .iload_n 1, 1, 0, 0, 0),
  (31, .imul, 1, 0, 0, 0),
  (32, .invokestatic 121, 3, 1353, 2, 58),
  (35, .goto (40), 3, 0, 0, 0),
  (38, .iload_n 2, 1, 0, 0, 0),
  (39, .iconst 1, 1, 0, 0, 0),
  (40, .if_icmp .ne (18), 3, 0, 0, 0),
  (43, .aload_n 0, 1, 0, 0, 0),
  (44, .aload_n 0, 1, 0, 0, 0),
  (45, .getfield 28, 3, 1169, 1110, 4),
  (48, .bipush (6), 2, 0, 0, 0),
  (50, .iload_n 1, 1, 0, 0, 0),
  (51, .imul, 1, 0, 0, 0),
  (52, .invokevirtual 117, 3, 1349, 99, 0),
  (55, .goto (20), 3, 0, 0, 0),
  (58, .aload_n 0, 1, 0, 0, 0),
  (59, .aload_n 0, 1, 0, 0, 0),
  (60, .getfield 28, 3, 1169, 1110, 4),
  (63, .bipush (6), 2, 0, 0, 0),
  (65, .iload_n 1, 1, 0, 0, 0),
  (66, .imul, 1, 0, 0, 0),
  (67, .iconst 2, 1, 0, 0, 0),
  (68, .iload_n 2, 1, 0, 0, 0),
  (69, .invokestatic 107, 3, 1328, 7, 0),
  (72, .invokevirtual 186, 3, 1427, 99, 0),
  (75, .ireturn, 1, 0, 0, 0)]
/-- RollCutterModel.part(JJI)J -/
def xT_68 : List xE := [(0, .lload_n 0, 1, 0, 0, 0),
  (1, .invokestatic 190, 3, 1438, 8, 0),
  (4, .lstore 5, 2, 0, 0, 0),
  (6, .lload_n 2, 1, 0, 0, 0),
  (7, .lstore 7, 2, 0, 0, 0),
  (9, .lload 7, 2, 0, 0, 0),
  (11, .lconst 0, 1, 0, 0, 0),
  (12, .lcmp, 1, 0, 0, 0),
  (13, .ifCond .eq (21), 3, 0, 0, 0),
  (16, .lload 5, 2, 0, 0, 0),
  (18, .lload 7, 2, 0, 0, 0),
  (20, .lrem, 1, 0, 0, 0),
  (21, .lstore 9, 2, 0, 0, 0),
  (23, .lload 7, 2, 0, 0, 0),
  (25, .lstore 5, 2, 0, 0, 0),
  (27, .lload 9, 2, 0, 0, 0),
  (29, .lstore 7, 2, 0, 0, 0),
  (31, .goto (-22), 3, 0, 0, 0),
  (34, .iload 4, 2, 0, 0, 0),
  (36, .ifCond .ne (7), 3, 0, 0, 0),
  (39, .lload_n 0, 1, 0, 0, 0),
  (40, .goto (4), 3, 0, 0, 0),
  (43, .lload_n 2, 1, 0, 0, 0),
  (44, .lload 5, 2, 0, 0, 0),
  (46, .ldiv, 1, 0, 0, 0),
  (47, .lreturn, 1, 0, 0, 0)]
/-- RollCutterModel.amount(II)J -/
def xT_69 : List xE := [(0, .aload_n 0, 1, 0, 0, 0),
  (1, .invokevirtual 183, 3, 1361, 0, 65),
  (4, .iload_n 1, 1, 0, 0, 0),
  (5, .iconst 0, 1, 0, 0, 0),
  (6, .aload_n 0, 1, 0, 0, 0),
  (7, .getfield 146, 3, 1167, 1108, 0),
  (10, .iconst 1, 1, 0, 0, 0),
  (11, .isub, 1, 0, 0, 0),
  (12, .invokestatic 87, 3, 1293, 2, 48),
  (15, .ifCond .eq (29), 3, 0, 0, 0),
  (18, .iload_n 2, 1, 0, 0, 0),
  (19, .iconst 0, 1, 0, 0, 0),
  (20, .iconst 1, 1, 0, 0, 0),
  (21, .invokestatic 87, 3, 1293, 2, 48),
  (24, .ifCond .eq (20), 3, 0, 0, 0),
  (27, .aload_n 0, 1, 0, 0, 0),
  (28, .getfield 41, 3, 1173, 1114, 4),
  (31, .iload_n 1, 1, 0, 0, 0),
  (32, .laload, 1, 0, 0, 0),
  (33, .aload_n 0, 1, 0, 0, 0),
  (34, .getfield 156, 3, 1175, 1116, 1),
  (37, .iload_n 2, 1, 0, 0, 0),
  (38, .invokestatic 194, 3, 1435, 2, 68),
  (41, .goto (6), 3, 0, 0, 0),
  (44, .ldc2_w 154, 3, 1381, 18446744073709551615, 0),
  (47, .lreturn, 1, 0, 0, 0)]
/-- RollCutterModel.wantedAt(I)I -/
def xT_70 : List xE := [(0, .iconst 0, 1, 0, 0, 0),
  (1, .istore_n 2, 1, 0, 0, 0),
  (2, .iload_n 2, 1, 0, 0, 0),
  (3, .aload_n 0, 1, 0, 0, 0),
  (4, .getfield 146, 3, 1167, 1108, 0),
  (7, .if_icmp .ge (21), 3, 0, 0, 0),
  (10, .aload_n 0, 1, 0, 0, 0),
  (11, .getfield 25, 3, 1168, 1109, 4),
  (14, .iload_n 2, 1, 0, 0, 0),
  (15, .iaload, 1, 0, 0, 0),
  (16, .iload_n 1, 1, 0, 0, 0),
  (17, .if_icmp .ne (5), 3, 0, 0, 0),
  (20, .iload_n 2, 1, 0, 0, 0),
  (21, .ireturn, 1, 0, 0, 0),
  (22, .iinc 2 (1), 3, 0, 0, 0),
  (25, .goto (-23), 3, 0, 0, 0),
  (28, .iconst (-1), 1, 0, 0, 0),
  (29, .ireturn, 1, 0, 0, 0)]
/-- RollCutterModel.share(III)J -/
def xT_71 : List xE := [(0, .aload_n 0, 1, 0, 0, 0),
  (1, .invokevirtual 183, 3, 1361, 0, 65),
  (4, .aload_n 0, 1, 0, 0, 0),
  (5, .iload_n 2, 1, 0, 0, 0),
  (6, .invokevirtual 198, 3, 1443, 0, 70),
  (9, .istore 4, 2, 0, 0, 0),
  (11, .iload_n 1, 1, 0, 0, 0),
  (12, .iconst 0, 1, 0, 0, 0),
  (13, .aload_n 0, 1, 0, 0, 0),
  (14, .getfield 146, 3, 1167, 1108, 0),
  (17, .iconst 1, 1, 0, 0, 0),
  (18, .isub, 1, 0, 0, 0),
  (19, .invokestatic 87, 3, 1293, 2, 48),
  (22, .ifCond .eq (40), 3, 0, 0, 0),
  (25, .iload 4, 2, 0, 0, 0),
  (27, .ifCond .lt (35), 3, 0, 0, 0),
  (30, .iload_n 3, 1, 0, 0, 0),
  (31, .iconst 0, 1, 0, 0, 0),
  (32, .iconst 1, 1, 0, 0, 0),
  (33, .invokestatic 87, 3, 1293, 2, 48),
  (36, .ifCond .eq (26), 3, 0, 0, 0),
  (39, .aload_n 0, 1, 0, 0, 0),
  (40, .getfield 34, 3, 1171, 1112, 4),
  (43, .bipush (6), 2, 0, 0, 0),
  (45, .iload_n 1, 1, 0, 0, 0),
  (46, .imul, 1, 0, 0, 0),
  (47, .iload 4, 2, 0, 0, 0),
  (49, .iadd, 1, 0, 0, 0),
  (50, .laload, 1, 0, 0, 0),
  (51, .aload_n 0, 1, 0, 0, 0),
  (52, .getfield 156, 3, 1175, 1116, 1),
  (55, .iload_n 3, 1, 0, 0, 0),
  (56, .invokestatic 194, 3, 1435, 2, 68),
  (59, .goto (6), 3, 0, 0, 0),
  (62, .ldc2_w 201, 3, 1447, 18446744072709551616, 0),
  (65, .lreturn, 1, 0, 0, 0)]
/-- RollCutterModel.price(II)J -/
def xT_72 : List xE := [(0, .aload_n 0, 1, 0, 0, 0),
  (1, .iload_n 1, 1, 0, 0, 0),
  (2, .invokevirtual 103, 3, 1308, 0, 49),
  (5, .ifCond .eq (12), 3, 0, 0, 0),
  (8, .iload_n 2, 1, 0, 0, 0),
  (9, .iconst 0, 1, 0, 0, 0),
  (10, .iconst 1, 1, 0, 0, 0),
  (11, .invokestatic 87, 3, 1293, 2, 48),
  (14, .ifCond .ne (7), 3, 0, 0, 0),
  (17, .ldc2_w 154, 3, 1381, 18446744073709551615, 0),
  (20, .lreturn, 1, 0, 0, 0),
  (21, .aload_n 0, 1, 0, 0, 0),
  (22, .invokevirtual 183, 3, 1361, 0, 65),
  (25, .aload_n 0, 1, 0, 0, 0),
  (26, .getfield 38, 3, 1172, 1113, 4),
  (29, .iload_n 1, 1, 0, 0, 0),
  (30, .laload, 1, 0, 0, 0),
  (31, .aload_n 0, 1, 0, 0, 0),
  (32, .getfield 156, 3, 1175, 1116, 1),
  (35, .iload_n 2, 1, 0, 0, 0),
  (36, .invokestatic 194, 3, 1435, 2, 68),
  (39, .lreturn, 1, 0, 0, 0)]
/-- RollCutterModel.sumOfAmounts()J -/
def xT_73 : List xE := [(0, .lconst 0, 1, 0, 0, 0),
  (1, .lstore_n 1, 1, 0, 0, 0),
  (2, .iconst 0, 1, 0, 0, 0),
  (3, .istore_n 3, 1, 0, 0, 0),
  (4, .iload_n 3, 1, 0, 0, 0),
  (5, .aload_n 0, 1, 0, 0, 0),
  (6, .getfield 146, 3, 1167, 1108, 0),
  (9, .if_icmp .ge (18), 3, 0, 0, 0),
  (12, .lload_n 1, 1, 0, 0, 0),
  (13, .aload_n 0, 1, 0, 0, 0),
  (14, .getfield 41, 3, 1173, 1114, 4),
  (17, .iload_n 3, 1, 0, 0, 0),
  (18, .laload, 1, 0, 0, 0),
  (19, .ladd, 1, 0, 0, 0),
  (20, .lstore_n 1, 1, 0, 0, 0),
  (21, .iinc 3 (1), 3, 0, 0, 0),
  (24, .goto (-20), 3, 0, 0, 0),
  (27, .lload_n 1, 1, 0, 0, 0),
  (28, .lreturn, 1, 0, 0, 0)]
/-- RollCutterModel.bound(I)J -/
def xT_74 : List xE := [(0, .iload_n 1, 1, 0, 0, 0),
  (1, .iconst 0, 1, 0, 0, 0),
  (2, .iconst 1, 1, 0, 0, 0),
  (3, .invokestatic 87, 3, 1293, 2, 48),
  (6, .ifCond .ne (7), 3, 0, 0, 0),
  (9, .ldc2_w 154, 3, 1381, 18446744073709551615, 0),
  (12, .lreturn, 1, 0, 0, 0),
  (13, .aload_n 0, 1, 0, 0, 0),
  (14, .invokevirtual 183, 3, 1361, 0, 65),
  (17, .aload_n 0, 1, 0, 0, 0),
  (18, .invokevirtual 203, 3, 1456, 0, 73),
  (21, .aload_n 0, 1, 0, 0, 0),
  (22, .getfield 156, 3, 1175, 1116, 1),
  (25, .iload_n 1, 1, 0, 0, 0),
  (26, .invokestatic 194, 3, 1435, 2, 68),
  (29, .lreturn, 1, 0, 0, 0)]
/-- RollCutterModel.least()I -/
def xT_75 : List xE := [(0, .aload_n 0, 1, 0, 0, 0),
  (1, .invokevirtual 183, 3, 1361, 0, 65),
  (4, .aload_n 0, 1, 0, 0, 0),
  (5, .invokevirtual 203, 3, 1456, 0, 73),
  (8, .aload_n 0, 1, 0, 0, 0),
  (9, .getfield 156, 3, 1175, 1116, 1),
  (12, .ladd, 1, 0, 0, 0),
  (13, .lconst 1, 1, 0, 0, 0),
  (14, .lsub, 1, 0, 0, 0),
  (15, .aload_n 0, 1, 0, 0, 0),
  (16, .getfield 156, 3, 1175, 1116, 1),
  (19, .ldiv, 1, 0, 0, 0),
  (20, .l2i, 1, 0, 0, 0),
  (21, .ireturn, 1, 0, 0, 0)]
/-- RollCutterModel.rounds()I -/
def xT_76 : List xE := [(0, .aload_n 0, 1, 0, 0, 0),
  (1, .invokevirtual 183, 3, 1361, 0, 65),
  (4, .aload_n 0, 1, 0, 0, 0),
  (5, .getfield 162, 3, 1176, 1117, 0),
  (8, .ireturn, 1, 0, 0, 0)]
/-- RollCutterModel.came(II)I -/
def xT_77 : List xE := [(0, .aload_n 0, 1, 0, 0, 0),
  (1, .invokevirtual 183, 3, 1361, 0, 65),
  (4, .iload_n 1, 1, 0, 0, 0),
  (5, .iconst 0, 1, 0, 0, 0),
  (6, .aload_n 0, 1, 0, 0, 0),
  (7, .getfield 162, 3, 1176, 1117, 0),
  (10, .iconst 1, 1, 0, 0, 0),
  (11, .isub, 1, 0, 0, 0),
  (12, .invokestatic 87, 3, 1293, 2, 48),
  (15, .ifCond .ne (5), 3, 0, 0, 0),
  (18, .iconst (-1), 1, 0, 0, 0),
  (19, .ireturn, 1, 0, 0, 0),
  (20, .iload_n 2, 1, 0, 0, 0),
  (21, .ifCond .ne (12), 3, 0, 0, 0),
  (24, .aload_n 0, 1, 0, 0, 0),
  (25, .getfield 47, 3, 1177, 1118, 4),
  (28, .iload_n 1, 1, 0, 0, 0),
  (29, .iaload, 1, 0, 0, 0),
  (30, .goto (16), 3, 0, 0, 0),
  (33, .aload_n 0, 1, 0, 0, 0),
  (34, .aload_n 0, 1, 0, 0, 0),
  (35, .getfield 50, 3, 1178, 1119, 4),
  (38, .bipush (6), 2, 0, 0, 0),
  (40, .iload_n 1, 1, 0, 0, 0),
  (41, .imul, 1, 0, 0, 0),
  (42, .iload_n 2, 1, 0, 0, 0),
  (43, .invokevirtual 186, 3, 1427, 99, 0),
  (46, .ireturn, 1, 0, 0, 0)]
/-- RollCutterModel.leeway(I)I -/
def xT_78 : List xE := [(0, .aload_n 0, 1, 0, 0, 0),
  (1, .iload_n 1, 1, 0, 0, 0),
  (2, .invokevirtual 103, 3, 1308, 0, 49),
  (5, .ifCond .ne (5), 3, 0, 0, 0),
  (8, .iconst (-1), 1, 0, 0, 0),
  (9, .ireturn, 1, 0, 0, 0),
  (10, .aload_n 0, 1, 0, 0, 0),
  (11, .invokevirtual 183, 3, 1361, 0, 65),
  (14, .aload_n 0, 1, 0, 0, 0),
  (15, .iload_n 1, 1, 0, 0, 0),
  (16, .invokevirtual 198, 3, 1443, 0, 70),
  (19, .istore_n 2, 1, 0, 0, 0),
  (20, .iload_n 2, 1, 0, 0, 0),
  (21, .ifCond .ge (6), 3, 0, 0, 0),
  (24, .bipush (-3), 2, 0, 0, 0),
  (26, .ireturn, 1, 0, 0, 0),
  (27, .ldc2_w 154, 3, 1381, 18446744073709551615, 0),
  (30, .lstore_n 3, 1, 0, 0, 0),
  (31, .iconst 0, 1, 0, 0, 0),
  (32, .istore 5, 2, 0, 0, 0),
  (34, .iload 5, 2, 0, 0, 0),
  (36, .aload_n 0, 1, 0, 0, 0),
  (37, .getfield 146, 3, 1167, 1108, 0),
  (40, .if_icmp .ge (63), 3, 0, 0, 0),
  (43, .aload_n 0, 1, 0, 0, 0),
  (44, .getfield 34, 3, 1171, 1112, 4),
  (47, .bipush (6), 2, 0, 0, 0),
  (49, .iload 5, 2, 0, 0, 0),
  (51, .imul, 1, 0, 0, 0),
  (52, .iload_n 2, 1, 0, 0, 0),
  (53, .iadd, 1, 0, 0, 0),
  (54, .laload, 1, 0, 0, 0),
  (55, .lneg, 1, 0, 0, 0),
  (56, .lstore 6, 2, 0, 0, 0),
  (58, .lload 6, 2, 0, 0, 0),
  (60, .lconst 0, 1, 0, 0, 0),
  (61, .lcmp, 1, 0, 0, 0),
  (62, .ifCond .le (35), 3, 0, 0, 0),
  (65, .lload_n 3, 1, 0, 0, 0),
  (66, .lconst 0, 1, 0, 0, 0),
  (67, .lcmp, 1, 0, 0, 0),
  (68, .ifCond .lt (18), 3, 0, 0, 0),
  (71, .aload_n 0, 1, 0, 0, 0),
  (72, .getfield 41, 3, 1173, 1114, 4),
  (75, .iload 5, 2, 0, 0, 0),
  (77, .laload, 1, 0, 0, 0),
  (78, .lload 6, 2, 0, 0, 0),
  (80, .ldiv, 1, 0, 0, 0),
  (81, .lload_n 3, 1, 0, 0, 0),
  (82, .lcmp, 1, 0, 0, 0),
  (83, .ifCond .ge (14), 3, 0, 0, 0),
  (86, .aload_n 0, 1, 0, 0, 0),
  (87, .getfield 41, 3, 1173, 1114, 4),
  (90, .iload 5, 2, 0, 0, 0),
  (92, .laload, 1, 0, 0, 0),
  (93, .lload 6, 2, 0, 0, 0),
  (95, .ldiv, 1, 0, 0, 0),
  (96, .lstore_n 3, 1, 0, 0, 0),
  (97, .iinc 5 (1), 3, 0, 0, 0),
  (100, .goto (-66), 3, 0, 0, 0),
  (103, .lload_n 3, 1, 0, 0, 0),
  (104, .lconst 0, 1, 0, 0, 0),
  (105, .lcmp, 1, 0, 0, 0),
  (106, .ifCond .ge (8), 3, 0, 0, 0),
  (109, .bipush (-5), 2, 0, 0, 0),
  (111, .goto (5), 3, 0, 0, 0),
  (114, .lload_n 3, 1, 0, 0, 0),
  (115, .l2i, 1, 0, 0, 0),
  (116, .ireturn, 1, 0, 0, 0)]
/-- RollCutterModel.rollsOfCuts()I -/
def xT_79 : List xE := [(0, .iconst 0, 1, 0, 0, 0),
  (1, .istore_n 1, 1, 0, 0, 0),
  (2, .iconst 0, 1, 0, 0, 0),
  (3, .istore_n 2, 1, 0, 0, 0),
  (4, .iload_n 2, 1, 0, 0, 0),
  (5, .aload_n 0, 1, 0, 0, 0),
  (6, .getfield 207, 3, 1179, 1120, 0),
  (9, .if_icmp .ge (18), 3, 0, 0, 0),
  (12, .iload_n 1, 1, 0, 0, 0),
  (13, .aload_n 0, 1, 0, 0, 0),
  (14, .getfield 53, 3, 1180, 1121, 4),
  (17, .iload_n 2, 1, 0, 0, 0),
  (18, .iaload, 1, 0, 0, 0),
  (19, .iadd, 1, 0, 0, 0),
  (20, .istore_n 1, 1, 0, 0, 0),
  (21, .iinc 2 (1), 3, 0, 0, 0),
  (24, .goto (-20), 3, 0, 0, 0),
  (27, .iload_n 1, 1, 0, 0, 0),
  (28, .ireturn, 1, 0, 0, 0)]
/-- RollCutterModel.cutsDown()V -/
def xT_80 : List xE := [(0, .aload_n 0, 1, 0, 0, 0),
  (1, .iconst 0, 1, 0, 0, 0),
  (2, .putfield 207, 3, 1179, 1120, 0),
  (5, .iconst 0, 1, 0, 0, 0),
  (6, .istore_n 1, 1, 0, 0, 0),
  (7, .iload_n 1, 1, 0, 0, 0),
  (8, .bipush (6), 2, 0, 0, 0),
  (10, .if_icmp .ge (38), 3, 0, 0, 0),
  (13, .aload_n 0, 1, 0, 0, 0),
  (14, .getfield 62, 3, 1183, 1124, 4),
  (17, .iload_n 1, 1, 0, 0, 0),
  (18, .iload_n 1, 1, 0, 0, 0),
  (19, .aload_n 0, 1, 0, 0, 0),
  (20, .getfield 9, 3, 1159, 1100, 4),
  (23, .iconst 4, 1, 0, 0, 0),
  (24, .iaload, 1, 0, 0, 0),
  (25, .if_icmp .ge (15), 3, 0, 0, 0),
  (28, .aload_n 0, 1, 0, 0, 0),
  (29, .getfield 9, 3, 1159, 1100, 4),
  (32, .bipush (11), 2, 0, 0, 0),
  (34, .iload_n 1, 1, 0, 0, 0),
  (35, .iadd, 1, 0, 0, 0),
  (36, .iaload, 1, 0, 0, 0),
  (37, .goto (4), 3, 0, 0, 0),
  (40, .iconst 0, 1, 0, 0, 0),
  (41, .iastore, 1, 0, 0, 0),
  (42, .iinc 1 (1), 3, 0, 0, 0),
  (45, .goto (-38), 3, 0, 0, 0),
  (48, .iconst 0, 1, 0, 0, 0),
  (49, .istore_n 1, 1, 0, 0, 0),
  (50, .iload_n 1, 1, 0, 0, 0),
  (51, .aload_n 0, 1, 0, 0, 0),
  (52, .getfield 146, 3, 1167, 1108, 0),
  (55, .if_icmp .ge (75), 3, 0, 0, 0),
  (58, .aload_n 0, 1, 0, 0, 0),
  (59, .getfield 41, 3, 1173, 1114, 4),
  (62, .iload_n 1, 1, 0, 0, 0),
  (63, .laload, 1, 0, 0, 0),
  (64, .aload_n 0, 1, 0, 0, 0),
  (65, .getfield 156, 3, 1175, 1116, 1),
  (68, .ldiv, 1, 0, 0, 0),
  (69, .l2i, 1, 0, 0, 0),
  (70, .istore_n 2, 1, 0, 0, 0),
  (71, .iload_n 2, 1, 0, 0, 0),
  (72, .ifCond .le (52), 3, 0, 0, 0),
  (75, .aload_n 0, 1, 0, 0, 0),
  (76, .aload_n 0, 1, 0, 0, 0),
  (77, .getfield 28, 3, 1169, 1110, 4),
  (80, .bipush (6), 2, 0, 0, 0),
  (82, .iload_n 1, 1, 0, 0, 0),
  (83, .imul, 1, 0, 0, 0),
  (84, .iload_n 2, 1, 0, 0, 0),
  (85, .invokevirtual 210, 3, 1398, 99, 0),
  (88, .iconst 0, 1, 0, 0, 0),
  (89, .istore_n 3, 1, 0, 0, 0),
  (90, .iload_n 3, 1, 0, 0, 0),
  (91, .bipush (6), 2, 0, 0, 0),
  (93, .if_icmp .ge (31), 3, 0, 0, 0),
  (96, .aload_n 0, 1, 0, 0, 0),
  (97, .getfield 62, 3, 1183, 1124, 4),
  (100, .iload_n 3, 1, 0, 0, 0),
  (101, .dup2, 1, 0, 0, 0),
  (102, .iaload, 1, 0, 0, 0),
  (103, .iload_n 2, 1, 0, 0, 0),
  (104, .aload_n 0, 1, 0, 0, 0),
  (105, .getfield 28, 3, 1169, 1110, 4),
  (108, .bipush (6), 2, 0, 0, 0),
  (110, .iload_n 1, 1, 0, 0, 0),
  (111, .imul, 1, 0, 0, 0),
  (112, .iload_n 3, 1, 0, 0, 0),
  (113, .iadd, 1, 0, 0, 0),
  (114, .iaload, 1, 0, 0, 0),
  (115, .imul, 1, 0, 0, 0),
  (116, .isub, 1, 0, 0, 0),
  (117, .iastore, 1, 0, 0, 0),
  (118, .iinc 3 (1), 3, 0, 0, 0),
  (121, .goto (-31), 3, 0, 0, 0),
  (124, .iinc 1 (1), 3, 0, 0, 0),
  (127, .goto (-77), 3, 0, 0, 0),
  (130, .aload_n 0, 1, 0, 0, 0),
  (131, .getfield 62, 3, 1183, 1124, 4),
  (134, .iconst 0, 1, 0, 0, 0),
  (135, .invokestatic 121, 3, 1353, 2, 58),
  (138, .ifCond .le (126), 3, 0, 0, 0),
  (141, .iconst 0, 1, 0, 0, 0),
  (142, .istore_n 1, 1, 0, 0, 0),
  (143, .iload_n 1, 1, 0, 0, 0),
  (144, .bipush (6), 2, 0, 0, 0),
  (146, .if_icmp .ge (21), 3, 0, 0, 0),
  (149, .aload_n 0, 1, 0, 0, 0),
  (150, .getfield 19, 3, 1164, 1105, 4),
  (153, .iload_n 1, 1, 0, 0, 0),
  (154, .aload_n 0, 1, 0, 0, 0),
  (155, .getfield 62, 3, 1183, 1124, 4),
  (158, .iload_n 1, 1, 0, 0, 0),
  (159, .iaload, 1, 0, 0, 0),
  (160, .iastore, 1, 0, 0, 0),
  (161, .iinc 1 (1), 3, 0, 0, 0),
  (164, .goto (-21), 3, 0, 0, 0),
  (167, .aload_n 0, 1, 0, 0, 0),
  (168, .iconst 3, 1, 0, 0, 0),
  (169, .invokevirtual 143, 3, 1333, 0, 60),
  (172, .bipush (99), 2, 0, 0, 0),
  (174, .istore_n 1, 1, 0, 0, 0),
  (175, .iconst 0, 1, 0, 0, 0),
  (176, .istore_n 2, 1, 0, 0, 0),
  (177, .iload_n 2, 1, 0, 0, 0),
  (178, .bipush (6), 2, 0, 0, 0),
  (180, .if_icmp .ge (40), 3, 0, 0, 0),
  (183, .aload_n 0, 1, 0, 0, 0),
  (184, .getfield 22, 3, 1165, 1106, 4),
  (187, .iload_n 2, 1, 0, 0, 0),
  (188, .iaload, 1, 0, 0, 0),
  (189, .ifCond .le (23), 3, 0, 0, 0),
  (192, .iload_n 1, 1, 0, 0, 0),
  (193, .aload_n 0, 1, 0, 0, 0),
  (194, .getfield 62, 3, 1183, 1124, 4),
  (197, .iload_n 2, 1, 0, 0, 0),
  (198, .iaload, 1, 0, 0, 0),
  (199, .aload_n 0, 1, 0, 0, 0),
  (200, .getfield 22, 3, 1165, 1106, 4),
  (203, .iload_n 2, 1, 0, 0, 0),
  (204, .iaload, 1, 0, 0, 0),
  (205, .idiv, 1, 0, 0, 0),
  (206, .invokestatic 128, 3, 1356, 11, 0),
  (209, .goto (4), 3, 0, 0, 0),
  (212, .iload_n 1, 1, 0, 0, 0),
  (213, .istore_n 1, 1, 0, 0, 0),
  (214, .iinc 2 (1), 3, 0, 0, 0),
  (217, .goto (-40), 3, 0, 0, 0),
  (220, .aload_n 0, 1, 0, 0, 0),
  (221, .aload_n 0, 1, 0, 0, 0),
  (222, .getfield 22, 3, 1165, 1106, 4),
  (225, .iconst 0, 1, 0, 0, 0),
  (226, .iload_n 1, 1, 0, 0, 0),
  (227, .invokevirtual 210, 3, 1398, 99, 0),
  (230, .iconst 0, 1, 0, 0, 0),
  (231, .istore_n 2, 1, 0, 0, 0),
  (232, .iload_n 2, 1, 0, 0, 0),
  (233, .bipush (6), 2, 0, 0, 0),
  (235, .if_icmp .ge (26), 3, 0, 0, 0),
  (238, .aload_n 0, 1, 0, 0, 0),
  (239, .getfield 62, 3, 1183, 1124, 4),
  (242, .iload_n 2, 1, 0, 0, 0),
  (243, .dup2, 1, 0, 0, 0),
  (244, .iaload, 1, 0, 0, 0),
  (245, .iload_n 1, 1, 0, 0, 0),
  (246, .aload_n 0, 1, 0, 0, 0),
  (247, .getfield 22, 3, 1165, 1106, 4),
  (250, .iload_n 2, 1, 0, 0, 0),
  (251, .iaload, 1, 0, 0, 0),
  (252, .imul, 1, 0, 0, 0),
  (253, .isub, 1, 0, 0, 0),
  (254, .iastore, 1, 0, 0, 0),
  (255, .iinc 2 (1), 3, 0, 0, 0),
  (258, .goto (-26), 3, 0, 0, 0),
  (261, .goto (-131), 3, 0, 0, 0),
  (264, .return_, 1, 0, 0, 0)]
/-- RollCutterModel.cutsUp()V -/
def xT_81 : List xE := [(0, .aload_n 0, 1, 0, 0, 0),
  (1, .iconst 0, 1, 0, 0, 0),
  (2, .putfield 214, 3, 1184, 1125, 0),
  (5, .iconst 0, 1, 0, 0, 0),
  (6, .istore_n 1, 1, 0, 0, 0),
  (7, .iload_n 1, 1, 0, 0, 0),
  (8, .bipush (6), 2, 0, 0, 0),
  (10, .if_icmp .ge (39), 3, 0, 0, 0),
  (13, .aload_n 0, 1, 0, 0, 0),
  (14, .getfield 62, 3, 1183, 1124, 4),
  (17, .iload_n 1, 1, 0, 0, 0),
  (18, .iload_n 1, 1, 0, 0, 0),
  (19, .aload_n 0, 1, 0, 0, 0),
  (20, .getfield 9, 3, 1159, 1100, 4),
  (23, .iconst 4, 1, 0, 0, 0),
  (24, .iaload, 1, 0, 0, 0),
  (25, .if_icmp .ge (16), 3, 0, 0, 0),
  (28, .aload_n 0, 1, 0, 0, 0),
  (29, .getfield 9, 3, 1159, 1100, 4),
  (32, .bipush (11), 2, 0, 0, 0),
  (34, .iload_n 1, 1, 0, 0, 0),
  (35, .iadd, 1, 0, 0, 0),
  (36, .iaload, 1, 0, 0, 0),
  (37, .ineg, 1, 0, 0, 0),
  (38, .goto (4), 3, 0, 0, 0),
  (41, .iconst 0, 1, 0, 0, 0),
  (42, .iastore, 1, 0, 0, 0),
  (43, .iinc 1 (1), 3, 0, 0, 0),
  (46, .goto (-39), 3, 0, 0, 0),
  (49, .iconst 0, 1, 0, 0, 0),
  (50, .istore_n 1, 1, 0, 0, 0),
  (51, .iload_n 1, 1, 0, 0, 0),
  (52, .aload_n 0, 1, 0, 0, 0),
  (53, .getfield 146, 3, 1167, 1108, 0),
  (56, .if_icmp .ge (109), 3, 0, 0, 0),
  (59, .lconst 0, 1, 0, 0, 0),
  (60, .lstore_n 2, 1, 0, 0, 0),
  (61, .lload_n 2, 1, 0, 0, 0),
  (62, .aload_n 0, 1, 0, 0, 0),
  (63, .getfield 156, 3, 1175, 1116, 1),
  (66, .lmul, 1, 0, 0, 0),
  (67, .aload_n 0, 1, 0, 0, 0),
  (68, .getfield 41, 3, 1173, 1114, 4),
  (71, .iload_n 1, 1, 0, 0, 0),
  (72, .laload, 1, 0, 0, 0),
  (73, .lcmp, 1, 0, 0, 0),
  (74, .ifCond .ge (85), 3, 0, 0, 0),
  (77, .iconst 0, 1, 0, 0, 0),
  (78, .istore 4, 2, 0, 0, 0),
  (80, .iload 4, 2, 0, 0, 0),
  (82, .bipush (6), 2, 0, 0, 0),
  (84, .if_icmp .ge (58), 3, 0, 0, 0),
  (87, .aload_n 0, 1, 0, 0, 0),
  (88, .getfield 65, 3, 1185, 1126, 4),
  (91, .bipush (6), 2, 0, 0, 0),
  (93, .aload_n 0, 1, 0, 0, 0),
  (94, .getfield 214, 3, 1184, 1125, 0),
  (97, .imul, 1, 0, 0, 0),
  (98, .iload 4, 2, 0, 0, 0),
  (100, .iadd, 1, 0, 0, 0),
  (101, .aload_n 0, 1, 0, 0, 0),
  (102, .getfield 28, 3, 1169, 1110, 4),
  (105, .bipush (6), 2, 0, 0, 0),
  (107, .iload_n 1, 1, 0, 0, 0),
  (108, .imul, 1, 0, 0, 0),
  (109, .iload 4, 2, 0, 0, 0),
  (111, .iadd, 1, 0, 0, 0),
  (112, .iaload, 1, 0, 0, 0),
  (113, .iastore, 1, 0, 0, 0),
  (114, .aload_n 0, 1, 0, 0, 0),
  (115, .getfield 62, 3, 1183, 1124, 4),
  (118, .iload 4, 2, 0, 0, 0),
  (120, .dup2, 1, 0, 0, 0),
  (121, .iaload, 1, 0, 0, 0),
  (122, .aload_n 0, 1, 0, 0, 0),
  (123, .getfield 28, 3, 1169, 1110, 4),
  (126, .bipush (6), 2, 0, 0, 0),
  (128, .iload_n 1, 1, 0, 0, 0),
  (129, .imul, 1, 0, 0, 0),
  (130, .iload 4, 2, 0, 0, 0),
  (132, .iadd, 1, 0, 0, 0),
  (133, .iaload, 1, 0, 0, 0),
  (134, .iadd, 1, 0, 0, 0),
  (135, .iastore, 1, 0, 0, 0),
  (136, .iinc 4 (1), 3, 0, 0, 0),
  (139, .goto (-59), 3, 0, 0, 0),
  (142, .aload_n 0, 1, 0, 0, 0),
  (143, .dup, 1, 0, 0, 0),
  (144, .getfield 214, 3, 1184, 1125, 0),
  (147, .iconst 1, 1, 0, 0, 0),
  (148, .iadd, 1, 0, 0, 0),
  (149, .putfield 214, 3, 1184, 1125, 0),
  (152, .lload_n 2, 1, 0, 0, 0),
  (153, .lconst 1, 1, 0, 0, 0),
  (154, .ladd, 1, 0, 0, 0),
  (155, .lstore_n 2, 1, 0, 0, 0),
  (156, .goto (-95), 3, 0, 0, 0),
  (159, .iinc 1 (1), 3, 0, 0, 0),
  (162, .goto (-111), 3, 0, 0, 0),
  (165, .bipush (6), 2, 0, 0, 0),
  (167, .aload_n 0, 1, 0, 0, 0),
  (168, .getfield 214, 3, 1184, 1125, 0),
  (171, .imul, 1, 0, 0, 0),
  (172, .iconst 1, 1, 0, 0, 0),
  (173, .isub, 1, 0, 0, 0),
  (174, .istore_n 1, 1, 0, 0, 0),
  (175, .iload_n 1, 1, 0, 0, 0),
  (176, .ifCond .lt (51), 3, 0, 0, 0),
  (179, .aload_n 0, 1, 0, 0, 0),
  (180, .getfield 62, 3, 1183, 1124, 4),
  (183, .iload_n 1, 1, 0, 0, 0),
  (184, .bipush (6), 2, 0, 0, 0),
  (186, .irem, 1, 0, 0, 0),
  (187, .iaload, 1, 0, 0, 0),
  (188, .aload_n 0, 1, 0, 0, 0),
  (189, .getfield 65, 3, 1185, 1126, 4),
  (192, .iload_n 1, 1, 0, 0, 0),
  (193, .iaload, 1, 0, 0, 0),
  (194, .invokestatic 128, 3, 1356, 11, 0),
  (197, .istore_n 2, 1, 0, 0, 0),
  (198, .aload_n 0, 1, 0, 0, 0),
  (199, .getfield 65, 3, 1185, 1126, 4),
  (202, .iload_n 1, 1, 0, 0, 0),
  (203, .dup2, 1, 0, 0, 0),
  (204, .iaload, 1, 0, 0, 0),
  (205, .iload_n 2, 1, 0, 0, 0),
  (206, .isub, 1, 0, 0, 0),
  (207, .iastore, 1, 0, 0, 0),
  (208, .aload_n 0, 1, 0, 0, 0),
  (209, .getfield 62, 3, 1183, 1124, 4),
  (212, .iload_n 1, 1, 0, 0, 0),
  (213, .bipush (6), 2, 0, 0, 0),
  (215, .irem, 1, 0, 0, 0),
  (216, .dup2, 1, 0, 0, 0),
  (217, .iaload, 1, 0, 0, 0),
  (218, .iload_n 2, 1, 0, 0, 0),
  (219, .isub, 1, 0, 0, 0),
  (220, .iastore, 1, 0, 0, 0),
  (221, .iinc 1 (-1), 3, 0, 0, 0),
  (224, .goto (-49), 3, 0, 0, 0),
  (227, .aload_n 0, 1, 0, 0, 0),
  (228, .iconst 0, 1, 0, 0, 0),
  (229, .putfield 207, 3, 1179, 1120, 0),
  (232, .iconst 0, 1, 0, 0, 0),
  (233, .istore_n 1, 1, 0, 0, 0),
  (234, .iload_n 1, 1, 0, 0, 0),
  (235, .aload_n 0, 1, 0, 0, 0),
  (236, .getfield 214, 3, 1184, 1125, 0),
  (239, .if_icmp .ge (36), 3, 0, 0, 0),
  (242, .aload_n 0, 1, 0, 0, 0),
  (243, .getfield 65, 3, 1185, 1126, 4),
  (246, .bipush (6), 2, 0, 0, 0),
  (248, .iload_n 1, 1, 0, 0, 0),
  (249, .imul, 1, 0, 0, 0),
  (250, .invokestatic 121, 3, 1353, 2, 58),
  (253, .ifCond .le (16), 3, 0, 0, 0),
  (256, .aload_n 0, 1, 0, 0, 0),
  (257, .aload_n 0, 1, 0, 0, 0),
  (258, .getfield 65, 3, 1185, 1126, 4),
  (261, .bipush (6), 2, 0, 0, 0),
  (263, .iload_n 1, 1, 0, 0, 0),
  (264, .imul, 1, 0, 0, 0),
  (265, .iconst 1, 1, 0, 0, 0),
  (266, .invokevirtual 210, 3, 1398, 99, 0),
  (269, .iinc 1 (1), 3, 0, 0, 0),
  (272, .goto (-38), 3, 0, 0, 0),
  (275, .return_, 1, 0, 0, 0)]
/-- RollCutterModel.plans()V -/
def xT_82 : List xE := [(0, .aload_n 0, 1, 0, 0, 0),
  (1, .invokevirtual 217, 3, 1394, 0, 81),
  (4, .aload_n 0, 1, 0, 0, 0),
  (5, .getfield 59, 3, 1182, 1123, 4),
  (8, .iconst 1, 1, 0, 0, 0),
  (9, .aload_n 0, 1, 0, 0, 0),
  (10, .invokevirtual 220, 3, 1402, 0, 79),
  (13, .iastore, 1, 0, 0, 0),
  (14, .aload_n 0, 1, 0, 0, 0),
  (15, .invokevirtual 223, 3, 1406, 0, 80),
  (18, .aload_n 0, 1, 0, 0, 0),
  (19, .getfield 59, 3, 1182, 1123, 4),
  (22, .iconst 0, 1, 0, 0, 0),
  (23, .aload_n 0, 1, 0, 0, 0),
  (24, .invokevirtual 220, 3, 1402, 0, 79),
  (27, .iastore, 1, 0, 0, 0),
  (28, .aload_n 0, 1, 0, 0, 0),
  (29, .getfield 59, 3, 1182, 1123, 4),
  (32, .iconst 1, 1, 0, 0, 0),
  (33, .iaload, 1, 0, 0, 0),
  (34, .aload_n 0, 1, 0, 0, 0),
  (35, .getfield 59, 3, 1182, 1123, 4),
  (38, .iconst 0, 1, 0, 0, 0),
  (39, .iaload, 1, 0, 0, 0),
  (40, .if_icmp .ge (7), 3, 0, 0, 0),
  (43, .aload_n 0, 1, 0, 0, 0),
  (44, .invokevirtual 217, 3, 1394, 0, 81),
  (47, .return_, 1, 0, 0, 0)]
/-- RollCutterModel.rolls(I)I -/
def xT_83 : List xE := [(0, .iload_n 1, 1, 0, 0, 0),
  (1, .iconst 0, 1, 0, 0, 0),
  (2, .iconst 2, 1, 0, 0, 0),
  (3, .invokestatic 87, 3, 1293, 2, 48),
  (6, .ifCond .ne (5), 3, 0, 0, 0),
  (9, .iconst (-1), 1, 0, 0, 0),
  (10, .ireturn, 1, 0, 0, 0),
  (11, .aload_n 0, 1, 0, 0, 0),
  (12, .invokevirtual 183, 3, 1361, 0, 65),
  (15, .iload_n 1, 1, 0, 0, 0),
  (16, .iconst 2, 1, 0, 0, 0),
  (17, .if_icmp .ge (12), 3, 0, 0, 0),
  (20, .aload_n 0, 1, 0, 0, 0),
  (21, .getfield 59, 3, 1182, 1123, 4),
  (24, .iload_n 1, 1, 0, 0, 0),
  (25, .iaload, 1, 0, 0, 0),
  (26, .goto (18), 3, 0, 0, 0),
  (29, .aload_n 0, 1, 0, 0, 0),
  (30, .getfield 59, 3, 1182, 1123, 4),
  (33, .iconst 0, 1, 0, 0, 0),
  (34, .iaload, 1, 0, 0, 0),
  (35, .aload_n 0, 1, 0, 0, 0),
  (36, .getfield 59, 3, 1182, 1123, 4),
  (39, .iconst 1, 1, 0, 0, 0),
  (40, .iaload, 1, 0, 0, 0),
  (41, .invokestatic 128, 3, 1356, 11, 0),
  (44, .ireturn, 1, 0, 0, 0)]
/-- RollCutterModel.cut(II)I -/
def xT_84 : List xE := [(0, .iload_n 1, 1, 0, 0, 0),
  (1, .iconst (-1), 1, 0, 0, 0),
  (2, .if_icmp .ge (5), 3, 0, 0, 0),
  (5, .iconst (-1), 1, 0, 0, 0),
  (6, .ireturn, 1, 0, 0, 0),
  (7, .aload_n 0, 1, 0, 0, 0),
  (8, .invokevirtual 183, 3, 1361, 0, 65),
  (11, .iload_n 1, 1, 0, 0, 0),
  (12, .ifCond .ge (8), 3, 0, 0, 0),
  (15, .aload_n 0, 1, 0, 0, 0),
  (16, .getfield 207, 3, 1179, 1120, 0),
  (19, .ireturn, 1, 0, 0, 0),
  (20, .iload_n 1, 1, 0, 0, 0),
  (21, .aload_n 0, 1, 0, 0, 0),
  (22, .getfield 207, 3, 1179, 1120, 0),
  (25, .if_icmp .lt (5), 3, 0, 0, 0),
  (28, .iconst (-1), 1, 0, 0, 0),
  (29, .ireturn, 1, 0, 0, 0),
  (30, .iload_n 2, 1, 0, 0, 0),
  (31, .tableswitch (70) (0) (3) #[29, 70, 36, 49], 29, 0, 0, 0),
  (60, .aload_n 0, 1, 0, 0, 0),
  (61, .getfield 53, 3, 1180, 1121, 4),
  (64, .iload_n 1, 1, 0, 0, 0),
  (65, .iaload, 1, 0, 0, 0),
  (66, .ireturn, 1, 0, 0, 0),
  (67, .aload_n 0, 1, 0, 0, 0),
  (68, .aload_n 0, 1, 0, 0, 0),
  (69, .getfield 56, 3, 1181, 1122, 4),
  (72, .bipush (6), 2, 0, 0, 0),
  (74, .iload_n 1, 1, 0, 0, 0),
  (75, .imul, 1, 0, 0, 0),
  (76, .invokevirtual 117, 3, 1349, 99, 0),
  (79, .ireturn, 1, 0, 0, 0),
  (80, .aload_n 0, 1, 0, 0, 0),
  (81, .aload_n 0, 1, 0, 0, 0),
  (82, .getfield 56, 3, 1181, 1122, 4),
  (85, .bipush (6), 2, 0, 0, 0),
  (87, .iload_n 1, 1, 0, 0, 0),
  (88, .imul, 1, 0, 0, 0),
  (89, .invokevirtual 139, 3, 1345, 99, 0),
  (92, .ifCond .eq (7), 3, 0, 0, 0),
  (95, .iconst 1, 1, 0, 0, 0),
  (96, .goto (4), 3, 0, 0, 0),
  (99, .iconst 0, 1, 0, 0, 0),
  (100, .ireturn, 1, 0, 0, 0),
  (101, .aload_n 0, 1, 0, 0, 0),
  (102, .aload_n 0, 1, 0, 0, 0),
  (103, .getfield 56, 3, 1181, 1122, 4),
  (106, .bipush (6), 2, 0, 0, 0),
  (108, .iload_n 1, 1, 0, 0, 0),
  (109, .imul, 1, 0, 0, 0),
  (110, .iload_n 2, 1, 0, 0, 0),
  (111, .invokevirtual 186, 3, 1427, 99, 0),
  (114, .ireturn, 1, 0, 0, 0)]
/-- RollCutterModel.waste(I)I -/
def xT_85 : List xE := [(0, .aload_n 0, 1, 0, 0, 0),
  (1, .invokevirtual 183, 3, 1361, 0, 65),
  (4, .iconst 0, 1, 0, 0, 0),
  (5, .istore_n 2, 1, 0, 0, 0),
  (6, .iload_n 1, 1, 0, 0, 0),
  (7, .istore_n 3, 1, 0, 0, 0),
  (8, .iconst 0, 1, 0, 0, 0),
  (9, .istore 4, 2, 0, 0, 0),
  (11, .iload 4, 2, 0, 0, 0),
  (13, .aload_n 0, 1, 0, 0, 0),
  (14, .getfield 207, 3, 1179, 1120, 0),
  (17, .if_icmp .ge (66), 3, 0, 0, 0),
  (20, .iload_n 3, 1, 0, 0, 0),
  (21, .ifCond .lt (21), 3, 0, 0, 0),
  (24, .iload_n 3, 1, 0, 0, 0),
  (25, .aload_n 0, 1, 0, 0, 0),
  (26, .getfield 53, 3, 1180, 1121, 4),
  (29, .iload 4, 2, 0, 0, 0),
  (31, .iaload, 1, 0, 0, 0),
  (32, .if_icmp .ge (10), 3, 0, 0, 0),
  (35, .aload_n 0, 1, 0, 0, 0),
  (36, .iload 4, 2, 0, 0, 0),
  (38, .invokevirtual 226, 3, 1488, 99, 0),
  (41, .ireturn, 1, 0, 0, 0),
  (42, .iload_n 3, 1, 0, 0, 0),
  (43, .iload_n 3, 1, 0, 0, 0),
  (44, .ifCond .ge (7), 3, 0, 0, 0),
  (47, .iconst 0, 1, 0, 0, 0),
  (48, .goto (10), 3, 0, 0, 0),
  (51, .aload_n 0, 1, 0, 0, 0),
  (52, .getfield 53, 3, 1180, 1121, 4),
  (55, .iload 4, 2, 0, 0, 0),
  (57, .iaload, 1, 0, 0, 0),
  (58, .isub, 1, 0, 0, 0),
  (59, .istore_n 3, 1, 0, 0, 0),
  (60, .iload_n 2, 1, 0, 0, 0),
  (61, .aload_n 0, 1, 0, 0, 0),
  (62, .getfield 53, 3, 1180, 1121, 4),
  (65, .iload 4, 2, 0, 0, 0),
  (67, .iaload, 1, 0, 0, 0),
  (68, .aload_n 0, 1, 0, 0, 0),
  (69, .iload 4, 2, 0, 0, 0),
  (71, .invokevirtual 226, 3, 1488, 99, 0),
  (74, .imul, 1, 0, 0, 0),
  (75, .iadd, 1, 0, 0, 0),
  (76, .istore_n 2, 1, 0, 0, 0),
  (77, .iinc 4 (1), 3, 0, 0, 0),
  (80, .goto (-69), 3, 0, 0, 0),
  (83, .iload_n 1, 1, 0, 0, 0),
  (84, .iconst (-1), 1, 0, 0, 0),
  (85, .if_icmp .ne (7), 3, 0, 0, 0),
  (88, .iload_n 2, 1, 0, 0, 0),
  (89, .goto (4), 3, 0, 0, 0),
  (92, .iconst (-1), 1, 0, 0, 0),
  (93, .ireturn, 1, 0, 0, 0)]
/-- RollCutterModel.wasting(I)I -/
def xT_86 : List xE := [(0, .aload_n 0, 1, 0, 0, 0),
  (1, .invokevirtual 183, 3, 1361, 0, 65),
  (4, .iconst 0, 1, 0, 0, 0),
  (5, .istore_n 2, 1, 0, 0, 0),
  (6, .iconst 0, 1, 0, 0, 0),
  (7, .istore_n 3, 1, 0, 0, 0),
  (8, .iload_n 3, 1, 0, 0, 0),
  (9, .aload_n 0, 1, 0, 0, 0),
  (10, .getfield 207, 3, 1179, 1120, 0),
  (13, .if_icmp .ge (31), 3, 0, 0, 0),
  (16, .iload_n 2, 1, 0, 0, 0),
  (17, .aload_n 0, 1, 0, 0, 0),
  (18, .iload_n 3, 1, 0, 0, 0),
  (19, .invokevirtual 226, 3, 1488, 99, 0),
  (22, .iload_n 1, 1, 0, 0, 0),
  (23, .if_icmp .lt (12), 3, 0, 0, 0),
  (26, .aload_n 0, 1, 0, 0, 0),
  (27, .getfield 53, 3, 1180, 1121, 4),
  (30, .iload_n 3, 1, 0, 0, 0),
  (31, .iaload, 1, 0, 0, 0),
  (32, .goto (4), 3, 0, 0, 0),
  (35, .iconst 0, 1, 0, 0, 0),
  (36, .iadd, 1, 0, 0, 0),
  (37, .istore_n 2, 1, 0, 0, 0),
  (38, .iinc 3 (1), 3, 0, 0, 0),
  (41, .goto (-33), 3, 0, 0, 0),
  (44, .iload_n 2, 1, 0, 0, 0),
  (45, .ireturn, 1, 0, 0, 0)]
/-- RollCutterModel.lineUp(III)V -/
def xT_87 : List xE := [(0, .iload_n 3, 1, 0, 0, 0),
  (1, .aload_n 0, 1, 0, 0, 0),
  (2, .getfield 234, 3, 1186, 1127, 0),
  (5, .if_icmp .lt (4), 3, 0, 0, 0),
  (8, .return_, 1, 0, 0, 0),
  (9, .iload_n 1, 1, 0, 0, 0),
  (10, .aload_n 0, 1, 0, 0, 0),
  (11, .getfield 146, 3, 1167, 1108, 0),
  (14, .if_icmp .ne (38), 3, 0, 0, 0),
  (17, .aload_n 0, 1, 0, 0, 0),
  (18, .iload_n 3, 1, 0, 0, 0),
  (19, .putfield 234, 3, 1186, 1127, 0),
  (22, .iconst 0, 1, 0, 0, 0),
  (23, .istore 4, 2, 0, 0, 0),
  (25, .iload 4, 2, 0, 0, 0),
  (27, .iload_n 1, 1, 0, 0, 0),
  (28, .if_icmp .ge (23), 3, 0, 0, 0),
  (31, .aload_n 0, 1, 0, 0, 0),
  (32, .getfield 71, 3, 1188, 1129, 4),
  (35, .iload 4, 2, 0, 0, 0),
  (37, .aload_n 0, 1, 0, 0, 0),
  (38, .getfield 68, 3, 1187, 1128, 4),
  (41, .iload 4, 2, 0, 0, 0),
  (43, .iaload, 1, 0, 0, 0),
  (44, .iastore, 1, 0, 0, 0),
  (45, .iinc 4 (1), 3, 0, 0, 0),
  (48, .goto (-23), 3, 0, 0, 0),
  (51, .return_, 1, 0, 0, 0),
  (52, .iconst 0, 1, 0, 0, 0),
  (53, .istore 4, 2, 0, 0, 0),
  (55, .iload 4, 2, 0, 0, 0),
  (57, .aload_n 0, 1, 0, 0, 0),
  (58, .getfield 146, 3, 1167, 1108, 0),
  (61, .if_icmp .ge (57), 3, 0, 0, 0),
  (64, .iload_n 2, 1, 0, 0, 0),
  (65, .iload 4, 2, 0, 0, 0),
  (67, .ishr, 1, 0, 0, 0),
  (68, .iconst 1, 1, 0, 0, 0),
  (69, .iand, 1, 0, 0, 0),
  (70, .ifCond .ne (42), 3, 0, 0, 0),
  (73, .aload_n 0, 1, 0, 0, 0),
  (74, .getfield 68, 3, 1187, 1128, 4),
  (77, .iload_n 1, 1, 0, 0, 0),
  (78, .aload_n 0, 1, 0, 0, 0),
  (79, .getfield 25, 3, 1168, 1109, 4),
  (82, .iload 4, 2, 0, 0, 0),
  (84, .iaload, 1, 0, 0, 0),
  (85, .iastore, 1, 0, 0, 0),
  (86, .aload_n 0, 1, 0, 0, 0),
  (87, .iload_n 1, 1, 0, 0, 0),
  (88, .iconst 1, 1, 0, 0, 0),
  (89, .iadd, 1, 0, 0, 0),
  (90, .iload_n 2, 1, 0, 0, 0),
  (91, .iconst 1, 1, 0, 0, 0),
  (92, .iload 4, 2, 0, 0, 0),
  (94, .ishl, 1, 0, 0, 0),
  (95, .ior, 1, 0, 0, 0),
  (96, .iload_n 3, 1, 0, 0, 0),
  (97, .aload_n 0, 1, 0, 0, 0),
  (98, .aload_n 0, 1, 0, 0, 0),
  (99, .getfield 68, 3, 1187, 1128, 4),
  (102, .iload_n 1, 1, 0, 0, 0),
  (103, .invokevirtual 237, 3, 1418, 99, 0),
  (106, .invokestatic 107, 3, 1328, 7, 0),
  (109, .invokevirtual 240, 3, 1414, 0, 87),
  (112, .iinc 4 (1), 3, 0, 0, 0),
  (115, .goto (-60), 3, 0, 0, 0),
  (118, .return_, 1, 0, 0, 0)]
/-- RollCutterModel.lines()V -/
def xT_88 : List xE := [(0, .aload_n 0, 1, 0, 0, 0),
  (1, .bipush (7), 2, 0, 0, 0),
  (3, .putfield 234, 3, 1186, 1127, 0),
  (6, .aload_n 0, 1, 0, 0, 0),
  (7, .iconst 0, 1, 0, 0, 0),
  (8, .iconst 0, 1, 0, 0, 0),
  (9, .iconst 0, 1, 0, 0, 0),
  (10, .invokevirtual 240, 3, 1414, 0, 87),
  (13, .return_, 1, 0, 0, 0)]
/-- RollCutterModel.peak()I -/
def xT_89 : List xE := [(0, .aload_n 0, 1, 0, 0, 0),
  (1, .invokevirtual 183, 3, 1361, 0, 65),
  (4, .aload_n 0, 1, 0, 0, 0),
  (5, .getfield 234, 3, 1186, 1127, 0),
  (8, .ireturn, 1, 0, 0, 0)]
/-- RollCutterModel.sequence(I)I -/
def xT_90 : List xE := [(0, .aload_n 0, 1, 0, 0, 0),
  (1, .invokevirtual 183, 3, 1361, 0, 65),
  (4, .iload_n 1, 1, 0, 0, 0),
  (5, .iconst 0, 1, 0, 0, 0),
  (6, .aload_n 0, 1, 0, 0, 0),
  (7, .getfield 146, 3, 1167, 1108, 0),
  (10, .iconst 1, 1, 0, 0, 0),
  (11, .isub, 1, 0, 0, 0),
  (12, .invokestatic 87, 3, 1293, 2, 48),
  (15, .ifCond .eq (12), 3, 0, 0, 0),
  (18, .aload_n 0, 1, 0, 0, 0),
  (19, .getfield 71, 3, 1188, 1129, 4),
  (22, .iload_n 1, 1, 0, 0, 0),
  (23, .iaload, 1, 0, 0, 0),
  (24, .goto (4), 3, 0, 0, 0),
  (27, .iconst (-1), 1, 0, 0, 0),
  (28, .ireturn, 1, 0, 0, 0)]
/-- RollCutterModel.open(I)I -/
def xT_91 : List xE := [(0, .aload_n 0, 1, 0, 0, 0),
  (1, .invokevirtual 183, 3, 1361, 0, 65),
  (4, .iload_n 1, 1, 0, 0, 0),
  (5, .iconst 0, 1, 0, 0, 0),
  (6, .aload_n 0, 1, 0, 0, 0),
  (7, .getfield 146, 3, 1167, 1108, 0),
  (10, .iconst 1, 1, 0, 0, 0),
  (11, .isub, 1, 0, 0, 0),
  (12, .invokestatic 87, 3, 1293, 2, 48),
  (15, .ifCond .eq (15), 3, 0, 0, 0),
  (18, .aload_n 0, 1, 0, 0, 0),
  (19, .aload_n 0, 1, 0, 0, 0),
  (20, .getfield 71, 3, 1188, 1129, 4),
  (23, .iload_n 1, 1, 0, 0, 0),
  (24, .invokevirtual 237, 3, 1418, 99, 0),
  (27, .goto (4), 3, 0, 0, 0),
  (30, .iconst (-1), 1, 0, 0, 0),
  (31, .ireturn, 1, 0, 0, 0)]
/-- RollCutterModel.carry()I -/
def xT_92 : List xE := [(0, .aload_n 0, 1, 0, 0, 0),
  (1, .invokevirtual 183, 3, 1361, 0, 65),
  (4, .aload_n 0, 1, 0, 0, 0),
  (5, .getfield 146, 3, 1167, 1108, 0),
  (8, .ifCond .ne (6), 3, 0, 0, 0),
  (11, .bipush (-3), 2, 0, 0, 0),
  (13, .ireturn, 1, 0, 0, 0),
  (14, .aload_n 0, 1, 0, 0, 0),
  (15, .invokevirtual 220, 3, 1402, 0, 79),
  (18, .istore_n 1, 1, 0, 0, 0),
  (19, .iconst 0, 1, 0, 0, 0),
  (20, .istore_n 2, 1, 0, 0, 0),
  (21, .iload_n 2, 1, 0, 0, 0),
  (22, .aload_n 0, 1, 0, 0, 0),
  (23, .getfield 207, 3, 1179, 1120, 0),
  (26, .if_icmp .ge (24), 3, 0, 0, 0),
  (29, .aload_n 0, 1, 0, 0, 0),
  (30, .aload_n 0, 1, 0, 0, 0),
  (31, .iload_n 2, 1, 0, 0, 0),
  (32, .invokevirtual 226, 3, 1488, 99, 0),
  (35, .aload_n 0, 1, 0, 0, 0),
  (36, .getfield 53, 3, 1180, 1121, 4),
  (39, .iload_n 2, 1, 0, 0, 0),
  (40, .iaload, 1, 0, 0, 0),
  (41, .invokevirtual 244, 3, 1512, 99, 0),
  (44, .iinc 2 (1), 3, 0, 0, 0),
  (47, .goto (-26), 3, 0, 0, 0),
  (50, .iconst 0, 1, 0, 0, 0),
  (51, .istore_n 2, 1, 0, 0, 0),
  (52, .iload_n 2, 1, 0, 0, 0),
  (53, .aload_n 0, 1, 0, 0, 0),
  (54, .getfield 9, 3, 1159, 1100, 4),
  (57, .iconst 4, 1, 0, 0, 0),
  (58, .iaload, 1, 0, 0, 0),
  (59, .if_icmp .ge (19), 3, 0, 0, 0),
  (62, .aload_n 0, 1, 0, 0, 0),
  (63, .getfield 9, 3, 1159, 1100, 4),
  (66, .bipush (11), 2, 0, 0, 0),
  (68, .iload_n 2, 1, 0, 0, 0),
  (69, .iadd, 1, 0, 0, 0),
  (70, .iconst 0, 1, 0, 0, 0),
  (71, .iastore, 1, 0, 0, 0),
  (72, .iinc 2 (1), 3, 0, 0, 0),
  (75, .goto (-23), 3, 0, 0, 0),
  (78, .aload_n 0, 1, 0, 0, 0),
  (79, .iconst 0, 1, 0, 0, 0),
  (80, .putfield 91, 3, 1162, 1103, 3),
  (83, .iload_n 1, 1, 0, 0, 0),
  (84, .ireturn, 1, 0, 0, 0)]
/-- RollCutterModel.serve()I -/
def xT_93 : List xE := [(0, .iconst 0, 1, 0, 0, 0),
  (1, .istore_n 1, 1, 0, 0, 0),
  (2, .bipush (60), 2, 0, 0, 0),
  (4, .istore_n 2, 1, 0, 0, 0),
  (5, .iload_n 2, 1, 0, 0, 0),
  (6, .iconst 5, 1, 0, 0, 0),
  (7, .if_icmp .lt (92), 3, 0, 0, 0),
  (10, .aload_n 0, 1, 0, 0, 0),
  (11, .iload_n 2, 1, 0, 0, 0),
  (12, .invokevirtual 95, 3, 1296, 0, 50),
  (15, .istore_n 3, 1, 0, 0, 0),
  (16, .iload_n 3, 1, 0, 0, 0),
  (17, .ifCond .ge (7), 3, 0, 0, 0),
  (20, .iconst (-1), 1, 0, 0, 0),
  (21, .goto (8), 3, 0, 0, 0),
  (24, .aload_n 0, 1, 0, 0, 0),
  (25, .iload_n 2, 1, 0, 0, 0),
  (26, .invokevirtual 247, 3, 1520, 99, 0),
  (29, .istore 4, 2, 0, 0, 0),
  (31, .iload 4, 2, 0, 0, 0),
  (33, .ifCond .lt (60), 3, 0, 0, 0),
  (36, .aload_n 0, 1, 0, 0, 0),
  (37, .iload_n 3, 1, 0, 0, 0),
  (38, .invokevirtual 165, 3, 1369, 99, 0),
  (41, .ifCond .eq (52), 3, 0, 0, 0),
  (44, .aload_n 0, 1, 0, 0, 0),
  (45, .getfield 9, 3, 1159, 1100, 4),
  (48, .bipush (17), 2, 0, 0, 0),
  (50, .iload 4, 2, 0, 0, 0),
  (52, .iadd, 1, 0, 0, 0),
  (53, .dup2, 1, 0, 0, 0),
  (54, .iaload, 1, 0, 0, 0),
  (55, .iconst 1, 1, 0, 0, 0),
  (56, .isub, 1, 0, 0, 0),
  (57, .iastore, 1, 0, 0, 0),
  (58, .aload_n 0, 1, 0, 0, 0),
  (59, .getfield 9, 3, 1159, 1100, 4),
  (62, .bipush (11), 2, 0, 0, 0),
  (64, .iload_n 3, 1, 0, 0, 0),
  (65, .iadd, 1, 0, 0, 0),
  (66, .dup2, 1, 0, 0, 0),
  (67, .iaload, 1, 0, 0, 0),
  (68, .iconst 1, 1, 0, 0, 0),
  (69, .isub, 1, 0, 0, 0),
  (70, .iastore, 1, 0, 0, 0),
  (71, .aload_n 0, 1, 0, 0, 0),
  (72, .iload 4, 2, 0, 0, 0),
  (74, .iload_n 2, 1, 0, 0, 0),
  (75, .isub, 1, 0, 0, 0),
  (76, .iconst 1, 1, 0, 0, 0),
  (77, .invokevirtual 244, 3, 1512, 99, 0),
  (80, .iinc 1 (1), 3, 0, 0, 0),
  (83, .aload_n 0, 1, 0, 0, 0),
  (84, .iload_n 2, 1, 0, 0, 0),
  (85, .invokevirtual 247, 3, 1520, 99, 0),
  (88, .istore 4, 2, 0, 0, 0),
  (90, .goto (-59), 3, 0, 0, 0),
  (93, .iinc 2 (-1), 3, 0, 0, 0),
  (96, .goto (-91), 3, 0, 0, 0),
  (99, .aload_n 0, 1, 0, 0, 0),
  (100, .iconst 0, 1, 0, 0, 0),
  (101, .putfield 91, 3, 1162, 1103, 3),
  (104, .iload_n 1, 1, 0, 0, 0),
  (105, .ireturn, 1, 0, 0, 0)]
/-- RollCutterModel.store(I)I -/
def xT_94 : List xE := [(0, .iload_n 1, 1, 0, 0, 0),
  (1, .iconst (-1), 1, 0, 0, 0),
  (2, .if_icmp .ne (33), 3, 0, 0, 0),
  (5, .iconst 0, 1, 0, 0, 0),
  (6, .istore_n 2, 1, 0, 0, 0),
  (7, .iconst 1, 1, 0, 0, 0),
  (8, .istore_n 3, 1, 0, 0, 0),
  (9, .iload_n 3, 1, 0, 0, 0),
  (10, .bipush (60), 2, 0, 0, 0),
  (12, .if_icmp .gt (21), 3, 0, 0, 0),
  (15, .iload_n 2, 1, 0, 0, 0),
  (16, .aload_n 0, 1, 0, 0, 0),
  (17, .getfield 9, 3, 1159, 1100, 4),
  (20, .bipush (17), 2, 0, 0, 0),
  (22, .iload_n 3, 1, 0, 0, 0),
  (23, .iadd, 1, 0, 0, 0),
  (24, .iaload, 1, 0, 0, 0),
  (25, .iadd, 1, 0, 0, 0),
  (26, .istore_n 2, 1, 0, 0, 0),
  (27, .iinc 3 (1), 3, 0, 0, 0),
  (30, .goto (-21), 3, 0, 0, 0),
  (33, .iload_n 2, 1, 0, 0, 0),
  (34, .ireturn, 1, 0, 0, 0),
  (35, .iload_n 1, 1, 0, 0, 0),
  (36, .iconst 1, 1, 0, 0, 0),
  (37, .bipush (60), 2, 0, 0, 0),
  (39, .invokestatic 87, 3, 1293, 2, 48),
  (42, .ifCond .eq (15), 3, 0, 0, 0),
  (45, .aload_n 0, 1, 0, 0, 0),
  (46, .getfield 9, 3, 1159, 1100, 4),
  (49, .bipush (17), 2, 0, 0, 0),
  (51, .iload_n 1, 1, 0, 0, 0),
  (52, .iadd, 1, 0, 0, 0),
  (53, .iaload, 1, 0, 0, 0),
  (54, .goto (4), 3, 0, 0, 0),
  (57, .iconst (-1), 1, 0, 0, 0),
  (58, .ireturn, 1, 0, 0, 0)]
/-- RollCutterModel.put(I)I -/
def xT_95 : List xE := [(0, .iload_n 1, 1, 0, 0, 0),
  (1, .iconst 1, 1, 0, 0, 0),
  (2, .bipush (60), 2, 0, 0, 0),
  (4, .invokestatic 87, 3, 1293, 2, 48),
  (7, .ifCond .ne (6), 3, 0, 0, 0),
  (10, .bipush (-2), 2, 0, 0, 0),
  (12, .ireturn, 1, 0, 0, 0),
  (13, .aload_n 0, 1, 0, 0, 0),
  (14, .getfield 9, 3, 1159, 1100, 4),
  (17, .bipush (17), 2, 0, 0, 0),
  (19, .iload_n 1, 1, 0, 0, 0),
  (20, .iadd, 1, 0, 0, 0),
  (21, .iaload, 1, 0, 0, 0),
  (22, .sipush (999), 3, 0, 0, 0),
  (25, .if_icmp .lt (6), 3, 0, 0, 0),
  (28, .bipush (-4), 2, 0, 0, 0),
  (30, .ireturn, 1, 0, 0, 0),
  (31, .aload_n 0, 1, 0, 0, 0),
  (32, .getfield 9, 3, 1159, 1100, 4),
  (35, .bipush (17), 2, 0, 0, 0),
  (37, .iload_n 1, 1, 0, 0, 0),
  (38, .iadd, 1, 0, 0, 0),
  (39, .dup2, 1, 0, 0, 0),
  (40, .iaload, 1, 0, 0, 0),
  (41, .iconst 1, 1, 0, 0, 0),
  (42, .iadd, 1, 0, 0, 0),
  (43, .iastore, 1, 0, 0, 0),
  (44, .aload_n 0, 1, 0, 0, 0),
  (45, .getfield 9, 3, 1159, 1100, 4),
  (48, .bipush (17), 2, 0, 0, 0),
  (50, .iload_n 1, 1, 0, 0, 0),
  (51, .iadd, 1, 0, 0, 0),
  (52, .iaload, 1, 0, 0, 0),
  (53, .ireturn, 1, 0, 0, 0)]
/-- RollCutterModel.feed(I)I -/
def xT_96 : List xE := [(0, .iload_n 1, 1, 0, 0, 0),
  (1, .iconst 1, 1, 0, 0, 0),
  (2, .bipush (127), 2, 0, 0, 0),
  (4, .invokestatic 87, 3, 1293, 2, 48),
  (7, .ifCond .ne (6), 3, 0, 0, 0),
  (10, .bipush (-2), 2, 0, 0, 0),
  (12, .ireturn, 1, 0, 0, 0),
  (13, .aload_n 0, 1, 0, 0, 0),
  (14, .getfield 250, 3, 1190, 1131, 0),
  (17, .bipush (90), 2, 0, 0, 0),
  (19, .if_icmp .ne (6), 3, 0, 0, 0),
  (22, .bipush (-4), 2, 0, 0, 0),
  (24, .ireturn, 1, 0, 0, 0),
  (25, .aload_n 0, 1, 0, 0, 0),
  (26, .getfield 74, 3, 1189, 1130, 4),
  (29, .aload_n 0, 1, 0, 0, 0),
  (30, .getfield 250, 3, 1190, 1131, 0),
  (33, .iload_n 1, 1, 0, 0, 0),
  (34, .i2b, 1, 0, 0, 0),
  (35, .bastore, 1, 0, 0, 0),
  (36, .aload_n 0, 1, 0, 0, 0),
  (37, .dup, 1, 0, 0, 0),
  (38, .getfield 250, 3, 1190, 1131, 0),
  (41, .iconst 1, 1, 0, 0, 0),
  (42, .iadd, 1, 0, 0, 0),
  (43, .putfield 250, 3, 1190, 1131, 0),
  (46, .aload_n 0, 1, 0, 0, 0),
  (47, .getfield 250, 3, 1190, 1131, 0),
  (50, .ireturn, 1, 0, 0, 0)]
/-- RollCutterModel.clear()I -/
def xT_97 : List xE := [(0, .aload_n 0, 1, 0, 0, 0),
  (1, .getfield 250, 3, 1190, 1131, 0),
  (4, .istore_n 1, 1, 0, 0, 0),
  (5, .aload_n 0, 1, 0, 0, 0),
  (6, .iconst 0, 1, 0, 0, 0),
  (7, .putfield 250, 3, 1190, 1131, 0),
  (10, .iload_n 1, 1, 0, 0, 0),
  (11, .ireturn, 1, 0, 0, 0)]
/-- RollCutterModel.here()I -/
def xT_98 : List xE := [(0, .aload_n 0, 1, 0, 0, 0),
  (1, .getfield 253, 3, 1191, 1132, 0),
  (4, .aload_n 0, 1, 0, 0, 0),
  (5, .getfield 250, 3, 1190, 1131, 0),
  (8, .if_icmp .ge (15), 3, 0, 0, 0),
  (11, .aload_n 0, 1, 0, 0, 0),
  (12, .getfield 74, 3, 1189, 1130, 4),
  (15, .aload_n 0, 1, 0, 0, 0),
  (16, .getfield 253, 3, 1191, 1132, 0),
  (19, .baload, 1, 0, 0, 0),
  (20, .goto (4), 3, 0, 0, 0),
  (23, .iconst (-1), 1, 0, 0, 0),
  (24, .ireturn, 1, 0, 0, 0)]
/-- RollCutterModel.wrong(I)V -/
def xT_99 : List xE := [(0, .aload_n 0, 1, 0, 0, 0),
  (1, .aload_n 0, 1, 0, 0, 0),
  (2, .getfield 256, 3, 1192, 1133, 0),
  (5, .ifCond .ge (7), 3, 0, 0, 0),
  (8, .iload_n 1, 1, 0, 0, 0),
  (9, .goto (7), 3, 0, 0, 0),
  (12, .aload_n 0, 1, 0, 0, 0),
  (13, .getfield 256, 3, 1192, 1133, 0),
  (16, .putfield 256, 3, 1192, 1133, 0),
  (19, .return_, 1, 0, 0, 0)]
/-- RollCutterModel.begins()V -/
def xT_100 : List xE := [(0, .aload_n 0, 1, 0, 0, 0),
  (1, .iconst 0, 1, 0, 0, 0),
  (2, .putfield 253, 3, 1191, 1132, 0),
  (5, .aload_n 0, 1, 0, 0, 0),
  (6, .iconst (-1), 1, 0, 0, 0),
  (7, .putfield 256, 3, 1192, 1133, 0),
  (10, .return_, 1, 0, 0, 0)]
/-- RollCutterModel.takes(I)Z -/
def xT_101 : List xE := [(0, .aload_n 0, 1, 0, 0, 0),
  (1, .getfield 256, 3, 1192, 1133, 0),
  (4, .ifCond .ge (11), 3, 0, 0, 0),
  (7, .aload_n 0, 1, 0, 0, 0),
  (8, .invokevirtual 259, 3, 1560, 0, 98),
  (11, .iload_n 1, 1, 0, 0, 0),
  (12, .if_icmp .eq (5), 3, 0, 0, 0),
  (15, .iconst 0, 1, 0, 0, 0),
  (16, .ireturn, 1, 0, 0, 0),
  (17, .aload_n 0, 1, 0, 0, 0),
  (18, .dup, 1, 0, 0, 0),
  (19, .getfield 253, 3, 1191, 1132, 0),
  (22, .iconst 1, 1, 0, 0, 0),
  (23, .iadd, 1, 0, 0, 0),
  (24, .putfield 253, 3, 1191, 1132, 0),
  (27, .iconst 1, 1, 0, 0, 0),
  (28, .ireturn, 1, 0, 0, 0)]
/-- RollCutterModel.must(I)V -/
def xT_102 : List xE := [(0, .aload_n 0, 1, 0, 0, 0),
  (1, .iload_n 1, 1, 0, 0, 0),
  (2, .invokevirtual 262, 3, 1568, 0, 101),
  (5, .ifCond .ne (11), 3, 0, 0, 0),
  (8, .aload_n 0, 1, 0, 0, 0),
  (9, .aload_n 0, 1, 0, 0, 0),
  (10, .getfield 253, 3, 1191, 1132, 0),
  (13, .invokevirtual 265, 3, 1552, 0, 99),
  (16, .return_, 1, 0, 0, 0)]
/-- RollCutterModel.number(II)I -/
def xT_103 : List xE := [(0, .aload_n 0, 1, 0, 0, 0),
  (1, .getfield 253, 3, 1191, 1132, 0),
  (4, .istore_n 3, 1, 0, 0, 0),
  (5, .iconst 0, 1, 0, 0, 0),
  (6, .istore 4, 2, 0, 0, 0),
  (8, .aload_n 0, 1, 0, 0, 0),
  (9, .getfield 256, 3, 1192, 1133, 0),
  (12, .ifCond .ge (55), 3, 0, 0, 0),
  (15, .aload_n 0, 1, 0, 0, 0),
  (16, .invokevirtual 259, 3, 1560, 0, 98),
  (19, .bipush (48), 2, 0, 0, 0),
  (21, .bipush (57), 2, 0, 0, 0),
  (23, .invokestatic 87, 3, 1293, 2, 48),
  (26, .ifCond .eq (41), 3, 0, 0, 0),
  (29, .aload_n 0, 1, 0, 0, 0),
  (30, .getfield 253, 3, 1191, 1132, 0),
  (33, .iload_n 3, 1, 0, 0, 0),
  (34, .isub, 1, 0, 0, 0),
  (35, .iconst 2, 1, 0, 0, 0),
  (36, .if_icmp .ge (31), 3, 0, 0, 0),
  (39, .bipush (10), 2, 0, 0, 0),
  (41, .iload 4, 2, 0, 0, 0),
  (43, .imul, 1, 0, 0, 0),
  (44, .aload_n 0, 1, 0, 0, 0),
  (45, .invokevirtual 259, 3, 1560, 0, 98),
  (48, .iadd, 1, 0, 0, 0),
  (49, .bipush (48), 2, 0, 0, 0),
  (51, .isub, 1, 0, 0, 0),
  (52, .istore 4, 2, 0, 0, 0),
  (54, .aload_n 0, 1, 0, 0, 0),
  (55, .dup, 1, 0, 0, 0),
  (56, .getfield 253, 3, 1191, 1132, 0),
  (59, .iconst 1, 1, 0, 0, 0),
  (60, .iadd, 1, 0, 0, 0),
  (61, .putfield 253, 3, 1191, 1132, 0),
  (64, .goto (-56), 3, 0, 0, 0),
  (67, .aload_n 0, 1, 0, 0, 0),
  (68, .getfield 253, 3, 1191, 1132, 0),
  (71, .iload_n 3, 1, 0, 0, 0),
  (72, .if_icmp .eq (13), 3, 0, 0, 0),
  (75, .iload 4, 2, 0, 0, 0),
  (77, .iload_n 1, 1, 0, 0, 0),
  (78, .iload_n 2, 1, 0, 0, 0),
  (79, .invokestatic 87, 3, 1293, 2, 48),
  (82, .ifCond .ne (8), 3, 0, 0, 0),
  (85, .aload_n 0, 1, 0, 0, 0),
  (86, .iload_n 3, 1, 0, 0, 0),
  (87, .invokevirtual 265, 3, 1552, 0, 99),
  (90, .iload 4, 2, 0, 0, 0),
  (92, .ireturn, 1, 0, 0, 0)]
/-- RollCutterModel.readOrder()V -/
def xT_104 : List xE := [(0, .aload_n 0, 1, 0, 0, 0),
  (1, .getfield 253, 3, 1191, 1132, 0),
  (4, .istore_n 1, 1, 0, 0, 0),
  (5, .aload_n 0, 1, 0, 0, 0),
  (6, .getfield 9, 3, 1159, 1100, 4),
  (9, .iconst 4, 1, 0, 0, 0),
  (10, .iaload, 1, 0, 0, 0),
  (11, .bipush (6), 2, 0, 0, 0),
  (13, .if_icmp .ne (8), 3, 0, 0, 0),
  (16, .aload_n 0, 1, 0, 0, 0),
  (17, .iload_n 1, 1, 0, 0, 0),
  (18, .invokevirtual 265, 3, 1552, 0, 99),
  (21, .aload_n 0, 1, 0, 0, 0),
  (22, .iconst 5, 1, 0, 0, 0),
  (23, .aload_n 0, 1, 0, 0, 0),
  (24, .getfield 9, 3, 1159, 1100, 4),
  (27, .iconst 0, 1, 0, 0, 0),
  (28, .iaload, 1, 0, 0, 0),
  (29, .invokevirtual 268, 3, 1556, 0, 103),
  (32, .istore_n 2, 1, 0, 0, 0),
  (33, .aload_n 0, 1, 0, 0, 0),
  (34, .iload_n 2, 1, 0, 0, 0),
  (35, .invokevirtual 95, 3, 1296, 0, 50),
  (38, .ifCond .lt (8), 3, 0, 0, 0),
  (41, .aload_n 0, 1, 0, 0, 0),
  (42, .iload_n 1, 1, 0, 0, 0),
  (43, .invokevirtual 265, 3, 1552, 0, 99),
  (46, .aload_n 0, 1, 0, 0, 0),
  (47, .bipush (120), 2, 0, 0, 0),
  (49, .invokevirtual 271, 3, 1564, 0, 102),
  (52, .aload_n 0, 1, 0, 0, 0),
  (53, .iconst 0, 1, 0, 0, 0),
  (54, .bipush (40), 2, 0, 0, 0),
  (56, .invokevirtual 268, 3, 1556, 0, 103),
  (59, .istore_n 3, 1, 0, 0, 0),
  (60, .aload_n 0, 1, 0, 0, 0),
  (61, .getfield 256, 3, 1192, 1133, 0),
  (64, .ifCond .ge (9), 3, 0, 0, 0),
  (67, .aload_n 0, 1, 0, 0, 0),
  (68, .iload_n 2, 1, 0, 0, 0),
  (69, .iload_n 3, 1, 0, 0, 0),
  (70, .invokevirtual 99, 3, 1300, 0, 51),
  (73, .return_, 1, 0, 0, 0)]
/-- RollCutterModel.book()I -/
def xT_105 : List xE := [(0, .aload_n 0, 1, 0, 0, 0),
  (1, .invokevirtual 274, 3, 1544, 0, 100),
  (4, .aload_n 0, 1, 0, 0, 0),
  (5, .getfield 9, 3, 1159, 1100, 4),
  (8, .iconst 4, 1, 0, 0, 0),
  (9, .iaload, 1, 0, 0, 0),
  (10, .istore_n 1, 1, 0, 0, 0),
  (11, .aload_n 0, 1, 0, 0, 0),
  (12, .invokevirtual 277, 3, 1548, 0, 104),
  (15, .aload_n 0, 1, 0, 0, 0),
  (16, .bipush (59), 2, 0, 0, 0),
  (18, .invokevirtual 262, 3, 1568, 0, 101),
  (21, .ifCond .eq (10), 3, 0, 0, 0),
  (24, .aload_n 0, 1, 0, 0, 0),
  (25, .invokevirtual 277, 3, 1548, 0, 104),
  (28, .goto (-13), 3, 0, 0, 0),
  (31, .aload_n 0, 1, 0, 0, 0),
  (32, .getfield 253, 3, 1191, 1132, 0),
  (35, .aload_n 0, 1, 0, 0, 0),
  (36, .getfield 250, 3, 1190, 1131, 0),
  (39, .if_icmp .ge (11), 3, 0, 0, 0),
  (42, .aload_n 0, 1, 0, 0, 0),
  (43, .aload_n 0, 1, 0, 0, 0),
  (44, .getfield 253, 3, 1191, 1132, 0),
  (47, .invokevirtual 265, 3, 1552, 0, 99),
  (50, .aload_n 0, 1, 0, 0, 0),
  (51, .iconst 0, 1, 0, 0, 0),
  (52, .putfield 250, 3, 1190, 1131, 0),
  (55, .aload_n 0, 1, 0, 0, 0),
  (56, .getfield 256, 3, 1192, 1133, 0),
  (59, .ifCond .lt (18), 3, 0, 0, 0),
  (62, .aload_n 0, 1, 0, 0, 0),
  (63, .getfield 9, 3, 1159, 1100, 4),
  (66, .iconst 4, 1, 0, 0, 0),
  (67, .iload_n 1, 1, 0, 0, 0),
  (68, .iastore, 1, 0, 0, 0),
  (69, .bipush (-100), 2, 0, 0, 0),
  (71, .aload_n 0, 1, 0, 0, 0),
  (72, .getfield 256, 3, 1192, 1133, 0),
  (75, .isub, 1, 0, 0, 0),
  (76, .ireturn, 1, 0, 0, 0),
  (77, .aload_n 0, 1, 0, 0, 0),
  (78, .getfield 9, 3, 1159, 1100, 4),
  (81, .iconst 4, 1, 0, 0, 0),
  (82, .iaload, 1, 0, 0, 0),
  (83, .iload_n 1, 1, 0, 0, 0),
  (84, .isub, 1, 0, 0, 0),
  (85, .ireturn, 1, 0, 0, 0)]
/-- RollCutterModel.either()Z -/
def xT_106 : List xE := [(0, .aload_n 0, 1, 0, 0, 0),
  (1, .invokevirtual 280, 3, 1588, 0, 107),
  (4, .istore_n 1, 1, 0, 0, 0),
  (5, .aload_n 0, 1, 0, 0, 0),
  (6, .bipush (124), 2, 0, 0, 0),
  (8, .invokevirtual 262, 3, 1568, 0, 101),
  (11, .ifCond .eq (13), 3, 0, 0, 0),
  (14, .iload_n 1, 1, 0, 0, 0),
  (15, .aload_n 0, 1, 0, 0, 0),
  (16, .invokevirtual 280, 3, 1588, 0, 107),
  (19, .ior, 1, 0, 0, 0),
  (20, .istore_n 1, 1, 0, 0, 0),
  (21, .goto (-16), 3, 0, 0, 0),
  (24, .iload_n 1, 1, 0, 0, 0),
  (25, .ireturn, 1, 0, 0, 0)]
/-- RollCutterModel.both()Z -/
def xT_107 : List xE := [(0, .aload_n 0, 1, 0, 0, 0),
  (1, .invokevirtual 284, 3, 1592, 0, 109),
  (4, .istore_n 1, 1, 0, 0, 0),
  (5, .aload_n 0, 1, 0, 0, 0),
  (6, .bipush (38), 2, 0, 0, 0),
  (8, .invokevirtual 262, 3, 1568, 0, 101),
  (11, .ifCond .eq (13), 3, 0, 0, 0),
  (14, .iload_n 1, 1, 0, 0, 0),
  (15, .aload_n 0, 1, 0, 0, 0),
  (16, .invokevirtual 284, 3, 1592, 0, 109),
  (19, .iand, 1, 0, 0, 0),
  (20, .istore_n 1, 1, 0, 0, 0),
  (21, .goto (-16), 3, 0, 0, 0),
  (24, .iload_n 1, 1, 0, 0, 0),
  (25, .ireturn, 1, 0, 0, 0)]
/-- RollCutterModel.opens(I)Z -/
def xT_108 : List xE := [(0, .aload_n 0, 1, 0, 0, 0),
  (1, .getfield 256, 3, 1192, 1133, 0),
  (4, .ifCond .ge (23), 3, 0, 0, 0),
  (7, .aload_n 0, 1, 0, 0, 0),
  (8, .invokevirtual 259, 3, 1560, 0, 98),
  (11, .iload_n 1, 1, 0, 0, 0),
  (12, .if_icmp .ne (15), 3, 0, 0, 0),
  (15, .aload_n 0, 1, 0, 0, 0),
  (16, .getfield 287, 3, 1194, 1135, 0),
  (19, .iconst 4, 1, 0, 0, 0),
  (20, .if_icmp .ge (7), 3, 0, 0, 0),
  (23, .iconst 1, 1, 0, 0, 0),
  (24, .goto (4), 3, 0, 0, 0),
  (27, .iconst 0, 1, 0, 0, 0),
  (28, .istore_n 2, 1, 0, 0, 0),
  (29, .aload_n 0, 1, 0, 0, 0),
  (30, .dup, 1, 0, 0, 0),
  (31, .getfield 287, 3, 1194, 1135, 0),
  (34, .iload_n 2, 1, 0, 0, 0),
  (35, .ifCond .eq (7), 3, 0, 0, 0),
  (38, .iconst 1, 1, 0, 0, 0),
  (39, .goto (4), 3, 0, 0, 0),
  (42, .iconst 0, 1, 0, 0, 0),
  (43, .iadd, 1, 0, 0, 0),
  (44, .putfield 287, 3, 1194, 1135, 0),
  (47, .aload_n 0, 1, 0, 0, 0),
  (48, .dup, 1, 0, 0, 0),
  (49, .getfield 253, 3, 1191, 1132, 0),
  (52, .iload_n 2, 1, 0, 0, 0),
  (53, .ifCond .eq (7), 3, 0, 0, 0),
  (56, .iconst 1, 1, 0, 0, 0),
  (57, .goto (4), 3, 0, 0, 0),
  (60, .iconst 0, 1, 0, 0, 0),
  (61, .iadd, 1, 0, 0, 0),
  (62, .putfield 253, 3, 1191, 1132, 0),
  (65, .iload_n 2, 1, 0, 0, 0),
  (66, .ireturn, 1, 0, 0, 0)]
/-- RollCutterModel.one()Z -/
def xT_109 : List xE := [(0, .aload_n 0, 1, 0, 0, 0),
  (1, .bipush (33), 2, 0, 0, 0),
  (3, .invokevirtual 290, 3, 1596, 0, 108),
  (6, .ifCond .eq (28), 3, 0, 0, 0),
  (9, .aload_n 0, 1, 0, 0, 0),
  (10, .invokevirtual 284, 3, 1592, 0, 109),
  (13, .ifCond .ne (7), 3, 0, 0, 0),
  (16, .iconst 1, 1, 0, 0, 0),
  (17, .goto (4), 3, 0, 0, 0),
  (20, .iconst 0, 1, 0, 0, 0),
  (21, .istore_n 1, 1, 0, 0, 0),
  (22, .aload_n 0, 1, 0, 0, 0),
  (23, .dup, 1, 0, 0, 0),
  (24, .getfield 287, 3, 1194, 1135, 0),
  (27, .iconst 1, 1, 0, 0, 0),
  (28, .isub, 1, 0, 0, 0),
  (29, .putfield 287, 3, 1194, 1135, 0),
  (32, .iload_n 1, 1, 0, 0, 0),
  (33, .ireturn, 1, 0, 0, 0),
  (34, .aload_n 0, 1, 0, 0, 0),
  (35, .bipush (40), 2, 0, 0, 0),
  (37, .invokevirtual 290, 3, 1596, 0, 108),
  (40, .ifCond .eq (26), 3, 0, 0, 0),
  (43, .aload_n 0, 1, 0, 0, 0),
  (44, .invokevirtual 293, 3, 1584, 0, 106),
  (47, .istore_n 1, 1, 0, 0, 0),
  (48, .aload_n 0, 1, 0, 0, 0),
  (49, .bipush (41), 2, 0, 0, 0),
  (51, .invokevirtual 271, 3, 1564, 0, 102),
  (54, .aload_n 0, 1, 0, 0, 0),
  (55, .dup, 1, 0, 0, 0),
  (56, .getfield 287, 3, 1194, 1135, 0),
  (59, .iconst 1, 1, 0, 0, 0),
  (60, .isub, 1, 0, 0, 0),
  (61, .putfield 287, 3, 1194, 1135, 0),
  (64, .iload_n 1, 1, 0, 0, 0),
  (65, .ireturn, 1, 0, 0, 0),
  (66, .aload_n 0, 1, 0, 0, 0),
  (67, .invokevirtual 296, 3, 1600, 0, 110),
  (70, .istore_n 1, 1, 0, 0, 0),
  (71, .aload_n 0, 1, 0, 0, 0),
  (72, .invokevirtual 259, 3, 1560, 0, 98),
  (75, .istore_n 2, 1, 0, 0, 0),
  (76, .aload_n 0, 1, 0, 0, 0),
  (77, .bipush (60), 2, 0, 0, 0),
  (79, .invokevirtual 262, 3, 1568, 0, 101),
  (82, .ifCond .ne (29), 3, 0, 0, 0),
  (85, .aload_n 0, 1, 0, 0, 0),
  (86, .bipush (61), 2, 0, 0, 0),
  (88, .invokevirtual 262, 3, 1568, 0, 101),
  (91, .ifCond .ne (20), 3, 0, 0, 0),
  (94, .aload_n 0, 1, 0, 0, 0),
  (95, .bipush (62), 2, 0, 0, 0),
  (97, .invokevirtual 262, 3, 1568, 0, 101),
  (100, .ifCond .ne (11), 3, 0, 0, 0),
  (103, .aload_n 0, 1, 0, 0, 0),
  (104, .aload_n 0, 1, 0, 0, 0),
  (105, .getfield 253, 3, 1191, 1132, 0),
  (108, .invokevirtual 265, 3, 1552, 0, 99),
  (111, .aload_n 0, 1, 0, 0, 0),
  (112, .iconst 0, 1, 0, 0, 0),
  (113, .bipush (99), 2, 0, 0, 0),
  (115, .invokevirtual 268, 3, 1556, 0, 103),
  (118, .istore_n 3, 1, 0, 0, 0),
  (119, .aload_n 0, 1, 0, 0, 0),
  (120, .getfield 299, 3, 1193, 1134, 0),
  (123, .ifCond .lt (10), 3, 0, 0, 0),
  (126, .aload_n 0, 1, 0, 0, 0),
  (127, .getfield 256, 3, 1192, 1133, 0),
  (130, .ifCond .lt (7), 3, 0, 0, 0),
  (133, .iconst 0, 1, 0, 0, 0),
  (134, .goto (12), 3, 0, 0, 0),
  (137, .aload_n 0, 1, 0, 0, 0),
  (138, .aload_n 0, 1, 0, 0, 0),
  (139, .getfield 299, 3, 1193, 1134, 0),
  (142, .iload_n 1, 1, 0, 0, 0),
  (143, .invokevirtual 302, 3, 1606, 99, 0),
  (146, .istore 4, 2, 0, 0, 0),
  (148, .iload_n 2, 1, 0, 0, 0),
  (149, .bipush (60), 2, 0, 0, 0),
  (151, .if_icmp .ne (17), 3, 0, 0, 0),
  (154, .iload 4, 2, 0, 0, 0),
  (156, .iload_n 3, 1, 0, 0, 0),
  (157, .if_icmp .ge (7), 3, 0, 0, 0),
  (160, .iconst 1, 1, 0, 0, 0),
  (161, .goto (38), 3, 0, 0, 0),
  (164, .iconst 0, 1, 0, 0, 0),
  (165, .goto (34), 3, 0, 0, 0),
  (168, .iload_n 2, 1, 0, 0, 0),
  (169, .bipush (62), 2, 0, 0, 0),
  (171, .if_icmp .ne (17), 3, 0, 0, 0),
  (174, .iload 4, 2, 0, 0, 0),
  (176, .iload_n 3, 1, 0, 0, 0),
  (177, .if_icmp .le (7), 3, 0, 0, 0),
  (180, .iconst 1, 1, 0, 0, 0),
  (181, .goto (18), 3, 0, 0, 0),
  (184, .iconst 0, 1, 0, 0, 0),
  (185, .goto (14), 3, 0, 0, 0),
  (188, .iload 4, 2, 0, 0, 0),
  (190, .iload_n 3, 1, 0, 0, 0),
  (191, .if_icmp .ne (7), 3, 0, 0, 0),
  (194, .iconst 1, 1, 0, 0, 0),
  (195, .goto (4), 3, 0, 0, 0),
  (198, .iconst 0, 1, 0, 0, 0),
  (199, .ireturn, 1, 0, 0, 0)]
/-- RollCutterModel.word()I -/
def xT_110 : List xE := [(0, .aload_n 0, 1, 0, 0, 0),
  (1, .getfield 253, 3, 1191, 1132, 0),
  (4, .istore_n 1, 1, 0, 0, 0),
  (5, .aload_n 0, 1, 0, 0, 0),
  (6, .getfield 256, 3, 1192, 1133, 0),
  (9, .ifCond .ge (30), 3, 0, 0, 0),
  (12, .aload_n 0, 1, 0, 0, 0),
  (13, .invokevirtual 259, 3, 1560, 0, 98),
  (16, .bipush (97), 2, 0, 0, 0),
  (18, .bipush (122), 2, 0, 0, 0),
  (20, .invokestatic 87, 3, 1293, 2, 48),
  (23, .ifCond .eq (16), 3, 0, 0, 0),
  (26, .aload_n 0, 1, 0, 0, 0),
  (27, .dup, 1, 0, 0, 0),
  (28, .getfield 253, 3, 1191, 1132, 0),
  (31, .iconst 1, 1, 0, 0, 0),
  (32, .iadd, 1, 0, 0, 0),
  (33, .putfield 253, 3, 1191, 1132, 0),
  (36, .goto (-31), 3, 0, 0, 0),
  (39, .aload_n 0, 1, 0, 0, 0),
  (40, .getfield 253, 3, 1191, 1132, 0),
  (43, .iload_n 1, 1, 0, 0, 0),
  (44, .isub, 1, 0, 0, 0),
  (45, .istore_n 2, 1, 0, 0, 0),
  (46, .iload_n 2, 1, 0, 0, 0),
  (47, .iconst 1, 1, 0, 0, 0),
  (48, .if_icmp .ne (32), 3, 0, 0, 0),
  (51, .aload_n 0, 1, 0, 0, 0),
  (52, .getfield 74, 3, 1189, 1130, 4),
  (55, .iload_n 1, 1, 0, 0, 0),
  (56, .baload, 1, 0, 0, 0),
  (57, .bipush (97), 2, 0, 0, 0),
  (59, .bipush (102), 2, 0, 0, 0),
  (61, .invokestatic 87, 3, 1293, 2, 48),
  (64, .ifCond .eq (16), 3, 0, 0, 0),
  (67, .bipush (10), 2, 0, 0, 0),
  (69, .aload_n 0, 1, 0, 0, 0),
  (70, .getfield 74, 3, 1189, 1130, 4),
  (73, .iload_n 1, 1, 0, 0, 0),
  (74, .baload, 1, 0, 0, 0),
  (75, .iadd, 1, 0, 0, 0),
  (76, .bipush (97), 2, 0, 0, 0),
  (78, .isub, 1, 0, 0, 0),
  (79, .ireturn, 1, 0, 0, 0),
  (80, .iconst 0, 1, 0, 0, 0),
  (81, .istore_n 3, 1, 0, 0, 0),
  (82, .iload_n 3, 1, 0, 0, 0),
  (83, .iconst 5, 1, 0, 0, 0),
  (84, .if_icmp .ge (102), 3, 0, 0, 0),
  (87, .iload_n 2, 1, 0, 0, 0),
  (88, .ifCond .le (30), 3, 0, 0, 0),
  (91, .iload_n 2, 1, 0, 0, 0),
  (92, .bipush (7), 2, 0, 0, 0),
  (94, .if_icmp .ge (24), 3, 0, 0, 0),
  (97, .ldc_w 305, 3, 1604, 9, 1),
  (100, .bipush (7), 2, 0, 0, 0),
  (102, .iload_n 3, 1, 0, 0, 0),
  (103, .imul, 1, 0, 0, 0),
  (104, .iload_n 2, 1, 0, 0, 0),
  (105, .iadd, 1, 0, 0, 0),
  (106, .invokevirtual 307, 3, 1605, 99, 0),
  (109, .bipush (32), 2, 0, 0, 0),
  (111, .if_icmp .ne (7), 3, 0, 0, 0),
  (114, .iconst 1, 1, 0, 0, 0),
  (115, .goto (4), 3, 0, 0, 0),
  (118, .iconst 0, 1, 0, 0, 0),
  (119, .istore 4, 2, 0, 0, 0),
  (121, .iconst 0, 1, 0, 0, 0),
  (122, .istore 5, 2, 0, 0, 0),
  (124, .iload 5, 2, 0, 0, 0),
  (126, .iload_n 2, 1, 0, 0, 0),
  (127, .if_icmp .ge (46), 3, 0, 0, 0),
  (130, .iload 4, 2, 0, 0, 0),
  (132, .ifCond .eq (41), 3, 0, 0, 0),
  (135, .ldc_w 305, 3, 1604, 9, 1),
  (138, .bipush (7), 2, 0, 0, 0),
  (140, .iload_n 3, 1, 0, 0, 0),
  (141, .imul, 1, 0, 0, 0),
  (142, .iload 5, 2, 0, 0, 0),
  (144, .iadd, 1, 0, 0, 0),
  (145, .invokevirtual 307, 3, 1605, 99, 0),
  (148, .aload_n 0, 1, 0, 0, 0),
  (149, .getfield 74, 3, 1189, 1130, 4),
  (152, .iload_n 1, 1, 0, 0, 0),
  (153, .iload 5, 2, 0, 0, 0),
  (155, .iadd, 1, 0, 0, 0),
  (156, .baload, 1, 0, 0, 0),
  (157, .if_icmp .ne (7), 3, 0, 0, 0),
  (160, .iconst 1, 1, 0, 0, 0),
  (161, .goto (4), 3, 0, 0, 0),
  (164, .iconst 0, 1, 0, 0, 0),
  (165, .istore 4, 2, 0, 0, 0),
  (167, .iinc 5 (1), 3, 0, 0, 0),
  (170, .goto (-46), 3, 0, 0, 0),
  (173, .iload 4, 2, 0, 0, 0),
  (175, .ifCond .eq (5), 3, 0, 0, 0),
  (178, .iload_n 3, 1, 0, 0, 0),
  (179, .ireturn, 1, 0, 0, 0),
  (180, .iinc 3 (1), 3, 0, 0, 0),
  (183, .goto (-101), 3, 0, 0, 0),
  (186, .aload_n 0, 1, 0, 0, 0),
  (187, .iload_n 1, 1, 0, 0, 0),
  (188, .invokevirtual 265, 3, 1552, 0, 99),
  (191, .iconst 0, 1, 0, 0, 0),
  (192, .ireturn, 1, 0, 0, 0)]
/-- RollCutterModel.isSo(I)Z -/
def xT_111 : List xE := [(0, .aload_n 0, 1, 0, 0, 0),
  (1, .invokevirtual 274, 3, 1544, 0, 100),
  (4, .aload_n 0, 1, 0, 0, 0),
  (5, .iconst 0, 1, 0, 0, 0),
  (6, .putfield 287, 3, 1194, 1135, 0),
  (9, .aload_n 0, 1, 0, 0, 0),
  (10, .iload_n 1, 1, 0, 0, 0),
  (11, .putfield 299, 3, 1193, 1134, 0),
  (14, .aload_n 0, 1, 0, 0, 0),
  (15, .invokevirtual 293, 3, 1584, 0, 106),
  (18, .istore_n 2, 1, 0, 0, 0),
  (19, .aload_n 0, 1, 0, 0, 0),
  (20, .getfield 253, 3, 1191, 1132, 0),
  (23, .aload_n 0, 1, 0, 0, 0),
  (24, .getfield 250, 3, 1190, 1131, 0),
  (27, .if_icmp .ge (11), 3, 0, 0, 0),
  (30, .aload_n 0, 1, 0, 0, 0),
  (31, .aload_n 0, 1, 0, 0, 0),
  (32, .getfield 253, 3, 1191, 1132, 0),
  (35, .invokevirtual 265, 3, 1552, 0, 99),
  (38, .iload_n 2, 1, 0, 0, 0),
  (39, .ireturn, 1, 0, 0, 0)]
/-- RollCutterModel.meant(Z)I -/
def xT_112 : List xE := [(0, .aload_n 0, 1, 0, 0, 0),
  (1, .invokevirtual 183, 3, 1361, 0, 65),
  (4, .aload_n 0, 1, 0, 0, 0),
  (5, .iconst (-1), 1, 0, 0, 0),
  (6, .invokevirtual 313, 3, 1580, 0, 111),
  (9, .pop, 1, 0, 0, 0),
  (10, .iconst 0, 1, 0, 0, 0),
  (11, .istore_n 2, 1, 0, 0, 0),
  (12, .bipush (-5), 2, 0, 0, 0),
  (14, .istore_n 3, 1, 0, 0, 0),
  (15, .aload_n 0, 1, 0, 0, 0),
  (16, .getfield 207, 3, 1179, 1120, 0),
  (19, .iconst 1, 1, 0, 0, 0),
  (20, .isub, 1, 0, 0, 0),
  (21, .istore 4, 2, 0, 0, 0),
  (23, .iload 4, 2, 0, 0, 0),
  (25, .ifCond .lt (31), 3, 0, 0, 0),
  (28, .aload_n 0, 1, 0, 0, 0),
  (29, .getfield 256, 3, 1192, 1133, 0),
  (32, .ifCond .ge (24), 3, 0, 0, 0),
  (35, .aload_n 0, 1, 0, 0, 0),
  (36, .iload 4, 2, 0, 0, 0),
  (38, .invokevirtual 313, 3, 1580, 0, 111),
  (41, .ifCond .eq (9), 3, 0, 0, 0),
  (44, .iinc 2 (1), 3, 0, 0, 0),
  (47, .iload 4, 2, 0, 0, 0),
  (49, .istore_n 3, 1, 0, 0, 0),
  (50, .iinc 4 (-1), 3, 0, 0, 0),
  (53, .goto (-30), 3, 0, 0, 0),
  (56, .aload_n 0, 1, 0, 0, 0),
  (57, .iconst 0, 1, 0, 0, 0),
  (58, .putfield 250, 3, 1190, 1131, 0),
  (61, .aload_n 0, 1, 0, 0, 0),
  (62, .getfield 256, 3, 1192, 1133, 0),
  (65, .ifCond .lt (13), 3, 0, 0, 0),
  (68, .bipush (-100), 2, 0, 0, 0),
  (70, .aload_n 0, 1, 0, 0, 0),
  (71, .getfield 256, 3, 1192, 1133, 0),
  (74, .isub, 1, 0, 0, 0),
  (75, .goto (12), 3, 0, 0, 0),
  (78, .iload_n 1, 1, 0, 0, 0),
  (79, .ifCond .eq (7), 3, 0, 0, 0),
  (82, .iload_n 3, 1, 0, 0, 0),
  (83, .goto (4), 3, 0, 0, 0),
  (86, .iload_n 2, 1, 0, 0, 0),
  (87, .ireturn, 1, 0, 0, 0)]
/-- RollCutterModel.pick()I -/
def xT_113 : List xE := [(0, .aload_n 0, 1, 0, 0, 0),
  (1, .iconst 0, 1, 0, 0, 0),
  (2, .invokevirtual 316, 3, 1576, 0, 112),
  (5, .ireturn, 1, 0, 0, 0)]
/-- RollCutterModel.first()I -/
def xT_114 : List xE := [(0, .aload_n 0, 1, 0, 0, 0),
  (1, .iconst 1, 1, 0, 0, 0),
  (2, .invokevirtual 316, 3, 1576, 0, 112),
  (5, .ireturn, 1, 0, 0, 0)]
/-- RollCutterModel.readCut()V -/
def xT_115 : List xE := [(0, .aload_n 0, 1, 0, 0, 0),
  (1, .iconst 1, 1, 0, 0, 0),
  (2, .bipush (99), 2, 0, 0, 0),
  (4, .invokevirtual 268, 3, 1556, 0, 103),
  (7, .istore_n 1, 1, 0, 0, 0),
  (8, .aload_n 0, 1, 0, 0, 0),
  (9, .bipush (120), 2, 0, 0, 0),
  (11, .invokevirtual 271, 3, 1564, 0, 102),
  (14, .iconst 0, 1, 0, 0, 0),
  (15, .istore_n 2, 1, 0, 0, 0),
  (16, .iload_n 2, 1, 0, 0, 0),
  (17, .bipush (6), 2, 0, 0, 0),
  (19, .if_icmp .ge (16), 3, 0, 0, 0),
  (22, .aload_n 0, 1, 0, 0, 0),
  (23, .getfield 78, 3, 1195, 1136, 4),
  (26, .iload_n 2, 1, 0, 0, 0),
  (27, .iconst 0, 1, 0, 0, 0),
  (28, .iastore, 1, 0, 0, 0),
  (29, .iinc 2 (1), 3, 0, 0, 0),
  (32, .goto (-16), 3, 0, 0, 0),
  (35, .iconst (-1), 1, 0, 0, 0),
  (36, .istore_n 2, 1, 0, 0, 0),
  (37, .iconst 1, 1, 0, 0, 0),
  (38, .istore_n 3, 1, 0, 0, 0),
  (39, .iload_n 3, 1, 0, 0, 0),
  (40, .ifCond .eq (102), 3, 0, 0, 0),
  (43, .aload_n 0, 1, 0, 0, 0),
  (44, .getfield 256, 3, 1192, 1133, 0),
  (47, .ifCond .ge (95), 3, 0, 0, 0),
  (50, .aload_n 0, 1, 0, 0, 0),
  (51, .iconst 1, 1, 0, 0, 0),
  (52, .bipush (12), 2, 0, 0, 0),
  (54, .invokevirtual 268, 3, 1556, 0, 103),
  (57, .istore 4, 2, 0, 0, 0),
  (59, .aload_n 0, 1, 0, 0, 0),
  (60, .invokevirtual 259, 3, 1560, 0, 98),
  (63, .bipush (97), 2, 0, 0, 0),
  (65, .isub, 1, 0, 0, 0),
  (66, .istore 5, 2, 0, 0, 0),
  (68, .aload_n 0, 1, 0, 0, 0),
  (69, .getfield 256, 3, 1192, 1133, 0),
  (72, .ifCond .ge (26), 3, 0, 0, 0),
  (75, .aload_n 0, 1, 0, 0, 0),
  (76, .iload 5, 2, 0, 0, 0),
  (78, .invokevirtual 103, 3, 1308, 0, 49),
  (81, .ifCond .eq (9), 3, 0, 0, 0),
  (84, .iload 5, 2, 0, 0, 0),
  (86, .iload_n 2, 1, 0, 0, 0),
  (87, .if_icmp .gt (11), 3, 0, 0, 0),
  (90, .aload_n 0, 1, 0, 0, 0),
  (91, .aload_n 0, 1, 0, 0, 0),
  (92, .getfield 253, 3, 1191, 1132, 0),
  (95, .invokevirtual 265, 3, 1552, 0, 99),
  (98, .aload_n 0, 1, 0, 0, 0),
  (99, .getfield 256, 3, 1192, 1133, 0),
  (102, .ifCond .ge (25), 3, 0, 0, 0),
  (105, .aload_n 0, 1, 0, 0, 0),
  (106, .dup, 1, 0, 0, 0),
  (107, .getfield 253, 3, 1191, 1132, 0),
  (110, .iconst 1, 1, 0, 0, 0),
  (111, .iadd, 1, 0, 0, 0),
  (112, .putfield 253, 3, 1191, 1132, 0),
  (115, .aload_n 0, 1, 0, 0, 0),
  (116, .getfield 78, 3, 1195, 1136, 4),
  (119, .iload 5, 2, 0, 0, 0),
  (121, .iload 4, 2, 0, 0, 0),
  (123, .iastore, 1, 0, 0, 0),
  (124, .iload 5, 2, 0, 0, 0),
  (126, .istore_n 2, 1, 0, 0, 0),
  (127, .aload_n 0, 1, 0, 0, 0),
  (128, .invokevirtual 259, 3, 1560, 0, 98),
  (131, .bipush (48), 2, 0, 0, 0),
  (133, .bipush (57), 2, 0, 0, 0),
  (135, .invokestatic 87, 3, 1293, 2, 48),
  (138, .istore_n 3, 1, 0, 0, 0),
  (139, .goto (-100), 3, 0, 0, 0),
  (142, .aload_n 0, 1, 0, 0, 0),
  (143, .getfield 256, 3, 1192, 1133, 0),
  (146, .ifCond .lt (4), 3, 0, 0, 0),
  (149, .return_, 1, 0, 0, 0),
  (150, .aload_n 0, 1, 0, 0, 0),
  (151, .aload_n 0, 1, 0, 0, 0),
  (152, .getfield 320, 3, 1199, 1140, 0),
  (155, .ifCond .ge (22), 3, 0, 0, 0),
  (158, .aload_n 0, 1, 0, 0, 0),
  (159, .aload_n 0, 1, 0, 0, 0),
  (160, .getfield 78, 3, 1195, 1136, 4),
  (163, .iconst 0, 1, 0, 0, 0),
  (164, .invokevirtual 323, 3, 1622, 99, 0),
  (167, .ifCond .ne (10), 3, 0, 0, 0),
  (170, .aload_n 0, 1, 0, 0, 0),
  (171, .getfield 326, 3, 1198, 1139, 0),
  (174, .goto (7), 3, 0, 0, 0),
  (177, .aload_n 0, 1, 0, 0, 0),
  (178, .getfield 320, 3, 1199, 1140, 0),
  (181, .putfield 320, 3, 1199, 1140, 0),
  (184, .iconst 0, 1, 0, 0, 0),
  (185, .istore 4, 2, 0, 0, 0),
  (187, .iload 4, 2, 0, 0, 0),
  (189, .bipush (6), 2, 0, 0, 0),
  (191, .if_icmp .ge (28), 3, 0, 0, 0),
  (194, .aload_n 0, 1, 0, 0, 0),
  (195, .getfield 81, 3, 1196, 1137, 4),
  (198, .iload 4, 2, 0, 0, 0),
  (200, .dup2, 1, 0, 0, 0),
  (201, .iaload, 1, 0, 0, 0),
  (202, .iload_n 1, 1, 0, 0, 0),
  (203, .aload_n 0, 1, 0, 0, 0),
  (204, .getfield 78, 3, 1195, 1136, 4),
  (207, .iload 4, 2, 0, 0, 0),
  (209, .iaload, 1, 0, 0, 0),
  (210, .imul, 1, 0, 0, 0),
  (211, .iadd, 1, 0, 0, 0),
  (212, .iastore, 1, 0, 0, 0),
  (213, .iinc 4 (1), 3, 0, 0, 0),
  (216, .goto (-29), 3, 0, 0, 0),
  (219, .aload_n 0, 1, 0, 0, 0),
  (220, .dup, 1, 0, 0, 0),
  (221, .getfield 329, 3, 1197, 1138, 0),
  (224, .iload_n 1, 1, 0, 0, 0),
  (225, .iadd, 1, 0, 0, 0),
  (226, .putfield 329, 3, 1197, 1138, 0),
  (229, .aload_n 0, 1, 0, 0, 0),
  (230, .dup, 1, 0, 0, 0),
  (231, .getfield 326, 3, 1198, 1139, 0),
  (234, .iconst 1, 1, 0, 0, 0),
  (235, .iadd, 1, 0, 0, 0),
  (236, .putfield 326, 3, 1198, 1139, 0),
  (239, .return_, 1, 0, 0, 0)]
/-- RollCutterModel.judge()I -/
def xT_116 : List xE := [(0, .aload_n 0, 1, 0, 0, 0),
  (1, .invokevirtual 274, 3, 1544, 0, 100),
  (4, .aload_n 0, 1, 0, 0, 0),
  (5, .iconst 0, 1, 0, 0, 0),
  (6, .putfield 329, 3, 1197, 1138, 0),
  (9, .aload_n 0, 1, 0, 0, 0),
  (10, .iconst 0, 1, 0, 0, 0),
  (11, .putfield 326, 3, 1198, 1139, 0),
  (14, .aload_n 0, 1, 0, 0, 0),
  (15, .iconst (-1), 1, 0, 0, 0),
  (16, .putfield 320, 3, 1199, 1140, 0),
  (19, .iconst 0, 1, 0, 0, 0),
  (20, .istore_n 1, 1, 0, 0, 0),
  (21, .iload_n 1, 1, 0, 0, 0),
  (22, .bipush (6), 2, 0, 0, 0),
  (24, .if_icmp .ge (16), 3, 0, 0, 0),
  (27, .aload_n 0, 1, 0, 0, 0),
  (28, .getfield 81, 3, 1196, 1137, 4),
  (31, .iload_n 1, 1, 0, 0, 0),
  (32, .iconst 0, 1, 0, 0, 0),
  (33, .iastore, 1, 0, 0, 0),
  (34, .iinc 1 (1), 3, 0, 0, 0),
  (37, .goto (-16), 3, 0, 0, 0),
  (40, .aload_n 0, 1, 0, 0, 0),
  (41, .invokevirtual 332, 3, 1618, 0, 115),
  (44, .aload_n 0, 1, 0, 0, 0),
  (45, .bipush (59), 2, 0, 0, 0),
  (47, .invokevirtual 262, 3, 1568, 0, 101),
  (50, .ifCond .eq (10), 3, 0, 0, 0),
  (53, .aload_n 0, 1, 0, 0, 0),
  (54, .invokevirtual 332, 3, 1618, 0, 115),
  (57, .goto (-13), 3, 0, 0, 0),
  (60, .aload_n 0, 1, 0, 0, 0),
  (61, .getfield 253, 3, 1191, 1132, 0),
  (64, .aload_n 0, 1, 0, 0, 0),
  (65, .getfield 250, 3, 1190, 1131, 0),
  (68, .if_icmp .ge (11), 3, 0, 0, 0),
  (71, .aload_n 0, 1, 0, 0, 0),
  (72, .aload_n 0, 1, 0, 0, 0),
  (73, .getfield 253, 3, 1191, 1132, 0),
  (76, .invokevirtual 265, 3, 1552, 0, 99),
  (79, .aload_n 0, 1, 0, 0, 0),
  (80, .iconst 0, 1, 0, 0, 0),
  (81, .putfield 250, 3, 1190, 1131, 0),
  (84, .aload_n 0, 1, 0, 0, 0),
  (85, .getfield 256, 3, 1192, 1133, 0),
  (88, .ifCond .lt (11), 3, 0, 0, 0),
  (91, .bipush (-100), 2, 0, 0, 0),
  (93, .aload_n 0, 1, 0, 0, 0),
  (94, .getfield 256, 3, 1192, 1133, 0),
  (97, .isub, 1, 0, 0, 0),
  (98, .ireturn, 1, 0, 0, 0),
  (99, .aload_n 0, 1, 0, 0, 0),
  (100, .getfield 320, 3, 1199, 1140, 0),
  (103, .ifCond .lt (8), 3, 0, 0, 0),
  (106, .aload_n 0, 1, 0, 0, 0),
  (107, .getfield 320, 3, 1199, 1140, 0),
  (110, .ireturn, 1, 0, 0, 0),
  (111, .iconst 0, 1, 0, 0, 0),
  (112, .istore_n 1, 1, 0, 0, 0),
  (113, .iload_n 1, 1, 0, 0, 0),
  (114, .aload_n 0, 1, 0, 0, 0),
  (115, .getfield 9, 3, 1159, 1100, 4),
  (118, .iconst 4, 1, 0, 0, 0),
  (119, .iaload, 1, 0, 0, 0),
  (120, .if_icmp .ge (56), 3, 0, 0, 0),
  (123, .aload_n 0, 1, 0, 0, 0),
  (124, .getfield 81, 3, 1196, 1137, 4),
  (127, .iload_n 1, 1, 0, 0, 0),
  (128, .iaload, 1, 0, 0, 0),
  (129, .aload_n 0, 1, 0, 0, 0),
  (130, .getfield 9, 3, 1159, 1100, 4),
  (133, .bipush (11), 2, 0, 0, 0),
  (135, .iload_n 1, 1, 0, 0, 0),
  (136, .iadd, 1, 0, 0, 0),
  (137, .iaload, 1, 0, 0, 0),
  (138, .if_icmp .eq (32), 3, 0, 0, 0),
  (141, .aload_n 0, 1, 0, 0, 0),
  (142, .getfield 81, 3, 1196, 1137, 4),
  (145, .iload_n 1, 1, 0, 0, 0),
  (146, .iaload, 1, 0, 0, 0),
  (147, .aload_n 0, 1, 0, 0, 0),
  (148, .getfield 9, 3, 1159, 1100, 4),
  (151, .bipush (11), 2, 0, 0, 0),
  (153, .iload_n 1, 1, 0, 0, 0),
  (154, .iadd, 1, 0, 0, 0),
  (155, .iaload, 1, 0, 0, 0),
  (156, .if_icmp .ge (8), 3, 0, 0, 0),
  (159, .bipush (100), 2, 0, 0, 0),
  (161, .goto (6), 3, 0, 0, 0),
  (164, .sipush (200), 3, 0, 0, 0),
  (167, .iload_n 1, 1, 0, 0, 0),
  (168, .iadd, 1, 0, 0, 0),
  (169, .ireturn, 1, 0, 0, 0),
  (170, .iinc 1 (1), 3, 0, 0, 0),
  (173, .goto (-60), 3, 0, 0, 0),
  (176, .sipush (1000), 3, 0, 0, 0),
  (179, .aload_n 0, 1, 0, 0, 0),
  (180, .getfield 329, 3, 1197, 1138, 0),
  (183, .iadd, 1, 0, 0, 0),
  (184, .ireturn, 1, 0, 0, 0)]
/-- RollCutterModel.spell()I -/
def xT_117 : List xE := [(0, .aload_n 0, 1, 0, 0, 0),
  (1, .invokevirtual 183, 3, 1361, 0, 65),
  (4, .aload_n 0, 1, 0, 0, 0),
  (5, .iconst 0, 1, 0, 0, 0),
  (6, .putfield 335, 3, 1201, 1142, 0),
  (9, .iconst 0, 1, 0, 0, 0),
  (10, .istore_n 1, 1, 0, 0, 0),
  (11, .iload_n 1, 1, 0, 0, 0),
  (12, .aload_n 0, 1, 0, 0, 0),
  (13, .getfield 207, 3, 1179, 1120, 0),
  (16, .if_icmp .ge (86), 3, 0, 0, 0),
  (19, .iload_n 1, 1, 0, 0, 0),
  (20, .ifCond .le (9), 3, 0, 0, 0),
  (23, .aload_n 0, 1, 0, 0, 0),
  (24, .bipush (59), 2, 0, 0, 0),
  (26, .invokevirtual 338, 3, 1630, 99, 0),
  (29, .aload_n 0, 1, 0, 0, 0),
  (30, .aload_n 0, 1, 0, 0, 0),
  (31, .getfield 53, 3, 1180, 1121, 4),
  (34, .iload_n 1, 1, 0, 0, 0),
  (35, .iaload, 1, 0, 0, 0),
  (36, .invokevirtual 341, 3, 1634, 99, 0),
  (39, .aload_n 0, 1, 0, 0, 0),
  (40, .bipush (120), 2, 0, 0, 0),
  (42, .invokevirtual 338, 3, 1630, 99, 0),
  (45, .iconst 0, 1, 0, 0, 0),
  (46, .istore_n 2, 1, 0, 0, 0),
  (47, .iload_n 2, 1, 0, 0, 0),
  (48, .bipush (6), 2, 0, 0, 0),
  (50, .if_icmp .ge (46), 3, 0, 0, 0),
  (53, .aload_n 0, 1, 0, 0, 0),
  (54, .getfield 56, 3, 1181, 1122, 4),
  (57, .bipush (6), 2, 0, 0, 0),
  (59, .iload_n 1, 1, 0, 0, 0),
  (60, .imul, 1, 0, 0, 0),
  (61, .iload_n 2, 1, 0, 0, 0),
  (62, .iadd, 1, 0, 0, 0),
  (63, .iaload, 1, 0, 0, 0),
  (64, .ifCond .le (26), 3, 0, 0, 0),
  (67, .aload_n 0, 1, 0, 0, 0),
  (68, .aload_n 0, 1, 0, 0, 0),
  (69, .getfield 56, 3, 1181, 1122, 4),
  (72, .bipush (6), 2, 0, 0, 0),
  (74, .iload_n 1, 1, 0, 0, 0),
  (75, .imul, 1, 0, 0, 0),
  (76, .iload_n 2, 1, 0, 0, 0),
  (77, .iadd, 1, 0, 0, 0),
  (78, .iaload, 1, 0, 0, 0),
  (79, .invokevirtual 341, 3, 1634, 99, 0),
  (82, .aload_n 0, 1, 0, 0, 0),
  (83, .bipush (97), 2, 0, 0, 0),
  (85, .iload_n 2, 1, 0, 0, 0),
  (86, .iadd, 1, 0, 0, 0),
  (87, .invokevirtual 338, 3, 1630, 99, 0),
  (90, .iinc 2 (1), 3, 0, 0, 0),
  (93, .goto (-46), 3, 0, 0, 0),
  (96, .iinc 1 (1), 3, 0, 0, 0),
  (99, .goto (-88), 3, 0, 0, 0),
  (102, .aload_n 0, 1, 0, 0, 0),
  (103, .getfield 335, 3, 1201, 1142, 0),
  (106, .ireturn, 1, 0, 0, 0)]
/-- RollCutterModel.paper(I)I -/
def xT_118 : List xE := [(0, .iload_n 1, 1, 0, 0, 0),
  (1, .iconst 0, 1, 0, 0, 0),
  (2, .aload_n 0, 1, 0, 0, 0),
  (3, .getfield 335, 3, 1201, 1142, 0),
  (6, .iconst 1, 1, 0, 0, 0),
  (7, .isub, 1, 0, 0, 0),
  (8, .invokestatic 87, 3, 1293, 2, 48),
  (11, .ifCond .eq (12), 3, 0, 0, 0),
  (14, .aload_n 0, 1, 0, 0, 0),
  (15, .getfield 84, 3, 1200, 1141, 4),
  (18, .iload_n 1, 1, 0, 0, 0),
  (19, .iaload, 1, 0, 0, 0),
  (20, .goto (4), 3, 0, 0, 0),
  (23, .iconst (-1), 1, 0, 0, 0),
  (24, .ireturn, 1, 0, 0, 0)]
/-- RollCutterModel.unlike()I -/
def xT_119 : List xE := [(0, .aload_n 0, 1, 0, 0, 0),
  (1, .invokevirtual 183, 3, 1361, 0, 65),
  (4, .aload_n 0, 1, 0, 0, 0),
  (5, .getfield 146, 3, 1167, 1108, 0),
  (8, .istore_n 1, 1, 0, 0, 0),
  (9, .iconst 0, 1, 0, 0, 0),
  (10, .istore_n 2, 1, 0, 0, 0),
  (11, .iload_n 2, 1, 0, 0, 0),
  (12, .aload_n 0, 1, 0, 0, 0),
  (13, .getfield 162, 3, 1176, 1117, 0),
  (16, .if_icmp .ge (118), 3, 0, 0, 0),
  (19, .iconst 1, 1, 0, 0, 0),
  (20, .istore_n 3, 1, 0, 0, 0),
  (21, .iconst 0, 1, 0, 0, 0),
  (22, .istore 4, 2, 0, 0, 0),
  (24, .iload 4, 2, 0, 0, 0),
  (26, .aload_n 0, 1, 0, 0, 0),
  (27, .getfield 146, 3, 1167, 1108, 0),
  (30, .if_icmp .ge (40), 3, 0, 0, 0),
  (33, .iload_n 3, 1, 0, 0, 0),
  (34, .aload_n 0, 1, 0, 0, 0),
  (35, .getfield 50, 3, 1178, 1119, 4),
  (38, .bipush (6), 2, 0, 0, 0),
  (40, .iload_n 2, 1, 0, 0, 0),
  (41, .imul, 1, 0, 0, 0),
  (42, .aload_n 0, 1, 0, 0, 0),
  (43, .getfield 31, 3, 1170, 1111, 4),
  (46, .bipush (6), 2, 0, 0, 0),
  (48, .iload 4, 2, 0, 0, 0),
  (50, .imul, 1, 0, 0, 0),
  (51, .invokestatic 344, 3, 1651, 99, 0),
  (54, .ifCond .ne (7), 3, 0, 0, 0),
  (57, .iconst 1, 1, 0, 0, 0),
  (58, .goto (4), 3, 0, 0, 0),
  (61, .iconst 0, 1, 0, 0, 0),
  (62, .iand, 1, 0, 0, 0),
  (63, .istore_n 3, 1, 0, 0, 0),
  (64, .iinc 4 (1), 3, 0, 0, 0),
  (67, .goto (-43), 3, 0, 0, 0),
  (70, .iconst 0, 1, 0, 0, 0),
  (71, .istore 4, 2, 0, 0, 0),
  (73, .iload 4, 2, 0, 0, 0),
  (75, .iload_n 2, 1, 0, 0, 0),
  (76, .if_icmp .ge (40), 3, 0, 0, 0),
  (79, .iload_n 3, 1, 0, 0, 0),
  (80, .aload_n 0, 1, 0, 0, 0),
  (81, .getfield 50, 3, 1178, 1119, 4),
  (84, .bipush (6), 2, 0, 0, 0),
  (86, .iload_n 2, 1, 0, 0, 0),
  (87, .imul, 1, 0, 0, 0),
  (88, .aload_n 0, 1, 0, 0, 0),
  (89, .getfield 50, 3, 1178, 1119, 4),
  (92, .bipush (6), 2, 0, 0, 0),
  (94, .iload 4, 2, 0, 0, 0),
  (96, .imul, 1, 0, 0, 0),
  (97, .invokestatic 344, 3, 1651, 99, 0),
  (100, .ifCond .ne (7), 3, 0, 0, 0),
  (103, .iconst 1, 1, 0, 0, 0),
  (104, .goto (4), 3, 0, 0, 0),
  (107, .iconst 0, 1, 0, 0, 0),
  (108, .iand, 1, 0, 0, 0),
  (109, .istore_n 3, 1, 0, 0, 0),
  (110, .iinc 4 (1), 3, 0, 0, 0),
  (113, .goto (-40), 3, 0, 0, 0),
  (116, .iload_n 1, 1, 0, 0, 0),
  (117, .iload_n 3, 1, 0, 0, 0),
  (118, .ifCond .eq (7), 3, 0, 0, 0),
  (121, .iconst 1, 1, 0, 0, 0),
  (122, .goto (4), 3, 0, 0, 0),
  (125, .iconst 0, 1, 0, 0, 0),
  (126, .iadd, 1, 0, 0, 0),
  (127, .istore_n 1, 1, 0, 0, 0),
  (128, .iinc 2 (1), 3, 0, 0, 0),
  (131, .goto (-120), 3, 0, 0, 0),
  (134, .iload_n 1, 1, 0, 0, 0),
  (135, .ireturn, 1, 0, 0, 0)]
/-- RollCutterModel.told(I)I -/
def xT_120 : List xE := [(0, .iload_n 1, 1, 0, 0, 0),
  (1, .tableswitch (144) (0) (9) #[55, 62, 67, 101, 108, 115, 122, 129, 134, 139], 55, 0, 0, 0),
  (56, .aload_n 0, 1, 0, 0, 0),
  (57, .getfield 9, 3, 1159, 1100, 4),
  (60, .iconst 4, 1, 0, 0, 0),
  (61, .iaload, 1, 0, 0, 0),
  (62, .ireturn, 1, 0, 0, 0),
  (63, .aload_n 0, 1, 0, 0, 0),
  (64, .invokevirtual 348, 3, 1646, 0, 66),
  (67, .ireturn, 1, 0, 0, 0),
  (68, .iconst 0, 1, 0, 0, 0),
  (69, .istore_n 2, 1, 0, 0, 0),
  (70, .iconst 0, 1, 0, 0, 0),
  (71, .istore_n 3, 1, 0, 0, 0),
  (72, .iload_n 3, 1, 0, 0, 0),
  (73, .aload_n 0, 1, 0, 0, 0),
  (74, .getfield 9, 3, 1159, 1100, 4),
  (77, .iconst 4, 1, 0, 0, 0),
  (78, .iaload, 1, 0, 0, 0),
  (79, .if_icmp .ge (21), 3, 0, 0, 0),
  (82, .iload_n 2, 1, 0, 0, 0),
  (83, .aload_n 0, 1, 0, 0, 0),
  (84, .getfield 9, 3, 1159, 1100, 4),
  (87, .bipush (11), 2, 0, 0, 0),
  (89, .iload_n 3, 1, 0, 0, 0),
  (90, .iadd, 1, 0, 0, 0),
  (91, .iaload, 1, 0, 0, 0),
  (92, .iadd, 1, 0, 0, 0),
  (93, .istore_n 2, 1, 0, 0, 0),
  (94, .iinc 3 (1), 3, 0, 0, 0),
  (97, .goto (-25), 3, 0, 0, 0),
  (100, .iload_n 2, 1, 0, 0, 0),
  (101, .ireturn, 1, 0, 0, 0),
  (102, .aload_n 0, 1, 0, 0, 0),
  (103, .getfield 9, 3, 1159, 1100, 4),
  (106, .iconst 0, 1, 0, 0, 0),
  (107, .iaload, 1, 0, 0, 0),
  (108, .ireturn, 1, 0, 0, 0),
  (109, .aload_n 0, 1, 0, 0, 0),
  (110, .getfield 9, 3, 1159, 1100, 4),
  (113, .iconst 1, 1, 0, 0, 0),
  (114, .iaload, 1, 0, 0, 0),
  (115, .ireturn, 1, 0, 0, 0),
  (116, .aload_n 0, 1, 0, 0, 0),
  (117, .getfield 9, 3, 1159, 1100, 4),
  (120, .iconst 2, 1, 0, 0, 0),
  (121, .iaload, 1, 0, 0, 0),
  (122, .ireturn, 1, 0, 0, 0),
  (123, .aload_n 0, 1, 0, 0, 0),
  (124, .getfield 9, 3, 1159, 1100, 4),
  (127, .iconst 3, 1, 0, 0, 0),
  (128, .iaload, 1, 0, 0, 0),
  (129, .ireturn, 1, 0, 0, 0),
  (130, .aload_n 0, 1, 0, 0, 0),
  (131, .getfield 250, 3, 1190, 1131, 0),
  (134, .ireturn, 1, 0, 0, 0),
  (135, .aload_n 0, 1, 0, 0, 0),
  (136, .getfield 335, 3, 1201, 1142, 0),
  (139, .ireturn, 1, 0, 0, 0),
  (140, .aload_n 0, 1, 0, 0, 0),
  (141, .invokevirtual 350, 3, 1647, 0, 119),
  (144, .ireturn, 1, 0, 0, 0),
  (145, .iconst (-1), 1, 0, 0, 0),
  (146, .ireturn, 1, 0, 0, 0)]
/-- RollCutterModel.image()I -/
def xT_121 : List xE := [(0, .iconst 0, 1, 0, 0, 0),
  (1, .istore_n 1, 1, 0, 0, 0),
  (2, .iload_n 1, 1, 0, 0, 0),
  (3, .bipush (78), 2, 0, 0, 0),
  (5, .if_icmp .ge (21), 3, 0, 0, 0),
  (8, .aload_n 0, 1, 0, 0, 0),
  (9, .getfield 13, 3, 1160, 1101, 4),
  (12, .iload_n 1, 1, 0, 0, 0),
  (13, .aload_n 0, 1, 0, 0, 0),
  (14, .getfield 9, 3, 1159, 1100, 4),
  (17, .iload_n 1, 1, 0, 0, 0),
  (18, .iaload, 1, 0, 0, 0),
  (19, .iastore, 1, 0, 0, 0),
  (20, .iinc 1 (1), 3, 0, 0, 0),
  (23, .goto (-21), 3, 0, 0, 0),
  (26, .aload_n 0, 1, 0, 0, 0),
  (27, .iconst 1, 1, 0, 0, 0),
  (28, .putfield 353, 3, 1161, 1102, 3),
  (31, .aload_n 0, 1, 0, 0, 0),
  (32, .getfield 9, 3, 1159, 1100, 4),
  (35, .iconst 4, 1, 0, 0, 0),
  (36, .iaload, 1, 0, 0, 0),
  (37, .ireturn, 1, 0, 0, 0)]
/-- RollCutterModel.undo()I -/
def xT_122 : List xE := [(0, .aload_n 0, 1, 0, 0, 0),
  (1, .getfield 353, 3, 1161, 1102, 3),
  (4, .ifCond .ne (6), 3, 0, 0, 0),
  (7, .bipush (-3), 2, 0, 0, 0),
  (9, .ireturn, 1, 0, 0, 0),
  (10, .iconst 0, 1, 0, 0, 0),
  (11, .istore_n 1, 1, 0, 0, 0),
  (12, .iload_n 1, 1, 0, 0, 0),
  (13, .bipush (78), 2, 0, 0, 0),
  (15, .if_icmp .ge (21), 3, 0, 0, 0),
  (18, .aload_n 0, 1, 0, 0, 0),
  (19, .getfield 9, 3, 1159, 1100, 4),
  (22, .iload_n 1, 1, 0, 0, 0),
  (23, .aload_n 0, 1, 0, 0, 0),
  (24, .getfield 13, 3, 1160, 1101, 4),
  (27, .iload_n 1, 1, 0, 0, 0),
  (28, .iaload, 1, 0, 0, 0),
  (29, .iastore, 1, 0, 0, 0),
  (30, .iinc 1 (1), 3, 0, 0, 0),
  (33, .goto (-21), 3, 0, 0, 0),
  (36, .aload_n 0, 1, 0, 0, 0),
  (37, .iconst 0, 1, 0, 0, 0),
  (38, .putfield 91, 3, 1162, 1103, 3),
  (41, .aload_n 0, 1, 0, 0, 0),
  (42, .getfield 9, 3, 1159, 1100, 4),
  (45, .iconst 4, 1, 0, 0, 0),
  (46, .iaload, 1, 0, 0, 0),
  (47, .ireturn, 1, 0, 0, 0)]
/-- RollCutter$Book.<init>()V -/
def xT_123 : List xE := [(0, .aload_n 0, 1, 0, 0, 0),
  (1, .invokespecial 3, 3, 383, 6, 0),
  (4, .aload_n 0, 1, 0, 0, 0),
  (5, .iconst 0, 1, 0, 0, 0),
  (6, .putfield 9, 3, 384, 800, 0),
  (9, .aload_n 0, 1, 0, 0, 0),
  (10, .bipush (6), 2, 0, 0, 0),
  (12, .newarray .int, 2, 170, 0, 0),
  (14, .putfield 15, 3, 386, 801, 4),
  (17, .aload_n 0, 1, 0, 0, 0),
  (18, .bipush (6), 2, 0, 0, 0),
  (20, .newarray .int, 2, 170, 0, 0),
  (22, .putfield 19, 3, 388, 802, 4),
  (25, .return_, 1, 0, 0, 0)]
/-- RollCutter$Book.read(LRollCutter$Tape;LRollCutter$Shop;)V -/
def xT_124 : List xE := [(0, .aload_n 0, 1, 0, 0, 0),
  (1, .iconst 0, 1, 0, 0, 0),
  (2, .putfield 9, 3, 384, 800, 0),
  (5, .aload_n 1, 1, 0, 0, 0),
  (6, .invokevirtual 22, 3, 912, 0, 173),
  (9, .iconst 0, 1, 0, 0, 0),
  (10, .istore_n 3, 1, 0, 0, 0),
  (11, .iload_n 3, 1, 0, 0, 0),
  (12, .bipush (6), 2, 0, 0, 0),
  (14, .if_icmp .gt (38), 3, 0, 0, 0),
  (17, .aload_n 0, 1, 0, 0, 0),
  (18, .aload_n 1, 1, 0, 0, 0),
  (19, .aload_n 2, 1, 0, 0, 0),
  (20, .invokevirtual 27, 3, 916, 0, 125),
  (23, .aload_n 1, 1, 0, 0, 0),
  (24, .invokevirtual 31, 3, 950, 0, 174),
  (27, .ifCond .ne (25), 3, 0, 0, 0),
  (30, .aload_n 1, 1, 0, 0, 0),
  (31, .invokevirtual 35, 3, 951, 0, 177),
  (34, .ifCond .eq (6), 3, 0, 0, 0),
  (37, .goto (15), 3, 0, 0, 0),
  (40, .aload_n 1, 1, 0, 0, 0),
  (41, .bipush (59), 2, 0, 0, 0),
  (43, .invokevirtual 38, 3, 942, 0, 179),
  (46, .iinc 3 (1), 3, 0, 0, 0),
  (49, .goto (-38), 3, 0, 0, 0),
  (52, .aload_n 1, 1, 0, 0, 0),
  (53, .iconst 0, 1, 0, 0, 0),
  (54, .putfield 42, 3, 361, 701, 0),
  (57, .return_, 1, 0, 0, 0)]
/-- RollCutter$Book.readEntry(LRollCutter$Tape;LRollCutter$Shop;)V -/
def xT_125 : List xE := [(0, .aload_n 1, 1, 0, 0, 0),
  (1, .getfield 45, 3, 365, 702, 0),
  (4, .istore_n 3, 1, 0, 0, 0),
  (5, .aload_n 2, 1, 0, 0, 0),
  (6, .getfield 48, 3, 120, 100, 0),
  (9, .aload_n 0, 1, 0, 0, 0),
  (10, .getfield 9, 3, 384, 800, 0),
  (13, .iadd, 1, 0, 0, 0),
  (14, .bipush (6), 2, 0, 0, 0),
  (16, .if_icmp .lt (8), 3, 0, 0, 0),
  (19, .aload_n 1, 1, 0, 0, 0),
  (20, .iload_n 3, 1, 0, 0, 0),
  (21, .invokevirtual 53, 3, 920, 0, 175),
  (24, .aload_n 1, 1, 0, 0, 0),
  (25, .iconst 5, 1, 0, 0, 0),
  (26, .aload_n 2, 1, 0, 0, 0),
  (27, .getfield 56, 3, 136, 103, 0),
  (30, .invokevirtual 59, 3, 924, 0, 180),
  (33, .istore 4, 2, 0, 0, 0),
  (35, .aload_n 2, 1, 0, 0, 0),
  (36, .iload 4, 2, 0, 0, 0),
  (38, .invokevirtual 63, 3, 937, 0, 158),
  (41, .ifCond .ne (12), 3, 0, 0, 0),
  (44, .aload_n 0, 1, 0, 0, 0),
  (45, .iload 4, 2, 0, 0, 0),
  (47, .invokevirtual 67, 3, 938, 0, 126),
  (50, .ifCond .eq (8), 3, 0, 0, 0),
  (53, .aload_n 1, 1, 0, 0, 0),
  (54, .iload_n 3, 1, 0, 0, 0),
  (55, .invokevirtual 53, 3, 920, 0, 175),
  (58, .aload_n 1, 1, 0, 0, 0),
  (59, .bipush (120), 2, 0, 0, 0),
  (61, .invokevirtual 38, 3, 942, 0, 179),
  (64, .aload_n 1, 1, 0, 0, 0),
  (65, .iconst 0, 1, 0, 0, 0),
  (66, .bipush (40), 2, 0, 0, 0),
  (68, .invokevirtual 59, 3, 924, 0, 180),
  (71, .istore 5, 2, 0, 0, 0),
  (73, .aload_n 1, 1, 0, 0, 0),
  (74, .invokevirtual 31, 3, 950, 0, 174),
  (77, .ifCond .ne (44), 3, 0, 0, 0),
  (80, .aload_n 0, 1, 0, 0, 0),
  (81, .getfield 9, 3, 384, 800, 0),
  (84, .bipush (6), 2, 0, 0, 0),
  (86, .if_icmp .ge (35), 3, 0, 0, 0),
  (89, .aload_n 0, 1, 0, 0, 0),
  (90, .getfield 15, 3, 386, 801, 4),
  (93, .aload_n 0, 1, 0, 0, 0),
  (94, .getfield 9, 3, 384, 800, 0),
  (97, .iload 4, 2, 0, 0, 0),
  (99, .iastore, 1, 0, 0, 0),
  (100, .aload_n 0, 1, 0, 0, 0),
  (101, .getfield 19, 3, 388, 802, 4),
  (104, .aload_n 0, 1, 0, 0, 0),
  (105, .getfield 9, 3, 384, 800, 0),
  (108, .iload 5, 2, 0, 0, 0),
  (110, .iastore, 1, 0, 0, 0),
  (111, .aload_n 0, 1, 0, 0, 0),
  (112, .dup, 1, 0, 0, 0),
  (113, .getfield 9, 3, 384, 800, 0),
  (116, .iconst 1, 1, 0, 0, 0),
  (117, .iadd, 1, 0, 0, 0),
  (118, .putfield 9, 3, 384, 800, 0),
  (121, .return_, 1, 0, 0, 0)]
/-- RollCutter$Book.hasWidthIn(I)Z -/
def xT_126 : List xE := [(0, .iconst 0, 1, 0, 0, 0),
  (1, .istore_n 2, 1, 0, 0, 0),
  (2, .iload_n 2, 1, 0, 0, 0),
  (3, .aload_n 0, 1, 0, 0, 0),
  (4, .getfield 9, 3, 384, 800, 0),
  (7, .if_icmp .ge (21), 3, 0, 0, 0),
  (10, .aload_n 0, 1, 0, 0, 0),
  (11, .getfield 15, 3, 386, 801, 4),
  (14, .iload_n 2, 1, 0, 0, 0),
  (15, .iaload, 1, 0, 0, 0),
  (16, .iload_n 1, 1, 0, 0, 0),
  (17, .if_icmp .ne (5), 3, 0, 0, 0),
  (20, .iconst 1, 1, 0, 0, 0),
  (21, .ireturn, 1, 0, 0, 0),
  (22, .iinc 2 (1), 3, 0, 0, 0),
  (25, .goto (-23), 3, 0, 0, 0),
  (28, .iconst 0, 1, 0, 0, 0),
  (29, .ireturn, 1, 0, 0, 0)]
/-- RollCutter$Condition.<init>()V -/
def xT_127 : List xE := [(0, .aload_n 0, 1, 0, 0, 0),
  (1, .invokespecial 3, 3, 402, 6, 0),
  (4, .aload_n 0, 1, 0, 0, 0),
  (5, .bipush (90), 2, 0, 0, 0),
  (7, .newarray .int, 2, 170, 0, 0),
  (9, .putfield 9, 3, 403, 900, 4),
  (12, .aload_n 0, 1, 0, 0, 0),
  (13, .bipush (90), 2, 0, 0, 0),
  (15, .newarray .int, 2, 170, 0, 0),
  (17, .putfield 15, 3, 404, 901, 4),
  (20, .aload_n 0, 1, 0, 0, 0),
  (21, .bipush (90), 2, 0, 0, 0),
  (23, .newarray .int, 2, 170, 0, 0),
  (25, .putfield 18, 3, 405, 902, 4),
  (28, .aload_n 0, 1, 0, 0, 0),
  (29, .bipush (90), 2, 0, 0, 0),
  (31, .newarray .int, 2, 170, 0, 0),
  (33, .putfield 21, 3, 406, 903, 4),
  (36, .aload_n 0, 1, 0, 0, 0),
  (37, .iconst 0, 1, 0, 0, 0),
  (38, .putfield 24, 3, 407, 904, 0),
  (41, .aload_n 0, 1, 0, 0, 0),
  (42, .bipush (11), 2, 0, 0, 0),
  (44, .newarray .int, 2, 170, 0, 0),
  (46, .putfield 28, 3, 408, 905, 4),
  (49, .aload_n 0, 1, 0, 0, 0),
  (50, .bipush (91), 2, 0, 0, 0),
  (52, .newarray .boolean, 2, 425, 3, 0),
  (54, .putfield 31, 3, 409, 906, 4),
  (57, .return_, 1, 0, 0, 0)]
/-- RollCutter$Condition.read(LRollCutter$Tape;)V -/
def xT_128 : List xE := [(0, .aload_n 0, 1, 0, 0, 0),
  (1, .iconst 0, 1, 0, 0, 0),
  (2, .putfield 24, 3, 407, 904, 0),
  (5, .aload_n 1, 1, 0, 0, 0),
  (6, .invokevirtual 35, 3, 964, 0, 173),
  (9, .aload_n 0, 1, 0, 0, 0),
  (10, .aload_n 1, 1, 0, 0, 0),
  (11, .iconst 0, 1, 0, 0, 0),
  (12, .invokevirtual 40, 3, 965, 0, 129),
  (15, .aload_n 1, 1, 0, 0, 0),
  (16, .invokevirtual 44, 3, 1051, 0, 177),
  (19, .ifCond .ne (11), 3, 0, 0, 0),
  (22, .aload_n 1, 1, 0, 0, 0),
  (23, .aload_n 1, 1, 0, 0, 0),
  (24, .getfield 48, 3, 364, 702, 0),
  (27, .invokevirtual 51, 3, 1045, 0, 175),
  (30, .aload_n 1, 1, 0, 0, 0),
  (31, .iconst 0, 1, 0, 0, 0),
  (32, .putfield 55, 3, 360, 701, 0),
  (35, .return_, 1, 0, 0, 0)]
/-- RollCutter$Condition.readEither(LRollCutter$Tape;I)V -/
def xT_129 : List xE := [(0, .aload_n 0, 1, 0, 0, 0),
  (1, .aload_n 1, 1, 0, 0, 0),
  (2, .iload_n 2, 1, 0, 0, 0),
  (3, .invokevirtual 58, 3, 969, 0, 130),
  (6, .iconst 0, 1, 0, 0, 0),
  (7, .istore_n 3, 1, 0, 0, 0),
  (8, .iload_n 3, 1, 0, 0, 0),
  (9, .bipush (90), 2, 0, 0, 0),
  (11, .if_icmp .ge (29), 3, 0, 0, 0),
  (14, .aload_n 1, 1, 0, 0, 0),
  (15, .bipush (124), 2, 0, 0, 0),
  (17, .invokevirtual 61, 3, 977, 0, 178),
  (20, .ifCond .eq (20), 3, 0, 0, 0),
  (23, .aload_n 0, 1, 0, 0, 0),
  (24, .aload_n 1, 1, 0, 0, 0),
  (25, .iload_n 2, 1, 0, 0, 0),
  (26, .invokevirtual 58, 3, 969, 0, 130),
  (29, .aload_n 0, 1, 0, 0, 0),
  (30, .iconst 2, 1, 0, 0, 0),
  (31, .invokevirtual 65, 3, 1047, 0, 134),
  (34, .iinc 3 (1), 3, 0, 0, 0),
  (37, .goto (-29), 3, 0, 0, 0),
  (40, .return_, 1, 0, 0, 0)]
/-- RollCutter$Condition.readBoth(LRollCutter$Tape;I)V -/
def xT_130 : List xE := [(0, .aload_n 0, 1, 0, 0, 0),
  (1, .aload_n 1, 1, 0, 0, 0),
  (2, .iload_n 2, 1, 0, 0, 0),
  (3, .invokevirtual 68, 3, 973, 0, 131),
  (6, .iconst 0, 1, 0, 0, 0),
  (7, .istore_n 3, 1, 0, 0, 0),
  (8, .iload_n 3, 1, 0, 0, 0),
  (9, .bipush (90), 2, 0, 0, 0),
  (11, .if_icmp .ge (29), 3, 0, 0, 0),
  (14, .aload_n 1, 1, 0, 0, 0),
  (15, .bipush (38), 2, 0, 0, 0),
  (17, .invokevirtual 61, 3, 977, 0, 178),
  (20, .ifCond .eq (20), 3, 0, 0, 0),
  (23, .aload_n 0, 1, 0, 0, 0),
  (24, .aload_n 1, 1, 0, 0, 0),
  (25, .iload_n 2, 1, 0, 0, 0),
  (26, .invokevirtual 68, 3, 973, 0, 131),
  (29, .aload_n 0, 1, 0, 0, 0),
  (30, .iconst 1, 1, 0, 0, 0),
  (31, .invokevirtual 65, 3, 1047, 0, 134),
  (34, .iinc 3 (1), 3, 0, 0, 0),
  (37, .goto (-29), 3, 0, 0, 0),
  (40, .return_, 1, 0, 0, 0)]
/-- RollCutter$Condition.readSingle(LRollCutter$Tape;I)V -/
def xT_131 : List xE := [(0, .iload_n 2, 1, 0, 0, 0),
  (1, .istore_n 3, 1, 0, 0, 0),
  (2, .iload_n 3, 1, 0, 0, 0),
  (3, .iconst 4, 1, 0, 0, 0),
  (4, .if_icmp .ge (18), 3, 0, 0, 0),
  (7, .aload_n 1, 1, 0, 0, 0),
  (8, .bipush (33), 2, 0, 0, 0),
  (10, .invokevirtual 61, 3, 977, 0, 178),
  (13, .ifCond .eq (9), 3, 0, 0, 0),
  (16, .iinc 3 (1), 3, 0, 0, 0),
  (19, .goto (-17), 3, 0, 0, 0),
  (22, .iload_n 3, 1, 0, 0, 0),
  (23, .iload_n 2, 1, 0, 0, 0),
  (24, .isub, 1, 0, 0, 0),
  (25, .istore 4, 2, 0, 0, 0),
  (27, .iload_n 3, 1, 0, 0, 0),
  (28, .iconst 4, 1, 0, 0, 0),
  (29, .if_icmp .ge (29), 3, 0, 0, 0),
  (32, .aload_n 1, 1, 0, 0, 0),
  (33, .bipush (40), 2, 0, 0, 0),
  (35, .invokevirtual 61, 3, 977, 0, 178),
  (38, .ifCond .eq (20), 3, 0, 0, 0),
  (41, .aload_n 0, 1, 0, 0, 0),
  (42, .aload_n 1, 1, 0, 0, 0),
  (43, .iload_n 3, 1, 0, 0, 0),
  (44, .iconst 1, 1, 0, 0, 0),
  (45, .iadd, 1, 0, 0, 0),
  (46, .invokevirtual 40, 3, 965, 0, 129),
  (49, .aload_n 1, 1, 0, 0, 0),
  (50, .bipush (41), 2, 0, 0, 0),
  (52, .invokevirtual 71, 3, 978, 0, 179),
  (55, .goto (8), 3, 0, 0, 0),
  (58, .aload_n 0, 1, 0, 0, 0),
  (59, .aload_n 1, 1, 0, 0, 0),
  (60, .invokevirtual 74, 3, 979, 0, 132),
  (63, .iload 4, 2, 0, 0, 0),
  (65, .iconst 2, 1, 0, 0, 0),
  (66, .irem, 1, 0, 0, 0),
  (67, .iconst 1, 1, 0, 0, 0),
  (68, .if_icmp .ne (8), 3, 0, 0, 0),
  (71, .aload_n 0, 1, 0, 0, 0),
  (72, .iconst 0, 1, 0, 0, 0),
  (73, .invokevirtual 65, 3, 1047, 0, 134),
  (76, .return_, 1, 0, 0, 0)]
/-- RollCutter$Condition.readCompare(LRollCutter$Tape;)V -/
def xT_132 : List xE := [(0, .aload_n 1, 1, 0, 0, 0),
  (1, .invokevirtual 78, 3, 983, 0, 174),
  (4, .ifCond .eq (4), 3, 0, 0, 0),
  (7, .return_, 1, 0, 0, 0),
  (8, .aload_n 1, 1, 0, 0, 0),
  (9, .getfield 48, 3, 364, 702, 0),
  (12, .istore_n 2, 1, 0, 0, 0),
  (13, .iconst 0, 1, 0, 0, 0),
  (14, .istore_n 3, 1, 0, 0, 0),
  (15, .iload_n 3, 1, 0, 0, 0),
  (16, .bipush (90), 2, 0, 0, 0),
  (18, .if_icmp .ge (37), 3, 0, 0, 0),
  (21, .aload_n 1, 1, 0, 0, 0),
  (22, .invokevirtual 81, 3, 984, 0, 176),
  (25, .bipush (97), 2, 0, 0, 0),
  (27, .if_icmp .lt (28), 3, 0, 0, 0),
  (30, .aload_n 1, 1, 0, 0, 0),
  (31, .invokevirtual 81, 3, 984, 0, 176),
  (34, .bipush (122), 2, 0, 0, 0),
  (36, .if_icmp .gt (19), 3, 0, 0, 0),
  (39, .aload_n 1, 1, 0, 0, 0),
  (40, .dup, 1, 0, 0, 0),
  (41, .getfield 48, 3, 364, 702, 0),
  (44, .iconst 1, 1, 0, 0, 0),
  (45, .iadd, 1, 0, 0, 0),
  (46, .putfield 48, 3, 364, 702, 0),
  (49, .iinc 3 (1), 3, 0, 0, 0),
  (52, .goto (-37), 3, 0, 0, 0),
  (55, .aload_n 1, 1, 0, 0, 0),
  (56, .iload_n 2, 1, 0, 0, 0),
  (57, .aload_n 1, 1, 0, 0, 0),
  (58, .getfield 48, 3, 364, 702, 0),
  (61, .invokestatic 85, 3, 985, 2, 133),
  (64, .istore_n 3, 1, 0, 0, 0),
  (65, .iload_n 3, 1, 0, 0, 0),
  (66, .ifCond .ge (8), 3, 0, 0, 0),
  (69, .aload_n 1, 1, 0, 0, 0),
  (70, .iload_n 2, 1, 0, 0, 0),
  (71, .invokevirtual 51, 3, 1045, 0, 175),
  (74, .aload_n 1, 1, 0, 0, 0),
  (75, .invokevirtual 81, 3, 984, 0, 176),
  (78, .istore 4, 2, 0, 0, 0),
  (80, .iload 4, 2, 0, 0, 0),
  (82, .bipush (60), 2, 0, 0, 0),
  (84, .if_icmp .eq (25), 3, 0, 0, 0),
  (87, .iload 4, 2, 0, 0, 0),
  (89, .bipush (61), 2, 0, 0, 0),
  (91, .if_icmp .eq (18), 3, 0, 0, 0),
  (94, .iload 4, 2, 0, 0, 0),
  (96, .bipush (62), 2, 0, 0, 0),
  (98, .if_icmp .eq (11), 3, 0, 0, 0),
  (101, .aload_n 1, 1, 0, 0, 0),
  (102, .aload_n 1, 1, 0, 0, 0),
  (103, .getfield 48, 3, 364, 702, 0),
  (106, .invokevirtual 51, 3, 1045, 0, 175),
  (109, .aload_n 1, 1, 0, 0, 0),
  (110, .dup, 1, 0, 0, 0),
  (111, .getfield 48, 3, 364, 702, 0),
  (114, .iconst 1, 1, 0, 0, 0),
  (115, .iadd, 1, 0, 0, 0),
  (116, .putfield 48, 3, 364, 702, 0),
  (119, .aload_n 1, 1, 0, 0, 0),
  (120, .iconst 0, 1, 0, 0, 0),
  (121, .bipush (99), 2, 0, 0, 0),
  (123, .invokevirtual 89, 3, 1046, 0, 180),
  (126, .istore 5, 2, 0, 0, 0),
  (128, .aload_n 0, 1, 0, 0, 0),
  (129, .getfield 24, 3, 407, 904, 0),
  (132, .bipush (90), 2, 0, 0, 0),
  (134, .if_icmp .ge (35), 3, 0, 0, 0),
  (137, .aload_n 0, 1, 0, 0, 0),
  (138, .getfield 15, 3, 404, 901, 4),
  (141, .aload_n 0, 1, 0, 0, 0),
  (142, .getfield 24, 3, 407, 904, 0),
  (145, .iload_n 3, 1, 0, 0, 0),
  (146, .iastore, 1, 0, 0, 0),
  (147, .aload_n 0, 1, 0, 0, 0),
  (148, .getfield 18, 3, 405, 902, 4),
  (151, .aload_n 0, 1, 0, 0, 0),
  (152, .getfield 24, 3, 407, 904, 0),
  (155, .iload 4, 2, 0, 0, 0),
  (157, .iastore, 1, 0, 0, 0),
  (158, .aload_n 0, 1, 0, 0, 0),
  (159, .getfield 21, 3, 406, 903, 4),
  (162, .aload_n 0, 1, 0, 0, 0),
  (163, .getfield 24, 3, 407, 904, 0),
  (166, .iload 5, 2, 0, 0, 0),
  (168, .iastore, 1, 0, 0, 0),
  (169, .aload_n 0, 1, 0, 0, 0),
  (170, .iconst 3, 1, 0, 0, 0),
  (171, .invokevirtual 65, 3, 1047, 0, 134),
  (174, .return_, 1, 0, 0, 0)]
/-- RollCutter$Condition.wordBetween(LRollCutter$Tape;II)I -/
def xT_133 : List xE := [(0, .iload_n 2, 1, 0, 0, 0),
  (1, .iload_n 1, 1, 0, 0, 0),
  (2, .isub, 1, 0, 0, 0),
  (3, .iconst 1, 1, 0, 0, 0),
  (4, .if_icmp .ne (41), 3, 0, 0, 0),
  (7, .iload_n 1, 1, 0, 0, 0),
  (8, .ifCond .lt (37), 3, 0, 0, 0),
  (11, .iload_n 1, 1, 0, 0, 0),
  (12, .bipush (90), 2, 0, 0, 0),
  (14, .if_icmp .ge (31), 3, 0, 0, 0),
  (17, .aload_n 0, 1, 0, 0, 0),
  (18, .getfield 93, 3, 358, 700, 4),
  (21, .iload_n 1, 1, 0, 0, 0),
  (22, .iaload, 1, 0, 0, 0),
  (23, .bipush (97), 2, 0, 0, 0),
  (25, .isub, 1, 0, 0, 0),
  (26, .istore_n 3, 1, 0, 0, 0),
  (27, .iload_n 3, 1, 0, 0, 0),
  (28, .ifCond .lt (15), 3, 0, 0, 0),
  (31, .iload_n 3, 1, 0, 0, 0),
  (32, .bipush (6), 2, 0, 0, 0),
  (34, .if_icmp .ge (9), 3, 0, 0, 0),
  (37, .iconst 5, 1, 0, 0, 0),
  (38, .iload_n 3, 1, 0, 0, 0),
  (39, .iadd, 1, 0, 0, 0),
  (40, .goto (4), 3, 0, 0, 0),
  (43, .iconst (-1), 1, 0, 0, 0),
  (44, .ireturn, 1, 0, 0, 0),
  (45, .aload_n 0, 1, 0, 0, 0),
  (46, .ldc 96, 2, 988, 0, 1),
  (48, .iload_n 1, 1, 0, 0, 0),
  (49, .iload_n 2, 1, 0, 0, 0),
  (50, .invokevirtual 98, 3, 989, 0, 181),
  (53, .ifCond .eq (5), 3, 0, 0, 0),
  (56, .iconst 0, 1, 0, 0, 0),
  (57, .ireturn, 1, 0, 0, 0),
  (58, .aload_n 0, 1, 0, 0, 0),
  (59, .ldc 102, 2, 1041, 1, 1),
  (61, .iload_n 1, 1, 0, 0, 0),
  (62, .iload_n 2, 1, 0, 0, 0),
  (63, .invokevirtual 98, 3, 989, 0, 181),
  (66, .ifCond .eq (5), 3, 0, 0, 0),
  (69, .iconst 1, 1, 0, 0, 0),
  (70, .ireturn, 1, 0, 0, 0),
  (71, .aload_n 0, 1, 0, 0, 0),
  (72, .ldc 104, 2, 1042, 2, 1),
  (74, .iload_n 1, 1, 0, 0, 0),
  (75, .iload_n 2, 1, 0, 0, 0),
  (76, .invokevirtual 98, 3, 989, 0, 181),
  (79, .ifCond .eq (5), 3, 0, 0, 0),
  (82, .iconst 2, 1, 0, 0, 0),
  (83, .ireturn, 1, 0, 0, 0),
  (84, .aload_n 0, 1, 0, 0, 0),
  (85, .ldc 106, 2, 1043, 3, 1),
  (87, .iload_n 1, 1, 0, 0, 0),
  (88, .iload_n 2, 1, 0, 0, 0),
  (89, .invokevirtual 98, 3, 989, 0, 181),
  (92, .ifCond .eq (5), 3, 0, 0, 0),
  (95, .iconst 3, 1, 0, 0, 0),
  (96, .ireturn, 1, 0, 0, 0),
  (97, .aload_n 0, 1, 0, 0, 0),
  (98, .ldc 108, 2, 1044, 4, 1),
  (100, .iload_n 1, 1, 0, 0, 0),
  (101, .iload_n 2, 1, 0, 0, 0),
  (102, .invokevirtual 98, 3, 989, 0, 181),
  (105, .ifCond .eq (7), 3, 0, 0, 0),
  (108, .iconst 4, 1, 0, 0, 0),
  (109, .goto (4), 3, 0, 0, 0),
  (112, .iconst (-1), 1, 0, 0, 0),
  (113, .ireturn, 1, 0, 0, 0)]
/-- RollCutter$Condition.addStep(I)V -/
def xT_134 : List xE := [(0, .aload_n 0, 1, 0, 0, 0),
  (1, .getfield 24, 3, 407, 904, 0),
  (4, .bipush (90), 2, 0, 0, 0),
  (6, .if_icmp .ge (23), 3, 0, 0, 0),
  (9, .aload_n 0, 1, 0, 0, 0),
  (10, .getfield 9, 3, 403, 900, 4),
  (13, .aload_n 0, 1, 0, 0, 0),
  (14, .getfield 24, 3, 407, 904, 0),
  (17, .iload_n 1, 1, 0, 0, 0),
  (18, .iastore, 1, 0, 0, 0),
  (19, .aload_n 0, 1, 0, 0, 0),
  (20, .dup, 1, 0, 0, 0),
  (21, .getfield 24, 3, 407, 904, 0),
  (24, .iconst 1, 1, 0, 0, 0),
  (25, .iadd, 1, 0, 0, 0),
  (26, .putfield 24, 3, 407, 904, 0),
  (29, .return_, 1, 0, 0, 0)]
/-- RollCutter$Master.<init>()V -/
def xT_135 : List xE := [(0, .aload_n 0, 1, 0, 0, 0),
  (1, .invokespecial 3, 3, 211, 6, 0),
  (4, .aload_n 0, 1, 0, 0, 0),
  (5, .iconst 0, 1, 0, 0, 0),
  (6, .putfield 9, 3, 214, 300, 0),
  (9, .aload_n 0, 1, 0, 0, 0),
  (10, .bipush (6), 2, 0, 0, 0),
  (12, .newarray .int, 2, 170, 0, 0),
  (14, .putfield 15, 3, 217, 301, 4),
  (17, .aload_n 0, 1, 0, 0, 0),
  (18, .bipush (6), 2, 0, 0, 0),
  (20, .newarray .int, 2, 170, 0, 0),
  (22, .putfield 19, 3, 218, 302, 4),
  (25, .aload_n 0, 1, 0, 0, 0),
  (26, .bipush (6), 2, 0, 0, 0),
  (28, .newarray .int, 2, 170, 0, 0),
  (30, .putfield 22, 3, 220, 303, 4),
  (33, .aload_n 0, 1, 0, 0, 0),
  (34, .bipush (6), 2, 0, 0, 0),
  (36, .newarray .int, 2, 170, 0, 0),
  (38, .putfield 25, 3, 221, 304, 4),
  (41, .aload_n 0, 1, 0, 0, 0),
  (42, .bipush (6), 2, 0, 0, 0),
  (44, .newarray .int, 2, 170, 0, 0),
  (46, .putfield 28, 3, 222, 305, 4),
  (49, .aload_n 0, 1, 0, 0, 0),
  (50, .bipush (6), 2, 0, 0, 0),
  (52, .bipush (6), 2, 0, 0, 0),
  (54, .multianewarray 31 2, 4, 212, 0, 0),
  (58, .putfield 33, 3, 225, 306, 4),
  (61, .aload_n 0, 1, 0, 0, 0),
  (62, .bipush (6), 2, 0, 0, 0),
  (64, .newarray .long, 2, 205, 1, 0),
  (66, .putfield 36, 3, 227, 307, 4),
  (69, .aload_n 0, 1, 0, 0, 0),
  (70, .bipush (6), 2, 0, 0, 0),
  (72, .newarray .long, 2, 205, 1, 0),
  (74, .putfield 40, 3, 230, 308, 4),
  (77, .aload_n 0, 1, 0, 0, 0),
  (78, .bipush (6), 2, 0, 0, 0),
  (80, .newarray .long, 2, 205, 1, 0),
  (82, .putfield 43, 3, 232, 309, 4),
  (85, .aload_n 0, 1, 0, 0, 0),
  (86, .lconst 1, 1, 0, 0, 0),
  (87, .putfield 46, 3, 233, 310, 1),
  (90, .aload_n 0, 1, 0, 0, 0),
  (91, .iconst 0, 1, 0, 0, 0),
  (92, .putfield 50, 3, 236, 311, 0),
  (95, .aload_n 0, 1, 0, 0, 0),
  (96, .bipush (64), 2, 0, 0, 0),
  (98, .newarray .int, 2, 170, 0, 0),
  (100, .putfield 53, 3, 238, 312, 4),
  (103, .aload_n 0, 1, 0, 0, 0),
  (104, .bipush (64), 2, 0, 0, 0),
  (106, .newarray .int, 2, 170, 0, 0),
  (108, .putfield 56, 3, 240, 313, 4),
  (111, .return_, 1, 0, 0, 0)]
/-- RollCutter$Master.hasRow(I)Z -/
def xT_136 : List xE := [(0, .iload_n 1, 1, 0, 0, 0),
  (1, .ifCond .lt (15), 3, 0, 0, 0),
  (4, .iload_n 1, 1, 0, 0, 0),
  (5, .aload_n 0, 1, 0, 0, 0),
  (6, .getfield 9, 3, 214, 300, 0),
  (9, .if_icmp .ge (7), 3, 0, 0, 0),
  (12, .iconst 1, 1, 0, 0, 0),
  (13, .goto (4), 3, 0, 0, 0),
  (16, .iconst 0, 1, 0, 0, 0),
  (17, .ireturn, 1, 0, 0, 0)]
/-- RollCutter$Master.solve(LRollCutter$Shop;LRollCutter$Search;)V -/
def xT_137 : List xE := [(0, .aload_n 0, 1, 0, 0, 0),
  (1, .aload_n 1, 1, 0, 0, 0),
  (2, .invokevirtual 59, 3, 558, 0, 138),
  (5, .aload_n 0, 1, 0, 0, 0),
  (6, .invokevirtual 63, 3, 585, 0, 139),
  (9, .iconst 0, 1, 0, 0, 0),
  (10, .istore_n 3, 1, 0, 0, 0),
  (11, .iload_n 3, 1, 0, 0, 0),
  (12, .ldc 66, 2, 589, 1000000, 0),
  (14, .if_icmp .ge (72), 3, 0, 0, 0),
  (17, .aload_n 0, 1, 0, 0, 0),
  (18, .aload_n 1, 1, 0, 0, 0),
  (19, .aload_n 2, 1, 0, 0, 0),
  (20, .invokevirtual 67, 3, 590, 0, 140),
  (23, .istore 4, 2, 0, 0, 0),
  (25, .iload 4, 2, 0, 0, 0),
  (27, .ifCond .ne (6), 3, 0, 0, 0),
  (30, .goto (56), 3, 0, 0, 0),
  (33, .aload_n 0, 1, 0, 0, 0),
  (34, .iload 4, 2, 0, 0, 0),
  (36, .invokevirtual 71, 3, 611, 99, 0),
  (39, .aload_n 0, 1, 0, 0, 0),
  (40, .invokevirtual 75, 3, 616, 99, 0),
  (43, .istore 5, 2, 0, 0, 0),
  (45, .iload 5, 2, 0, 0, 0),
  (47, .ifCond .ge (6), 3, 0, 0, 0),
  (50, .goto (36), 3, 0, 0, 0),
  (53, .aload_n 0, 1, 0, 0, 0),
  (54, .iload 5, 2, 0, 0, 0),
  (56, .iload 4, 2, 0, 0, 0),
  (58, .invokevirtual 79, 3, 624, 99, 0),
  (61, .aload_n 0, 1, 0, 0, 0),
  (62, .iload 5, 2, 0, 0, 0),
  (64, .invokevirtual 83, 3, 642, 99, 0),
  (67, .aload_n 0, 1, 0, 0, 0),
  (68, .getfield 28, 3, 222, 305, 4),
  (71, .iload 5, 2, 0, 0, 0),
  (73, .iload 4, 2, 0, 0, 0),
  (75, .iastore, 1, 0, 0, 0),
  (76, .aload_n 0, 1, 0, 0, 0),
  (77, .invokevirtual 63, 3, 585, 0, 139),
  (80, .iinc 3 (1), 3, 0, 0, 0),
  (83, .goto (-72), 3, 0, 0, 0),
  (86, .return_, 1, 0, 0, 0)]
/-- RollCutter$Master.begin(LRollCutter$Shop;)V -/
def xT_138 : List xE := [(0, .aload_n 0, 1, 0, 0, 0),
  (1, .iconst 0, 1, 0, 0, 0),
  (2, .putfield 9, 3, 214, 300, 0),
  (5, .aload_n 0, 1, 0, 0, 0),
  (6, .iconst 0, 1, 0, 0, 0),
  (7, .putfield 50, 3, 236, 311, 0),
  (10, .aload_n 0, 1, 0, 0, 0),
  (11, .lconst 1, 1, 0, 0, 0),
  (12, .putfield 46, 3, 233, 310, 1),
  (15, .iconst 0, 1, 0, 0, 0),
  (16, .istore_n 2, 1, 0, 0, 0),
  (17, .iload_n 2, 1, 0, 0, 0),
  (18, .bipush (6), 2, 0, 0, 0),
  (20, .if_icmp .ge (130), 3, 0, 0, 0),
  (23, .aload_n 0, 1, 0, 0, 0),
  (24, .getfield 19, 3, 218, 302, 4),
  (27, .iload_n 2, 1, 0, 0, 0),
  (28, .iconst (-1), 1, 0, 0, 0),
  (29, .iastore, 1, 0, 0, 0),
  (30, .iload_n 2, 1, 0, 0, 0),
  (31, .aload_n 1, 1, 0, 0, 0),
  (32, .getfield 86, 3, 123, 100, 0),
  (35, .if_icmp .ge (109), 3, 0, 0, 0),
  (38, .aload_n 1, 1, 0, 0, 0),
  (39, .getfield 91, 3, 133, 102, 4),
  (42, .iload_n 2, 1, 0, 0, 0),
  (43, .iaload, 1, 0, 0, 0),
  (44, .ifCond .le (100), 3, 0, 0, 0),
  (47, .aload_n 0, 1, 0, 0, 0),
  (48, .getfield 19, 3, 218, 302, 4),
  (51, .iload_n 2, 1, 0, 0, 0),
  (52, .aload_n 0, 1, 0, 0, 0),
  (53, .getfield 9, 3, 214, 300, 0),
  (56, .iastore, 1, 0, 0, 0),
  (57, .aload_n 0, 1, 0, 0, 0),
  (58, .getfield 15, 3, 217, 301, 4),
  (61, .aload_n 0, 1, 0, 0, 0),
  (62, .getfield 9, 3, 214, 300, 0),
  (65, .iload_n 2, 1, 0, 0, 0),
  (66, .iastore, 1, 0, 0, 0),
  (67, .aload_n 0, 1, 0, 0, 0),
  (68, .getfield 22, 3, 220, 303, 4),
  (71, .aload_n 0, 1, 0, 0, 0),
  (72, .getfield 9, 3, 214, 300, 0),
  (75, .aload_n 1, 1, 0, 0, 0),
  (76, .getfield 91, 3, 133, 102, 4),
  (79, .iload_n 2, 1, 0, 0, 0),
  (80, .iaload, 1, 0, 0, 0),
  (81, .iastore, 1, 0, 0, 0),
  (82, .aload_n 0, 1, 0, 0, 0),
  (83, .getfield 25, 3, 221, 304, 4),
  (86, .aload_n 0, 1, 0, 0, 0),
  (87, .getfield 9, 3, 214, 300, 0),
  (90, .aload_n 1, 1, 0, 0, 0),
  (91, .iload_n 2, 1, 0, 0, 0),
  (92, .invokevirtual 92, 3, 562, 99, 0),
  (95, .iload_n 2, 1, 0, 0, 0),
  (96, .invokestatic 96, 3, 569, 99, 0),
  (99, .imul, 1, 0, 0, 0),
  (100, .iastore, 1, 0, 0, 0),
  (101, .aload_n 0, 1, 0, 0, 0),
  (102, .getfield 28, 3, 222, 305, 4),
  (105, .aload_n 0, 1, 0, 0, 0),
  (106, .getfield 9, 3, 214, 300, 0),
  (109, .aload_n 0, 1, 0, 0, 0),
  (110, .getfield 25, 3, 221, 304, 4),
  (113, .aload_n 0, 1, 0, 0, 0),
  (114, .getfield 9, 3, 214, 300, 0),
  (117, .iaload, 1, 0, 0, 0),
  (118, .iastore, 1, 0, 0, 0),
  (119, .aload_n 0, 1, 0, 0, 0),
  (120, .dup, 1, 0, 0, 0),
  (121, .getfield 46, 3, 233, 310, 1),
  (124, .aload_n 1, 1, 0, 0, 0),
  (125, .iload_n 2, 1, 0, 0, 0),
  (126, .invokevirtual 92, 3, 562, 99, 0),
  (129, .i2l, 1, 0, 0, 0),
  (130, .lmul, 1, 0, 0, 0),
  (131, .putfield 46, 3, 233, 310, 1),
  (134, .aload_n 0, 1, 0, 0, 0),
  (135, .dup, 1, 0, 0, 0),
  (136, .getfield 9, 3, 214, 300, 0),
  (139, .iconst 1, 1, 0, 0, 0),
  (140, .iadd, 1, 0, 0, 0),
  (141, .putfield 9, 3, 214, 300, 0),
  (144, .iinc 2 (1), 3, 0, 0, 0),
  (147, .goto (-130), 3, 0, 0, 0),
  (150, .iconst 0, 1, 0, 0, 0),
  (151, .istore_n 2, 1, 0, 0, 0),
  (152, .iload_n 2, 1, 0, 0, 0),
  (153, .aload_n 0, 1, 0, 0, 0),
  (154, .getfield 9, 3, 214, 300, 0),
  (157, .if_icmp .ge (44), 3, 0, 0, 0),
  (160, .aload_n 0, 1, 0, 0, 0),
  (161, .getfield 33, 3, 225, 306, 4),
  (164, .iload_n 2, 1, 0, 0, 0),
  (165, .aaload, 1, 0, 0, 0),
  (166, .lconst 0, 1, 0, 0, 0),
  (167, .invokestatic 99, 3, 575, 99, 0),
  (170, .aload_n 0, 1, 0, 0, 0),
  (171, .getfield 33, 3, 225, 306, 4),
  (174, .iload_n 2, 1, 0, 0, 0),
  (175, .aaload, 1, 0, 0, 0),
  (176, .iload_n 2, 1, 0, 0, 0),
  (177, .aload_n 0, 1, 0, 0, 0),
  (178, .getfield 46, 3, 233, 310, 1),
  (181, .aload_n 0, 1, 0, 0, 0),
  (182, .getfield 28, 3, 222, 305, 4),
  (185, .iload_n 2, 1, 0, 0, 0),
  (186, .iaload, 1, 0, 0, 0),
  (187, .invokestatic 105, 3, 578, 99, 0),
  (190, .i2l, 1, 0, 0, 0),
  (191, .invokestatic 108, 3, 584, 3, 44),
  (194, .lastore, 1, 0, 0, 0),
  (195, .iinc 2 (1), 3, 0, 0, 0),
  (198, .goto (-46), 3, 0, 0, 0),
  (201, .return_, 1, 0, 0, 0)]
/-- RollCutter$Master.addUp()V -/
def xT_139 : List xE := [(0, .iconst 0, 1, 0, 0, 0),
  (1, .istore_n 1, 1, 0, 0, 0),
  (2, .iload_n 1, 1, 0, 0, 0),
  (3, .aload_n 0, 1, 0, 0, 0),
  (4, .getfield 9, 3, 214, 300, 0),
  (7, .if_icmp .ge (81), 3, 0, 0, 0),
  (10, .aload_n 0, 1, 0, 0, 0),
  (11, .getfield 36, 3, 227, 307, 4),
  (14, .iload_n 1, 1, 0, 0, 0),
  (15, .lconst 0, 1, 0, 0, 0),
  (16, .lastore, 1, 0, 0, 0),
  (17, .aload_n 0, 1, 0, 0, 0),
  (18, .getfield 40, 3, 230, 308, 4),
  (21, .iload_n 1, 1, 0, 0, 0),
  (22, .lconst 0, 1, 0, 0, 0),
  (23, .lastore, 1, 0, 0, 0),
  (24, .iconst 0, 1, 0, 0, 0),
  (25, .istore_n 2, 1, 0, 0, 0),
  (26, .iload_n 2, 1, 0, 0, 0),
  (27, .aload_n 0, 1, 0, 0, 0),
  (28, .getfield 9, 3, 214, 300, 0),
  (31, .if_icmp .ge (51), 3, 0, 0, 0),
  (34, .aload_n 0, 1, 0, 0, 0),
  (35, .getfield 36, 3, 227, 307, 4),
  (38, .iload_n 1, 1, 0, 0, 0),
  (39, .dup2, 1, 0, 0, 0),
  (40, .laload, 1, 0, 0, 0),
  (41, .aload_n 0, 1, 0, 0, 0),
  (42, .getfield 33, 3, 225, 306, 4),
  (45, .iload_n 1, 1, 0, 0, 0),
  (46, .aaload, 1, 0, 0, 0),
  (47, .iload_n 2, 1, 0, 0, 0),
  (48, .laload, 1, 0, 0, 0),
  (49, .aload_n 0, 1, 0, 0, 0),
  (50, .getfield 22, 3, 220, 303, 4),
  (53, .iload_n 2, 1, 0, 0, 0),
  (54, .iaload, 1, 0, 0, 0),
  (55, .i2l, 1, 0, 0, 0),
  (56, .lmul, 1, 0, 0, 0),
  (57, .ladd, 1, 0, 0, 0),
  (58, .lastore, 1, 0, 0, 0),
  (59, .aload_n 0, 1, 0, 0, 0),
  (60, .getfield 40, 3, 230, 308, 4),
  (63, .iload_n 1, 1, 0, 0, 0),
  (64, .dup2, 1, 0, 0, 0),
  (65, .laload, 1, 0, 0, 0),
  (66, .aload_n 0, 1, 0, 0, 0),
  (67, .getfield 33, 3, 225, 306, 4),
  (70, .iload_n 2, 1, 0, 0, 0),
  (71, .aaload, 1, 0, 0, 0),
  (72, .iload_n 1, 1, 0, 0, 0),
  (73, .laload, 1, 0, 0, 0),
  (74, .ladd, 1, 0, 0, 0),
  (75, .lastore, 1, 0, 0, 0),
  (76, .iinc 2 (1), 3, 0, 0, 0),
  (79, .goto (-53), 3, 0, 0, 0),
  (82, .iinc 1 (1), 3, 0, 0, 0),
  (85, .goto (-83), 3, 0, 0, 0),
  (88, .return_, 1, 0, 0, 0)]
/-- RollCutter$Master.dearest(LRollCutter$Shop;LRollCutter$Search;)I -/
def xT_140 : List xE := [(0, .aload_n 2, 1, 0, 0, 0),
  (1, .invokevirtual 112, 3, 594, 0, 152),
  (4, .iconst 0, 1, 0, 0, 0),
  (5, .istore_n 3, 1, 0, 0, 0),
  (6, .iload_n 3, 1, 0, 0, 0),
  (7, .aload_n 0, 1, 0, 0, 0),
  (8, .getfield 9, 3, 214, 300, 0),
  (11, .if_icmp .ge (30), 3, 0, 0, 0),
  (14, .aload_n 2, 1, 0, 0, 0),
  (15, .aload_n 1, 1, 0, 0, 0),
  (16, .aload_n 0, 1, 0, 0, 0),
  (17, .getfield 15, 3, 217, 301, 4),
  (20, .iload_n 3, 1, 0, 0, 0),
  (21, .iaload, 1, 0, 0, 0),
  (22, .aload_n 1, 1, 0, 0, 0),
  (23, .getfield 117, 3, 148, 105, 0),
  (26, .aload_n 0, 1, 0, 0, 0),
  (27, .getfield 40, 3, 230, 308, 4),
  (30, .iload_n 3, 1, 0, 0, 0),
  (31, .laload, 1, 0, 0, 0),
  (32, .invokevirtual 120, 3, 598, 99, 0),
  (35, .iinc 3 (1), 3, 0, 0, 0),
  (38, .goto (-32), 3, 0, 0, 0),
  (41, .aload_n 2, 1, 0, 0, 0),
  (42, .aload_n 1, 1, 0, 0, 0),
  (43, .aload_n 0, 1, 0, 0, 0),
  (44, .getfield 46, 3, 233, 310, 1),
  (47, .invokevirtual 124, 3, 603, 0, 153),
  (50, .ireturn, 1, 0, 0, 0)]
/-- RollCutter$Master.amounts()J -/
def xT_141 : List xE := [(0, .lconst 0, 1, 0, 0, 0),
  (1, .lstore_n 1, 1, 0, 0, 0),
  (2, .iconst 0, 1, 0, 0, 0),
  (3, .istore_n 3, 1, 0, 0, 0),
  (4, .iload_n 3, 1, 0, 0, 0),
  (5, .aload_n 0, 1, 0, 0, 0),
  (6, .getfield 9, 3, 214, 300, 0),
  (9, .if_icmp .ge (18), 3, 0, 0, 0),
  (12, .lload_n 1, 1, 0, 0, 0),
  (13, .aload_n 0, 1, 0, 0, 0),
  (14, .getfield 36, 3, 227, 307, 4),
  (17, .iload_n 3, 1, 0, 0, 0),
  (18, .laload, 1, 0, 0, 0),
  (19, .ladd, 1, 0, 0, 0),
  (20, .lstore_n 1, 1, 0, 0, 0),
  (21, .iinc 3 (1), 3, 0, 0, 0),
  (24, .goto (-20), 3, 0, 0, 0),
  (27, .lload_n 1, 1, 0, 0, 0),
  (28, .lreturn, 1, 0, 0, 0)]
/-- RollCutter$Master.unlikePatterns()I -/
def xT_142 : List xE := [(0, .aload_n 0, 1, 0, 0, 0),
  (1, .getfield 9, 3, 214, 300, 0),
  (4, .istore_n 1, 1, 0, 0, 0),
  (5, .iconst 0, 1, 0, 0, 0),
  (6, .istore_n 2, 1, 0, 0, 0),
  (7, .iload_n 2, 1, 0, 0, 0),
  (8, .aload_n 0, 1, 0, 0, 0),
  (9, .getfield 50, 3, 236, 311, 0),
  (12, .if_icmp .ge (20), 3, 0, 0, 0),
  (15, .aload_n 0, 1, 0, 0, 0),
  (16, .iload_n 2, 1, 0, 0, 0),
  (17, .invokevirtual 147, 3, 1136, 99, 0),
  (20, .ifCond .ne (6), 3, 0, 0, 0),
  (23, .iinc 1 (1), 3, 0, 0, 0),
  (26, .iinc 2 (1), 3, 0, 0, 0),
  (29, .goto (-22), 3, 0, 0, 0),
  (32, .iload_n 1, 1, 0, 0, 0),
  (33, .ireturn, 1, 0, 0, 0)]
/-- RollCutter$Paper.<init>()V -/
def xT_143 : List xE := [(0, .aload_n 0, 1, 0, 0, 0),
  (1, .invokespecial 1, 3, 431, 6, 0),
  (4, .aload_n 0, 1, 0, 0, 0),
  (5, .sipush (128), 3, 0, 0, 0),
  (8, .newarray .int, 2, 170, 0, 0),
  (10, .putfield 7, 3, 432, 1000, 4),
  (13, .aload_n 0, 1, 0, 0, 0),
  (14, .iconst 0, 1, 0, 0, 0),
  (15, .putfield 13, 3, 434, 1001, 0),
  (18, .return_, 1, 0, 0, 0)]
/-- RollCutter$Plan.<init>()V -/
def xT_144 : List xE := [(0, .aload_n 0, 1, 0, 0, 0),
  (1, .invokespecial 3, 3, 282, 6, 0),
  (4, .aload_n 0, 1, 0, 0, 0),
  (5, .iconst 0, 1, 0, 0, 0),
  (6, .putfield 9, 3, 283, 500, 0),
  (9, .aload_n 0, 1, 0, 0, 0),
  (10, .iconst 0, 1, 0, 0, 0),
  (11, .putfield 15, 3, 286, 501, 0),
  (14, .aload_n 0, 1, 0, 0, 0),
  (15, .sipush (246), 3, 0, 0, 0),
  (18, .newarray .int, 2, 170, 0, 0),
  (20, .putfield 18, 3, 289, 502, 4),
  (23, .aload_n 0, 1, 0, 0, 0),
  (24, .sipush (246), 3, 0, 0, 0),
  (27, .newarray .int, 2, 170, 0, 0),
  (29, .putfield 22, 3, 293, 503, 4),
  (32, .return_, 1, 0, 0, 0)]
/-- RollCutter$Plan.restart()V -/
def xT_145 : List xE := [(0, .aload_n 0, 1, 0, 0, 0),
  (1, .iconst 0, 1, 0, 0, 0),
  (2, .putfield 9, 3, 283, 500, 0),
  (5, .aload_n 0, 1, 0, 0, 0),
  (6, .iconst 0, 1, 0, 0, 0),
  (7, .putfield 15, 3, 286, 501, 0),
  (10, .return_, 1, 0, 0, 0)]
/-- RollCutter$Planner.<init>()V -/
def xT_146 : List xE := [(0, .aload_n 0, 1, 0, 0, 0),
  (1, .invokespecial 3, 3, 276, 6, 0),
  (4, .aload_n 0, 1, 0, 0, 0),
  (5, .new 9, 3, 277, 5, 0),
  (8, .dup, 1, 0, 0, 0),
  (9, .invokespecial 11, 3, 279, 5, 144),
  (12, .putfield 12, 3, 305, 400, 4),
  (15, .aload_n 0, 1, 0, 0, 0),
  (16, .new 9, 3, 277, 5, 0),
  (19, .dup, 1, 0, 0, 0),
  (20, .invokespecial 11, 3, 279, 5, 144),
  (23, .putfield 18, 3, 307, 401, 4),
  (26, .aload_n 0, 1, 0, 0, 0),
  (27, .bipush (6), 2, 0, 0, 0),
  (29, .newarray .int, 2, 170, 0, 0),
  (31, .putfield 21, 3, 309, 402, 4),
  (34, .aload_n 0, 1, 0, 0, 0),
  (35, .sipush (246), 3, 0, 0, 0),
  (38, .newarray .int, 2, 170, 0, 0),
  (40, .putfield 25, 3, 310, 403, 4),
  (43, .aload_n 0, 1, 0, 0, 0),
  (44, .iconst 0, 1, 0, 0, 0),
  (45, .putfield 28, 3, 311, 404, 0),
  (48, .return_, 1, 0, 0, 0)]
/-- RollCutter$Planner.chosen()LRollCutter$Plan; -/
def xT_147 : List xE := [(0, .aload_n 0, 1, 0, 0, 0),
  (1, .getfield 18, 3, 307, 401, 4),
  (4, .getfield 32, 3, 287, 501, 0),
  (7, .aload_n 0, 1, 0, 0, 0),
  (8, .getfield 12, 3, 305, 400, 4),
  (11, .getfield 32, 3, 287, 501, 0),
  (14, .if_icmp .ge (10), 3, 0, 0, 0),
  (17, .aload_n 0, 1, 0, 0, 0),
  (18, .getfield 18, 3, 307, 401, 4),
  (21, .goto (7), 3, 0, 0, 0),
  (24, .aload_n 0, 1, 0, 0, 0),
  (25, .getfield 12, 3, 305, 400, 4),
  (28, .areturn, 1, 0, 0, 0)]
/-- RollCutter$Planner.planDown(LRollCutter$Shop;LRollCutter$Master;LRollCutter$Search;)V -/
def xT_148 : List xE := [(0, .aload_n 0, 1, 0, 0, 0),
  (1, .getfield 12, 3, 305, 400, 4),
  (4, .invokevirtual 35, 3, 650, 0, 145),
  (7, .iconst 0, 1, 0, 0, 0),
  (8, .istore 4, 2, 0, 0, 0),
  (10, .iload 4, 2, 0, 0, 0),
  (12, .aload_n 1, 1, 0, 0, 0),
  (13, .getfield 38, 3, 121, 100, 0),
  (16, .if_icmp .ge (23), 3, 0, 0, 0),
  (19, .aload_n 0, 1, 0, 0, 0),
  (20, .getfield 21, 3, 309, 402, 4),
  (23, .iload 4, 2, 0, 0, 0),
  (25, .aload_n 1, 1, 0, 0, 0),
  (26, .getfield 43, 3, 130, 102, 4),
  (29, .iload 4, 2, 0, 0, 0),
  (31, .iaload, 1, 0, 0, 0),
  (32, .iastore, 1, 0, 0, 0),
  (33, .iinc 4 (1), 3, 0, 0, 0),
  (36, .goto (-26), 3, 0, 0, 0),
  (39, .iconst 0, 1, 0, 0, 0),
  (40, .istore 4, 2, 0, 0, 0),
  (42, .iload 4, 2, 0, 0, 0),
  (44, .aload_n 2, 1, 0, 0, 0),
  (45, .getfield 46, 3, 215, 300, 0),
  (48, .if_icmp .ge (36), 3, 0, 0, 0),
  (51, .aload_n 0, 1, 0, 0, 0),
  (52, .aload_n 1, 1, 0, 0, 0),
  (53, .aload_n 2, 1, 0, 0, 0),
  (54, .getfield 51, 3, 223, 305, 4),
  (57, .iload 4, 2, 0, 0, 0),
  (59, .iaload, 1, 0, 0, 0),
  (60, .aload_n 2, 1, 0, 0, 0),
  (61, .getfield 54, 3, 228, 307, 4),
  (64, .iload 4, 2, 0, 0, 0),
  (66, .laload, 1, 0, 0, 0),
  (67, .aload_n 2, 1, 0, 0, 0),
  (68, .getfield 58, 3, 234, 310, 1),
  (71, .invokestatic 62, 3, 654, 3, 44),
  (74, .l2i, 1, 0, 0, 0),
  (75, .invokevirtual 66, 3, 655, 99, 0),
  (78, .iinc 4 (1), 3, 0, 0, 0),
  (81, .goto (-39), 3, 0, 0, 0),
  (84, .iconst 0, 1, 0, 0, 0),
  (85, .istore 4, 2, 0, 0, 0),
  (87, .iload 4, 2, 0, 0, 0),
  (89, .sipush (246), 3, 0, 0, 0),
  (92, .if_icmp .ge (88), 3, 0, 0, 0),
  (95, .aload_n 3, 1, 0, 0, 0),
  (96, .invokevirtual 70, 3, 664, 0, 152),
  (99, .iconst 0, 1, 0, 0, 0),
  (100, .istore 5, 2, 0, 0, 0),
  (102, .iload 5, 2, 0, 0, 0),
  (104, .aload_n 1, 1, 0, 0, 0),
  (105, .getfield 38, 3, 121, 100, 0),
  (108, .if_icmp .ge (36), 3, 0, 0, 0),
  (111, .aload_n 3, 1, 0, 0, 0),
  (112, .aload_n 1, 1, 0, 0, 0),
  (113, .iload 5, 2, 0, 0, 0),
  (115, .aload_n 0, 1, 0, 0, 0),
  (116, .getfield 21, 3, 309, 402, 4),
  (119, .iload 5, 2, 0, 0, 0),
  (121, .iaload, 1, 0, 0, 0),
  (122, .aload_n 1, 1, 0, 0, 0),
  (123, .getfield 73, 3, 126, 101, 4),
  (126, .iload 5, 2, 0, 0, 0),
  (128, .iaload, 1, 0, 0, 0),
  (129, .aload_n 1, 1, 0, 0, 0),
  (130, .getfield 76, 3, 142, 104, 0),
  (133, .iadd, 1, 0, 0, 0),
  (134, .i2l, 1, 0, 0, 0),
  (135, .invokevirtual 79, 3, 665, 99, 0),
  (138, .iinc 5 (1), 3, 0, 0, 0),
  (141, .goto (-39), 3, 0, 0, 0),
  (144, .aload_n 3, 1, 0, 0, 0),
  (145, .aload_n 1, 1, 0, 0, 0),
  (146, .lconst 0, 1, 0, 0, 0),
  (147, .invokevirtual 83, 3, 666, 0, 153),
  (150, .istore 5, 2, 0, 0, 0),
  (152, .iload 5, 2, 0, 0, 0),
  (154, .ifCond .ne (6), 3, 0, 0, 0),
  (157, .goto (23), 3, 0, 0, 0),
  (160, .aload_n 0, 1, 0, 0, 0),
  (161, .aload_n 1, 1, 0, 0, 0),
  (162, .iload 5, 2, 0, 0, 0),
  (164, .aload_n 0, 1, 0, 0, 0),
  (165, .aload_n 1, 1, 0, 0, 0),
  (166, .iload 5, 2, 0, 0, 0),
  (168, .invokevirtual 87, 3, 667, 99, 0),
  (171, .invokevirtual 66, 3, 655, 99, 0),
  (174, .iinc 4 (1), 3, 0, 0, 0),
  (177, .goto (-90), 3, 0, 0, 0),
  (180, .return_, 1, 0, 0, 0)]
/-- RollCutter$Planner.planUp(LRollCutter$Shop;LRollCutter$Master;)V -/
def xT_149 : List xE := [(0, .aload_n 0, 1, 0, 0, 0),
  (1, .aload_n 2, 1, 0, 0, 0),
  (2, .invokevirtual 104, 3, 676, 0, 150),
  (5, .iconst 0, 1, 0, 0, 0),
  (6, .istore_n 3, 1, 0, 0, 0),
  (7, .iload_n 3, 1, 0, 0, 0),
  (8, .aload_n 1, 1, 0, 0, 0),
  (9, .getfield 38, 3, 121, 100, 0),
  (12, .if_icmp .ge (60), 3, 0, 0, 0),
  (15, .aload_n 0, 1, 0, 0, 0),
  (16, .getfield 21, 3, 309, 402, 4),
  (19, .iload_n 3, 1, 0, 0, 0),
  (20, .aload_n 1, 1, 0, 0, 0),
  (21, .getfield 43, 3, 130, 102, 4),
  (24, .iload_n 3, 1, 0, 0, 0),
  (25, .iaload, 1, 0, 0, 0),
  (26, .ineg, 1, 0, 0, 0),
  (27, .iastore, 1, 0, 0, 0),
  (28, .iconst 0, 1, 0, 0, 0),
  (29, .istore 4, 2, 0, 0, 0),
  (31, .iload 4, 2, 0, 0, 0),
  (33, .aload_n 0, 1, 0, 0, 0),
  (34, .getfield 28, 3, 311, 404, 0),
  (37, .if_icmp .ge (29), 3, 0, 0, 0),
  (40, .aload_n 0, 1, 0, 0, 0),
  (41, .getfield 21, 3, 309, 402, 4),
  (44, .iload_n 3, 1, 0, 0, 0),
  (45, .dup2, 1, 0, 0, 0),
  (46, .iaload, 1, 0, 0, 0),
  (47, .aload_n 0, 1, 0, 0, 0),
  (48, .getfield 25, 3, 310, 403, 4),
  (51, .iload 4, 2, 0, 0, 0),
  (53, .iaload, 1, 0, 0, 0),
  (54, .iload_n 3, 1, 0, 0, 0),
  (55, .invokestatic 95, 3, 663, 99, 0),
  (58, .iadd, 1, 0, 0, 0),
  (59, .iastore, 1, 0, 0, 0),
  (60, .iinc 4 (1), 3, 0, 0, 0),
  (63, .goto (-32), 3, 0, 0, 0),
  (66, .iinc 3 (1), 3, 0, 0, 0),
  (69, .goto (-62), 3, 0, 0, 0),
  (72, .aload_n 0, 1, 0, 0, 0),
  (73, .getfield 28, 3, 311, 404, 0),
  (76, .iconst 1, 1, 0, 0, 0),
  (77, .isub, 1, 0, 0, 0),
  (78, .istore_n 3, 1, 0, 0, 0),
  (79, .iload_n 3, 1, 0, 0, 0),
  (80, .ifCond .lt (26), 3, 0, 0, 0),
  (83, .aload_n 0, 1, 0, 0, 0),
  (84, .getfield 25, 3, 310, 403, 4),
  (87, .iload_n 3, 1, 0, 0, 0),
  (88, .aload_n 0, 1, 0, 0, 0),
  (89, .aload_n 1, 1, 0, 0, 0),
  (90, .aload_n 0, 1, 0, 0, 0),
  (91, .getfield 25, 3, 310, 403, 4),
  (94, .iload_n 3, 1, 0, 0, 0),
  (95, .iaload, 1, 0, 0, 0),
  (96, .invokevirtual 108, 3, 683, 99, 0),
  (99, .iastore, 1, 0, 0, 0),
  (100, .iinc 3 (-1), 3, 0, 0, 0),
  (103, .goto (-24), 3, 0, 0, 0),
  (106, .aload_n 0, 1, 0, 0, 0),
  (107, .getfield 18, 3, 307, 401, 4),
  (110, .invokevirtual 35, 3, 650, 0, 145),
  (113, .iconst 0, 1, 0, 0, 0),
  (114, .istore_n 3, 1, 0, 0, 0),
  (115, .iload_n 3, 1, 0, 0, 0),
  (116, .aload_n 0, 1, 0, 0, 0),
  (117, .getfield 28, 3, 311, 404, 0),
  (120, .if_icmp .ge (32), 3, 0, 0, 0),
  (123, .aload_n 0, 1, 0, 0, 0),
  (124, .getfield 25, 3, 310, 403, 4),
  (127, .iload_n 3, 1, 0, 0, 0),
  (128, .iaload, 1, 0, 0, 0),
  (129, .ifCond .eq (17), 3, 0, 0, 0),
  (132, .aload_n 0, 1, 0, 0, 0),
  (133, .getfield 18, 3, 307, 401, 4),
  (136, .aload_n 0, 1, 0, 0, 0),
  (137, .getfield 25, 3, 310, 403, 4),
  (140, .iload_n 3, 1, 0, 0, 0),
  (141, .iaload, 1, 0, 0, 0),
  (142, .iconst 1, 1, 0, 0, 0),
  (143, .invokevirtual 91, 3, 659, 99, 0),
  (146, .iinc 3 (1), 3, 0, 0, 0),
  (149, .goto (-34), 3, 0, 0, 0),
  (152, .return_, 1, 0, 0, 0)]
/-- RollCutter$Planner.layRolls(LRollCutter$Master;)V -/
def xT_150 : List xE := [(0, .aload_n 0, 1, 0, 0, 0),
  (1, .iconst 0, 1, 0, 0, 0),
  (2, .putfield 28, 3, 311, 404, 0),
  (5, .iconst 0, 1, 0, 0, 0),
  (6, .istore_n 2, 1, 0, 0, 0),
  (7, .iload_n 2, 1, 0, 0, 0),
  (8, .aload_n 1, 1, 0, 0, 0),
  (9, .getfield 46, 3, 215, 300, 0),
  (12, .if_icmp .ge (75), 3, 0, 0, 0),
  (15, .aload_n 1, 1, 0, 0, 0),
  (16, .getfield 54, 3, 228, 307, 4),
  (19, .iload_n 2, 1, 0, 0, 0),
  (20, .laload, 1, 0, 0, 0),
  (21, .aload_n 1, 1, 0, 0, 0),
  (22, .getfield 58, 3, 234, 310, 1),
  (25, .invokestatic 111, 3, 680, 3, 45),
  (28, .lstore_n 3, 1, 0, 0, 0),
  (29, .iconst 0, 1, 0, 0, 0),
  (30, .istore 5, 2, 0, 0, 0),
  (32, .iload 5, 2, 0, 0, 0),
  (34, .i2l, 1, 0, 0, 0),
  (35, .lload_n 3, 1, 0, 0, 0),
  (36, .lcmp, 1, 0, 0, 0),
  (37, .ifCond .ge (44), 3, 0, 0, 0),
  (40, .aload_n 0, 1, 0, 0, 0),
  (41, .getfield 28, 3, 311, 404, 0),
  (44, .sipush (246), 3, 0, 0, 0),
  (47, .if_icmp .ge (34), 3, 0, 0, 0),
  (50, .aload_n 0, 1, 0, 0, 0),
  (51, .getfield 25, 3, 310, 403, 4),
  (54, .aload_n 0, 1, 0, 0, 0),
  (55, .getfield 28, 3, 311, 404, 0),
  (58, .aload_n 1, 1, 0, 0, 0),
  (59, .getfield 51, 3, 223, 305, 4),
  (62, .iload_n 2, 1, 0, 0, 0),
  (63, .iaload, 1, 0, 0, 0),
  (64, .iastore, 1, 0, 0, 0),
  (65, .aload_n 0, 1, 0, 0, 0),
  (66, .dup, 1, 0, 0, 0),
  (67, .getfield 28, 3, 311, 404, 0),
  (70, .iconst 1, 1, 0, 0, 0),
  (71, .iadd, 1, 0, 0, 0),
  (72, .putfield 28, 3, 311, 404, 0),
  (75, .iinc 5 (1), 3, 0, 0, 0),
  (78, .goto (-46), 3, 0, 0, 0),
  (81, .iinc 2 (1), 3, 0, 0, 0),
  (84, .goto (-77), 3, 0, 0, 0),
  (87, .return_, 1, 0, 0, 0)]
/-- RollCutter$Search.<init>()V -/
def xT_151 : List xE := [(0, .aload_n 0, 1, 0, 0, 0),
  (1, .invokespecial 3, 3, 176, 6, 0),
  (4, .aload_n 0, 1, 0, 0, 0),
  (5, .iconst 0, 1, 0, 0, 0),
  (6, .putfield 9, 3, 177, 200, 0),
  (9, .aload_n 0, 1, 0, 0, 0),
  (10, .bipush (6), 2, 0, 0, 0),
  (12, .newarray .int, 2, 170, 0, 0),
  (14, .putfield 15, 3, 178, 201, 4),
  (17, .aload_n 0, 1, 0, 0, 0),
  (18, .bipush (6), 2, 0, 0, 0),
  (20, .newarray .int, 2, 170, 0, 0),
  (22, .putfield 19, 3, 179, 202, 4),
  (25, .aload_n 0, 1, 0, 0, 0),
  (26, .bipush (6), 2, 0, 0, 0),
  (28, .newarray .int, 2, 170, 0, 0),
  (30, .putfield 22, 3, 180, 203, 4),
  (33, .aload_n 0, 1, 0, 0, 0),
  (34, .bipush (6), 2, 0, 0, 0),
  (36, .newarray .long, 2, 205, 1, 0),
  (38, .putfield 25, 3, 181, 204, 4),
  (41, .aload_n 0, 1, 0, 0, 0),
  (42, .bipush (7), 2, 0, 0, 0),
  (44, .newarray .long, 2, 205, 1, 0),
  (46, .putfield 29, 3, 182, 205, 4),
  (49, .aload_n 0, 1, 0, 0, 0),
  (50, .bipush (7), 2, 0, 0, 0),
  (52, .newarray .int, 2, 170, 0, 0),
  (54, .putfield 32, 3, 183, 206, 4),
  (57, .aload_n 0, 1, 0, 0, 0),
  (58, .lconst 0, 1, 0, 0, 0),
  (59, .putfield 35, 3, 184, 207, 1),
  (62, .aload_n 0, 1, 0, 0, 0),
  (63, .iconst 0, 1, 0, 0, 0),
  (64, .putfield 39, 3, 185, 208, 0),
  (67, .return_, 1, 0, 0, 0)]
/-- RollCutter$Search.restart()V -/
def xT_152 : List xE := [(0, .aload_n 0, 1, 0, 0, 0),
  (1, .iconst 0, 1, 0, 0, 0),
  (2, .putfield 9, 3, 177, 200, 0),
  (5, .return_, 1, 0, 0, 0)]
/-- RollCutter$Search.run(LRollCutter$Shop;J)I -/
def xT_153 : List xE := [(0, .aload_n 0, 1, 0, 0, 0),
  (1, .getfield 29, 3, 182, 205, 4),
  (4, .aload_n 0, 1, 0, 0, 0),
  (5, .getfield 9, 3, 177, 200, 0),
  (8, .lconst 0, 1, 0, 0, 0),
  (9, .lastore, 1, 0, 0, 0),
  (10, .aload_n 0, 1, 0, 0, 0),
  (11, .getfield 32, 3, 183, 206, 4),
  (14, .aload_n 0, 1, 0, 0, 0),
  (15, .getfield 9, 3, 177, 200, 0),
  (18, .iconst 1, 1, 0, 0, 0),
  (19, .iastore, 1, 0, 0, 0),
  (20, .aload_n 0, 1, 0, 0, 0),
  (21, .getfield 9, 3, 177, 200, 0),
  (24, .iconst 1, 1, 0, 0, 0),
  (25, .isub, 1, 0, 0, 0),
  (26, .istore 4, 2, 0, 0, 0),
  (28, .iload 4, 2, 0, 0, 0),
  (30, .ifCond .lt (118), 3, 0, 0, 0),
  (33, .aload_n 0, 1, 0, 0, 0),
  (34, .getfield 25, 3, 181, 204, 4),
  (37, .iload 4, 2, 0, 0, 0),
  (39, .laload, 1, 0, 0, 0),
  (40, .aload_n 0, 1, 0, 0, 0),
  (41, .getfield 32, 3, 183, 206, 4),
  (44, .iload 4, 2, 0, 0, 0),
  (46, .iconst 1, 1, 0, 0, 0),
  (47, .iadd, 1, 0, 0, 0),
  (48, .iaload, 1, 0, 0, 0),
  (49, .i2l, 1, 0, 0, 0),
  (50, .lmul, 1, 0, 0, 0),
  (51, .aload_n 0, 1, 0, 0, 0),
  (52, .getfield 29, 3, 182, 205, 4),
  (55, .iload 4, 2, 0, 0, 0),
  (57, .iconst 1, 1, 0, 0, 0),
  (58, .iadd, 1, 0, 0, 0),
  (59, .laload, 1, 0, 0, 0),
  (60, .aload_n 0, 1, 0, 0, 0),
  (61, .getfield 19, 3, 179, 202, 4),
  (64, .iload 4, 2, 0, 0, 0),
  (66, .iaload, 1, 0, 0, 0),
  (67, .i2l, 1, 0, 0, 0),
  (68, .lmul, 1, 0, 0, 0),
  (69, .lcmp, 1, 0, 0, 0),
  (70, .ifCond .le (7), 3, 0, 0, 0),
  (73, .iconst 1, 1, 0, 0, 0),
  (74, .goto (4), 3, 0, 0, 0),
  (77, .iconst 0, 1, 0, 0, 0),
  (78, .istore 5, 2, 0, 0, 0),
  (80, .aload_n 0, 1, 0, 0, 0),
  (81, .getfield 29, 3, 182, 205, 4),
  (84, .iload 4, 2, 0, 0, 0),
  (86, .iload 5, 2, 0, 0, 0),
  (88, .ifCond .eq (13), 3, 0, 0, 0),
  (91, .aload_n 0, 1, 0, 0, 0),
  (92, .getfield 25, 3, 181, 204, 4),
  (95, .iload 4, 2, 0, 0, 0),
  (97, .laload, 1, 0, 0, 0),
  (98, .goto (12), 3, 0, 0, 0),
  (101, .aload_n 0, 1, 0, 0, 0),
  (102, .getfield 29, 3, 182, 205, 4),
  (105, .iload 4, 2, 0, 0, 0),
  (107, .iconst 1, 1, 0, 0, 0),
  (108, .iadd, 1, 0, 0, 0),
  (109, .laload, 1, 0, 0, 0),
  (110, .lastore, 1, 0, 0, 0),
  (111, .aload_n 0, 1, 0, 0, 0),
  (112, .getfield 32, 3, 183, 206, 4),
  (115, .iload 4, 2, 0, 0, 0),
  (117, .iload 5, 2, 0, 0, 0),
  (119, .ifCond .eq (13), 3, 0, 0, 0),
  (122, .aload_n 0, 1, 0, 0, 0),
  (123, .getfield 19, 3, 179, 202, 4),
  (126, .iload 4, 2, 0, 0, 0),
  (128, .iaload, 1, 0, 0, 0),
  (129, .goto (12), 3, 0, 0, 0),
  (132, .aload_n 0, 1, 0, 0, 0),
  (133, .getfield 32, 3, 183, 206, 4),
  (136, .iload 4, 2, 0, 0, 0),
  (138, .iconst 1, 1, 0, 0, 0),
  (139, .iadd, 1, 0, 0, 0),
  (140, .iaload, 1, 0, 0, 0),
  (141, .iastore, 1, 0, 0, 0),
  (142, .iinc 4 (-1), 3, 0, 0, 0),
  (145, .goto (-117), 3, 0, 0, 0),
  (148, .aload_n 0, 1, 0, 0, 0),
  (149, .lload_n 2, 1, 0, 0, 0),
  (150, .putfield 35, 3, 184, 207, 1),
  (153, .aload_n 0, 1, 0, 0, 0),
  (154, .iconst 0, 1, 0, 0, 0),
  (155, .putfield 39, 3, 185, 208, 0),
  (158, .aload_n 0, 1, 0, 0, 0),
  (159, .iconst 0, 1, 0, 0, 0),
  (160, .aload_n 1, 1, 0, 0, 0),
  (161, .getfield 54, 3, 138, 103, 0),
  (164, .aload_n 1, 1, 0, 0, 0),
  (165, .getfield 51, 3, 141, 104, 0),
  (168, .iadd, 1, 0, 0, 0),
  (169, .aload_n 1, 1, 0, 0, 0),
  (170, .getfield 57, 3, 146, 105, 0),
  (173, .lconst 0, 1, 0, 0, 0),
  (174, .iconst 0, 1, 0, 0, 0),
  (175, .invokestatic 60, 3, 607, 2, 154),
  (178, .aload_n 0, 1, 0, 0, 0),
  (179, .getfield 39, 3, 185, 208, 0),
  (182, .ireturn, 1, 0, 0, 0)]
/-- RollCutter$Search.go(LRollCutter$Search;IIIJI)V -/
def xT_154 : List xE := [(0, .iload_n 1, 1, 0, 0, 0),
  (1, .aload_n 0, 1, 0, 0, 0),
  (2, .getfield 9, 3, 177, 200, 0),
  (5, .if_icmp .ge (9), 3, 0, 0, 0),
  (8, .iload_n 1, 1, 0, 0, 0),
  (9, .bipush (6), 2, 0, 0, 0),
  (11, .if_icmp .lt (26), 3, 0, 0, 0),
  (14, .lload 4, 2, 0, 0, 0),
  (16, .aload_n 0, 1, 0, 0, 0),
  (17, .getfield 35, 3, 184, 207, 1),
  (20, .lcmp, 1, 0, 0, 0),
  (21, .ifCond .le (15), 3, 0, 0, 0),
  (24, .aload_n 0, 1, 0, 0, 0),
  (25, .lload 4, 2, 0, 0, 0),
  (27, .putfield 35, 3, 184, 207, 1),
  (30, .aload_n 0, 1, 0, 0, 0),
  (31, .iload 6, 2, 0, 0, 0),
  (33, .putfield 39, 3, 185, 208, 0),
  (36, .return_, 1, 0, 0, 0),
  (37, .aload_n 0, 1, 0, 0, 0),
  (38, .getfield 29, 3, 182, 205, 4),
  (41, .iload_n 1, 1, 0, 0, 0),
  (42, .laload, 1, 0, 0, 0),
  (43, .iload_n 2, 1, 0, 0, 0),
  (44, .i2l, 1, 0, 0, 0),
  (45, .lmul, 1, 0, 0, 0),
  (46, .aload_n 0, 1, 0, 0, 0),
  (47, .getfield 35, 3, 184, 207, 1),
  (50, .lload 4, 2, 0, 0, 0),
  (52, .lsub, 1, 0, 0, 0),
  (53, .aload_n 0, 1, 0, 0, 0),
  (54, .getfield 32, 3, 183, 206, 4),
  (57, .iload_n 1, 1, 0, 0, 0),
  (58, .iaload, 1, 0, 0, 0),
  (59, .i2l, 1, 0, 0, 0),
  (60, .lmul, 1, 0, 0, 0),
  (61, .lcmp, 1, 0, 0, 0),
  (62, .ifCond .gt (4), 3, 0, 0, 0),
  (65, .return_, 1, 0, 0, 0),
  (66, .aload_n 0, 1, 0, 0, 0),
  (67, .getfield 19, 3, 179, 202, 4),
  (70, .iload_n 1, 1, 0, 0, 0),
  (71, .iaload, 1, 0, 0, 0),
  (72, .istore 7, 2, 0, 0, 0),
  (74, .iload 7, 2, 0, 0, 0),
  (76, .ifCond .gt (7), 3, 0, 0, 0),
  (79, .iconst 0, 1, 0, 0, 0),
  (80, .goto (20), 3, 0, 0, 0),
  (83, .iload_n 2, 1, 0, 0, 0),
  (84, .iload 7, 2, 0, 0, 0),
  (86, .idiv, 1, 0, 0, 0),
  (87, .iload_n 3, 1, 0, 0, 0),
  (88, .aload_n 0, 1, 0, 0, 0),
  (89, .getfield 22, 3, 180, 203, 4),
  (92, .iload_n 1, 1, 0, 0, 0),
  (93, .iaload, 1, 0, 0, 0),
  (94, .invokestatic 64, 3, 610, 11, 0),
  (97, .invokestatic 64, 3, 610, 11, 0),
  (100, .istore 8, 2, 0, 0, 0),
  (102, .iload 8, 2, 0, 0, 0),
  (104, .ifCond .lt (52), 3, 0, 0, 0),
  (107, .aload_n 0, 1, 0, 0, 0),
  (108, .iload_n 1, 1, 0, 0, 0),
  (109, .iconst 1, 1, 0, 0, 0),
  (110, .iadd, 1, 0, 0, 0),
  (111, .iload_n 2, 1, 0, 0, 0),
  (112, .iload 8, 2, 0, 0, 0),
  (114, .iload 7, 2, 0, 0, 0),
  (116, .imul, 1, 0, 0, 0),
  (117, .isub, 1, 0, 0, 0),
  (118, .iload_n 3, 1, 0, 0, 0),
  (119, .iload 8, 2, 0, 0, 0),
  (121, .isub, 1, 0, 0, 0),
  (122, .lload 4, 2, 0, 0, 0),
  (124, .iload 8, 2, 0, 0, 0),
  (126, .i2l, 1, 0, 0, 0),
  (127, .aload_n 0, 1, 0, 0, 0),
  (128, .getfield 25, 3, 181, 204, 4),
  (131, .iload_n 1, 1, 0, 0, 0),
  (132, .laload, 1, 0, 0, 0),
  (133, .lmul, 1, 0, 0, 0),
  (134, .ladd, 1, 0, 0, 0),
  (135, .iload 6, 2, 0, 0, 0),
  (137, .iload 8, 2, 0, 0, 0),
  (139, .aload_n 0, 1, 0, 0, 0),
  (140, .getfield 15, 3, 178, 201, 4),
  (143, .iload_n 1, 1, 0, 0, 0),
  (144, .iaload, 1, 0, 0, 0),
  (145, .imul, 1, 0, 0, 0),
  (146, .iadd, 1, 0, 0, 0),
  (147, .invokestatic 60, 3, 607, 2, 154),
  (150, .iinc 8 (-1), 3, 0, 0, 0),
  (153, .goto (-51), 3, 0, 0, 0),
  (156, .return_, 1, 0, 0, 0)]
/-- RollCutter$Shop.<init>()V -/
def xT_155 : List xE := [(0, .aload_n 0, 1, 0, 0, 0),
  (1, .invokespecial 3, 3, 116, 6, 0),
  (4, .aload_n 0, 1, 0, 0, 0),
  (5, .iconst 0, 1, 0, 0, 0),
  (6, .putfield 9, 3, 117, 100, 0),
  (9, .aload_n 0, 1, 0, 0, 0),
  (10, .bipush (6), 2, 0, 0, 0),
  (12, .newarray .int, 2, 170, 0, 0),
  (14, .putfield 15, 3, 124, 101, 4),
  (17, .aload_n 0, 1, 0, 0, 0),
  (18, .bipush (6), 2, 0, 0, 0),
  (20, .newarray .int, 2, 170, 0, 0),
  (22, .putfield 19, 3, 128, 102, 4),
  (25, .aload_n 0, 1, 0, 0, 0),
  (26, .bipush (60), 2, 0, 0, 0),
  (28, .putfield 22, 3, 134, 103, 0),
  (31, .aload_n 0, 1, 0, 0, 0),
  (32, .iconst 0, 1, 0, 0, 0),
  (33, .putfield 25, 3, 140, 104, 0),
  (36, .aload_n 0, 1, 0, 0, 0),
  (37, .bipush (12), 2, 0, 0, 0),
  (39, .putfield 28, 3, 144, 105, 0),
  (42, .aload_n 0, 1, 0, 0, 0),
  (43, .bipush (10), 2, 0, 0, 0),
  (45, .putfield 31, 3, 149, 106, 0),
  (48, .aload_n 0, 1, 0, 0, 0),
  (49, .bipush (61), 2, 0, 0, 0),
  (51, .newarray .int, 2, 170, 0, 0),
  (53, .putfield 34, 3, 151, 107, 4),
  (56, .return_, 1, 0, 0, 0)]
/-- RollCutter$Shop.becomes(LRollCutter$Shop;)V -/
def xT_156 : List xE := [(0, .aload_n 0, 1, 0, 0, 0),
  (1, .aload_n 1, 1, 0, 0, 0),
  (2, .getfield 9, 3, 117, 100, 0),
  (5, .putfield 9, 3, 117, 100, 0),
  (8, .aload_n 1, 1, 0, 0, 0),
  (9, .getfield 15, 3, 124, 101, 4),
  (12, .iconst 0, 1, 0, 0, 0),
  (13, .aload_n 0, 1, 0, 0, 0),
  (14, .getfield 15, 3, 124, 101, 4),
  (17, .iconst 0, 1, 0, 0, 0),
  (18, .bipush (6), 2, 0, 0, 0),
  (20, .invokestatic 37, 3, 1148, 9, 0),
  (23, .aload_n 1, 1, 0, 0, 0),
  (24, .getfield 19, 3, 128, 102, 4),
  (27, .iconst 0, 1, 0, 0, 0),
  (28, .aload_n 0, 1, 0, 0, 0),
  (29, .getfield 19, 3, 128, 102, 4),
  (32, .iconst 0, 1, 0, 0, 0),
  (33, .bipush (6), 2, 0, 0, 0),
  (35, .invokestatic 37, 3, 1148, 9, 0),
  (38, .aload_n 0, 1, 0, 0, 0),
  (39, .aload_n 1, 1, 0, 0, 0),
  (40, .getfield 22, 3, 134, 103, 0),
  (43, .putfield 22, 3, 134, 103, 0),
  (46, .aload_n 0, 1, 0, 0, 0),
  (47, .aload_n 1, 1, 0, 0, 0),
  (48, .getfield 25, 3, 140, 104, 0),
  (51, .putfield 25, 3, 140, 104, 0),
  (54, .aload_n 0, 1, 0, 0, 0),
  (55, .aload_n 1, 1, 0, 0, 0),
  (56, .getfield 28, 3, 144, 105, 0),
  (59, .putfield 28, 3, 144, 105, 0),
  (62, .aload_n 0, 1, 0, 0, 0),
  (63, .aload_n 1, 1, 0, 0, 0),
  (64, .getfield 31, 3, 149, 106, 0),
  (67, .putfield 31, 3, 149, 106, 0),
  (70, .aload_n 1, 1, 0, 0, 0),
  (71, .getfield 34, 3, 151, 107, 4),
  (74, .iconst 0, 1, 0, 0, 0),
  (75, .aload_n 0, 1, 0, 0, 0),
  (76, .getfield 34, 3, 151, 107, 4),
  (79, .iconst 0, 1, 0, 0, 0),
  (80, .bipush (61), 2, 0, 0, 0),
  (82, .invokestatic 37, 3, 1148, 9, 0),
  (85, .return_, 1, 0, 0, 0)]
/-- RollCutter$Shop.hasOrder(I)Z -/
def xT_157 : List xE := [(0, .iload_n 1, 1, 0, 0, 0),
  (1, .ifCond .lt (15), 3, 0, 0, 0),
  (4, .iload_n 1, 1, 0, 0, 0),
  (5, .aload_n 0, 1, 0, 0, 0),
  (6, .getfield 9, 3, 117, 100, 0),
  (9, .if_icmp .ge (7), 3, 0, 0, 0),
  (12, .iconst 1, 1, 0, 0, 0),
  (13, .goto (4), 3, 0, 0, 0),
  (16, .iconst 0, 1, 0, 0, 0),
  (17, .ireturn, 1, 0, 0, 0)]
/-- RollCutter$Shop.hasWidth(I)Z -/
def xT_158 : List xE := [(0, .iconst 0, 1, 0, 0, 0),
  (1, .istore_n 2, 1, 0, 0, 0),
  (2, .iload_n 2, 1, 0, 0, 0),
  (3, .aload_n 0, 1, 0, 0, 0),
  (4, .getfield 9, 3, 117, 100, 0),
  (7, .if_icmp .ge (21), 3, 0, 0, 0),
  (10, .aload_n 0, 1, 0, 0, 0),
  (11, .getfield 15, 3, 124, 101, 4),
  (14, .iload_n 2, 1, 0, 0, 0),
  (15, .iaload, 1, 0, 0, 0),
  (16, .iload_n 1, 1, 0, 0, 0),
  (17, .if_icmp .ne (5), 3, 0, 0, 0),
  (20, .iconst 1, 1, 0, 0, 0),
  (21, .ireturn, 1, 0, 0, 0),
  (22, .iinc 2 (1), 3, 0, 0, 0),
  (25, .goto (-23), 3, 0, 0, 0),
  (28, .iconst 0, 1, 0, 0, 0),
  (29, .ireturn, 1, 0, 0, 0)]
/-- RollCutter$Shop.comes(II)V -/
def xT_159 : List xE := [(0, .aload_n 0, 1, 0, 0, 0),
  (1, .getfield 9, 3, 117, 100, 0),
  (4, .bipush (6), 2, 0, 0, 0),
  (6, .if_icmp .ge (33), 3, 0, 0, 0),
  (9, .aload_n 0, 1, 0, 0, 0),
  (10, .getfield 15, 3, 124, 101, 4),
  (13, .aload_n 0, 1, 0, 0, 0),
  (14, .getfield 9, 3, 117, 100, 0),
  (17, .iload_n 1, 1, 0, 0, 0),
  (18, .iastore, 1, 0, 0, 0),
  (19, .aload_n 0, 1, 0, 0, 0),
  (20, .getfield 19, 3, 128, 102, 4),
  (23, .aload_n 0, 1, 0, 0, 0),
  (24, .getfield 9, 3, 117, 100, 0),
  (27, .iload_n 2, 1, 0, 0, 0),
  (28, .iastore, 1, 0, 0, 0),
  (29, .aload_n 0, 1, 0, 0, 0),
  (30, .dup, 1, 0, 0, 0),
  (31, .getfield 9, 3, 117, 100, 0),
  (34, .iconst 1, 1, 0, 0, 0),
  (35, .iadd, 1, 0, 0, 0),
  (36, .putfield 9, 3, 117, 100, 0),
  (39, .return_, 1, 0, 0, 0)]
/-- RollCutter$Shop.widest()I -/
def xT_160 : List xE := [(0, .aload_n 0, 1, 0, 0, 0),
  (1, .bipush (61), 2, 0, 0, 0),
  (3, .invokevirtual 43, 3, 524, 0, 161),
  (6, .istore_n 1, 1, 0, 0, 0),
  (7, .iload_n 1, 1, 0, 0, 0),
  (8, .ifCond .ge (7), 3, 0, 0, 0),
  (11, .iconst 0, 1, 0, 0, 0),
  (12, .goto (9), 3, 0, 0, 0),
  (15, .aload_n 0, 1, 0, 0, 0),
  (16, .getfield 15, 3, 124, 101, 4),
  (19, .iload_n 1, 1, 0, 0, 0),
  (20, .iaload, 1, 0, 0, 0),
  (21, .ireturn, 1, 0, 0, 0)]
/-- RollCutter$Shop.widestBelow(I)I -/
def xT_161 : List xE := [(0, .iconst (-1), 1, 0, 0, 0),
  (1, .istore_n 2, 1, 0, 0, 0),
  (2, .iconst 0, 1, 0, 0, 0),
  (3, .istore_n 3, 1, 0, 0, 0),
  (4, .iload_n 3, 1, 0, 0, 0),
  (5, .aload_n 0, 1, 0, 0, 0),
  (6, .getfield 9, 3, 117, 100, 0),
  (9, .if_icmp .ge (40), 3, 0, 0, 0),
  (12, .aload_n 0, 1, 0, 0, 0),
  (13, .getfield 15, 3, 124, 101, 4),
  (16, .iload_n 3, 1, 0, 0, 0),
  (17, .iaload, 1, 0, 0, 0),
  (18, .iload_n 1, 1, 0, 0, 0),
  (19, .if_icmp .ge (24), 3, 0, 0, 0),
  (22, .iload_n 2, 1, 0, 0, 0),
  (23, .ifCond .lt (18), 3, 0, 0, 0),
  (26, .aload_n 0, 1, 0, 0, 0),
  (27, .getfield 15, 3, 124, 101, 4),
  (30, .iload_n 3, 1, 0, 0, 0),
  (31, .iaload, 1, 0, 0, 0),
  (32, .aload_n 0, 1, 0, 0, 0),
  (33, .getfield 15, 3, 124, 101, 4),
  (36, .iload_n 2, 1, 0, 0, 0),
  (37, .iaload, 1, 0, 0, 0),
  (38, .if_icmp .le (5), 3, 0, 0, 0),
  (41, .iload_n 3, 1, 0, 0, 0),
  (42, .istore_n 2, 1, 0, 0, 0),
  (43, .iinc 3 (1), 3, 0, 0, 0),
  (46, .goto (-42), 3, 0, 0, 0),
  (49, .iload_n 2, 1, 0, 0, 0),
  (50, .ireturn, 1, 0, 0, 0)]
/-- RollCutter$Shop.dueTogether()I -/
def xT_162 : List xE := [(0, .iconst 0, 1, 0, 0, 0),
  (1, .istore_n 1, 1, 0, 0, 0),
  (2, .iconst 0, 1, 0, 0, 0),
  (3, .istore_n 2, 1, 0, 0, 0),
  (4, .iload_n 2, 1, 0, 0, 0),
  (5, .aload_n 0, 1, 0, 0, 0),
  (6, .getfield 9, 3, 117, 100, 0),
  (9, .if_icmp .ge (18), 3, 0, 0, 0),
  (12, .iload_n 1, 1, 0, 0, 0),
  (13, .aload_n 0, 1, 0, 0, 0),
  (14, .getfield 19, 3, 128, 102, 4),
  (17, .iload_n 2, 1, 0, 0, 0),
  (18, .iaload, 1, 0, 0, 0),
  (19, .iadd, 1, 0, 0, 0),
  (20, .istore_n 1, 1, 0, 0, 0),
  (21, .iinc 2 (1), 3, 0, 0, 0),
  (24, .goto (-20), 3, 0, 0, 0),
  (27, .iload_n 1, 1, 0, 0, 0),
  (28, .ireturn, 1, 0, 0, 0)]
/-- RollCutter$Shop.wantedOrders()I -/
def xT_163 : List xE := [(0, .iconst 0, 1, 0, 0, 0),
  (1, .istore_n 1, 1, 0, 0, 0),
  (2, .iconst 0, 1, 0, 0, 0),
  (3, .istore_n 2, 1, 0, 0, 0),
  (4, .iload_n 2, 1, 0, 0, 0),
  (5, .aload_n 0, 1, 0, 0, 0),
  (6, .getfield 9, 3, 117, 100, 0),
  (9, .if_icmp .ge (26), 3, 0, 0, 0),
  (12, .iload_n 1, 1, 0, 0, 0),
  (13, .aload_n 0, 1, 0, 0, 0),
  (14, .getfield 19, 3, 128, 102, 4),
  (17, .iload_n 2, 1, 0, 0, 0),
  (18, .iaload, 1, 0, 0, 0),
  (19, .ifCond .le (7), 3, 0, 0, 0),
  (22, .iconst 1, 1, 0, 0, 0),
  (23, .goto (4), 3, 0, 0, 0),
  (26, .iconst 0, 1, 0, 0, 0),
  (27, .iadd, 1, 0, 0, 0),
  (28, .istore_n 1, 1, 0, 0, 0),
  (29, .iinc 2 (1), 3, 0, 0, 0),
  (32, .goto (-28), 3, 0, 0, 0),
  (35, .iload_n 1, 1, 0, 0, 0),
  (36, .ireturn, 1, 0, 0, 0)]
/-- RollCutter$Shop.countPatterns(Z)I -/
def xT_164 : List xE := [(0, .aload_n 0, 1, 0, 0, 0),
  (1, .getfield 9, 3, 117, 100, 0),
  (4, .ifCond .ne (5), 3, 0, 0, 0),
  (7, .iconst 0, 1, 0, 0, 0),
  (8, .ireturn, 1, 0, 0, 0),
  (9, .aload_n 0, 1, 0, 0, 0),
  (10, .iconst 0, 1, 0, 0, 0),
  (11, .aload_n 0, 1, 0, 0, 0),
  (12, .getfield 22, 3, 134, 103, 0),
  (15, .aload_n 0, 1, 0, 0, 0),
  (16, .getfield 25, 3, 140, 104, 0),
  (19, .iadd, 1, 0, 0, 0),
  (20, .aload_n 0, 1, 0, 0, 0),
  (21, .getfield 28, 3, 144, 105, 0),
  (24, .iload_n 1, 1, 0, 0, 0),
  (25, .ifCond .eq (15), 3, 0, 0, 0),
  (28, .aload_n 0, 1, 0, 0, 0),
  (29, .invokevirtual 69, 3, 536, 99, 0),
  (32, .aload_n 0, 1, 0, 0, 0),
  (33, .getfield 25, 3, 140, 104, 0),
  (36, .iadd, 1, 0, 0, 0),
  (37, .goto (4), 3, 0, 0, 0),
  (40, .iconst 0, 1, 0, 0, 0),
  (41, .invokestatic 73, 3, 543, 99, 0),
  (44, .istore_n 2, 1, 0, 0, 0),
  (45, .iload_n 1, 1, 0, 0, 0),
  (46, .ifCond .eq (7), 3, 0, 0, 0),
  (49, .iload_n 2, 1, 0, 0, 0),
  (50, .goto (6), 3, 0, 0, 0),
  (53, .iload_n 2, 1, 0, 0, 0),
  (54, .iconst 1, 1, 0, 0, 0),
  (55, .isub, 1, 0, 0, 0),
  (56, .ireturn, 1, 0, 0, 0)]
/-- RollCutter$Shop.offcutsTogether()I -/
def xT_165 : List xE := [(0, .iconst 0, 1, 0, 0, 0),
  (1, .istore_n 1, 1, 0, 0, 0),
  (2, .iconst 1, 1, 0, 0, 0),
  (3, .istore_n 2, 1, 0, 0, 0),
  (4, .iload_n 2, 1, 0, 0, 0),
  (5, .bipush (60), 2, 0, 0, 0),
  (7, .if_icmp .gt (18), 3, 0, 0, 0),
  (10, .iload_n 1, 1, 0, 0, 0),
  (11, .aload_n 0, 1, 0, 0, 0),
  (12, .getfield 34, 3, 151, 107, 4),
  (15, .iload_n 2, 1, 0, 0, 0),
  (16, .iaload, 1, 0, 0, 0),
  (17, .iadd, 1, 0, 0, 0),
  (18, .istore_n 1, 1, 0, 0, 0),
  (19, .iinc 2 (1), 3, 0, 0, 0),
  (22, .goto (-18), 3, 0, 0, 0),
  (25, .iload_n 1, 1, 0, 0, 0),
  (26, .ireturn, 1, 0, 0, 0)]
/-- RollCutter$Stacks.<init>()V -/
def xT_166 : List xE := [(0, .aload_n 0, 1, 0, 0, 0),
  (1, .invokespecial 3, 3, 328, 6, 0),
  (4, .aload_n 0, 1, 0, 0, 0),
  (5, .bipush (6), 2, 0, 0, 0),
  (7, .newarray .int, 2, 170, 0, 0),
  (9, .putfield 9, 3, 329, 600, 4),
  (12, .aload_n 0, 1, 0, 0, 0),
  (13, .bipush (64), 2, 0, 0, 0),
  (15, .newarray .int, 2, 170, 0, 0),
  (17, .putfield 15, 3, 330, 601, 4),
  (20, .aload_n 0, 1, 0, 0, 0),
  (21, .bipush (6), 2, 0, 0, 0),
  (23, .newarray .int, 2, 170, 0, 0),
  (25, .putfield 18, 3, 331, 602, 4),
  (28, .aload_n 0, 1, 0, 0, 0),
  (29, .bipush (6), 2, 0, 0, 0),
  (31, .newarray .int, 2, 170, 0, 0),
  (33, .putfield 21, 3, 333, 603, 4),
  (36, .aload_n 0, 1, 0, 0, 0),
  (37, .iconst 0, 1, 0, 0, 0),
  (38, .putfield 24, 3, 335, 604, 0),
  (41, .aload_n 0, 1, 0, 0, 0),
  (42, .iconst 0, 1, 0, 0, 0),
  (43, .putfield 28, 3, 336, 605, 0),
  (46, .return_, 1, 0, 0, 0)]
/-- RollCutter$Stacks.hasTurn(I)Z -/
def xT_167 : List xE := [(0, .iload_n 1, 1, 0, 0, 0),
  (1, .ifCond .lt (15), 3, 0, 0, 0),
  (4, .iload_n 1, 1, 0, 0, 0),
  (5, .aload_n 0, 1, 0, 0, 0),
  (6, .getfield 24, 3, 335, 604, 0),
  (9, .if_icmp .ge (7), 3, 0, 0, 0),
  (12, .iconst 1, 1, 0, 0, 0),
  (13, .goto (4), 3, 0, 0, 0),
  (16, .iconst 0, 1, 0, 0, 0),
  (17, .ireturn, 1, 0, 0, 0)]
/-- RollCutter$Stacks.arrange(LRollCutter$Shop;LRollCutter$Plan;)V -/
def xT_168 : List xE := [(0, .iconst 0, 1, 0, 0, 0),
  (1, .istore_n 3, 1, 0, 0, 0),
  (2, .iconst 0, 1, 0, 0, 0),
  (3, .istore 4, 2, 0, 0, 0),
  (5, .iload 4, 2, 0, 0, 0),
  (7, .bipush (6), 2, 0, 0, 0),
  (9, .if_icmp .ge (43), 3, 0, 0, 0),
  (12, .aload_n 0, 1, 0, 0, 0),
  (13, .getfield 9, 3, 329, 600, 4),
  (16, .iload 4, 2, 0, 0, 0),
  (18, .iconst 0, 1, 0, 0, 0),
  (19, .iastore, 1, 0, 0, 0),
  (20, .iload 4, 2, 0, 0, 0),
  (22, .aload_n 1, 1, 0, 0, 0),
  (23, .getfield 31, 3, 122, 100, 0),
  (26, .if_icmp .ge (20), 3, 0, 0, 0),
  (29, .aload_n 1, 1, 0, 0, 0),
  (30, .getfield 36, 3, 132, 102, 4),
  (33, .iload 4, 2, 0, 0, 0),
  (35, .iaload, 1, 0, 0, 0),
  (36, .ifCond .le (10), 3, 0, 0, 0),
  (39, .iload_n 3, 1, 0, 0, 0),
  (40, .iconst 1, 1, 0, 0, 0),
  (41, .iload 4, 2, 0, 0, 0),
  (43, .ishl, 1, 0, 0, 0),
  (44, .ior, 1, 0, 0, 0),
  (45, .istore_n 3, 1, 0, 0, 0),
  (46, .iinc 4 (1), 3, 0, 0, 0),
  (49, .goto (-44), 3, 0, 0, 0),
  (52, .iconst 0, 1, 0, 0, 0),
  (53, .istore 4, 2, 0, 0, 0),
  (55, .iload 4, 2, 0, 0, 0),
  (57, .aload_n 2, 1, 0, 0, 0),
  (58, .getfield 39, 3, 284, 500, 0),
  (61, .if_icmp .ge (23), 3, 0, 0, 0),
  (64, .aload_n 0, 1, 0, 0, 0),
  (65, .aload_n 2, 1, 0, 0, 0),
  (66, .getfield 44, 3, 290, 502, 4),
  (69, .iload 4, 2, 0, 0, 0),
  (71, .iaload, 1, 0, 0, 0),
  (72, .invokestatic 47, 3, 699, 99, 0),
  (75, .invokevirtual 51, 3, 703, 99, 0),
  (78, .iinc 4 (1), 3, 0, 0, 0),
  (81, .goto (-26), 3, 0, 0, 0),
  (84, .aload_n 0, 1, 0, 0, 0),
  (85, .iload_n 3, 1, 0, 0, 0),
  (86, .invokevirtual 55, 3, 707, 0, 169),
  (89, .aload_n 0, 1, 0, 0, 0),
  (90, .iload_n 3, 1, 0, 0, 0),
  (91, .invokevirtual 58, 3, 727, 0, 170),
  (94, .return_, 1, 0, 0, 0)]
/-- RollCutter$Stacks.findPeaks(I)V -/
def xT_169 : List xE := [(0, .bipush (63), 2, 0, 0, 0),
  (2, .istore_n 2, 1, 0, 0, 0),
  (3, .iload_n 2, 1, 0, 0, 0),
  (4, .ifCond .lt (84), 3, 0, 0, 0),
  (7, .aload_n 0, 1, 0, 0, 0),
  (8, .getfield 15, 3, 330, 601, 4),
  (11, .iload_n 2, 1, 0, 0, 0),
  (12, .iconst 0, 1, 0, 0, 0),
  (13, .iastore, 1, 0, 0, 0),
  (14, .iload_n 2, 1, 0, 0, 0),
  (15, .iload_n 1, 1, 0, 0, 0),
  (16, .iconst (-1), 1, 0, 0, 0),
  (17, .ixor, 1, 0, 0, 0),
  (18, .iand, 1, 0, 0, 0),
  (19, .ifCond .ne (63), 3, 0, 0, 0),
  (22, .iload_n 2, 1, 0, 0, 0),
  (23, .iload_n 1, 1, 0, 0, 0),
  (24, .if_icmp .eq (58), 3, 0, 0, 0),
  (27, .aload_n 0, 1, 0, 0, 0),
  (28, .getfield 15, 3, 330, 601, 4),
  (31, .iload_n 2, 1, 0, 0, 0),
  (32, .bipush (7), 2, 0, 0, 0),
  (34, .iastore, 1, 0, 0, 0),
  (35, .iconst 0, 1, 0, 0, 0),
  (36, .istore_n 3, 1, 0, 0, 0),
  (37, .iload_n 3, 1, 0, 0, 0),
  (38, .bipush (6), 2, 0, 0, 0),
  (40, .if_icmp .ge (42), 3, 0, 0, 0),
  (43, .iload_n 1, 1, 0, 0, 0),
  (44, .iload_n 2, 1, 0, 0, 0),
  (45, .iconst (-1), 1, 0, 0, 0),
  (46, .ixor, 1, 0, 0, 0),
  (47, .iand, 1, 0, 0, 0),
  (48, .iconst 1, 1, 0, 0, 0),
  (49, .iload_n 3, 1, 0, 0, 0),
  (50, .ishl, 1, 0, 0, 0),
  (51, .iand, 1, 0, 0, 0),
  (52, .ifCond .eq (24), 3, 0, 0, 0),
  (55, .aload_n 0, 1, 0, 0, 0),
  (56, .getfield 15, 3, 330, 601, 4),
  (59, .iload_n 2, 1, 0, 0, 0),
  (60, .aload_n 0, 1, 0, 0, 0),
  (61, .getfield 15, 3, 330, 601, 4),
  (64, .iload_n 2, 1, 0, 0, 0),
  (65, .iaload, 1, 0, 0, 0),
  (66, .aload_n 0, 1, 0, 0, 0),
  (67, .iload_n 2, 1, 0, 0, 0),
  (68, .iload_n 3, 1, 0, 0, 0),
  (69, .invokevirtual 65, 3, 711, 99, 0),
  (72, .invokestatic 68, 3, 726, 11, 0),
  (75, .iastore, 1, 0, 0, 0),
  (76, .iinc 3 (1), 3, 0, 0, 0),
  (79, .goto (-42), 3, 0, 0, 0),
  (82, .iinc 2 (-1), 3, 0, 0, 0),
  (85, .goto (-82), 3, 0, 0, 0),
  (88, .return_, 1, 0, 0, 0)]
/-- RollCutter$Stacks.follow(I)V -/
def xT_170 : List xE := [(0, .aload_n 0, 1, 0, 0, 0),
  (1, .aload_n 0, 1, 0, 0, 0),
  (2, .getfield 15, 3, 330, 601, 4),
  (5, .iconst 0, 1, 0, 0, 0),
  (6, .iaload, 1, 0, 0, 0),
  (7, .putfield 28, 3, 336, 605, 0),
  (10, .aload_n 0, 1, 0, 0, 0),
  (11, .iconst 0, 1, 0, 0, 0),
  (12, .putfield 24, 3, 335, 604, 0),
  (15, .iconst 0, 1, 0, 0, 0),
  (16, .istore_n 2, 1, 0, 0, 0),
  (17, .iconst 0, 1, 0, 0, 0),
  (18, .istore_n 3, 1, 0, 0, 0),
  (19, .iload_n 3, 1, 0, 0, 0),
  (20, .bipush (6), 2, 0, 0, 0),
  (22, .if_icmp .ge (104), 3, 0, 0, 0),
  (25, .iload_n 2, 1, 0, 0, 0),
  (26, .iload_n 1, 1, 0, 0, 0),
  (27, .if_icmp .eq (99), 3, 0, 0, 0),
  (30, .iconst 0, 1, 0, 0, 0),
  (31, .istore 4, 2, 0, 0, 0),
  (33, .iload 4, 2, 0, 0, 0),
  (35, .bipush (6), 2, 0, 0, 0),
  (37, .if_icmp .ge (83), 3, 0, 0, 0),
  (40, .iload_n 1, 1, 0, 0, 0),
  (41, .iload_n 2, 1, 0, 0, 0),
  (42, .iconst (-1), 1, 0, 0, 0),
  (43, .ixor, 1, 0, 0, 0),
  (44, .iand, 1, 0, 0, 0),
  (45, .iconst 1, 1, 0, 0, 0),
  (46, .iload 4, 2, 0, 0, 0),
  (48, .ishl, 1, 0, 0, 0),
  (49, .iand, 1, 0, 0, 0),
  (50, .ifCond .eq (64), 3, 0, 0, 0),
  (53, .aload_n 0, 1, 0, 0, 0),
  (54, .iload_n 2, 1, 0, 0, 0),
  (55, .iload 4, 2, 0, 0, 0),
  (57, .invokevirtual 65, 3, 711, 99, 0),
  (60, .aload_n 0, 1, 0, 0, 0),
  (61, .getfield 28, 3, 336, 605, 0),
  (64, .if_icmp .gt (50), 3, 0, 0, 0),
  (67, .aload_n 0, 1, 0, 0, 0),
  (68, .getfield 18, 3, 331, 602, 4),
  (71, .aload_n 0, 1, 0, 0, 0),
  (72, .getfield 24, 3, 335, 604, 0),
  (75, .iload 4, 2, 0, 0, 0),
  (77, .iastore, 1, 0, 0, 0),
  (78, .aload_n 0, 1, 0, 0, 0),
  (79, .getfield 21, 3, 333, 603, 4),
  (82, .aload_n 0, 1, 0, 0, 0),
  (83, .getfield 24, 3, 335, 604, 0),
  (86, .aload_n 0, 1, 0, 0, 0),
  (87, .iload_n 2, 1, 0, 0, 0),
  (88, .iload 4, 2, 0, 0, 0),
  (90, .invokevirtual 73, 3, 715, 99, 0),
  (93, .iastore, 1, 0, 0, 0),
  (94, .aload_n 0, 1, 0, 0, 0),
  (95, .dup, 1, 0, 0, 0),
  (96, .getfield 24, 3, 335, 604, 0),
  (99, .iconst 1, 1, 0, 0, 0),
  (100, .iadd, 1, 0, 0, 0),
  (101, .putfield 24, 3, 335, 604, 0),
  (104, .iload_n 2, 1, 0, 0, 0),
  (105, .iconst 1, 1, 0, 0, 0),
  (106, .iload 4, 2, 0, 0, 0),
  (108, .ishl, 1, 0, 0, 0),
  (109, .ior, 1, 0, 0, 0),
  (110, .istore_n 2, 1, 0, 0, 0),
  (111, .goto (9), 3, 0, 0, 0),
  (114, .iinc 4 (1), 3, 0, 0, 0),
  (117, .goto (-84), 3, 0, 0, 0),
  (120, .iinc 3 (1), 3, 0, 0, 0),
  (123, .goto (-104), 3, 0, 0, 0),
  (126, .return_, 1, 0, 0, 0)]
/-- RollCutter$Tape.<init>()V -/
def xT_171 : List xE := [(0, .aload_n 0, 1, 0, 0, 0),
  (1, .invokespecial 3, 3, 356, 6, 0),
  (4, .aload_n 0, 1, 0, 0, 0),
  (5, .bipush (90), 2, 0, 0, 0),
  (7, .newarray .int, 2, 170, 0, 0),
  (9, .putfield 9, 3, 357, 700, 4),
  (12, .aload_n 0, 1, 0, 0, 0),
  (13, .iconst 0, 1, 0, 0, 0),
  (14, .putfield 15, 3, 359, 701, 0),
  (17, .aload_n 0, 1, 0, 0, 0),
  (18, .iconst 0, 1, 0, 0, 0),
  (19, .putfield 19, 3, 363, 702, 0),
  (22, .aload_n 0, 1, 0, 0, 0),
  (23, .iconst (-1), 1, 0, 0, 0),
  (24, .putfield 22, 3, 367, 703, 0),
  (27, .return_, 1, 0, 0, 0)]
/-- RollCutter$Tape.append(I)V -/
def xT_172 : List xE := [(0, .aload_n 0, 1, 0, 0, 0),
  (1, .getfield 15, 3, 359, 701, 0),
  (4, .bipush (90), 2, 0, 0, 0),
  (6, .if_icmp .ge (23), 3, 0, 0, 0),
  (9, .aload_n 0, 1, 0, 0, 0),
  (10, .getfield 9, 3, 357, 700, 4),
  (13, .aload_n 0, 1, 0, 0, 0),
  (14, .getfield 15, 3, 359, 701, 0),
  (17, .iload_n 1, 1, 0, 0, 0),
  (18, .iastore, 1, 0, 0, 0),
  (19, .aload_n 0, 1, 0, 0, 0),
  (20, .dup, 1, 0, 0, 0),
  (21, .getfield 15, 3, 359, 701, 0),
  (24, .iconst 1, 1, 0, 0, 0),
  (25, .iadd, 1, 0, 0, 0),
  (26, .putfield 15, 3, 359, 701, 0),
  (29, .return_, 1, 0, 0, 0)]
/-- RollCutter$Tape.rewind()V -/
def xT_173 : List xE := [(0, .aload_n 0, 1, 0, 0, 0),
  (1, .iconst 0, 1, 0, 0, 0),
  (2, .putfield 19, 3, 363, 702, 0),
  (5, .aload_n 0, 1, 0, 0, 0),
  (6, .iconst (-1), 1, 0, 0, 0),
  (7, .putfield 22, 3, 367, 703, 0),
  (10, .return_, 1, 0, 0, 0)]
/-- RollCutter$Tape.isFaulty()Z -/
def xT_174 : List xE := [(0, .aload_n 0, 1, 0, 0, 0),
  (1, .getfield 22, 3, 367, 703, 0),
  (4, .ifCond .lt (7), 3, 0, 0, 0),
  (7, .iconst 1, 1, 0, 0, 0),
  (8, .goto (4), 3, 0, 0, 0),
  (11, .iconst 0, 1, 0, 0, 0),
  (12, .ireturn, 1, 0, 0, 0)]
/-- RollCutter$Tape.refuse(I)V -/
def xT_175 : List xE := [(0, .aload_n 0, 1, 0, 0, 0),
  (1, .getfield 22, 3, 367, 703, 0),
  (4, .ifCond .ge (8), 3, 0, 0, 0),
  (7, .aload_n 0, 1, 0, 0, 0),
  (8, .iload_n 1, 1, 0, 0, 0),
  (9, .putfield 22, 3, 367, 703, 0),
  (12, .return_, 1, 0, 0, 0)]
/-- RollCutter$Tape.look()I -/
def xT_176 : List xE := [(0, .aload_n 0, 1, 0, 0, 0),
  (1, .getfield 19, 3, 363, 702, 0),
  (4, .ifCond .lt (35), 3, 0, 0, 0),
  (7, .aload_n 0, 1, 0, 0, 0),
  (8, .getfield 19, 3, 363, 702, 0),
  (11, .aload_n 0, 1, 0, 0, 0),
  (12, .getfield 15, 3, 359, 701, 0),
  (15, .if_icmp .ge (24), 3, 0, 0, 0),
  (18, .aload_n 0, 1, 0, 0, 0),
  (19, .getfield 19, 3, 363, 702, 0),
  (22, .bipush (90), 2, 0, 0, 0),
  (24, .if_icmp .ge (15), 3, 0, 0, 0),
  (27, .aload_n 0, 1, 0, 0, 0),
  (28, .getfield 9, 3, 357, 700, 4),
  (31, .aload_n 0, 1, 0, 0, 0),
  (32, .getfield 19, 3, 363, 702, 0),
  (35, .iaload, 1, 0, 0, 0),
  (36, .goto (4), 3, 0, 0, 0),
  (39, .iconst 0, 1, 0, 0, 0),
  (40, .ireturn, 1, 0, 0, 0)]
/-- RollCutter$Tape.isAtEnd()Z -/
def xT_177 : List xE := [(0, .aload_n 0, 1, 0, 0, 0),
  (1, .getfield 19, 3, 363, 702, 0),
  (4, .aload_n 0, 1, 0, 0, 0),
  (5, .getfield 15, 3, 359, 701, 0),
  (8, .if_icmp .lt (7), 3, 0, 0, 0),
  (11, .iconst 1, 1, 0, 0, 0),
  (12, .goto (4), 3, 0, 0, 0),
  (15, .iconst 0, 1, 0, 0, 0),
  (16, .ireturn, 1, 0, 0, 0)]
/-- RollCutter$Tape.takes(I)Z -/
def xT_178 : List xE := [(0, .aload_n 0, 1, 0, 0, 0),
  (1, .invokevirtual 29, 3, 928, 0, 174),
  (4, .ifCond .ne (11), 3, 0, 0, 0),
  (7, .aload_n 0, 1, 0, 0, 0),
  (8, .invokevirtual 25, 3, 932, 0, 176),
  (11, .iload_n 1, 1, 0, 0, 0),
  (12, .if_icmp .eq (5), 3, 0, 0, 0),
  (15, .iconst 0, 1, 0, 0, 0),
  (16, .ireturn, 1, 0, 0, 0),
  (17, .aload_n 0, 1, 0, 0, 0),
  (18, .dup, 1, 0, 0, 0),
  (19, .getfield 19, 3, 363, 702, 0),
  (22, .iconst 1, 1, 0, 0, 0),
  (23, .iadd, 1, 0, 0, 0),
  (24, .putfield 19, 3, 363, 702, 0),
  (27, .iconst 1, 1, 0, 0, 0),
  (28, .ireturn, 1, 0, 0, 0)]
/-- RollCutter$Tape.need(I)V -/
def xT_179 : List xE := [(0, .aload_n 0, 1, 0, 0, 0),
  (1, .iload_n 1, 1, 0, 0, 0),
  (2, .invokevirtual 33, 3, 946, 0, 178),
  (5, .ifCond .ne (11), 3, 0, 0, 0),
  (8, .aload_n 0, 1, 0, 0, 0),
  (9, .aload_n 0, 1, 0, 0, 0),
  (10, .getfield 19, 3, 363, 702, 0),
  (13, .invokevirtual 37, 3, 936, 0, 175),
  (16, .return_, 1, 0, 0, 0)]
/-- RollCutter$Tape.takeNumber(II)I -/
def xT_180 : List xE := [(0, .aload_n 0, 1, 0, 0, 0),
  (1, .invokevirtual 29, 3, 928, 0, 174),
  (4, .ifCond .eq (5), 3, 0, 0, 0),
  (7, .iconst 0, 1, 0, 0, 0),
  (8, .ireturn, 1, 0, 0, 0),
  (9, .aload_n 0, 1, 0, 0, 0),
  (10, .getfield 19, 3, 363, 702, 0),
  (13, .istore_n 3, 1, 0, 0, 0),
  (14, .iconst 0, 1, 0, 0, 0),
  (15, .istore 4, 2, 0, 0, 0),
  (17, .iconst 0, 1, 0, 0, 0),
  (18, .istore 5, 2, 0, 0, 0),
  (20, .iload 5, 2, 0, 0, 0),
  (22, .iconst 2, 1, 0, 0, 0),
  (23, .if_icmp .ge (53), 3, 0, 0, 0),
  (26, .aload_n 0, 1, 0, 0, 0),
  (27, .invokevirtual 25, 3, 932, 0, 176),
  (30, .bipush (48), 2, 0, 0, 0),
  (32, .isub, 1, 0, 0, 0),
  (33, .istore 6, 2, 0, 0, 0),
  (35, .iload 6, 2, 0, 0, 0),
  (37, .ifCond .lt (39), 3, 0, 0, 0),
  (40, .iload 6, 2, 0, 0, 0),
  (42, .bipush (9), 2, 0, 0, 0),
  (44, .if_icmp .le (6), 3, 0, 0, 0),
  (47, .goto (29), 3, 0, 0, 0),
  (50, .bipush (10), 2, 0, 0, 0),
  (52, .iload 4, 2, 0, 0, 0),
  (54, .imul, 1, 0, 0, 0),
  (55, .iload 6, 2, 0, 0, 0),
  (57, .iadd, 1, 0, 0, 0),
  (58, .istore 4, 2, 0, 0, 0),
  (60, .aload_n 0, 1, 0, 0, 0),
  (61, .dup, 1, 0, 0, 0),
  (62, .getfield 19, 3, 363, 702, 0),
  (65, .iconst 1, 1, 0, 0, 0),
  (66, .iadd, 1, 0, 0, 0),
  (67, .putfield 19, 3, 363, 702, 0),
  (70, .iinc 5 (1), 3, 0, 0, 0),
  (73, .goto (-53), 3, 0, 0, 0),
  (76, .aload_n 0, 1, 0, 0, 0),
  (77, .getfield 19, 3, 363, 702, 0),
  (80, .iload_n 3, 1, 0, 0, 0),
  (81, .if_icmp .eq (15), 3, 0, 0, 0),
  (84, .iload 4, 2, 0, 0, 0),
  (86, .iload_n 1, 1, 0, 0, 0),
  (87, .if_icmp .lt (9), 3, 0, 0, 0),
  (90, .iload 4, 2, 0, 0, 0),
  (92, .iload_n 2, 1, 0, 0, 0),
  (93, .if_icmp .le (8), 3, 0, 0, 0),
  (96, .aload_n 0, 1, 0, 0, 0),
  (97, .iload_n 3, 1, 0, 0, 0),
  (98, .invokevirtual 37, 3, 936, 0, 175),
  (101, .iload 4, 2, 0, 0, 0),
  (103, .ireturn, 1, 0, 0, 0)]
/-- RollCutter$Tape.reads(Ljava/lang/String;II)Z -/
def xT_181 : List xE := [(0, .aload_n 1, 1, 0, 0, 0),
  (1, .invokevirtual 41, 3, 993, 12, 0),
  (4, .iload_n 3, 1, 0, 0, 0),
  (5, .iload_n 2, 1, 0, 0, 0),
  (6, .isub, 1, 0, 0, 0),
  (7, .if_icmp .ne (13), 3, 0, 0, 0),
  (10, .iload_n 2, 1, 0, 0, 0),
  (11, .ifCond .lt (9), 3, 0, 0, 0),
  (14, .iload_n 3, 1, 0, 0, 0),
  (15, .bipush (90), 2, 0, 0, 0),
  (17, .if_icmp .le (5), 3, 0, 0, 0),
  (20, .iconst 0, 1, 0, 0, 0),
  (21, .ireturn, 1, 0, 0, 0),
  (22, .iconst 0, 1, 0, 0, 0),
  (23, .istore 4, 2, 0, 0, 0),
  (25, .iload 4, 2, 0, 0, 0),
  (27, .aload_n 1, 1, 0, 0, 0),
  (28, .invokevirtual 41, 3, 993, 12, 0),
  (31, .if_icmp .ge (29), 3, 0, 0, 0),
  (34, .aload_n 0, 1, 0, 0, 0),
  (35, .getfield 9, 3, 357, 700, 4),
  (38, .iload_n 2, 1, 0, 0, 0),
  (39, .iload 4, 2, 0, 0, 0),
  (41, .iadd, 1, 0, 0, 0),
  (42, .iaload, 1, 0, 0, 0),
  (43, .aload_n 1, 1, 0, 0, 0),
  (44, .iload 4, 2, 0, 0, 0),
  (46, .invokevirtual 45, 3, 1003, 99, 0),
  (49, .if_icmp .eq (5), 3, 0, 0, 0),
  (52, .iconst 0, 1, 0, 0, 0),
  (53, .ireturn, 1, 0, 0, 0),
  (54, .iinc 4 (1), 3, 0, 0, 0),
  (57, .goto (-32), 3, 0, 0, 0),
  (60, .iconst 1, 1, 0, 0, 0),
  (61, .ireturn, 1, 0, 0, 0)]
/-- RollCutter$ToldPlan.judged(LRollCutter$Tape;LRollCutter$Shop;)I -/
def xT_182 : List xE := [(0, .iconst (-1), 1, 0, 0, 0),
  (1, .istore_n 2, 1, 0, 0, 0),
  (2, .iconst 0, 1, 0, 0, 0),
  (3, .istore_n 3, 1, 0, 0, 0),
  (4, .iconst 0, 1, 0, 0, 0),
  (5, .istore 4, 2, 0, 0, 0),
  (7, .aload_n 1, 1, 0, 0, 0),
  (8, .getfield 9, 3, 129, 102, 4),
  (11, .invokevirtual 15, 3, 1077, 10, 0),
  (14, .checkcast 16, 3, 1078, 0, 0),
  (17, .astore 5, 2, 0, 0, 0),
  (19, .iconst 0, 1, 0, 0, 0),
  (20, .istore 6, 2, 0, 0, 0),
  (22, .iload 6, 2, 0, 0, 0),
  (24, .bipush (90), 2, 0, 0, 0),
  (26, .if_icmp .ge (114), 3, 0, 0, 0),
  (29, .aload_n 0, 1, 0, 0, 0),
  (30, .iconst 1, 1, 0, 0, 0),
  (31, .bipush (99), 2, 0, 0, 0),
  (33, .invokevirtual 20, 3, 1079, 0, 180),
  (36, .istore 7, 2, 0, 0, 0),
  (38, .aload_n 0, 1, 0, 0, 0),
  (39, .bipush (120), 2, 0, 0, 0),
  (41, .invokevirtual 26, 3, 1080, 0, 179),
  (44, .aload_n 0, 1, 0, 0, 0),
  (45, .aload_n 1, 1, 0, 0, 0),
  (46, .invokestatic 30, 3, 1081, 2, 183),
  (49, .istore 8, 2, 0, 0, 0),
  (51, .aload_n 0, 1, 0, 0, 0),
  (52, .invokevirtual 36, 3, 1090, 0, 174),
  (55, .ifCond .eq (6), 3, 0, 0, 0),
  (58, .iload 4, 2, 0, 0, 0),
  (60, .ireturn, 1, 0, 0, 0),
  (61, .iload_n 2, 1, 0, 0, 0),
  (62, .ifCond .ge (15), 3, 0, 0, 0),
  (65, .aload_n 1, 1, 0, 0, 0),
  (66, .iload 8, 2, 0, 0, 0),
  (68, .invokestatic 40, 3, 1092, 99, 0),
  (71, .ifCond .ne (6), 3, 0, 0, 0),
  (74, .iload 6, 2, 0, 0, 0),
  (76, .istore_n 2, 1, 0, 0, 0),
  (77, .iload_n 3, 1, 0, 0, 0),
  (78, .iload 7, 2, 0, 0, 0),
  (80, .iadd, 1, 0, 0, 0),
  (81, .istore_n 3, 1, 0, 0, 0),
  (82, .iconst 0, 1, 0, 0, 0),
  (83, .istore 9, 2, 0, 0, 0),
  (85, .iload 9, 2, 0, 0, 0),
  (87, .aload_n 1, 1, 0, 0, 0),
  (88, .getfield 44, 3, 119, 100, 0),
  (91, .if_icmp .ge (27), 3, 0, 0, 0),
  (94, .aload 5, 2, 0, 0, 0),
  (96, .iload 9, 2, 0, 0, 0),
  (98, .dup2, 1, 0, 0, 0),
  (99, .iaload, 1, 0, 0, 0),
  (100, .iload 7, 2, 0, 0, 0),
  (102, .iload 8, 2, 0, 0, 0),
  (104, .iload 9, 2, 0, 0, 0),
  (106, .invokestatic 48, 3, 1097, 99, 0),
  (109, .imul, 1, 0, 0, 0),
  (110, .isub, 1, 0, 0, 0),
  (111, .iastore, 1, 0, 0, 0),
  (112, .iinc 9 (1), 3, 0, 0, 0),
  (115, .goto (-30), 3, 0, 0, 0),
  (118, .aload_n 0, 1, 0, 0, 0),
  (119, .invokevirtual 51, 3, 1098, 0, 177),
  (122, .ifCond .eq (6), 3, 0, 0, 0),
  (125, .goto (15), 3, 0, 0, 0),
  (128, .aload_n 0, 1, 0, 0, 0),
  (129, .bipush (59), 2, 0, 0, 0),
  (131, .invokevirtual 26, 3, 1080, 0, 179),
  (134, .iinc 6 (1), 3, 0, 0, 0),
  (137, .goto (-115), 3, 0, 0, 0),
  (140, .iload_n 2, 1, 0, 0, 0),
  (141, .ifCond .lt (7), 3, 0, 0, 0),
  (144, .iload_n 2, 1, 0, 0, 0),
  (145, .goto (10), 3, 0, 0, 0),
  (148, .aload_n 1, 1, 0, 0, 0),
  (149, .aload 5, 2, 0, 0, 0),
  (151, .iload_n 3, 1, 0, 0, 0),
  (152, .invokestatic 54, 3, 1099, 99, 0),
  (155, .ireturn, 1, 0, 0, 0)]
/-- RollCutter$ToldPlan.readPieces(LRollCutter$Tape;LRollCutter$Shop;)I -/
def xT_183 : List xE := [(0, .iconst 0, 1, 0, 0, 0),
  (1, .istore_n 2, 1, 0, 0, 0),
  (2, .iconst (-1), 1, 0, 0, 0),
  (3, .istore_n 3, 1, 0, 0, 0),
  (4, .iconst 0, 1, 0, 0, 0),
  (5, .istore 4, 2, 0, 0, 0),
  (7, .iload 4, 2, 0, 0, 0),
  (9, .bipush (90), 2, 0, 0, 0),
  (11, .if_icmp .ge (96), 3, 0, 0, 0),
  (14, .iload 4, 2, 0, 0, 0),
  (16, .ifCond .eq (10), 3, 0, 0, 0),
  (19, .aload_n 0, 1, 0, 0, 0),
  (20, .invokevirtual 58, 3, 1084, 99, 0),
  (23, .ifCond .eq (84), 3, 0, 0, 0),
  (26, .aload_n 0, 1, 0, 0, 0),
  (27, .iconst 1, 1, 0, 0, 0),
  (28, .bipush (12), 2, 0, 0, 0),
  (30, .invokevirtual 20, 3, 1079, 0, 180),
  (33, .istore 5, 2, 0, 0, 0),
  (35, .aload_n 0, 1, 0, 0, 0),
  (36, .invokevirtual 61, 3, 1088, 0, 176),
  (39, .bipush (97), 2, 0, 0, 0),
  (41, .isub, 1, 0, 0, 0),
  (42, .istore 6, 2, 0, 0, 0),
  (44, .iload 6, 2, 0, 0, 0),
  (46, .iload_n 3, 1, 0, 0, 0),
  (47, .if_icmp .le (12), 3, 0, 0, 0),
  (50, .iload 6, 2, 0, 0, 0),
  (52, .aload_n 1, 1, 0, 0, 0),
  (53, .getfield 44, 3, 119, 100, 0),
  (56, .if_icmp .lt (11), 3, 0, 0, 0),
  (59, .aload_n 0, 1, 0, 0, 0),
  (60, .aload_n 0, 1, 0, 0, 0),
  (61, .getfield 65, 3, 366, 702, 0),
  (64, .invokevirtual 68, 3, 1089, 0, 175),
  (67, .aload_n 0, 1, 0, 0, 0),
  (68, .invokevirtual 36, 3, 1090, 0, 174),
  (71, .ifCond .eq (6), 3, 0, 0, 0),
  (74, .goto (33), 3, 0, 0, 0),
  (77, .aload_n 0, 1, 0, 0, 0),
  (78, .dup, 1, 0, 0, 0),
  (79, .getfield 65, 3, 366, 702, 0),
  (82, .iconst 1, 1, 0, 0, 0),
  (83, .iadd, 1, 0, 0, 0),
  (84, .putfield 65, 3, 366, 702, 0),
  (87, .iload_n 2, 1, 0, 0, 0),
  (88, .iload 5, 2, 0, 0, 0),
  (90, .iload 6, 2, 0, 0, 0),
  (92, .invokestatic 71, 3, 1091, 99, 0),
  (95, .imul, 1, 0, 0, 0),
  (96, .iadd, 1, 0, 0, 0),
  (97, .istore_n 2, 1, 0, 0, 0),
  (98, .iload 6, 2, 0, 0, 0),
  (100, .istore_n 3, 1, 0, 0, 0),
  (101, .iinc 4 (1), 3, 0, 0, 0),
  (104, .goto (-97), 3, 0, 0, 0),
  (107, .iload_n 2, 1, 0, 0, 0),
  (108, .ireturn, 1, 0, 0, 0)]
/-- the law -/
def xT_law : List xE := [(0, .new 7, 3, 103, 0, 0),
  (3, .dup, 1, 0, 0, 0),
  (4, .invokespecial 9, 3, 105, 4, 0),
  (7, .astore_n 1, 1, 0, 0, 0),
  (8, .new 10, 3, 1153, 11, 0),
  (11, .dup, 1, 0, 0, 0),
  (12, .invokespecial 12, 3, 1155, 4, 47),
  (15, .astore_n 2, 1, 0, 0, 0),
  (16, .iconst 0, 1, 0, 0, 0),
  (17, .istore_n 3, 1, 0, 0, 0),
  (18, .iload_n 3, 1, 0, 0, 0),
  (19, .aload_n 0, 1, 0, 0, 0),
  (20, .arraylength, 1, 0, 0, 0),
  (21, .iconst 4, 1, 0, 0, 0),
  (22, .isub, 1, 0, 0, 0),
  (23, .if_icmp .gt (1021), 3, 0, 0, 0),
  (26, .aload_n 0, 1, 0, 0, 0),
  (27, .iload_n 3, 1, 0, 0, 0),
  (28, .iaload, 1, 0, 0, 0),
  (29, .bipush (63), 2, 0, 0, 0),
  (31, .iand, 1, 0, 0, 0),
  (32, .tableswitch (1006) (0) (37) #[168, 201, 234, 267, 280, 313, 336, 349, 382, 416, 460, 494, 518, 531, 544, 577, 600, 623, 656, 679, 702, 715, 738, 761, 774, 787, 810, 833, 856, 869, 882, 895, 908, 921, 934, 957, 980, 993], 168, 0, 0, 0),
  (200, .aload_n 1, 1, 0, 0, 0),
  (201, .aload_n 0, 1, 0, 0, 0),
  (202, .iload_n 3, 1, 0, 0, 0),
  (203, .iconst 1, 1, 0, 0, 0),
  (204, .iadd, 1, 0, 0, 0),
  (205, .iaload, 1, 0, 0, 0),
  (206, .aload_n 0, 1, 0, 0, 0),
  (207, .iload_n 3, 1, 0, 0, 0),
  (208, .iconst 2, 1, 0, 0, 0),
  (209, .iadd, 1, 0, 0, 0),
  (210, .iaload, 1, 0, 0, 0),
  (211, .invokevirtual 13, 3, 481, 0, 1),
  (214, .aload_n 2, 1, 0, 0, 0),
  (215, .aload_n 0, 1, 0, 0, 0),
  (216, .iload_n 3, 1, 0, 0, 0),
  (217, .iconst 1, 1, 0, 0, 0),
  (218, .iadd, 1, 0, 0, 0),
  (219, .iaload, 1, 0, 0, 0),
  (220, .aload_n 0, 1, 0, 0, 0),
  (221, .iload_n 3, 1, 0, 0, 0),
  (222, .iconst 2, 1, 0, 0, 0),
  (223, .iadd, 1, 0, 0, 0),
  (224, .iaload, 1, 0, 0, 0),
  (225, .invokevirtual 17, 3, 1289, 0, 52),
  (228, .if_icmp .eq (810), 3, 0, 0, 0),
  (231, .iconst 0, 1, 0, 0, 0),
  (232, .ireturn, 1, 0, 0, 0),
  (233, .aload_n 1, 1, 0, 0, 0),
  (234, .aload_n 0, 1, 0, 0, 0),
  (235, .iload_n 3, 1, 0, 0, 0),
  (236, .iconst 1, 1, 0, 0, 0),
  (237, .iadd, 1, 0, 0, 0),
  (238, .iaload, 1, 0, 0, 0),
  (239, .aload_n 0, 1, 0, 0, 0),
  (240, .iload_n 3, 1, 0, 0, 0),
  (241, .iconst 2, 1, 0, 0, 0),
  (242, .iadd, 1, 0, 0, 0),
  (243, .iaload, 1, 0, 0, 0),
  (244, .invokevirtual 18, 3, 500, 0, 2),
  (247, .aload_n 2, 1, 0, 0, 0),
  (248, .aload_n 0, 1, 0, 0, 0),
  (249, .iload_n 3, 1, 0, 0, 0),
  (250, .iconst 1, 1, 0, 0, 0),
  (251, .iadd, 1, 0, 0, 0),
  (252, .iaload, 1, 0, 0, 0),
  (253, .aload_n 0, 1, 0, 0, 0),
  (254, .iload_n 3, 1, 0, 0, 0),
  (255, .iconst 2, 1, 0, 0, 0),
  (256, .iadd, 1, 0, 0, 0),
  (257, .iaload, 1, 0, 0, 0),
  (258, .invokevirtual 21, 3, 1304, 0, 53),
  (261, .if_icmp .eq (777), 3, 0, 0, 0),
  (264, .iconst 0, 1, 0, 0, 0),
  (265, .ireturn, 1, 0, 0, 0),
  (266, .aload_n 1, 1, 0, 0, 0),
  (267, .aload_n 0, 1, 0, 0, 0),
  (268, .iload_n 3, 1, 0, 0, 0),
  (269, .iconst 1, 1, 0, 0, 0),
  (270, .iadd, 1, 0, 0, 0),
  (271, .iaload, 1, 0, 0, 0),
  (272, .aload_n 0, 1, 0, 0, 0),
  (273, .iload_n 3, 1, 0, 0, 0),
  (274, .iconst 2, 1, 0, 0, 0),
  (275, .iadd, 1, 0, 0, 0),
  (276, .iaload, 1, 0, 0, 0),
  (277, .invokevirtual 22, 3, 508, 0, 3),
  (280, .aload_n 2, 1, 0, 0, 0),
  (281, .aload_n 0, 1, 0, 0, 0),
  (282, .iload_n 3, 1, 0, 0, 0),
  (283, .iconst 1, 1, 0, 0, 0),
  (284, .iadd, 1, 0, 0, 0),
  (285, .iaload, 1, 0, 0, 0),
  (286, .aload_n 0, 1, 0, 0, 0),
  (287, .iload_n 3, 1, 0, 0, 0),
  (288, .iconst 2, 1, 0, 0, 0),
  (289, .iadd, 1, 0, 0, 0),
  (290, .iaload, 1, 0, 0, 0),
  (291, .invokevirtual 25, 3, 1312, 0, 54),
  (294, .if_icmp .eq (744), 3, 0, 0, 0),
  (297, .iconst 0, 1, 0, 0, 0),
  (298, .ireturn, 1, 0, 0, 0),
  (299, .aload_n 1, 1, 0, 0, 0),
  (300, .invokevirtual 26, 3, 512, 0, 4),
  (303, .aload_n 2, 1, 0, 0, 0),
  (304, .invokevirtual 30, 3, 1316, 0, 55),
  (307, .if_icmp .eq (731), 3, 0, 0, 0),
  (310, .iconst 0, 1, 0, 0, 0),
  (311, .ireturn, 1, 0, 0, 0),
  (312, .aload_n 1, 1, 0, 0, 0),
  (313, .aload_n 0, 1, 0, 0, 0),
  (314, .iload_n 3, 1, 0, 0, 0),
  (315, .iconst 1, 1, 0, 0, 0),
  (316, .iadd, 1, 0, 0, 0),
  (317, .iaload, 1, 0, 0, 0),
  (318, .aload_n 0, 1, 0, 0, 0),
  (319, .iload_n 3, 1, 0, 0, 0),
  (320, .iconst 2, 1, 0, 0, 0),
  (321, .iadd, 1, 0, 0, 0),
  (322, .iaload, 1, 0, 0, 0),
  (323, .invokevirtual 31, 3, 516, 0, 5),
  (326, .aload_n 2, 1, 0, 0, 0),
  (327, .aload_n 0, 1, 0, 0, 0),
  (328, .iload_n 3, 1, 0, 0, 0),
  (329, .iconst 1, 1, 0, 0, 0),
  (330, .iadd, 1, 0, 0, 0),
  (331, .iaload, 1, 0, 0, 0),
  (332, .aload_n 0, 1, 0, 0, 0),
  (333, .iload_n 3, 1, 0, 0, 0),
  (334, .iconst 2, 1, 0, 0, 0),
  (335, .iadd, 1, 0, 0, 0),
  (336, .iaload, 1, 0, 0, 0),
  (337, .invokevirtual 34, 3, 1320, 0, 57),
  (340, .if_icmp .eq (698), 3, 0, 0, 0),
  (343, .iconst 0, 1, 0, 0, 0),
  (344, .ireturn, 1, 0, 0, 0),
  (345, .aload_n 1, 1, 0, 0, 0),
  (346, .aload_n 0, 1, 0, 0, 0),
  (347, .iload_n 3, 1, 0, 0, 0),
  (348, .iconst 1, 1, 0, 0, 0),
  (349, .iadd, 1, 0, 0, 0),
  (350, .iaload, 1, 0, 0, 0),
  (351, .invokevirtual 35, 3, 528, 0, 6),
  (354, .aload_n 2, 1, 0, 0, 0),
  (355, .aload_n 0, 1, 0, 0, 0),
  (356, .iload_n 3, 1, 0, 0, 0),
  (357, .iconst 1, 1, 0, 0, 0),
  (358, .iadd, 1, 0, 0, 0),
  (359, .iaload, 1, 0, 0, 0),
  (360, .invokevirtual 39, 3, 1329, 0, 61),
  (363, .if_icmp .eq (675), 3, 0, 0, 0),
  (366, .iconst 0, 1, 0, 0, 0),
  (367, .ireturn, 1, 0, 0, 0),
  (368, .aload_n 1, 1, 0, 0, 0),
  (369, .invokevirtual 40, 3, 546, 0, 7),
  (372, .aload_n 2, 1, 0, 0, 0),
  (373, .invokevirtual 43, 3, 1357, 0, 66),
  (376, .if_icmp .eq (662), 3, 0, 0, 0),
  (379, .iconst 0, 1, 0, 0, 0),
  (380, .ireturn, 1, 0, 0, 0),
  (381, .aload_n 1, 1, 0, 0, 0),
  (382, .aload_n 0, 1, 0, 0, 0),
  (383, .iload_n 3, 1, 0, 0, 0),
  (384, .iconst 1, 1, 0, 0, 0),
  (385, .iadd, 1, 0, 0, 0),
  (386, .iaload, 1, 0, 0, 0),
  (387, .aload_n 0, 1, 0, 0, 0),
  (388, .iload_n 3, 1, 0, 0, 0),
  (389, .iconst 2, 1, 0, 0, 0),
  (390, .iadd, 1, 0, 0, 0),
  (391, .iaload, 1, 0, 0, 0),
  (392, .invokevirtual 44, 3, 731, 0, 8),
  (395, .aload_n 2, 1, 0, 0, 0),
  (396, .aload_n 0, 1, 0, 0, 0),
  (397, .iload_n 3, 1, 0, 0, 0),
  (398, .iconst 1, 1, 0, 0, 0),
  (399, .iadd, 1, 0, 0, 0),
  (400, .iaload, 1, 0, 0, 0),
  (401, .aload_n 0, 1, 0, 0, 0),
  (402, .iload_n 3, 1, 0, 0, 0),
  (403, .iconst 2, 1, 0, 0, 0),
  (404, .iadd, 1, 0, 0, 0),
  (405, .iaload, 1, 0, 0, 0),
  (406, .invokevirtual 47, 3, 1423, 0, 67),
  (409, .if_icmp .eq (629), 3, 0, 0, 0),
  (412, .iconst 0, 1, 0, 0, 0),
  (413, .ireturn, 1, 0, 0, 0),
  (414, .aload_n 1, 1, 0, 0, 0),
  (415, .aload_n 0, 1, 0, 0, 0),
  (416, .iload_n 3, 1, 0, 0, 0),
  (417, .iconst 1, 1, 0, 0, 0),
  (418, .iadd, 1, 0, 0, 0),
  (419, .iaload, 1, 0, 0, 0),
  (420, .aload_n 0, 1, 0, 0, 0),
  (421, .iload_n 3, 1, 0, 0, 0),
  (422, .iconst 2, 1, 0, 0, 0),
  (423, .iadd, 1, 0, 0, 0),
  (424, .iaload, 1, 0, 0, 0),
  (425, .invokevirtual 48, 3, 751, 0, 9),
  (428, .aload_n 2, 1, 0, 0, 0),
  (429, .aload_n 0, 1, 0, 0, 0),
  (430, .iload_n 3, 1, 0, 0, 0),
  (431, .iconst 1, 1, 0, 0, 0),
  (432, .iadd, 1, 0, 0, 0),
  (433, .iaload, 1, 0, 0, 0),
  (434, .aload_n 0, 1, 0, 0, 0),
  (435, .iload_n 3, 1, 0, 0, 0),
  (436, .iconst 2, 1, 0, 0, 0),
  (437, .iadd, 1, 0, 0, 0),
  (438, .iaload, 1, 0, 0, 0),
  (439, .invokevirtual 52, 3, 1431, 0, 69),
  (442, .lcmp, 1, 0, 0, 0),
  (443, .ifCond .eq (595), 3, 0, 0, 0),
  (446, .iconst 0, 1, 0, 0, 0),
  (447, .ireturn, 1, 0, 0, 0),
  (448, .aload_n 1, 1, 0, 0, 0),
  (449, .aload_n 0, 1, 0, 0, 0),
  (450, .iload_n 3, 1, 0, 0, 0),
  (451, .iconst 1, 1, 0, 0, 0),
  (452, .iadd, 1, 0, 0, 0),
  (453, .iaload, 1, 0, 0, 0),
  (454, .aload_n 0, 1, 0, 0, 0),
  (455, .iload_n 3, 1, 0, 0, 0),
  (456, .iconst 2, 1, 0, 0, 0),
  (457, .iadd, 1, 0, 0, 0),
  (458, .iaload, 1, 0, 0, 0),
  (459, .aload_n 0, 1, 0, 0, 0),
  (460, .iload_n 3, 1, 0, 0, 0),
  (461, .iconst 3, 1, 0, 0, 0),
  (462, .iadd, 1, 0, 0, 0),
  (463, .iaload, 1, 0, 0, 0),
  (464, .invokevirtual 53, 3, 767, 0, 10),
  (467, .aload_n 2, 1, 0, 0, 0),
  (468, .aload_n 0, 1, 0, 0, 0),
  (469, .iload_n 3, 1, 0, 0, 0),
  (470, .iconst 1, 1, 0, 0, 0),
  (471, .iadd, 1, 0, 0, 0),
  (472, .iaload, 1, 0, 0, 0),
  (473, .aload_n 0, 1, 0, 0, 0),
  (474, .iload_n 3, 1, 0, 0, 0),
  (475, .iconst 2, 1, 0, 0, 0),
  (476, .iadd, 1, 0, 0, 0),
  (477, .iaload, 1, 0, 0, 0),
  (478, .aload_n 0, 1, 0, 0, 0),
  (479, .iload_n 3, 1, 0, 0, 0),
  (480, .iconst 3, 1, 0, 0, 0),
  (481, .iadd, 1, 0, 0, 0),
  (482, .iaload, 1, 0, 0, 0),
  (483, .invokevirtual 57, 3, 1439, 0, 71),
  (486, .lcmp, 1, 0, 0, 0),
  (487, .ifCond .eq (551), 3, 0, 0, 0),
  (490, .iconst 0, 1, 0, 0, 0),
  (491, .ireturn, 1, 0, 0, 0),
  (492, .aload_n 1, 1, 0, 0, 0),
  (493, .aload_n 0, 1, 0, 0, 0),
  (494, .iload_n 3, 1, 0, 0, 0),
  (495, .iconst 1, 1, 0, 0, 0),
  (496, .iadd, 1, 0, 0, 0),
  (497, .iaload, 1, 0, 0, 0),
  (498, .aload_n 0, 1, 0, 0, 0),
  (499, .iload_n 3, 1, 0, 0, 0),
  (500, .iconst 2, 1, 0, 0, 0),
  (501, .iadd, 1, 0, 0, 0),
  (502, .iaload, 1, 0, 0, 0),
  (503, .invokevirtual 58, 3, 776, 0, 11),
  (506, .aload_n 2, 1, 0, 0, 0),
  (507, .aload_n 0, 1, 0, 0, 0),
  (508, .iload_n 3, 1, 0, 0, 0),
  (509, .iconst 1, 1, 0, 0, 0),
  (510, .iadd, 1, 0, 0, 0),
  (511, .iaload, 1, 0, 0, 0),
  (512, .aload_n 0, 1, 0, 0, 0),
  (513, .iload_n 3, 1, 0, 0, 0),
  (514, .iconst 2, 1, 0, 0, 0),
  (515, .iadd, 1, 0, 0, 0),
  (516, .iaload, 1, 0, 0, 0),
  (517, .invokevirtual 61, 3, 1448, 0, 72),
  (520, .lcmp, 1, 0, 0, 0),
  (521, .ifCond .eq (517), 3, 0, 0, 0),
  (524, .iconst 0, 1, 0, 0, 0),
  (525, .ireturn, 1, 0, 0, 0),
  (526, .aload_n 1, 1, 0, 0, 0),
  (527, .aload_n 0, 1, 0, 0, 0),
  (528, .iload_n 3, 1, 0, 0, 0),
  (529, .iconst 1, 1, 0, 0, 0),
  (530, .iadd, 1, 0, 0, 0),
  (531, .iaload, 1, 0, 0, 0),
  (532, .invokevirtual 62, 3, 780, 0, 12),
  (535, .aload_n 2, 1, 0, 0, 0),
  (536, .aload_n 0, 1, 0, 0, 0),
  (537, .iload_n 3, 1, 0, 0, 0),
  (538, .iconst 1, 1, 0, 0, 0),
  (539, .iadd, 1, 0, 0, 0),
  (540, .iaload, 1, 0, 0, 0),
  (541, .invokevirtual 66, 3, 1452, 0, 74),
  (544, .lcmp, 1, 0, 0, 0),
  (545, .ifCond .eq (493), 3, 0, 0, 0),
  (548, .iconst 0, 1, 0, 0, 0),
  (549, .ireturn, 1, 0, 0, 0),
  (550, .aload_n 1, 1, 0, 0, 0),
  (551, .invokevirtual 67, 3, 788, 0, 13),
  (554, .aload_n 2, 1, 0, 0, 0),
  (555, .invokevirtual 70, 3, 1460, 0, 75),
  (558, .if_icmp .eq (480), 3, 0, 0, 0),
  (561, .iconst 0, 1, 0, 0, 0),
  (562, .ireturn, 1, 0, 0, 0),
  (563, .aload_n 1, 1, 0, 0, 0),
  (564, .invokevirtual 71, 3, 793, 0, 14),
  (567, .aload_n 2, 1, 0, 0, 0),
  (568, .invokevirtual 74, 3, 1464, 0, 76),
  (571, .if_icmp .eq (467), 3, 0, 0, 0),
  (574, .iconst 0, 1, 0, 0, 0),
  (575, .ireturn, 1, 0, 0, 0),
  (576, .aload_n 1, 1, 0, 0, 0),
  (577, .aload_n 0, 1, 0, 0, 0),
  (578, .iload_n 3, 1, 0, 0, 0),
  (579, .iconst 1, 1, 0, 0, 0),
  (580, .iadd, 1, 0, 0, 0),
  (581, .iaload, 1, 0, 0, 0),
  (582, .aload_n 0, 1, 0, 0, 0),
  (583, .iload_n 3, 1, 0, 0, 0),
  (584, .iconst 2, 1, 0, 0, 0),
  (585, .iadd, 1, 0, 0, 0),
  (586, .iaload, 1, 0, 0, 0),
  (587, .invokevirtual 75, 3, 797, 0, 15),
  (590, .aload_n 2, 1, 0, 0, 0),
  (591, .aload_n 0, 1, 0, 0, 0),
  (592, .iload_n 3, 1, 0, 0, 0),
  (593, .iconst 1, 1, 0, 0, 0),
  (594, .iadd, 1, 0, 0, 0),
  (595, .iaload, 1, 0, 0, 0),
  (596, .aload_n 0, 1, 0, 0, 0),
  (597, .iload_n 3, 1, 0, 0, 0),
  (598, .iconst 2, 1, 0, 0, 0),
  (599, .iadd, 1, 0, 0, 0),
  (600, .iaload, 1, 0, 0, 0),
  (601, .invokevirtual 78, 3, 1468, 0, 77),
  (604, .if_icmp .eq (434), 3, 0, 0, 0),
  (607, .iconst 0, 1, 0, 0, 0),
  (608, .ireturn, 1, 0, 0, 0),
  (609, .aload_n 1, 1, 0, 0, 0),
  (610, .aload_n 0, 1, 0, 0, 0),
  (611, .iload_n 3, 1, 0, 0, 0),
  (612, .iconst 1, 1, 0, 0, 0),
  (613, .iadd, 1, 0, 0, 0),
  (614, .iaload, 1, 0, 0, 0),
  (615, .invokevirtual 79, 3, 801, 0, 16),
  (618, .aload_n 2, 1, 0, 0, 0),
  (619, .aload_n 0, 1, 0, 0, 0),
  (620, .iload_n 3, 1, 0, 0, 0),
  (621, .iconst 1, 1, 0, 0, 0),
  (622, .iadd, 1, 0, 0, 0),
  (623, .iaload, 1, 0, 0, 0),
  (624, .invokevirtual 82, 3, 1472, 0, 78),
  (627, .if_icmp .eq (411), 3, 0, 0, 0),
  (630, .iconst 0, 1, 0, 0, 0),
  (631, .ireturn, 1, 0, 0, 0),
  (632, .aload_n 1, 1, 0, 0, 0),
  (633, .aload_n 0, 1, 0, 0, 0),
  (634, .iload_n 3, 1, 0, 0, 0),
  (635, .iconst 1, 1, 0, 0, 0),
  (636, .iadd, 1, 0, 0, 0),
  (637, .iaload, 1, 0, 0, 0),
  (638, .invokevirtual 83, 3, 813, 0, 17),
  (641, .aload_n 2, 1, 0, 0, 0),
  (642, .aload_n 0, 1, 0, 0, 0),
  (643, .iload_n 3, 1, 0, 0, 0),
  (644, .iconst 1, 1, 0, 0, 0),
  (645, .iadd, 1, 0, 0, 0),
  (646, .iaload, 1, 0, 0, 0),
  (647, .invokevirtual 86, 3, 1476, 0, 83),
  (650, .if_icmp .eq (388), 3, 0, 0, 0),
  (653, .iconst 0, 1, 0, 0, 0),
  (654, .ireturn, 1, 0, 0, 0),
  (655, .aload_n 1, 1, 0, 0, 0),
  (656, .aload_n 0, 1, 0, 0, 0),
  (657, .iload_n 3, 1, 0, 0, 0),
  (658, .iconst 1, 1, 0, 0, 0),
  (659, .iadd, 1, 0, 0, 0),
  (660, .iaload, 1, 0, 0, 0),
  (661, .aload_n 0, 1, 0, 0, 0),
  (662, .iload_n 3, 1, 0, 0, 0),
  (663, .iconst 2, 1, 0, 0, 0),
  (664, .iadd, 1, 0, 0, 0),
  (665, .iaload, 1, 0, 0, 0),
  (666, .invokevirtual 87, 3, 817, 0, 18),
  (669, .aload_n 2, 1, 0, 0, 0),
  (670, .aload_n 0, 1, 0, 0, 0),
  (671, .iload_n 3, 1, 0, 0, 0),
  (672, .iconst 1, 1, 0, 0, 0),
  (673, .iadd, 1, 0, 0, 0),
  (674, .iaload, 1, 0, 0, 0),
  (675, .aload_n 0, 1, 0, 0, 0),
  (676, .iload_n 3, 1, 0, 0, 0),
  (677, .iconst 2, 1, 0, 0, 0),
  (678, .iadd, 1, 0, 0, 0),
  (679, .iaload, 1, 0, 0, 0),
  (680, .invokevirtual 90, 3, 1480, 0, 84),
  (683, .if_icmp .eq (355), 3, 0, 0, 0),
  (686, .iconst 0, 1, 0, 0, 0),
  (687, .ireturn, 1, 0, 0, 0),
  (688, .aload_n 1, 1, 0, 0, 0),
  (689, .aload_n 0, 1, 0, 0, 0),
  (690, .iload_n 3, 1, 0, 0, 0),
  (691, .iconst 1, 1, 0, 0, 0),
  (692, .iadd, 1, 0, 0, 0),
  (693, .iaload, 1, 0, 0, 0),
  (694, .invokevirtual 91, 3, 826, 0, 19),
  (697, .aload_n 2, 1, 0, 0, 0),
  (698, .aload_n 0, 1, 0, 0, 0),
  (699, .iload_n 3, 1, 0, 0, 0),
  (700, .iconst 1, 1, 0, 0, 0),
  (701, .iadd, 1, 0, 0, 0),
  (702, .iaload, 1, 0, 0, 0),
  (703, .invokevirtual 94, 3, 1484, 0, 85),
  (706, .if_icmp .eq (332), 3, 0, 0, 0),
  (709, .iconst 0, 1, 0, 0, 0),
  (710, .ireturn, 1, 0, 0, 0),
  (711, .aload_n 1, 1, 0, 0, 0),
  (712, .aload_n 0, 1, 0, 0, 0),
  (713, .iload_n 3, 1, 0, 0, 0),
  (714, .iconst 1, 1, 0, 0, 0),
  (715, .iadd, 1, 0, 0, 0),
  (716, .iaload, 1, 0, 0, 0),
  (717, .invokevirtual 95, 3, 830, 0, 20),
  (720, .aload_n 2, 1, 0, 0, 0),
  (721, .aload_n 0, 1, 0, 0, 0),
  (722, .iload_n 3, 1, 0, 0, 0),
  (723, .iconst 1, 1, 0, 0, 0),
  (724, .iadd, 1, 0, 0, 0),
  (725, .iaload, 1, 0, 0, 0),
  (726, .invokevirtual 98, 3, 1492, 0, 86),
  (729, .if_icmp .eq (309), 3, 0, 0, 0),
  (732, .iconst 0, 1, 0, 0, 0),
  (733, .ireturn, 1, 0, 0, 0),
  (734, .aload_n 1, 1, 0, 0, 0),
  (735, .invokevirtual 99, 3, 834, 0, 21),
  (738, .aload_n 2, 1, 0, 0, 0),
  (739, .invokevirtual 102, 3, 1496, 0, 89),
  (742, .if_icmp .eq (296), 3, 0, 0, 0),
  (745, .iconst 0, 1, 0, 0, 0),
  (746, .ireturn, 1, 0, 0, 0),
  (747, .aload_n 1, 1, 0, 0, 0),
  (748, .aload_n 0, 1, 0, 0, 0),
  (749, .iload_n 3, 1, 0, 0, 0),
  (750, .iconst 1, 1, 0, 0, 0),
  (751, .iadd, 1, 0, 0, 0),
  (752, .iaload, 1, 0, 0, 0),
  (753, .invokevirtual 103, 3, 838, 0, 22),
  (756, .aload_n 2, 1, 0, 0, 0),
  (757, .aload_n 0, 1, 0, 0, 0),
  (758, .iload_n 3, 1, 0, 0, 0),
  (759, .iconst 1, 1, 0, 0, 0),
  (760, .iadd, 1, 0, 0, 0),
  (761, .iaload, 1, 0, 0, 0),
  (762, .invokevirtual 106, 3, 1500, 0, 90),
  (765, .if_icmp .eq (273), 3, 0, 0, 0),
  (768, .iconst 0, 1, 0, 0, 0),
  (769, .ireturn, 1, 0, 0, 0),
  (770, .aload_n 1, 1, 0, 0, 0),
  (771, .aload_n 0, 1, 0, 0, 0),
  (772, .iload_n 3, 1, 0, 0, 0),
  (773, .iconst 1, 1, 0, 0, 0),
  (774, .iadd, 1, 0, 0, 0),
  (775, .iaload, 1, 0, 0, 0),
  (776, .invokevirtual 107, 3, 846, 0, 23),
  (779, .aload_n 2, 1, 0, 0, 0),
  (780, .aload_n 0, 1, 0, 0, 0),
  (781, .iload_n 3, 1, 0, 0, 0),
  (782, .iconst 1, 1, 0, 0, 0),
  (783, .iadd, 1, 0, 0, 0),
  (784, .iaload, 1, 0, 0, 0),
  (785, .invokevirtual 110, 3, 1504, 0, 91),
  (788, .if_icmp .eq (250), 3, 0, 0, 0),
  (791, .iconst 0, 1, 0, 0, 0),
  (792, .ireturn, 1, 0, 0, 0),
  (793, .aload_n 1, 1, 0, 0, 0),
  (794, .invokevirtual 111, 3, 850, 0, 24),
  (797, .aload_n 2, 1, 0, 0, 0),
  (798, .invokevirtual 114, 3, 1508, 0, 92),
  (801, .if_icmp .eq (237), 3, 0, 0, 0),
  (804, .iconst 0, 1, 0, 0, 0),
  (805, .ireturn, 1, 0, 0, 0),
  (806, .aload_n 1, 1, 0, 0, 0),
  (807, .invokevirtual 115, 3, 865, 0, 25),
  (810, .aload_n 2, 1, 0, 0, 0),
  (811, .invokevirtual 118, 3, 1516, 0, 93),
  (814, .if_icmp .eq (224), 3, 0, 0, 0),
  (817, .iconst 0, 1, 0, 0, 0),
  (818, .ireturn, 1, 0, 0, 0),
  (819, .aload_n 1, 1, 0, 0, 0),
  (820, .aload_n 0, 1, 0, 0, 0),
  (821, .iload_n 3, 1, 0, 0, 0),
  (822, .iconst 1, 1, 0, 0, 0),
  (823, .iadd, 1, 0, 0, 0),
  (824, .iaload, 1, 0, 0, 0),
  (825, .invokevirtual 119, 3, 879, 0, 26),
  (828, .aload_n 2, 1, 0, 0, 0),
  (829, .aload_n 0, 1, 0, 0, 0),
  (830, .iload_n 3, 1, 0, 0, 0),
  (831, .iconst 1, 1, 0, 0, 0),
  (832, .iadd, 1, 0, 0, 0),
  (833, .iaload, 1, 0, 0, 0),
  (834, .invokevirtual 122, 3, 1524, 0, 94),
  (837, .if_icmp .eq (201), 3, 0, 0, 0),
  (840, .iconst 0, 1, 0, 0, 0),
  (841, .ireturn, 1, 0, 0, 0),
  (842, .aload_n 1, 1, 0, 0, 0),
  (843, .aload_n 0, 1, 0, 0, 0),
  (844, .iload_n 3, 1, 0, 0, 0),
  (845, .iconst 1, 1, 0, 0, 0),
  (846, .iadd, 1, 0, 0, 0),
  (847, .iaload, 1, 0, 0, 0),
  (848, .invokevirtual 123, 3, 888, 0, 27),
  (851, .aload_n 2, 1, 0, 0, 0),
  (852, .aload_n 0, 1, 0, 0, 0),
  (853, .iload_n 3, 1, 0, 0, 0),
  (854, .iconst 1, 1, 0, 0, 0),
  (855, .iadd, 1, 0, 0, 0),
  (856, .iaload, 1, 0, 0, 0),
  (857, .invokevirtual 126, 3, 1528, 0, 95),
  (860, .if_icmp .eq (178), 3, 0, 0, 0),
  (863, .iconst 0, 1, 0, 0, 0),
  (864, .ireturn, 1, 0, 0, 0),
  (865, .aload_n 1, 1, 0, 0, 0),
  (866, .aload_n 0, 1, 0, 0, 0),
  (867, .iload_n 3, 1, 0, 0, 0),
  (868, .iconst 1, 1, 0, 0, 0),
  (869, .iadd, 1, 0, 0, 0),
  (870, .iaload, 1, 0, 0, 0),
  (871, .invokevirtual 127, 3, 892, 0, 28),
  (874, .aload_n 2, 1, 0, 0, 0),
  (875, .aload_n 0, 1, 0, 0, 0),
  (876, .iload_n 3, 1, 0, 0, 0),
  (877, .iconst 1, 1, 0, 0, 0),
  (878, .iadd, 1, 0, 0, 0),
  (879, .iaload, 1, 0, 0, 0),
  (880, .invokevirtual 130, 3, 1532, 0, 96),
  (883, .if_icmp .eq (155), 3, 0, 0, 0),
  (886, .iconst 0, 1, 0, 0, 0),
  (887, .ireturn, 1, 0, 0, 0),
  (888, .aload_n 1, 1, 0, 0, 0),
  (889, .invokevirtual 131, 3, 900, 0, 29),
  (892, .aload_n 2, 1, 0, 0, 0),
  (893, .invokevirtual 134, 3, 1536, 0, 97),
  (896, .if_icmp .eq (142), 3, 0, 0, 0),
  (899, .iconst 0, 1, 0, 0, 0),
  (900, .ireturn, 1, 0, 0, 0),
  (901, .aload_n 1, 1, 0, 0, 0),
  (902, .invokevirtual 135, 3, 904, 0, 30),
  (905, .aload_n 2, 1, 0, 0, 0),
  (906, .invokevirtual 138, 3, 1540, 0, 105),
  (909, .if_icmp .eq (129), 3, 0, 0, 0),
  (912, .iconst 0, 1, 0, 0, 0),
  (913, .ireturn, 1, 0, 0, 0),
  (914, .aload_n 1, 1, 0, 0, 0),
  (915, .invokevirtual 139, 3, 956, 0, 31),
  (918, .aload_n 2, 1, 0, 0, 0),
  (919, .invokevirtual 142, 3, 1572, 0, 113),
  (922, .if_icmp .eq (116), 3, 0, 0, 0),
  (925, .iconst 0, 1, 0, 0, 0),
  (926, .ireturn, 1, 0, 0, 0),
  (927, .aload_n 1, 1, 0, 0, 0),
  (928, .invokevirtual 143, 3, 1065, 0, 32),
  (931, .aload_n 2, 1, 0, 0, 0),
  (932, .invokevirtual 146, 3, 1610, 0, 114),
  (935, .if_icmp .eq (103), 3, 0, 0, 0),
  (938, .iconst 0, 1, 0, 0, 0),
  (939, .ireturn, 1, 0, 0, 0),
  (940, .aload_n 1, 1, 0, 0, 0),
  (941, .invokevirtual 147, 3, 1069, 0, 33),
  (944, .aload_n 2, 1, 0, 0, 0),
  (945, .invokevirtual 150, 3, 1614, 0, 116),
  (948, .if_icmp .eq (90), 3, 0, 0, 0),
  (951, .iconst 0, 1, 0, 0, 0),
  (952, .ireturn, 1, 0, 0, 0),
  (953, .aload_n 1, 1, 0, 0, 0),
  (954, .invokevirtual 151, 3, 1102, 0, 34),
  (957, .aload_n 2, 1, 0, 0, 0),
  (958, .invokevirtual 154, 3, 1626, 0, 117),
  (961, .if_icmp .eq (77), 3, 0, 0, 0),
  (964, .iconst 0, 1, 0, 0, 0),
  (965, .ireturn, 1, 0, 0, 0),
  (966, .aload_n 1, 1, 0, 0, 0),
  (967, .aload_n 0, 1, 0, 0, 0),
  (968, .iload_n 3, 1, 0, 0, 0),
  (969, .iconst 1, 1, 0, 0, 0),
  (970, .iadd, 1, 0, 0, 0),
  (971, .iaload, 1, 0, 0, 0),
  (972, .invokevirtual 155, 3, 1120, 0, 35),
  (975, .aload_n 2, 1, 0, 0, 0),
  (976, .aload_n 0, 1, 0, 0, 0),
  (977, .iload_n 3, 1, 0, 0, 0),
  (978, .iconst 1, 1, 0, 0, 0),
  (979, .iadd, 1, 0, 0, 0),
  (980, .iaload, 1, 0, 0, 0),
  (981, .invokevirtual 158, 3, 1638, 0, 118),
  (984, .if_icmp .eq (54), 3, 0, 0, 0),
  (987, .iconst 0, 1, 0, 0, 0),
  (988, .ireturn, 1, 0, 0, 0),
  (989, .aload_n 1, 1, 0, 0, 0),
  (990, .aload_n 0, 1, 0, 0, 0),
  (991, .iload_n 3, 1, 0, 0, 0),
  (992, .iconst 1, 1, 0, 0, 0),
  (993, .iadd, 1, 0, 0, 0),
  (994, .iaload, 1, 0, 0, 0),
  (995, .invokevirtual 159, 3, 1124, 0, 36),
  (998, .aload_n 2, 1, 0, 0, 0),
  (999, .aload_n 0, 1, 0, 0, 0),
  (1000, .iload_n 3, 1, 0, 0, 0),
  (1001, .iconst 1, 1, 0, 0, 0),
  (1002, .iadd, 1, 0, 0, 0),
  (1003, .iaload, 1, 0, 0, 0),
  (1004, .invokevirtual 162, 3, 1642, 0, 120),
  (1007, .if_icmp .eq (31), 3, 0, 0, 0),
  (1010, .iconst 0, 1, 0, 0, 0),
  (1011, .ireturn, 1, 0, 0, 0),
  (1012, .aload_n 1, 1, 0, 0, 0),
  (1013, .invokevirtual 163, 3, 1140, 0, 37),
  (1016, .aload_n 2, 1, 0, 0, 0),
  (1017, .invokevirtual 166, 3, 1654, 0, 121),
  (1020, .if_icmp .eq (18), 3, 0, 0, 0),
  (1023, .iconst 0, 1, 0, 0, 0),
  (1024, .ireturn, 1, 0, 0, 0),
  (1025, .aload_n 1, 1, 0, 0, 0),
  (1026, .invokevirtual 167, 3, 1149, 0, 38),
  (1029, .aload_n 2, 1, 0, 0, 0),
  (1030, .invokevirtual 170, 3, 1658, 0, 122),
  (1033, .if_icmp .eq (5), 3, 0, 0, 0),
  (1036, .iconst 0, 1, 0, 0, 0),
  (1037, .ireturn, 1, 0, 0, 0),
  (1038, .iinc 3 (4), 3, 0, 0, 0),
  (1041, .goto (-1023), 3, 0, 0, 0),
  (1044, .iconst 1, 1, 0, 0, 0),
  (1045, .ireturn, 1, 0, 0, 0)]
def xm_0 : xM := (⟨"RollCutter", "<init>", "()V"⟩, prog_1_method_1_code, 1, none, 62, 2488, 0, 0, 107, 106, 0, 82)
def xm_1 : xM := (⟨"RollCutter", "order", "(II)I"⟩, prog_1_method_2_code, 3, some (.int), 0, 0, 2, 0, 484, 482, 483, 82)
def xm_2 : xM := (⟨"RollCutter", "due", "(II)I"⟩, prog_1_method_3_code, 4, some (.int), 0, 0, 2, 0, 503, 501, 502, 82)
def xm_3 : xM := (⟨"RollCutter", "of", "(II)I"⟩, prog_1_method_4_code, 3, some (.int), 0, 0, 2, 0, 511, 509, 510, 82)
def xm_4 : xM := (⟨"RollCutter", "drop", "()I"⟩, prog_1_method_5_code, 1, some (.int), 0, 0, 0, 0, 515, 513, 514, 82)
def xm_5 : xM := (⟨"RollCutter", "machine", "(II)I"⟩, prog_1_method_6_code, 4, some (.int), 0, 0, 2, 0, 519, 517, 518, 82)
def xm_6 : xM := (⟨"RollCutter", "patterns", "(I)I"⟩, prog_1_method_7_code, 2, some (.int), 0, 0, 1, 0, 531, 529, 530, 82)
def xm_7 : xM := (⟨"RollCutter", "rows", "()I"⟩, prog_1_method_8_code, 1, some (.int), 0, 0, 0, 0, 549, 547, 548, 82)
def xm_8 : xM := (⟨"RollCutter", "row", "(II)I"⟩, prog_1_method_9_code, 4, some (.int), 0, 0, 2, 0, 734, 732, 733, 82)
def xm_9 : xM := (⟨"RollCutter", "amount", "(II)J"⟩, prog_1_method_10_code, 3, some (.long), 0, 0, 2, 0, 754, 752, 753, 82)
def xm_10 : xM := (⟨"RollCutter", "share", "(III)J"⟩, prog_1_method_11_code, 4, some (.long), 0, 0, 3, 0, 770, 768, 769, 82)
def xm_11 : xM := (⟨"RollCutter", "price", "(II)J"⟩, prog_1_method_12_code, 3, some (.long), 0, 0, 2, 0, 779, 777, 778, 82)
def xm_12 : xM := (⟨"RollCutter", "bound", "(I)J"⟩, prog_1_method_13_code, 2, some (.long), 0, 0, 1, 0, 783, 781, 782, 82)
def xm_13 : xM := (⟨"RollCutter", "least", "()I"⟩, prog_1_method_14_code, 1, some (.int), 0, 0, 0, 0, 791, 789, 790, 82)
def xm_14 : xM := (⟨"RollCutter", "rounds", "()I"⟩, prog_1_method_15_code, 1, some (.int), 0, 0, 0, 0, 796, 794, 795, 82)
def xm_15 : xM := (⟨"RollCutter", "came", "(II)I"⟩, prog_1_method_16_code, 4, some (.int), 0, 0, 2, 0, 800, 798, 799, 82)
def xm_16 : xM := (⟨"RollCutter", "leeway", "(I)I"⟩, prog_1_method_17_code, 4, some (.int), 0, 0, 1, 0, 804, 802, 803, 82)
def xm_17 : xM := (⟨"RollCutter", "rolls", "(I)I"⟩, prog_1_method_18_code, 2, some (.int), 0, 0, 1, 0, 816, 814, 815, 82)
def xm_18 : xM := (⟨"RollCutter", "cut", "(II)I"⟩, prog_1_method_19_code, 5, some (.int), 0, 0, 2, 0, 820, 818, 819, 82)
def xm_19 : xM := (⟨"RollCutter", "waste", "(I)I"⟩, prog_1_method_20_code, 7, some (.int), 0, 0, 1, 0, 829, 827, 828, 82)
def xm_20 : xM := (⟨"RollCutter", "wasting", "(I)I"⟩, prog_1_method_21_code, 5, some (.int), 0, 0, 1, 0, 833, 831, 832, 82)
def xm_21 : xM := (⟨"RollCutter", "peak", "()I"⟩, prog_1_method_22_code, 1, some (.int), 0, 0, 0, 0, 837, 835, 836, 82)
def xm_22 : xM := (⟨"RollCutter", "sequence", "(I)I"⟩, prog_1_method_23_code, 2, some (.int), 0, 0, 1, 0, 841, 839, 840, 82)
def xm_23 : xM := (⟨"RollCutter", "open", "(I)I"⟩, prog_1_method_24_code, 2, some (.int), 0, 0, 1, 0, 849, 847, 848, 82)
def xm_24 : xM := (⟨"RollCutter", "carry", "()I"⟩, prog_1_method_25_code, 4, some (.int), 0, 0, 0, 0, 853, 851, 852, 82)
def xm_25 : xM := (⟨"RollCutter", "serve", "()I"⟩, prog_1_method_26_code, 5, some (.int), 0, 0, 0, 0, 868, 866, 867, 82)
def xm_26 : xM := (⟨"RollCutter", "store", "(I)I"⟩, prog_1_method_27_code, 2, some (.int), 0, 0, 1, 0, 882, 880, 881, 82)
def xm_27 : xM := (⟨"RollCutter", "put", "(I)I"⟩, prog_1_method_28_code, 2, some (.int), 0, 0, 1, 0, 891, 889, 890, 82)
def xm_28 : xM := (⟨"RollCutter", "feed", "(I)I"⟩, prog_1_method_29_code, 2, some (.int), 0, 0, 1, 0, 895, 893, 894, 82)
def xm_29 : xM := (⟨"RollCutter", "clear", "()I"⟩, prog_1_method_30_code, 2, some (.int), 0, 0, 0, 0, 903, 901, 902, 82)
def xm_30 : xM := (⟨"RollCutter", "book", "()I"⟩, prog_1_method_31_code, 2, some (.int), 0, 0, 0, 0, 907, 905, 906, 82)
def xm_31 : xM := (⟨"RollCutter", "pick", "()I"⟩, prog_1_method_32_code, 4, some (.int), 0, 0, 0, 0, 959, 957, 958, 82)
def xm_32 : xM := (⟨"RollCutter", "first", "()I"⟩, prog_1_method_33_code, 3, some (.int), 0, 0, 0, 0, 1068, 1066, 1067, 82)
def xm_33 : xM := (⟨"RollCutter", "judge", "()I"⟩, prog_1_method_34_code, 2, some (.int), 1, 6, 0, 0, 1072, 1070, 1071, 82)
def xm_34 : xM := (⟨"RollCutter", "spell", "()I"⟩, prog_1_method_35_code, 3, some (.int), 0, 0, 0, 0, 1105, 1103, 1104, 82)
def xm_35 : xM := (⟨"RollCutter", "paper", "(I)I"⟩, prog_1_method_36_code, 2, some (.int), 0, 0, 1, 0, 1123, 1121, 1122, 82)
def xm_36 : xM := (⟨"RollCutter", "told", "(I)I"⟩, prog_1_method_37_code, 2, some (.int), 0, 0, 1, 0, 1127, 1125, 1126, 82)
def xm_37 : xM := (⟨"RollCutter", "image", "()I"⟩, prog_1_method_38_code, 1, some (.int), 0, 0, 0, 0, 1143, 1141, 1142, 82)
def xm_38 : xM := (⟨"RollCutter", "undo", "()I"⟩, prog_1_method_39_code, 1, some (.int), 0, 0, 0, 0, 1152, 1150, 1151, 82)
def xm_39 : xM := (⟨"RollCutter", "forget", "()V"⟩, prog_1_method_40_code, 1, none, 0, 0, 0, 0, 499, 498, 0, 82)
def xm_40 : xM := (⟨"RollCutter", "settle", "(I)V"⟩, prog_1_method_41_code, 2, none, 0, 0, 1, 0, 553, 552, 1, 82)
def xm_41 : xM := (⟨"RollCutter", "isDue", "(I)Z"⟩, prog_1_method_44_code, 1, some (.boolean), 0, 0, 1, 0, 491, 490, 0, 82)
def xm_42 : xM := (⟨"RollCutter", "isPart", "(I)Z"⟩, prog_1_method_45_code, 1, some (.boolean), 0, 0, 1, 0, 757, 756, 0, 82)
def xm_43 : xM := (⟨"RollCutter", "isOffcut", "(I)Z"⟩, prog_1_method_46_code, 1, some (.boolean), 0, 0, 1, 0, 864, 863, 0, 82)
def xm_44 : xM := (⟨"RollCutter", "quotient", "(JJ)J"⟩, prog_1_method_47_code, 4, some (.long), 0, 0, 2, 0, 568, 567, 0, 82)
def xm_45 : xM := (⟨"RollCutter", "roundedUp", "(JJ)J"⟩, prog_1_method_48_code, 4, some (.long), 0, 0, 2, 0, 682, 681, 0, 82)
def xm_46 : xM := (⟨"RollCutter", "lowest", "(JJI)J"⟩, prog_1_method_49_code, 12, some (.long), 0, 0, 3, 0, 761, 760, 0, 82)
def xm_47 : xM := (⟨"RollCutterModel", "<init>", "()V"⟩, prog_14_method_1_code, 1, none, 25, 11908, 0, 11, 1157, 1156, 0, 93)
def xm_48 : xM := (⟨"RollCutterModel", "in", "(III)Z"⟩, prog_14_method_2_code, 3, some (.boolean), 0, 0, 3, 11, 1295, 1294, 0, 93)
def xm_49 : xM := (⟨"RollCutterModel", "isOrder", "(I)Z"⟩, prog_14_method_3_code, 2, some (.boolean), 0, 0, 1, 11, 1311, 1310, 33, 93)
def xm_50 : xM := (⟨"RollCutterModel", "ofWidth", "(I)I"⟩, prog_14_method_5_code, 3, some (.int), 0, 0, 1, 11, 1299, 1298, 31, 93)
def xm_51 : xM := (⟨"RollCutterModel", "comes", "(II)V"⟩, prog_14_method_6_code, 3, none, 0, 0, 2, 11, 1303, 1302, 32, 93)
def xm_52 : xM := (⟨"RollCutterModel", "order", "(II)I"⟩, prog_14_method_7_code, 3, some (.int), 0, 0, 2, 11, 1292, 1290, 1291, 93)
def xm_53 : xM := (⟨"RollCutterModel", "due", "(II)I"⟩, prog_14_method_8_code, 4, some (.int), 0, 0, 2, 11, 1307, 1305, 1306, 93)
def xm_54 : xM := (⟨"RollCutterModel", "of", "(II)I"⟩, prog_14_method_9_code, 3, some (.int), 0, 0, 2, 11, 1315, 1313, 1314, 93)
def xm_55 : xM := (⟨"RollCutterModel", "drop", "()I"⟩, prog_14_method_10_code, 1, some (.int), 0, 0, 0, 11, 1319, 1317, 1318, 93)
def xm_56 : xM := (⟨"RollCutterModel", "widest", "()I"⟩, prog_14_method_11_code, 3, some (.int), 0, 0, 0, 11, 1327, 1326, 34, 93)
def xm_57 : xM := (⟨"RollCutterModel", "machine", "(II)I"⟩, prog_14_method_12_code, 5, some (.int), 0, 0, 2, 11, 1323, 1321, 1322, 93)
def xm_58 : xM := (⟨"RollCutterModel", "piecesOf", "([II)I"⟩, prog_14_method_13_code, 4, some (.int), 0, 0, 2, 11, 1355, 1354, 0, 93)
def xm_59 : xM := (⟨"RollCutterModel", "tries", "(IIII)V"⟩, prog_14_method_17_code, 7, none, 0, 0, 4, 11, 1340, 1339, 36, 93)
def xm_60 : xM := (⟨"RollCutterModel", "triesAll", "(I)V"⟩, prog_14_method_19_code, 2, none, 0, 0, 1, 11, 1336, 1335, 35, 93)
def xm_61 : xM := (⟨"RollCutterModel", "patterns", "(I)I"⟩, prog_14_method_20_code, 3, some (.int), 0, 0, 1, 11, 1332, 1330, 1331, 93)
def xm_62 : xM := (⟨"RollCutterModel", "minor", "(III)J"⟩, prog_14_method_21_code, 9, some (.long), 0, 0, 3, 11, 1380, 1379, 44, 93)
def xm_63 : xM := (⟨"RollCutterModel", "reckons", "()V"⟩, prog_14_method_22_code, 10, none, 0, 0, 0, 11, 1376, 1375, 43, 93)
def xm_64 : xM := (⟨"RollCutterModel", "beginsRows", "()V"⟩, prog_14_method_25_code, 3, none, 0, 0, 0, 11, 1368, 1367, 41, 93)
def xm_65 : xM := (⟨"RollCutterModel", "finds", "()V"⟩, prog_14_method_26_code, 3, none, 0, 0, 0, 11, 1364, 1363, 40, 93)
def xm_66 : xM := (⟨"RollCutterModel", "rows", "()I"⟩, prog_14_method_27_code, 1, some (.int), 0, 0, 0, 11, 1360, 1358, 1359, 93)
def xm_67 : xM := (⟨"RollCutterModel", "row", "(II)I"⟩, prog_14_method_29_code, 3, some (.int), 0, 0, 2, 11, 1426, 1424, 1425, 93)
def xm_68 : xM := (⟨"RollCutterModel", "part", "(JJI)J"⟩, prog_14_method_30_code, 11, some (.long), 0, 0, 3, 11, 1437, 1436, 0, 93)
def xm_69 : xM := (⟨"RollCutterModel", "amount", "(II)J"⟩, prog_14_method_31_code, 3, some (.long), 0, 0, 2, 11, 1434, 1432, 1433, 93)
def xm_70 : xM := (⟨"RollCutterModel", "wantedAt", "(I)I"⟩, prog_14_method_32_code, 3, some (.int), 0, 0, 1, 11, 1446, 1445, 56, 93)
def xm_71 : xM := (⟨"RollCutterModel", "share", "(III)J"⟩, prog_14_method_33_code, 5, some (.long), 0, 0, 3, 11, 1442, 1440, 1441, 93)
def xm_72 : xM := (⟨"RollCutterModel", "price", "(II)J"⟩, prog_14_method_34_code, 3, some (.long), 0, 0, 2, 11, 1451, 1449, 1450, 93)
def xm_73 : xM := (⟨"RollCutterModel", "sumOfAmounts", "()J"⟩, prog_14_method_35_code, 4, some (.long), 0, 0, 0, 11, 1459, 1458, 57, 93)
def xm_74 : xM := (⟨"RollCutterModel", "bound", "(I)J"⟩, prog_14_method_36_code, 2, some (.long), 0, 0, 1, 11, 1455, 1453, 1454, 93)
def xm_75 : xM := (⟨"RollCutterModel", "least", "()I"⟩, prog_14_method_37_code, 1, some (.int), 0, 0, 0, 11, 1463, 1461, 1462, 93)
def xm_76 : xM := (⟨"RollCutterModel", "rounds", "()I"⟩, prog_14_method_38_code, 1, some (.int), 0, 0, 0, 11, 1467, 1465, 1466, 93)
def xm_77 : xM := (⟨"RollCutterModel", "came", "(II)I"⟩, prog_14_method_39_code, 3, some (.int), 0, 0, 2, 11, 1471, 1469, 1470, 93)
def xm_78 : xM := (⟨"RollCutterModel", "leeway", "(I)I"⟩, prog_14_method_40_code, 8, some (.int), 0, 0, 1, 11, 1475, 1473, 1474, 93)
def xm_79 : xM := (⟨"RollCutterModel", "rollsOfCuts", "()I"⟩, prog_14_method_42_code, 3, some (.int), 0, 0, 0, 11, 1405, 1404, 50, 93)
def xm_80 : xM := (⟨"RollCutterModel", "cutsDown", "()V"⟩, prog_14_method_43_code, 4, none, 0, 0, 0, 11, 1409, 1408, 51, 93)
def xm_81 : xM := (⟨"RollCutterModel", "cutsUp", "()V"⟩, prog_14_method_44_code, 5, none, 0, 0, 0, 11, 1397, 1396, 48, 93)
def xm_82 : xM := (⟨"RollCutterModel", "plans", "()V"⟩, prog_14_method_45_code, 1, none, 0, 0, 0, 11, 1393, 1392, 47, 93)
def xm_83 : xM := (⟨"RollCutterModel", "rolls", "(I)I"⟩, prog_14_method_46_code, 2, some (.int), 0, 0, 1, 11, 1479, 1477, 1478, 93)
def xm_84 : xM := (⟨"RollCutterModel", "cut", "(II)I"⟩, prog_14_method_47_code, 3, some (.int), 0, 0, 2, 11, 1483, 1481, 1482, 93)
def xm_85 : xM := (⟨"RollCutterModel", "waste", "(I)I"⟩, prog_14_method_49_code, 5, some (.int), 0, 0, 1, 11, 1487, 1485, 1486, 93)
def xm_86 : xM := (⟨"RollCutterModel", "wasting", "(I)I"⟩, prog_14_method_50_code, 4, some (.int), 0, 0, 1, 11, 1495, 1493, 1494, 93)
def xm_87 : xM := (⟨"RollCutterModel", "lineUp", "(III)V"⟩, prog_14_method_52_code, 5, none, 0, 0, 3, 11, 1417, 1416, 53, 93)
def xm_88 : xM := (⟨"RollCutterModel", "lines", "()V"⟩, prog_14_method_53_code, 1, none, 0, 0, 0, 11, 1413, 1412, 52, 93)
def xm_89 : xM := (⟨"RollCutterModel", "peak", "()I"⟩, prog_14_method_54_code, 1, some (.int), 0, 0, 0, 11, 1499, 1497, 1498, 93)
def xm_90 : xM := (⟨"RollCutterModel", "sequence", "(I)I"⟩, prog_14_method_55_code, 2, some (.int), 0, 0, 1, 11, 1503, 1501, 1502, 93)
def xm_91 : xM := (⟨"RollCutterModel", "open", "(I)I"⟩, prog_14_method_56_code, 2, some (.int), 0, 0, 1, 11, 1507, 1505, 1506, 93)
def xm_92 : xM := (⟨"RollCutterModel", "carry", "()I"⟩, prog_14_method_58_code, 3, some (.int), 0, 0, 0, 11, 1511, 1509, 1510, 93)
def xm_93 : xM := (⟨"RollCutterModel", "serve", "()I"⟩, prog_14_method_60_code, 5, some (.int), 0, 0, 0, 11, 1519, 1517, 1518, 93)
def xm_94 : xM := (⟨"RollCutterModel", "store", "(I)I"⟩, prog_14_method_61_code, 4, some (.int), 0, 0, 1, 11, 1527, 1525, 1526, 93)
def xm_95 : xM := (⟨"RollCutterModel", "put", "(I)I"⟩, prog_14_method_62_code, 2, some (.int), 0, 0, 1, 11, 1531, 1529, 1530, 93)
def xm_96 : xM := (⟨"RollCutterModel", "feed", "(I)I"⟩, prog_14_method_63_code, 2, some (.int), 0, 0, 1, 11, 1535, 1533, 1534, 93)
def xm_97 : xM := (⟨"RollCutterModel", "clear", "()I"⟩, prog_14_method_64_code, 2, some (.int), 0, 0, 0, 11, 1539, 1537, 1538, 93)
def xm_98 : xM := (⟨"RollCutterModel", "here", "()I"⟩, prog_14_method_65_code, 1, some (.int), 0, 0, 0, 11, 1563, 1562, 65, 93)
def xm_99 : xM := (⟨"RollCutterModel", "wrong", "(I)V"⟩, prog_14_method_66_code, 2, none, 0, 0, 1, 11, 1555, 1554, 63, 93)
def xm_100 : xM := (⟨"RollCutterModel", "begins", "()V"⟩, prog_14_method_67_code, 1, none, 0, 0, 0, 11, 1547, 1546, 61, 93)
def xm_101 : xM := (⟨"RollCutterModel", "takes", "(I)Z"⟩, prog_14_method_68_code, 2, some (.boolean), 0, 0, 1, 11, 1571, 1570, 67, 93)
def xm_102 : xM := (⟨"RollCutterModel", "must", "(I)V"⟩, prog_14_method_69_code, 2, none, 0, 0, 1, 11, 1567, 1566, 66, 93)
def xm_103 : xM := (⟨"RollCutterModel", "number", "(II)I"⟩, prog_14_method_70_code, 5, some (.int), 0, 0, 2, 11, 1559, 1558, 64, 93)
def xm_104 : xM := (⟨"RollCutterModel", "readOrder", "()V"⟩, prog_14_method_71_code, 4, none, 0, 0, 0, 11, 1551, 1550, 62, 93)
def xm_105 : xM := (⟨"RollCutterModel", "book", "()I"⟩, prog_14_method_72_code, 2, some (.int), 0, 0, 0, 11, 1543, 1541, 1542, 93)
def xm_106 : xM := (⟨"RollCutterModel", "either", "()Z"⟩, prog_14_method_73_code, 2, some (.boolean), 0, 0, 0, 11, 1587, 1586, 70, 93)
def xm_107 : xM := (⟨"RollCutterModel", "both", "()Z"⟩, prog_14_method_74_code, 2, some (.boolean), 0, 0, 0, 11, 1591, 1590, 71, 93)
def xm_108 : xM := (⟨"RollCutterModel", "opens", "(I)Z"⟩, prog_14_method_75_code, 3, some (.boolean), 0, 0, 1, 11, 1599, 1598, 73, 93)
def xm_109 : xM := (⟨"RollCutterModel", "one", "()Z"⟩, prog_14_method_76_code, 5, some (.boolean), 0, 0, 0, 11, 1595, 1594, 72, 93)
def xm_110 : xM := (⟨"RollCutterModel", "word", "()I"⟩, prog_14_method_77_code, 6, some (.int), 0, 0, 0, 11, 1603, 1602, 74, 93)
def xm_111 : xM := (⟨"RollCutterModel", "isSo", "(I)Z"⟩, prog_14_method_79_code, 3, some (.boolean), 0, 0, 1, 11, 1583, 1582, 69, 93)
def xm_112 : xM := (⟨"RollCutterModel", "meant", "(Z)I"⟩, prog_14_method_80_code, 5, some (.int), 0, 0, 1, 11, 1579, 1578, 68, 93)
def xm_113 : xM := (⟨"RollCutterModel", "pick", "()I"⟩, prog_14_method_81_code, 1, some (.int), 0, 0, 0, 11, 1575, 1573, 1574, 93)
def xm_114 : xM := (⟨"RollCutterModel", "first", "()I"⟩, prog_14_method_82_code, 1, some (.int), 0, 0, 0, 11, 1613, 1611, 1612, 93)
def xm_115 : xM := (⟨"RollCutterModel", "readCut", "()V"⟩, prog_14_method_83_code, 6, none, 0, 0, 0, 11, 1621, 1620, 76, 93)
def xm_116 : xM := (⟨"RollCutterModel", "judge", "()I"⟩, prog_14_method_84_code, 2, some (.int), 0, 0, 0, 11, 1617, 1615, 1616, 93)
def xm_117 : xM := (⟨"RollCutterModel", "spell", "()I"⟩, prog_14_method_87_code, 3, some (.int), 0, 0, 0, 11, 1629, 1627, 1628, 93)
def xm_118 : xM := (⟨"RollCutterModel", "paper", "(I)I"⟩, prog_14_method_88_code, 2, some (.int), 0, 0, 1, 11, 1641, 1639, 1640, 93)
def xm_119 : xM := (⟨"RollCutterModel", "unlike", "()I"⟩, prog_14_method_90_code, 5, some (.int), 0, 0, 0, 11, 1650, 1649, 80, 93)
def xm_120 : xM := (⟨"RollCutterModel", "told", "(I)I"⟩, prog_14_method_91_code, 4, some (.int), 0, 0, 1, 11, 1645, 1643, 1644, 93)
def xm_121 : xM := (⟨"RollCutterModel", "image", "()I"⟩, prog_14_method_92_code, 2, some (.int), 0, 0, 0, 11, 1657, 1655, 1656, 93)
def xm_122 : xM := (⟨"RollCutterModel", "undo", "()I"⟩, prog_14_method_93_code, 2, some (.int), 0, 0, 0, 11, 1661, 1659, 1660, 93)
def xm_123 : xM := (⟨"RollCutter$Book", "<init>", "()V"⟩, prog_2_method_1_code, 1, none, 2, 12, 0, 8, 382, 381, 0, 90)
def xm_124 : xM := (⟨"RollCutter$Book", "read", "(LRollCutter$Tape;LRollCutter$Shop;)V"⟩, prog_2_method_2_code, 4, none, 0, 0, 2, 8, 911, 909, 910, 90)
def xm_125 : xM := (⟨"RollCutter$Book", "readEntry", "(LRollCutter$Tape;LRollCutter$Shop;)V"⟩, prog_2_method_3_code, 6, none, 0, 0, 2, 8, 919, 918, 21, 90)
def xm_126 : xM := (⟨"RollCutter$Book", "hasWidthIn", "(I)Z"⟩, prog_2_method_4_code, 3, some (.boolean), 0, 0, 1, 8, 941, 940, 22, 90)
def xm_127 : xM := (⟨"RollCutter$Condition", "<init>", "()V"⟩, prog_3_method_1_code, 1, none, 6, 462, 0, 9, 401, 400, 0, 91)
def xm_128 : xM := (⟨"RollCutter$Condition", "read", "(LRollCutter$Tape;)V"⟩, prog_3_method_2_code, 2, none, 0, 0, 1, 9, 963, 961, 962, 91)
def xm_129 : xM := (⟨"RollCutter$Condition", "readEither", "(LRollCutter$Tape;I)V"⟩, prog_3_method_3_code, 4, none, 0, 0, 2, 9, 968, 967, 23, 91)
def xm_130 : xM := (⟨"RollCutter$Condition", "readBoth", "(LRollCutter$Tape;I)V"⟩, prog_3_method_4_code, 4, none, 0, 0, 2, 9, 972, 971, 24, 91)
def xm_131 : xM := (⟨"RollCutter$Condition", "readSingle", "(LRollCutter$Tape;I)V"⟩, prog_3_method_5_code, 5, none, 0, 0, 2, 9, 976, 975, 25, 91)
def xm_132 : xM := (⟨"RollCutter$Condition", "readCompare", "(LRollCutter$Tape;)V"⟩, prog_3_method_6_code, 6, none, 0, 0, 1, 9, 982, 981, 26, 91)
def xm_133 : xM := (⟨"RollCutter$Condition", "wordBetween", "(LRollCutter$Tape;II)I"⟩, prog_3_method_7_code, 4, some (.int), 0, 0, 3, 9, 987, 986, 0, 91)
def xm_134 : xM := (⟨"RollCutter$Condition", "addStep", "(I)V"⟩, prog_3_method_8_code, 2, none, 0, 0, 1, 9, 1050, 1049, 27, 91)
def xm_135 : xM := (⟨"RollCutter$Master", "<init>", "()V"⟩, prog_4_method_1_code, 1, none, 17, 218, 0, 3, 210, 209, 0, 85)
def xm_136 : xM := (⟨"RollCutter$Master", "hasRow", "(I)Z"⟩, prog_4_method_2_code, 2, some (.boolean), 0, 0, 1, 3, 738, 736, 737, 85)
def xm_137 : xM := (⟨"RollCutter$Master", "solve", "(LRollCutter$Shop;LRollCutter$Search;)V"⟩, prog_4_method_4_code, 6, none, 0, 0, 2, 3, 557, 555, 556, 85)
def xm_138 : xM := (⟨"RollCutter$Master", "begin", "(LRollCutter$Shop;)V"⟩, prog_4_method_5_code, 3, none, 0, 0, 1, 3, 561, 560, 2, 85)
def xm_139 : xM := (⟨"RollCutter$Master", "addUp", "()V"⟩, prog_4_method_6_code, 3, none, 0, 0, 0, 3, 588, 587, 3, 85)
def xm_140 : xM := (⟨"RollCutter$Master", "dearest", "(LRollCutter$Shop;LRollCutter$Search;)I"⟩, prog_4_method_7_code, 4, some (.int), 0, 0, 2, 3, 593, 592, 4, 85)
def xm_141 : xM := (⟨"RollCutter$Master", "amounts", "()J"⟩, prog_4_method_13_code, 4, some (.long), 0, 0, 0, 3, 787, 785, 786, 85)
def xm_142 : xM := (⟨"RollCutter$Master", "unlikePatterns", "()I"⟩, prog_4_method_15_code, 3, some (.int), 0, 0, 0, 3, 1135, 1133, 1134, 85)
def xm_143 : xM := (⟨"RollCutter$Paper", "<init>", "()V"⟩, prog_5_method_1_code, 1, none, 1, 128, 0, 10, 430, 429, 0, 92)
def xm_144 : xM := (⟨"RollCutter$Plan", "<init>", "()V"⟩, prog_6_method_1_code, 1, none, 2, 492, 0, 5, 281, 280, 0, 87)
def xm_145 : xM := (⟨"RollCutter$Plan", "restart", "()V"⟩, prog_6_method_2_code, 1, none, 0, 0, 0, 5, 653, 651, 652, 87)
def xm_146 : xM := (⟨"RollCutter$Planner", "<init>", "()V"⟩, prog_7_method_1_code, 1, none, 8, 1244, 0, 4, 275, 274, 0, 86)
def xm_147 : xM := (⟨"RollCutter$Planner", "chosen", "()LRollCutter$Plan;"⟩, prog_7_method_2_code, 1, some (.object "RollCutter$Plan"), 0, 0, 0, 4, 694, 692, 693, 86)
def xm_148 : xM := (⟨"RollCutter$Planner", "planDown", "(LRollCutter$Shop;LRollCutter$Master;LRollCutter$Search;)V"⟩, prog_7_method_3_code, 6, none, 0, 0, 3, 4, 649, 647, 648, 86)
def xm_149 : xM := (⟨"RollCutter$Planner", "planUp", "(LRollCutter$Shop;LRollCutter$Master;)V"⟩, prog_7_method_6_code, 5, none, 0, 0, 2, 4, 675, 673, 674, 86)
def xm_150 : xM := (⟨"RollCutter$Planner", "layRolls", "(LRollCutter$Master;)V"⟩, prog_7_method_7_code, 6, none, 0, 0, 1, 4, 679, 678, 12, 86)
def xm_151 : xM := (⟨"RollCutter$Search", "<init>", "()V"⟩, prog_8_method_1_code, 1, none, 6, 38, 0, 2, 175, 174, 0, 84)
def xm_152 : xM := (⟨"RollCutter$Search", "restart", "()V"⟩, prog_8_method_2_code, 1, none, 0, 0, 0, 2, 597, 595, 596, 84)
def xm_153 : xM := (⟨"RollCutter$Search", "run", "(LRollCutter$Shop;J)I"⟩, prog_8_method_4_code, 6, some (.int), 0, 0, 2, 2, 606, 604, 605, 84)
def xm_154 : xM := (⟨"RollCutter$Search", "go", "(LRollCutter$Search;IIIJI)V"⟩, prog_8_method_5_code, 9, none, 0, 0, 6, 2, 609, 608, 0, 84)
def xm_155 : xM := (⟨"RollCutter$Shop", "<init>", "()V"⟩, prog_9_method_1_code, 1, none, 3, 73, 0, 1, 115, 114, 0, 83)
def xm_156 : xM := (⟨"RollCutter$Shop", "becomes", "(LRollCutter$Shop;)V"⟩, prog_9_method_2_code, 2, none, 0, 0, 1, 1, 1147, 1145, 1146, 83)
def xm_157 : xM := (⟨"RollCutter$Shop", "hasOrder", "(I)Z"⟩, prog_9_method_3_code, 2, some (.boolean), 0, 0, 1, 1, 507, 505, 506, 83)
def xm_158 : xM := (⟨"RollCutter$Shop", "hasWidth", "(I)Z"⟩, prog_9_method_4_code, 3, some (.boolean), 0, 0, 1, 1, 488, 486, 487, 83)
def xm_159 : xM := (⟨"RollCutter$Shop", "comes", "(II)V"⟩, prog_9_method_5_code, 3, none, 0, 0, 2, 1, 495, 493, 494, 83)
def xm_160 : xM := (⟨"RollCutter$Shop", "widest", "()I"⟩, prog_9_method_6_code, 2, some (.int), 0, 0, 0, 1, 523, 521, 522, 83)
def xm_161 : xM := (⟨"RollCutter$Shop", "widestBelow", "(I)I"⟩, prog_9_method_7_code, 4, some (.int), 0, 0, 1, 1, 527, 525, 526, 83)
def xm_162 : xM := (⟨"RollCutter$Shop", "dueTogether", "()I"⟩, prog_9_method_9_code, 3, some (.int), 0, 0, 0, 1, 857, 855, 856, 83)
def xm_163 : xM := (⟨"RollCutter$Shop", "wantedOrders", "()I"⟩, prog_9_method_10_code, 3, some (.int), 0, 0, 0, 1, 1131, 1129, 1130, 83)
def xm_164 : xM := (⟨"RollCutter$Shop", "countPatterns", "(Z)I"⟩, prog_9_method_14_code, 3, some (.int), 0, 0, 1, 1, 535, 533, 534, 83)
def xm_165 : xM := (⟨"RollCutter$Shop", "offcutsTogether", "()I"⟩, prog_9_method_19_code, 3, some (.int), 0, 0, 0, 1, 886, 884, 885, 83)
def xm_166 : xM := (⟨"RollCutter$Stacks", "<init>", "()V"⟩, prog_10_method_1_code, 1, none, 4, 82, 0, 6, 327, 326, 0, 88)
def xm_167 : xM := (⟨"RollCutter$Stacks", "hasTurn", "(I)Z"⟩, prog_10_method_2_code, 2, some (.boolean), 0, 0, 1, 6, 845, 843, 844, 88)
def xm_168 : xM := (⟨"RollCutter$Stacks", "arrange", "(LRollCutter$Shop;LRollCutter$Plan;)V"⟩, prog_10_method_3_code, 5, none, 0, 0, 2, 6, 698, 696, 697, 88)
def xm_169 : xM := (⟨"RollCutter$Stacks", "findPeaks", "(I)V"⟩, prog_10_method_6_code, 4, none, 0, 0, 1, 6, 710, 709, 15, 88)
def xm_170 : xM := (⟨"RollCutter$Stacks", "follow", "(I)V"⟩, prog_10_method_9_code, 5, none, 0, 0, 1, 6, 730, 729, 18, 88)
def xm_171 : xM := (⟨"RollCutter$Tape", "<init>", "()V"⟩, prog_11_method_1_code, 1, none, 1, 90, 0, 7, 355, 354, 0, 89)
def xm_172 : xM := (⟨"RollCutter$Tape", "append", "(I)V"⟩, prog_11_method_2_code, 2, none, 0, 0, 1, 7, 899, 897, 898, 89)
def xm_173 : xM := (⟨"RollCutter$Tape", "rewind", "()V"⟩, prog_11_method_3_code, 1, none, 0, 0, 0, 7, 915, 913, 914, 89)
def xm_174 : xM := (⟨"RollCutter$Tape", "isFaulty", "()Z"⟩, prog_11_method_4_code, 1, some (.boolean), 0, 0, 0, 7, 931, 929, 930, 89)
def xm_175 : xM := (⟨"RollCutter$Tape", "refuse", "(I)V"⟩, prog_11_method_5_code, 2, none, 0, 0, 1, 7, 923, 921, 922, 89)
def xm_176 : xM := (⟨"RollCutter$Tape", "look", "()I"⟩, prog_11_method_6_code, 1, some (.int), 0, 0, 0, 7, 935, 933, 934, 89)
def xm_177 : xM := (⟨"RollCutter$Tape", "isAtEnd", "()Z"⟩, prog_11_method_7_code, 1, some (.boolean), 0, 0, 0, 7, 954, 952, 953, 89)
def xm_178 : xM := (⟨"RollCutter$Tape", "takes", "(I)Z"⟩, prog_11_method_9_code, 2, some (.boolean), 0, 0, 1, 7, 949, 947, 948, 89)
def xm_179 : xM := (⟨"RollCutter$Tape", "need", "(I)V"⟩, prog_11_method_10_code, 2, none, 0, 0, 1, 7, 945, 943, 944, 89)
def xm_180 : xM := (⟨"RollCutter$Tape", "takeNumber", "(II)I"⟩, prog_11_method_11_code, 7, some (.int), 0, 0, 2, 7, 927, 925, 926, 89)
def xm_181 : xM := (⟨"RollCutter$Tape", "reads", "(Ljava/lang/String;II)Z"⟩, prog_11_method_12_code, 5, some (.boolean), 0, 0, 3, 7, 992, 990, 991, 89)
def xm_182 : xM := (⟨"RollCutter$ToldPlan", "judged", "(LRollCutter$Tape;LRollCutter$Shop;)I"⟩, prog_12_method_2_code, 10, some (.int), 1, 6, 2, 0, 1076, 1075, 0, 102)
def xm_183 : xM := (⟨"RollCutter$ToldPlan", "readPieces", "(LRollCutter$Tape;LRollCutter$Shop;)I"⟩, prog_12_method_3_code, 7, some (.int), 0, 0, 2, 0, 1083, 1082, 0, 102)
def xMs : List xM := [xm_0, xm_1, xm_2, xm_3, xm_4, xm_5, xm_6, xm_7, xm_8, xm_9, xm_10, xm_11, xm_12, xm_13, xm_14, xm_15, xm_16, xm_17, xm_18, xm_19, xm_20, xm_21, xm_22, xm_23, xm_24, xm_25, xm_26, xm_27, xm_28, xm_29, xm_30, xm_31, xm_32, xm_33, xm_34, xm_35, xm_36, xm_37, xm_38, xm_39, xm_40, xm_41, xm_42, xm_43, xm_44, xm_45, xm_46, xm_47, xm_48, xm_49, xm_50, xm_51, xm_52, xm_53, xm_54, xm_55, xm_56, xm_57, xm_58, xm_59, xm_60, xm_61, xm_62, xm_63, xm_64, xm_65, xm_66, xm_67, xm_68, xm_69, xm_70, xm_71, xm_72, xm_73, xm_74, xm_75, xm_76, xm_77, xm_78, xm_79, xm_80, xm_81, xm_82, xm_83, xm_84, xm_85, xm_86, xm_87, xm_88, xm_89, xm_90, xm_91, xm_92, xm_93, xm_94, xm_95, xm_96, xm_97, xm_98, xm_99, xm_100, xm_101, xm_102, xm_103, xm_104, xm_105, xm_106, xm_107, xm_108, xm_109, xm_110, xm_111, xm_112, xm_113, xm_114, xm_115, xm_116, xm_117, xm_118, xm_119, xm_120, xm_121, xm_122, xm_123, xm_124, xm_125, xm_126, xm_127, xm_128, xm_129, xm_130, xm_131, xm_132, xm_133, xm_134, xm_135, xm_136, xm_137, xm_138, xm_139, xm_140, xm_141, xm_142, xm_143, xm_144, xm_145, xm_146, xm_147, xm_148, xm_149, xm_150, xm_151, xm_152, xm_153, xm_154, xm_155, xm_156, xm_157, xm_158, xm_159, xm_160, xm_161, xm_162, xm_163, xm_164, xm_165, xm_166, xm_167, xm_168, xm_169, xm_170, xm_171, xm_172, xm_173, xm_174, xm_175, xm_176, xm_177, xm_178, xm_179, xm_180, xm_181, xm_182, xm_183]
def xTs : List (List xE) := [xT_0, xT_1, xT_2, xT_3, xT_4, xT_5, xT_6, xT_7, xT_8, xT_9, xT_10, xT_11, xT_12, xT_13, xT_14, xT_15, xT_16, xT_17, xT_18, xT_19, xT_20, xT_21, xT_22, xT_23, xT_24, xT_25, xT_26, xT_27, xT_28, xT_29, xT_30, xT_31, xT_32, xT_33, xT_34, xT_35, xT_36, xT_37, xT_38, xT_39, xT_40, xT_41, xT_42, xT_43, xT_44, xT_45, xT_46, xT_47, xT_48, xT_49, xT_50, xT_51, xT_52, xT_53, xT_54, xT_55, xT_56, xT_57, xT_58, xT_59, xT_60, xT_61, xT_62, xT_63, xT_64, xT_65, xT_66, xT_67, xT_68, xT_69, xT_70, xT_71, xT_72, xT_73, xT_74, xT_75, xT_76, xT_77, xT_78, xT_79, xT_80, xT_81, xT_82, xT_83, xT_84, xT_85, xT_86, xT_87, xT_88, xT_89, xT_90, xT_91, xT_92, xT_93, xT_94, xT_95, xT_96, xT_97, xT_98, xT_99, xT_100, xT_101, xT_102, xT_103, xT_104, xT_105, xT_106, xT_107, xT_108, xT_109, xT_110, xT_111, xT_112, xT_113, xT_114, xT_115, xT_116, xT_117, xT_118, xT_119, xT_120, xT_121, xT_122, xT_123, xT_124, xT_125, xT_126, xT_127, xT_128, xT_129, xT_130, xT_131, xT_132, xT_133, xT_134, xT_135, xT_136, xT_137, xT_138, xT_139, xT_140, xT_141, xT_142, xT_143, xT_144, xT_145, xT_146, xT_147, xT_148, xT_149, xT_150, xT_151, xT_152, xT_153, xT_154, xT_155, xT_156, xT_157, xT_158, xT_159, xT_160, xT_161, xT_162, xT_163, xT_164, xT_165, xT_166, xT_167, xT_168, xT_169, xT_170, xT_171, xT_172, xT_173, xT_174, xT_175, xT_176, xT_177, xT_178, xT_179, xT_180, xT_181, xT_182, xT_183]
end
section
/-! an executor over abstract cells: forcing, tables, one step, runs -/
abbrev xC : Type := (Nat × Nat × List (Nat × Value)) ⊕ (Nat × List Value)
abbrev xW : Type := List xC
abbrev xX : Type := List xE × List (Nat × Value) × List Value × xW × Nat × Nat
noncomputable def fN {α : Type} (n : Nat) (k : Nat → α) : α := Nat.rec (motive := fun _ => α) (k 0) (fun m _ => k (Nat.succ m)) n
theorem fN_eq {α : Type} (n : Nat) (k : Nat → α) : fN n k = k n := by cases n <;> rfl
noncomputable def fI {α : Type} (x : Int32) (k : Int32 → α) : α := fN x.toBitVec.toNat fun n => k (Int32.ofNat n)
theorem fI_eq {α : Type} (x : Int32) (k : Int32 → α) : fI x k = k x := by
  have h : Int32.ofNat x.toBitVec.toNat = x := by
    apply Int32.toBitVec_inj.mp
    simp
  unfold fI
  rw [fN_eq, h]
noncomputable def fL {α : Type} (x : Int64) (k : Int64 → α) : α := fN x.toBitVec.toNat fun n => k (Int64.ofNat n)
theorem fL_eq {α : Type} (x : Int64) (k : Int64 → α) : fL x k = k x := by
  have h : Int64.ofNat x.toBitVec.toNat = x := by
    apply Int64.toBitVec_inj.mp
    simp
  unfold fL
  rw [fN_eq, h]
noncomputable def fV {α : Type} (v : Value) (k : Value → α) : α := match v with
  | .int x => fI x fun y => k (.int y)
  | .long x => fL x fun y => k (.long y)
  | v => k v
theorem fV_eq {α : Type} (v : Value) (k : Value → α) : fV v k = k v := by
  cases v with
  | int x => exact fI_eq x fun y => k (.int y)
  | long x => exact fL_eq x fun y => k (.long y)
  | _ => rfl
noncomputable def xnth {α : Type} (l : List α) : Nat → Option α := List.rec (motive := fun _ => Nat → Option α) (fun _ => none) (fun a _ ih n => Nat.rec (motive := fun _ => Option α) (some a) (fun m _ => ih m) n) l
theorem xnth_eq {α : Type} (l : List α) : ∀ n : Nat, xnth l n = l[n]? := by
  induction l with
  | nil => intro n; rfl
  | cons a l ih =>
    intro n
    cases n with
    | zero => rfl
    | succ n => rw [List.getElem?_cons_succ, ← ih n]; rfl
noncomputable def setK {α β : Type} (l : List α) : Nat → α → (List α → β) → β := List.rec (motive := fun _ => Nat → α → (List α → β) → β) (fun _ _ k => k []) (fun a l ih n c k => Nat.rec (motive := fun _ => β) (k (c :: l)) (fun m _ => ih m c fun r => k (a :: r)) n) l
theorem setK_eq {α β : Type} (l : List α) : ∀ (n : Nat) (c : α) (k : List α → β), setK l n c k = k (l.set n c) := by
  induction l with
  | nil => intro n c k; rfl
  | cons a l ih =>
    intro n c k
    cases n with
    | zero => rfl
    | succ n => exact ih n c _
noncomputable def appK {α β : Type} (l : List α) (c : α) : (List α → β) → β := List.rec (motive := fun _ => (List α → β) → β) (fun k => k [c]) (fun a _ ih k => ih fun r => k (a :: r)) l
theorem appK_eq {α β : Type} (l : List α) (c : α) : ∀ k : List α → β, appK l c k = k (l ++ [c]) := by
  induction l with
  | nil => intro k; rfl
  | cons a l ih => intro k; exact ih _
noncomputable def xfil {α β : Type} (f : α → Bool) (l : List α) : (List α → β) → β := List.rec (motive := fun _ => (List α → β) → β) (fun k => k []) (fun a _ ih k => cond (f a) (ih fun r => k (a :: r)) (ih k)) l
theorem xfil_eq {α β : Type} (f : α → Bool) (l : List α) : ∀ k : List α → β, xfil f l k = k (l.filter f) := by
  induction l with
  | nil => intro k; rfl
  | cons a l ih =>
    intro k
    show cond (f a) (xfil f l fun r => k (a :: r)) (xfil f l k) = _
    rw [ih, ih, List.filter_cons]
    cases f a <;> rfl
noncomputable def xlv (l : List (Nat × Value)) (i : Nat) : Option Value := List.rec (motive := fun _ => Option Value) none (fun q _ ih => cond (Nat.beq q.1 i) (some q.2) ih) l
theorem xlv_mem {l : List (Nat × Value)} {i : Nat} {v : Value} (h : xlv l i = some v) : (i, v) ∈ l := by
  induction l with
  | nil => cases h
  | cons q l ih =>
    have h : cond (Nat.beq q.1 i) (some q.2) (xlv l i) = some v := h
    cases hb : Nat.beq q.1 i with
    | true =>
      rw [hb] at h
      have h1 := Nat.eq_of_beq_eq_true hb
      obtain ⟨a, b⟩ := q
      cases h
      cases h1
      exact List.mem_cons_self
    | false =>
      rw [hb] at h
      exact List.mem_cons_of_mem _ (ih h)
noncomputable def xlk (es : List (Nat × Value)) (d : Value) (j : Nat) : Value := List.rec (motive := fun _ => Value) d (fun q _ ih => cond (Nat.beq q.1 j) q.2 ih) es
def xi (ev : Nat → Int32) : Value → Int32
  | .int x => x
  | .float k => ev k.toNat
  | _ => 0
def xl : Value → Int64
  | .long x => x
  | _ => 0
def xr (B : Nat) : Value → Option Nat
  | .ref k => some (B + k)
  | _ => none
def xG (B : Nat) (ev : Nat → Int32) (sa : Nat → Nat) : Value → Value
  | .float k => .int (ev k.toNat)
  | .retAddr k => .ref (sa k)
  | .ref k => .ref (B + k)
  | v => v
def xG2 (B : Nat) (ev : Nat → Int32) (sa : Nat → Nat) (q : Nat × Value) : Nat × Value := (q.1, xG B ev sa q.2)
noncomputable def xAr (B : Nat) (ev : Nat → Int32) (a : Nat × Nat × List (Nat × Value)) : vp_A := (a.2.1, match a.1 with
  | 1 => .inr (.inl fun j => xl (xlk a.2.2 (.long 0) j))
  | 4 => .inr (.inr (.inr (.inr fun j => xr B (xlk a.2.2 .null j))))
  | _ => .inl fun j => xi ev (xlk a.2.2 (.int 0) j))
noncomputable def xCe (B : Nat) (ev : Nat → Int32) (sa : Nat → Nat) (cA : Nat → ClassId) : xC → va_E
  | .inl a => .inl (cA a.1, xAr B ev a)
  | .inr o => .inr (o.1, o.2.map (xG B ev sa))
noncomputable def xWd (B : Nat) (ev : Nat → Int32) (sa : Nat → Nat) (cA : Nat → ClassId) (w : xW) : va_W := w.mapIdx fun k c => (B + k, xCe B ev sa cA c)
def xTy (cA : Nat → ClassId) : List (ClassId × FieldType) := [(cA 0, .int), (cA 1, .long), (cA 2, .byte), (cA 3, .boolean), (cA 4, .array .long)]
theorem xWd_get {B : Nat} {ev : Nat → Int32} {sa : Nat → Nat} {cA : Nat → ClassId} {w : xW} {k : Nat} {c : xC} (h : w[k]? = some c) : (xWd B ev sa cA w)[k]? = some (B + k, xCe B ev sa cA c) := by
  unfold xWd
  rw [List.getElem?_mapIdx, h]
  rfl
theorem xWd_set {B : Nat} {ev : Nat → Int32} {sa : Nat → Nat} {cA : Nat → ClassId} (w : xW) (k : Nat) (c : xC) : (xWd B ev sa cA w).set k (B + k, xCe B ev sa cA c) = xWd B ev sa cA (w.set k c) := by
  unfold xWd
  apply List.ext_getElem?
  intro i
  rw [List.getElem?_mapIdx, List.getElem?_set, List.getElem?_set, List.getElem?_mapIdx, List.length_mapIdx]
  by_cases hk : k = i
  · subst hk
    by_cases hl : k < w.length <;> simp [hl]
  · simp [hk]
theorem xWd_app {B : Nat} {ev : Nat → Int32} {sa : Nat → Nat} {cA : Nat → ClassId} (w : xW) (c : xC) : xWd B ev sa cA (w ++ [c]) = xWd B ev sa cA w ++ [(B + w.length, xCe B ev sa cA c)] := by
  unfold xWd
  rw [List.mapIdx_concat]
theorem xWd_D {B : Nat} {ev : Nat → Int32} {sa : Nat → Nat} {cA : Nat → ClassId} (w : xW) : va_D (fun q => B ≤ q) (xWd B ev sa cA w) := by
  have key : ∀ (k : Nat) (q : Nat × va_E), (xWd B ev sa cA w)[k]? = some q → q.1 = B + k := by
    intro k q h
    unfold xWd at h
    rw [List.getElem?_mapIdx] at h
    cases hw : w[k]? with
    | none => rw [hw] at h; cases h
    | some c => rw [hw] at h; cases h; rfl
  refine ⟨fun i j p q hi hj hpq => ?_, fun k q h => ?_⟩
  · have h1 := key i p hi
    have h2 := key j q hj
    omega
  · have h1 := key k q h
    show B ≤ q.1
    omega
theorem xG_cat (B : Nat) (ev : Nat → Int32) (sa : Nat → Nat) (v : Value) : (xG B ev sa v).category = v.category := by
  cases v <;> rfl
/-- which kind of value: 0 an int, 1 a long, 2 a reference -/
def xkd : Nat → Value → Bool
  | 0, .int _ => true
  | 0, .float _ => true
  | 1, .long _ => true
  | 2, .ref _ => true
  | 2, .retAddr _ => true
  | _, _ => false
def xpc : List xE → Nat
  | [] => 0
  | q :: _ => q.1
def xNx (cs : List xE) (pc : Nat) (k : List xE → Option xX) : Option xX := match cs with
  | [] => none
  | q :: r => cond (Nat.beq q.1 pc) (k (q :: r)) none
theorem xNx_ok {cs : List xE} {pc : Nat} {k : List xE → Option xX} {X : xX} (h : xNx cs pc k = some X) : xpc cs = pc ∧ k cs = some X := by
  cases cs with
  | nil => cases h
  | cons q r =>
    have h : cond (Nat.beq q.1 pc) (k (q :: r)) none = some X := h
    cases hb : Nat.beq q.1 pc with
    | true => rw [hb] at h; exact ⟨Nat.eq_of_beq_eq_true hb, h⟩
    | false => rw [hb] at h; cases h
noncomputable def xJ (tab : List xE) (t : Nat) (k : List xE → Option xX) : Option xX := List.rec (motive := fun _ => Option xX) none (fun q r ih => cond (Nat.beq q.1 t) (k (q :: r)) ih) tab
theorem xJ_ok {t : Nat} {k : List xE → Option xX} {X : xX} : ∀ {tab : List xE}, xJ tab t k = some X → ∃ cs, xpc cs = t ∧ k cs = some X ∧ ∀ q ∈ cs, q ∈ tab
  | [], h => by cases h
  | q :: r, h => by
    have h : cond (Nat.beq q.1 t) (k (q :: r)) (xJ r t k) = some X := h
    cases hb : Nat.beq q.1 t with
    | true => rw [hb] at h; exact ⟨q :: r, Nat.eq_of_beq_eq_true hb, h, fun _ h => h⟩
    | false =>
      rw [hb] at h
      obtain ⟨cs, h1, h2, h3⟩ := xJ_ok h
      exact ⟨cs, h1, h2, fun q hq => List.mem_cons_of_mem _ (h3 q hq)⟩
noncomputable def xPu (en : xE) (cs : List xE) (lv : List (Nat × Value)) (w : xW) (mc ms : Nat) (k : xX → Option xX) (v : Value) (r : List Value) : Option xX := fV v fun v => xNx cs (en.1 + en.2.2.1) fun cs => k (cs, lv, v :: r, w, mc, ms)
theorem xPu_ok {en : xE} {cs : List xE} {lv : List (Nat × Value)} {w : xW} {mc ms : Nat} {k : xX → Option xX} {v : Value} {r : List Value} {X : xX} (h : xPu en cs lv w mc ms k v r = some X) : xpc cs = en.1 + en.2.2.1 ∧ k (cs, lv, v :: r, w, mc, ms) = some X := by
  unfold xPu at h
  rw [fV_eq] at h
  exact xNx_ok h
/-- what is known of a value's number -/
noncomputable def xbd (ivs : List (Int × Int)) : Value → Option (Int × Int)
  | .int x => some (x.toInt, x.toInt)
  | .float k => xnth ivs k.toNat
  | _ => none
def xEv (ivs : List (Int × Int)) (ev : Nat → Int32) : Prop := (∀ (k : Nat) (q : Int × Int), ivs[k]? = some q → q.1 ≤ (ev k).toInt ∧ (ev k).toInt ≤ q.2) ∧ ev 4 = ev 0 &&& 63
def xlt (a b : Int × Int) : Option Bool := cond (decide (a.2 < b.1)) (some true) (cond (decide (b.2 ≤ a.1)) (some false) none)
def xeq (a b : Int × Int) : Option Bool := cond (decide (a.1 = a.2) && (decide (b.1 = b.2) && decide (a.1 = b.1))) (some true) (cond (decide (a.2 < b.1) || decide (b.2 < a.1)) (some false) none)
def xnot : Option Bool → Option Bool
  | some true => some false
  | some false => some true
  | none => none
def xcmp (op : ClassFile.Cond) (a b : Int × Int) : Option Bool := match op with
  | .eq => xeq a b
  | .ne => xnot (xeq a b)
  | .lt => xlt a b
  | .ge => xnot (xlt a b)
  | .gt => xlt b a
  | .le => xnot (xlt b a)
def xrel (op : ClassFile.Cond) (a b : Int) : Prop := match op with
  | .eq => a = b
  | .ne => ¬ a = b
  | .lt => a < b
  | .ge => b ≤ a
  | .gt => b < a
  | .le => a ≤ b
theorem xlt_ok {a b : Int × Int} {x y : Int} (ha : a.1 ≤ x ∧ x ≤ a.2) (hb : b.1 ≤ y ∧ y ≤ b.2) {r : Bool} (h : xlt a b = some r) : (r = true → x < y) ∧ (r = false → y ≤ x) := by
  unfold xlt at h
  by_cases h1 : a.2 < b.1
  · simp [h1] at h; subst h; exact ⟨fun _ => by omega, fun h => by cases h⟩
  · by_cases h2 : b.2 ≤ a.1
    · simp [h1, h2] at h; subst h; exact ⟨fun h => (by cases h), fun _ => by omega⟩
    · simp [h1, h2] at h
theorem xeq_ok {a b : Int × Int} {x y : Int} (ha : a.1 ≤ x ∧ x ≤ a.2) (hb : b.1 ≤ y ∧ y ≤ b.2) {r : Bool} (h : xeq a b = some r) : (r = true → x = y) ∧ (r = false → ¬ x = y) := by
  unfold xeq at h
  by_cases h1 : a.1 = a.2 ∧ b.1 = b.2 ∧ a.1 = b.1
  · obtain ⟨q1, q2, q3⟩ := h1
    rw [decide_eq_true q1, decide_eq_true q2, decide_eq_true q3] at h
    cases h
    exact ⟨fun _ => by omega, fun h => by cases h⟩
  · have h3 : (decide (a.1 = a.2) && (decide (b.1 = b.2) && decide (a.1 = b.1))) = false := by
      simpa using h1
    rw [h3] at h
    by_cases h2 : a.2 < b.1 ∨ b.2 < a.1
    · have h4 : (decide (a.2 < b.1) || decide (b.2 < a.1)) = true := by simpa using h2
      rw [h4] at h
      cases h
      exact ⟨fun h => (by cases h), fun _ => by omega⟩
    · have h4 : (decide (a.2 < b.1) || decide (b.2 < a.1)) = false := by simpa using h2
      rw [h4] at h
      cases h
theorem xnot_ok {o : Option Bool} {r : Bool} (h : xnot o = some r) : o = some (!r) := by
  cases o with
  | none => cases h
  | some b => cases b <;> (cases h; rfl)
theorem xcmp_ok {op : ClassFile.Cond} {a b : Int × Int} {x y : Int} (ha : a.1 ≤ x ∧ x ≤ a.2) (hb : b.1 ≤ y ∧ y ≤ b.2) {r : Bool} (h : xcmp op a b = some r) : (r = true → xrel op x y) ∧ (r = false → ¬ xrel op x y) := by
  cases op with
  | eq => exact xeq_ok ha hb h
  | ne =>
    have q := xeq_ok ha hb (xnot_ok h)
    cases r with
    | true => exact ⟨fun _ => q.2 rfl, fun h => by cases h⟩
    | false => exact ⟨fun h => (by cases h), fun _ z => z (q.1 rfl)⟩
  | lt =>
    have q := xlt_ok ha hb h
    exact ⟨q.1, fun hr => Int.not_lt.mpr (q.2 hr)⟩
  | ge =>
    have q := xlt_ok ha hb (xnot_ok h)
    cases r with
    | true => exact ⟨fun _ => q.2 rfl, fun h => by cases h⟩
    | false => exact ⟨fun h => (by cases h), fun _ => Int.not_le.mpr (q.1 rfl)⟩
  | gt =>
    have q := xlt_ok hb ha h
    exact ⟨q.1, fun hr => Int.not_lt.mpr (q.2 hr)⟩
  | le =>
    have q := xlt_ok hb ha (xnot_ok h)
    cases r with
    | true => exact ⟨fun _ => q.2 rfl, fun h => by cases h⟩
    | false => exact ⟨fun h => (by cases h), fun _ => Int.not_le.mpr (q.1 rfl)⟩
theorem xbd_ok {ivs : List (Int × Int)} {ev : Nat → Int32} (he : xEv ivs ev) {v : Value} {q : Int × Int} (h : xbd ivs v = some q) {B : Nat} {sa : Nat → Nat} : (q.1 ≤ (xi ev v).toInt ∧ (xi ev v).toInt ≤ q.2) ∧ xG B ev sa v = .int (xi ev v) := by
  cases v with
  | int x => cases h; exact ⟨⟨Int.le_refl _, Int.le_refl _⟩, rfl⟩
  | float k =>
    have h : xnth ivs k.toNat = some q := h
    rw [xnth_eq] at h
    exact ⟨he.1 _ _ h, rfl⟩
  | _ => cases h
end
section
/-! what the tables say of the classes -/
/-- the words that ride into every method -/
def xT : List Jvm.Cond := lw_tbl.filter goodWord
def xw (i : Nat) (w : Jvm.Cond) : Bool := decide (lw_tbl[i]? = some w) && goodWord w
theorem xw_mem {i : Nat} {w : Jvm.Cond} (h : xw i w = true) : w ∈ xT := by
  unfold xw at h
  rw [Bool.and_eq_true] at h
  exact List.mem_filter.mpr ⟨List.mem_of_getElem? (of_decide_eq_true h.1), h.2⟩
theorem x_good : ∀ w ∈ xT, (w.onTables && w.keeps) = true ∨ ∃ ty, w = .arrayClass ty := fun w h => good_of_word (List.mem_filter.mp h).2
/-- a value that means itself -/
def xpl : Value → Bool
  | .int _ => true
  | .long _ => true
  | .null => true
  | _ => false
theorem xpl_G {v : Value} (h : xpl v = true) (B : Nat) (ev : Nat → Int32) (sa : Nat → Nat) : xG B ev sa v = v := by
  cases v <;> first | rfl | cases h
def xCOk (q : vw_C) (ty : Nat → FieldType) (fs : List Value) (pl : List Nat) (k : Nat) : Bool := xw (pl.getD k 0) (u_lay q.1 q.2.1 k) && (decide (parseFieldDescriptor (q.2.1 k).2.2.1 = some (ty k)) && (decide (defaultValue (ty k) = vp_V fs k) && (List.range q.2.2).all fun j => decide (k = j ∨ (q.2.1 k).2.1 ≠ (q.2.1 j).2.1)))
def xCO (q : vw_C) (ty : Nat → FieldType) (fs : List Value) (pl : List Nat) (wi : Nat × Nat) : Bool := (List.range q.2.2).all (xCOk q ty fs pl) && (decide (fs.length = q.2.2) && (fs.all xpl && (xw wi.1 (.instantiable q.1 q.2.2) && xw wi.2 (.initialized q.1))))
def xCP (q : vw_C) (ty : Nat → FieldType) (fs : List Value) : Prop := (∀ w ∈ u_ws q.1 q.2.1 q.2.2, w ∈ xT) ∧ (∀ k, k < q.2.2 → parseFieldDescriptor (q.2.1 k).2.2.1 = some (ty k)) ∧ (∀ k, k < q.2.2 → defaultValue (ty k) = vp_V fs k) ∧ (∀ a, a < q.2.2 → ∀ b, b < q.2.2 → a ≠ b → (q.2.1 a).2.1 ≠ (q.2.1 b).2.1) ∧ fs.length = q.2.2 ∧ (∀ v ∈ fs, xpl v = true) ∧ Cond.instantiable q.1 q.2.2 ∈ xT ∧ Cond.initialized q.1 ∈ xT
theorem xCO_ok {q : vw_C} {ty : Nat → FieldType} {fs : List Value} {pl : List Nat} {wi : Nat × Nat} (h : xCO q ty fs pl wi = true) : xCP q ty fs := by
  unfold xCO at h
  simp only [Bool.and_eq_true, List.all_eq_true, decide_eq_true_eq] at h
  obtain ⟨h1, h2, h3, h4, h5⟩ := h
  have key : ∀ k, k < q.2.2 → xCOk q ty fs pl k = true := fun k hk => h1 k (List.mem_range.mpr hk)
  have key2 : ∀ k, k < q.2.2 → xw (pl.getD k 0) (u_lay q.1 q.2.1 k) = true ∧ parseFieldDescriptor (q.2.1 k).2.2.1 = some (ty k) ∧ defaultValue (ty k) = vp_V fs k ∧ ∀ j, j < q.2.2 → (k = j ∨ (q.2.1 k).2.1 ≠ (q.2.1 j).2.1) := by
    intro k hk
    have q1 := key k hk
    unfold xCOk at q1
    simp only [Bool.and_eq_true, List.all_eq_true, decide_eq_true_eq] at q1
    exact ⟨q1.1, q1.2.1, q1.2.2.1, fun j hj => q1.2.2.2 j (List.mem_range.mpr hj)⟩
  refine ⟨fun w hw => ?_, fun k hk => (key2 k hk).2.1, fun k hk => (key2 k hk).2.2.1, fun a ha b hb hab => ((key2 a ha).2.2.2 b hb).resolve_left hab, h2, h3, xw_mem h4, xw_mem h5⟩
  obtain ⟨k, hk, rfl⟩ := List.mem_map.mp hw
  exact xw_mem (key2 k (List.mem_range.mp hk)).1

set_option maxRecDepth 100000 in
theorem xc_0 : xCO (xcl.getD 0 ("", xF_0, 0)) xt_0 (xdf.getD 0 []) (xlp.getD 0 []) (xinst.getD 0 (0, 0)) = true := by decide +kernel
set_option maxRecDepth 100000 in
theorem xc_1 : xCO (xcl.getD 1 ("", xF_0, 0)) xt_1 (xdf.getD 1 []) (xlp.getD 1 []) (xinst.getD 1 (0, 0)) = true := by decide +kernel
set_option maxRecDepth 100000 in
theorem xc_2 : xCO (xcl.getD 2 ("", xF_0, 0)) xt_2 (xdf.getD 2 []) (xlp.getD 2 []) (xinst.getD 2 (0, 0)) = true := by decide +kernel
set_option maxRecDepth 100000 in
theorem xc_3 : xCO (xcl.getD 3 ("", xF_0, 0)) xt_3 (xdf.getD 3 []) (xlp.getD 3 []) (xinst.getD 3 (0, 0)) = true := by decide +kernel
set_option maxRecDepth 100000 in
theorem xc_4 : xCO (xcl.getD 4 ("", xF_0, 0)) xt_4 (xdf.getD 4 []) (xlp.getD 4 []) (xinst.getD 4 (0, 0)) = true := by decide +kernel
set_option maxRecDepth 100000 in
theorem xc_5 : xCO (xcl.getD 5 ("", xF_0, 0)) xt_5 (xdf.getD 5 []) (xlp.getD 5 []) (xinst.getD 5 (0, 0)) = true := by decide +kernel
set_option maxRecDepth 100000 in
theorem xc_6 : xCO (xcl.getD 6 ("", xF_0, 0)) xt_6 (xdf.getD 6 []) (xlp.getD 6 []) (xinst.getD 6 (0, 0)) = true := by decide +kernel
set_option maxRecDepth 100000 in
theorem xc_7 : xCO (xcl.getD 7 ("", xF_0, 0)) xt_7 (xdf.getD 7 []) (xlp.getD 7 []) (xinst.getD 7 (0, 0)) = true := by decide +kernel
set_option maxRecDepth 100000 in
theorem xc_8 : xCO (xcl.getD 8 ("", xF_0, 0)) xt_8 (xdf.getD 8 []) (xlp.getD 8 []) (xinst.getD 8 (0, 0)) = true := by decide +kernel
set_option maxRecDepth 100000 in
theorem xc_9 : xCO (xcl.getD 9 ("", xF_0, 0)) xt_9 (xdf.getD 9 []) (xlp.getD 9 []) (xinst.getD 9 (0, 0)) = true := by decide +kernel
set_option maxRecDepth 100000 in
theorem xc_10 : xCO (xcl.getD 10 ("", xF_0, 0)) xt_10 (xdf.getD 10 []) (xlp.getD 10 []) (xinst.getD 10 (0, 0)) = true := by decide +kernel
set_option maxRecDepth 100000 in
theorem xc_11 : xCO (xcl.getD 11 ("", xF_0, 0)) xt_11 (xdf.getD 11 []) (xlp.getD 11 []) (xinst.getD 11 (0, 0)) = true := by decide +kernel
theorem x_cls : ∀ (ci : Nat) (q : vw_C), xcl[ci]? = some q → ∃ (ty : Nat → FieldType) (fs : List Value), xtt[ci]? = some ty ∧ xdf[ci]? = some fs ∧ xCP q ty fs := by
  intro ci q h
  match ci, h with
  | 0, h => cases h; exact ⟨_, _, rfl, rfl, xCO_ok xc_0⟩
  | 1, h => cases h; exact ⟨_, _, rfl, rfl, xCO_ok xc_1⟩
  | 2, h => cases h; exact ⟨_, _, rfl, rfl, xCO_ok xc_2⟩
  | 3, h => cases h; exact ⟨_, _, rfl, rfl, xCO_ok xc_3⟩
  | 4, h => cases h; exact ⟨_, _, rfl, rfl, xCO_ok xc_4⟩
  | 5, h => cases h; exact ⟨_, _, rfl, rfl, xCO_ok xc_5⟩
  | 6, h => cases h; exact ⟨_, _, rfl, rfl, xCO_ok xc_6⟩
  | 7, h => cases h; exact ⟨_, _, rfl, rfl, xCO_ok xc_7⟩
  | 8, h => cases h; exact ⟨_, _, rfl, rfl, xCO_ok xc_8⟩
  | 9, h => cases h; exact ⟨_, _, rfl, rfl, xCO_ok xc_9⟩
  | 10, h => cases h; exact ⟨_, _, rfl, rfl, xCO_ok xc_10⟩
  | 11, h => cases h; exact ⟨_, _, rfl, rfl, xCO_ok xc_11⟩
  | ci + 12, h => cases h
end
section
/-! the links of an instruction -/
abbrev xa1 (en : xE) : Nat := en.2.2.2.1
abbrev xa2 (en : xE) : Nat := en.2.2.2.2.1
abbrev xa3 (en : xE) : Nat := en.2.2.2.2.2
abbrev xmy (q : xM) : MethodName := q.1
abbrev xmb (q : xM) : ByteArray := q.2.1
abbrev xml (q : xM) : Nat := q.2.2.1
abbrev xmr (q : xM) : Option FieldType := q.2.2.2.1
abbrev xmc (q : xM) : Nat := q.2.2.2.2.1
abbrev xms (q : xM) : Nat := q.2.2.2.2.2.1
abbrev xmn (q : xM) : Nat := q.2.2.2.2.2.2.1
abbrev xmk (q : xM) : Nat := q.2.2.2.2.2.2.2.1
abbrev xmp (q : xM) : Nat × Nat × Nat × Nat := q.2.2.2.2.2.2.2.2
def xln (i : ClassFile.Instr) (len : Nat) : Bool := match i with
  | .bipush _ => Nat.beq len 2
  | .iload _ => Nat.beq len 2
  | .lload _ => Nat.beq len 2
  | .aload _ => Nat.beq len 2
  | .istore _ => Nat.beq len 2
  | .lstore _ => Nat.beq len 2
  | .astore _ => Nat.beq len 2
  | .ldc _ => Nat.beq len 2
  | .newarray _ => Nat.beq len 2
  | .sipush _ => Nat.beq len 3
  | .ldc_w _ => Nat.beq len 3
  | .ldc2_w _ => Nat.beq len 3
  | .goto _ => Nat.beq len 3
  | .getfield _ => Nat.beq len 3
  | .putfield _ => Nat.beq len 3
  | .new _ => Nat.beq len 3
  | .checkcast _ => Nat.beq len 3
  | .iinc _ _ => Nat.beq len 3
  | .invokevirtual _ => Nat.beq len 3
  | .invokespecial _ => Nat.beq len 3
  | .invokestatic _ => Nat.beq len 3
  | .ifCond _ _ => Nat.beq len 3
  | .if_icmp _ _ => Nat.beq len 3
  | .multianewarray _ _ => Nat.beq len 4
  | .tableswitch _ _ _ _ => true
  | _ => Nat.beq len 1
def xtc (n : Nat) (ty : FieldType) : Bool := match n, ty with
  | 0, .int => true
  | 1, .long => true
  | 3, .boolean => true
  | 4, .object _ => true
  | 4, .array _ => true
  | _, _ => false
def xFl (own : String) (ix : Nat) (en : xE) : Bool := match xcl[xa2 en / 100]? with
  | some q => decide (xa2 en % 100 < q.2.2) && (decide ((q.2.1 (xa2 en % 100)).1 = q.1) && xw (xa1 en) (.fieldLink own ix q.1 (q.2.1 (xa2 en % 100)).2.1 (q.2.1 (xa2 en % 100)).2.2.1))
  | none => false
def xFt (own : String) (ini : Bool) (en : xE) : Bool := match xcl[xa2 en / 100]?, xtt[xa2 en / 100]? with
  | some q, some ty => xtc (xa3 en) (ty (xa2 en % 100)) && (!(q.2.1 (xa2 en % 100)).2.2.2 || (ini && decide (own = q.1)))
  | _, _ => false
/-- words that aren't carried by themselves -/
def xNb : Jvm.Cond → Bool
  | .methodLinkNest .. => true
  | .castable .. => true
  | _ => false
def xN : List Jvm.Cond := lw_tbl.filter xNb
def xwN (i : Nat) (w : Jvm.Cond) : Bool := decide (lw_tbl[i]? = some w) && xNb w
theorem xwN_mem {i : Nat} {w : Jvm.Cond} (h : xwN i w = true) : w ∈ xN := by
  unfold xwN at h
  rw [Bool.and_eq_true] at h
  exact List.mem_filter.mpr ⟨List.mem_of_getElem? (of_decide_eq_true h.1), h.2⟩
def xstr : List (Nat × String) := [(96, "used"), (102, "waste"), (104, "times"), (106, "pieces"), (108, "full")]
def yLen : MethodName := ⟨"java/lang/String", "length", "()I"⟩
def xMk (q : xM) : Bool := xw (xmp q).1 (.code (xmy q) (xmb q) (xml q) (xmr q)) && (decide ((xmy q).cls ≠ "java/lang/invoke/MethodHandle") && (decide ((xmy q).cls ≠ "java/lang/invoke/VarHandle") && (decide ((parseMethodDescriptor (xmy q).desc).map (fun d => d.parameters.length) = some (xmn q)) && (Nat.ble (xml q) 21 && xw (xmp q).2.2.2 (.initialized (xmy q).cls)))))
def xMo (q : xM) : Bool := decide ((xcl[xmk q]?).map (fun z => z.1) = some (xmy q).cls) && xw (xmp q).2.1 (.instanceMethod (xmy q))
def xIt (own : String) (ix : Nat) (en : xE) (q : xM) (t : Nat) : Bool := match t with
    | 0 => xw (xa1 en) (.methodLink own ix (xmy q)) && (xMo q && xw (xmp q).2.2.1 (.selects (xmy q).cls (xmy q) (xmy q)))
    | 1 => xwN (xa1 en) (.methodLinkNest own ix (xmy q) "RollCutter") && (xMo q && xw (xmp q).2.2.1 (.selects (xmy q).cls (xmy q) (xmy q)))
    | 2 => xw (xa1 en) (.methodLink own ix (xmy q)) && xw (xmp q).2.1 (.static (xmy q))
    | 3 => xwN (xa1 en) (.methodLinkNest own ix (xmy q) "RollCutter") && xw (xmp q).2.1 (.static (xmy q))
    | 4 => xw (xa1 en) (.methodLink own ix (xmy q)) && (xMo q && (decide ((xmy q).name = "<init>") && decide (xmr q = none)))
    | 5 => xwN (xa1 en) (.methodLinkNest own ix (xmy q) "RollCutter") && (xMo q && (decide ((xmy q).name = "<init>") && decide (xmr q = none)))
    | _ => false
def xIv (own : String) (ix : Nat) (en : xE) (t : Nat) : Bool := match xMs[xa3 en]? with
  | none => false
  | some q => xMk q && xIt own ix en q t
def xat : Nat → ArrayType → Bool
  | 0, .int => true
  | 1, .long => true
  | 2, .byte => true
  | 3, .boolean => true
  | _, _ => false
def xLv (own : String) (ix : Nat) (en : xE) : Bool := match xa2 en with
  | 0 => xIv own ix en 0
  | 1 => xIv own ix en 1
  | 10 => xw (xa1 en) (.methodLink own ix ⟨"[I", "clone", "()Ljava/lang/Object;"⟩) && (xw 632 (.sameMethod "[I" "java/lang/Object" "clone" "()Ljava/lang/Object;") && (xw 633 (.native ⟨"java/lang/Object", "clone", "()Ljava/lang/Object;"⟩) && (xw 634 (.instanceMethod ⟨"java/lang/Object", "clone", "()Ljava/lang/Object;"⟩) && (xw 635 (.selects "[I" ⟨"[I", "clone", "()Ljava/lang/Object;"⟩ ⟨"java/lang/Object", "clone", "()Ljava/lang/Object;"⟩) && xwN 636 (.castable "[I" "java/lang/Cloneable")))))
  | 12 => xw (xa1 en) (.methodLink own ix yLen)
  | 99 => true
  | _ => false
def xLs (own : String) (ix : Nat) (en : xE) : Bool := match xa2 en with
  | 2 => xIv own ix en 2
  | 3 => xIv own ix en 3
  | 7 => xw (xa1 en) (.methodLink own ix Lib.Math.max.name) && (xw 688 (.static Lib.Math.max.name) && (xw 94 (.initialized "java/lang/Math") && xw 689 (.code Lib.Math.max.name Lib.Math.max.code 2 (some .int))))
  | 8 => xw (xa1 en) (.methodLink own ix Lib.MathLoose.abs_long.x) && (xw 763 (.static Lib.MathLoose.abs_long.x) && (xw 94 (.initialized "java/lang/Math") && xw 764 (.code Lib.MathLoose.abs_long.x Lib.MathLoose.abs_long.code 2 (some .long))))
  | 9 => xw (xa1 en) (.methodLink own ix arraycopyName) && (xw 641 (.native arraycopyName) && (xw 640 (.static arraycopyName) && xw 96 (.initialized "java/lang/System")))
  | 11 => xw (xa1 en) (.methodLink own ix Lib.Math.min.name) && (xw 541 (.static Lib.Math.min.name) && (xw 94 (.initialized "java/lang/Math") && xw 542 (.code Lib.Math.min.name Lib.Math.min.code 2 (some .int))))
  | 99 => true
  | _ => false
def xLp (own : String) (ix : Nat) (en : xE) : Bool := match xa2 en with
  | 4 => xIv own ix en 4
  | 5 => xIv own ix en 5
  | 6 => xw (xa1 en) (.methodLink own ix objectInit) && (xw 109 (.instanceMethod objectInit) && xw 110 (.code objectInit ⟨#[0xb1]⟩ 1 none))
  | _ => false
def xLk (own : String) (ini : Bool) (en : xE) : Bool := match en.2.1 with
  | .getfield ix => xFl own ix en
  | .putfield ix => xFl own ix en && xFt own ini en
  | .new ix => (match xcl[xa2 en]? with
    | some q => xw (xa1 en) (.classLink own ix q.1)
    | none => false)
  | .newarray t => xat (xa2 en) t && xw (xa1 en) (.arrayClass (newarray.typeOf t))
  | .multianewarray ix n => Nat.beq n 2 && xw (xa1 en) (.classLink own ix "[[J")
  | .checkcast ix => xw (xa1 en) (.classLink own ix "[I")
  | .ldc ix => cond (Nat.beq (xa3 en) 1) (Nat.beq (xa2 en) 9 || (decide (own = "RollCutter$Condition") && decide ((xstr[xa2 en]?).map (fun z => z.1) = some ix))) (xw (xa1 en) (.constant own ix (Int32.ofNat (xa2 en))))
  | .ldc_w ix => cond (Nat.beq (xa3 en) 1) (Nat.beq (xa2 en) 9) (xw (xa1 en) (.constant own ix (Int32.ofNat (xa2 en))))
  | .ldc2_w ix => xw (xa1 en) (.constantLong own ix (Int64.ofNat (xa2 en)))
  | .invokevirtual ix => xLv own ix en
  | .invokestatic ix => xLs own ix en
  | .invokespecial ix => xLp own ix en
  | _ => true
def xini (q : xM) : Bool := decide ((xmy q).name = "<init>")
def xOK (own : String) (ini : Bool) (cc : ByteArray) (en : xE) : Prop := decode cc en.1 = .ok (en.2.1, en.2.2.1) ∧ xln en.2.1 en.2.2.1 = true ∧ xLk own ini en = true
end
section
/-! an array of arrays: multianewarray with two counts (the walk goes by an invariant over the states of the machine's own loop) -/
section MZ
theorem mz_over {args : Array Value} {s : State} {t : FieldType} (h : (Cond.arrayOver (.array t)).before args s = true) : ∃ (comp cA : ClassId) (kA : Class), s.vm.findClass (FieldType.array t).toString = some comp ∧ s.vm.classes[cA]? = some kA ∧ kA.kind = .array comp (.array t) ∧ s.vm.findClass ("[" ++ (FieldType.array t).toString) = some cA := by
  simp only [Cond.before, Cond.holds, Cond.value, beq_iff_eq] at h
  cases hc : s.vm.findClass (FieldType.array t).toString with
  | none => simp [hc] at h
  | some comp =>
    simp only [hc, Option.bind_some, Option.bind_eq_some_iff, Option.map_eq_some_iff] at h
    obtain ⟨cA, hi, kA, hk, hb⟩ := h
    have hp := (Array.findIdx?_eq_some_iff_getElem.mp hi).2.1
    rw [(Array.getElem?_eq_some_iff.mp hk).2] at hp
    cases hkind : kA.kind with
    | array component ty =>
      rw [hkind] at hb hp
      simp at hb hp
      exact ⟨comp, cA, kA, rfl, hk, by rw [hkind, hp, hb.1], hb.2⟩
    | _ => rw [hkind] at hb; simp at hb
/-- the class of arrays of long arrays is there -/
def mz_F (U : State) : Prop := ∃ (comp cA : ClassId) (kA : Class), U.vm.findClass (FieldType.array .long).toString = some comp ∧ U.vm.classes[cA]? = some kA ∧ kA.kind = .array comp (.array .long) ∧ U.vm.findClass ("[" ++ (FieldType.array .long).toString) = some cA
theorem mz_F.moved {u U : State} (hvm : u.vm.Alike U.vm) (h : mz_F u) : mz_F U := by
  obtain ⟨comp, cA, kA, h1, h2, h3, h4⟩ := h
  obtain ⟨k', hk', he⟩ := hvm.2.2 _ _ h2
  exact ⟨comp, cA, k', by rw [hvm.findClass]; exact h1, hk', by rw [he]; exact h3, by rw [hvm.findClass]; exact h4⟩
theorem mz_new {E : CtlPost} {e : Env} {d : Bool} {acts : List Action} {s : State} {cA comp : ClassId} {k : Class} {ty : FieldType} {len : Nat} {v0 : Value} (hk : s.vm.classes[cA]? = some k) (hkind : k.kind = .array comp ty) (hl : ¬ len > e.platform.arrayLengthLimit) (hh : ¬ len * componentBytes ty > e.platform.maxHeapBytes) (hf : fits ty v0 = true) (hd : v0.isDefault = true) {Q : Addr → Pre} (h1 : s.heap.size < e.platform.maxCells) (h2 : s.slotsUsed + len ≤ e.platform.maxSlots) (hq : Q s.heap.size d acts (s.pushCell { cls := cA, slots := Array.replicate len v0, vm := .none })) : wp (Jvm.newArray cA len v0) Q E e d acts s := by
  have ha : allocActs (Array.replicate len v0) s.heap.size acts = acts := by
    unfold allocActs
    rw [if_pos (by rw [Array.all_replicate]; split <;> simp [hd])]
  have hz : ∀ i v, (Array.replicate len v0)[i]? = some v → s.fitsSlot cA .none i v = true := by
    intro i v hv
    simp only [Array.getElem?_replicate] at hv
    split at hv
    · cases hv; simp [State.fitsSlot, State.slotType?, hk, hkind, hf]
    · cases hv
  simp only [Jvm.newArray, Jvm.arrayFits, wp_bind', Jvm.W.ask, Jvm.W.ite, hl, if_false, wp_pure', Jvm.W.theClass, hk, hkind, hh, Jvm.W.alloc, Jvm.W.stop, Option.some.injEq, exists_eq_left', Array.size_replicate, ha]
  rw [if_neg (by omega)]
  exact ⟨h1, h2, hz, hq⟩
/-- behind so many inner arrays -/
def mz_H (H0 H : Heap) (cA comp : ClassId) (N M i : Nat) : Prop := H.size = H0.size + 1 + i ∧ (∀ q, q < H0.size → H[q]? = H0[q]?) ∧ (∃ os : Array Value, H[H0.size]? = some { cls := cA, slots := os, vm := .none } ∧ os.size = N ∧ ∀ j, j < N → os[j]? = some (if j < i then .ref (H0.size + 1 + j) else .null)) ∧ ∀ j, j < i → H[H0.size + 1 + j]? = some { cls := comp, slots := Array.replicate M (.long 0), vm := .none }
theorem mz_H0 {H0 : Heap} {cA comp : ClassId} {N M : Nat} : mz_H H0 (H0.push { cls := cA, slots := Array.replicate N .null, vm := .none }) cA comp N M 0 := by
  refine ⟨by simp, fun q hq => ?_, ⟨Array.replicate N .null, by simp, by simp, fun j hj => by simp [hj]⟩, fun j hj => absurd hj (Nat.not_lt_zero _)⟩
  rw [Array.getElem?_push, if_neg (Nat.ne_of_lt hq)]
theorem mz_Hs {H0 H : Heap} {cA comp : ClassId} {N M i : Nat} {o : Cell} (h : mz_H H0 H cA comp N M i) (hi : i < N) (ho : H[H0.size]? = some o) : mz_H H0 ((H.push { cls := comp, slots := Array.replicate M (.long 0), vm := .none }).setIfInBounds H0.size (o.setSlot i (.ref (H0.size + 1 + i)))) cA comp N M (i + 1) := by
  obtain ⟨z, hk, ⟨os, ho', c3, c4⟩, hin⟩ := h
  cases Option.some.inj (ho.symm.trans ho')
  refine ⟨by simp [z]; omega, fun q hq => ?_, ⟨os.setIfInBounds i (.ref (H0.size + 1 + i)), ?_, by simp [c3], fun j hj => ?_⟩, fun j hj => ?_⟩
  · rw [Array.getElem?_setIfInBounds_ne (by omega), Array.getElem?_push, if_neg (by omega)]
    exact hk q hq
  · rw [Array.getElem?_setIfInBounds_self_of_lt (by simp [z]; omega)]
    rfl
  · simp only [Array.getElem?_setIfInBounds]
    by_cases e : i = j
    · subst e; simp [c3, hj]
    · rw [if_neg e, c4 j hj]
      by_cases hj2 : j < i
      · rw [if_pos hj2, if_pos (by omega)]
      · rw [if_neg hj2, if_neg (by omega)]
  · rw [Array.getElem?_setIfInBounds_ne (by omega), Array.getElem?_push]
    by_cases e : j = i
    · subst e
      rw [if_pos (by omega)]
    · rw [if_neg (by omega)]
      exact hin j (by omega)
/-- the machine's states between the inner arrays: each reads the outer array as it lies there -/
def mz_U (T0 : State) (h0 : Nat) (cA comp : ClassId) (N M : Nat) (o0 : Cell) : Nat → State
  | 0 => T0.pushCell { cls := cA, slots := Array.replicate N .null, vm := .none }
  | i + 1 => ((mz_U T0 h0 cA comp N M o0 i).pushCell { cls := comp, slots := Array.replicate M (.long 0), vm := .none }).setCell h0 ((((mz_U T0 h0 cA comp N M o0 i).heap[h0]?).getD o0).setSlot i (.ref (h0 + 1 + i)))
theorem mz_chain {p : Program} {l : Launch} {e : Env} {R : Room} {s : State} {m : MethodId} {args : Array Value} {below : List Frame} {meth : Method} {c : Code} {T : State} {locs : List Loc} {cells slots : Nat} (X : Stand p l e R s m args below meth c T locs cells slots) (cA comp : ClassId) (N M : Nat) (o0 : Cell) : ∀ i : Nat, i ≤ N → Stand p l e R s m args below meth c (mz_U T T.heap.size cA comp N M o0 i) (locs ++ (List.range i).map fun j => ⟨T.heap.size, j⟩) (cells + 1 + i) (slots + N + i * M) ∧ mz_H T.heap (mz_U T T.heap.size cA comp N M o0 i).heap cA comp N M i
  | 0, _ => ⟨by simpa [mz_U] using X.pushed { cls := cA, slots := Array.replicate N .null, vm := .none }, mz_H0⟩
  | i + 1, hi => by
    obtain ⟨XU, hH⟩ := mz_chain X cA comp N M o0 i (by omega)
    obtain ⟨os, ho, -⟩ := hH.2.2.1
    generalize ({ cls := cA, slots := os, vm := .none } : Cell) = o at ho
    have hz := hH.1
    have e0 : mz_U T T.heap.size cA comp N M o0 (i + 1) = ((mz_U T T.heap.size cA comp N M o0 i).pushCell { cls := comp, slots := Array.replicate M (.long 0), vm := .none }).setCell T.heap.size (o.setSlot i (.ref (T.heap.size + 1 + i))) := by
      show ((mz_U T T.heap.size cA comp N M o0 i).pushCell _).setCell T.heap.size ((((mz_U T T.heap.size cA comp N M o0 i).heap[T.heap.size]?).getD o0).setSlot i _) = _
      rw [ho]; rfl
    have hlt9 : T.heap.size < (mz_U T T.heap.size cA comp N M o0 i).heap.size := by omega
    have hcell : ((mz_U T T.heap.size cA comp N M o0 i).pushCell { cls := comp, slots := Array.replicate M (.long 0), vm := .none }).heap[T.heap.size]? = some o := by
      rw [State.heap_pushCell_of_lt (h := hlt9)]; exact ho
    rw [e0]
    refine ⟨?_, mz_Hs hH (by omega) ho⟩
    have h := (XU.pushed { cls := comp, slots := Array.replicate M (.long 0), vm := .none }).stored hcell i (.ref (T.heap.size + 1 + i))
    have e1 : ({ cls := comp, slots := Array.replicate M (.long 0), vm := .none } : Cell).slots.size = M := by simp
    rw [e1] at h
    have e2 : (locs ++ (List.range (i + 1)).map fun j => (⟨T.heap.size, j⟩ : Loc)) = (locs ++ (List.range i).map fun j => (⟨T.heap.size, j⟩ : Loc)) ++ [⟨T.heap.size, i⟩] := by simp [List.range_succ, List.append_assoc]
    have e3 : slots + N + (i + 1) * M = slots + N + i * M + M := by rw [Nat.succ_mul]; omega
    rw [e2, e3]
    exact h
set_option maxHeartbeats 1000000 in
theorem mz_stand {p : Program} {l : Launch} {e : Env} {R : Room} {s : State} {m : MethodId} {args : Array Value} {below : List Frame} {meth : Method} {c : Code} {T : State} {locs : List Loc} {cells slots : Nat} (X : Stand p l e R s m args below meth c T locs cells slots) (hexec : p.tables.exec = Jvm.exec) {own : String} {index : Nat} (hown : s.vm.findClass own = some m.cls) (hlink : (Cond.classLink own index ("[" ++ (FieldType.array .long).toString)).before args s = true) (hover : mz_F s) (harr : (Cond.arrayClass .long).before args s = true)
    {g : JFrame} (hg : g.method = m) (hdg : decode c.code g.pc = .ok (.multianewarray index 2, 4)) {n k : Int32} {rest : List Value} (hstack : g.stack = .int k :: .int n :: rest) (hn : ¬ n < 0) (hk : ¬ k < 0) (hb1 : n.toNatClampNeg ≤ 1000) (hb2 : k.toNatClampNeg ≤ 1000) (hcells : cells + (1 + n.toNatClampNeg) ≤ R.cells) (hslots : slots + (n.toNatClampNeg + n.toNatClampNeg * k.toNatClampNeg) ≤ R.slots) :
    ∃ (cA comp : ClassId), s.vm.findClass ("[" ++ (FieldType.array .long).toString) = some cA ∧ s.vm.findClass (FieldType.array .long).toString = some comp ∧ ∃ U : State, Stand p l e R s m args below meth c U (locs ++ (List.range n.toNatClampNeg).map fun j => ⟨T.heap.size, j⟩) (cells + 1 + n.toNatClampNeg) (slots + n.toNatClampNeg + n.toNatClampNeg * k.toNatClampNeg) ∧ mz_H T.heap U.heap cA comp n.toNatClampNeg k.toNatClampNeg n.toNatClampNeg ∧ ∀ target, Steps p.tables e below (U.setTop { g with pc := g.pc + 4, stack := .ref T.heap.size :: rest }) target → Steps p.tables e below (T.setTop g) target := by
  subst hg
  have hpl : e.platform.magicAccessors = ({} : Platform).magicAccessors := by rw [X.admits.platform]
  obtain ⟨comp, cA, kA, hcomp, hkA, hkindA, hnameA⟩ := hover
  obtain ⟨comp', kC, cc, hcomp', hkC, hkindC⟩ := Cond.arrayClass_spec harr
  cases Option.some.inj (hcomp'.symm.trans hcomp)
  obtain ⟨c0, hfc0, hcl⟩ := Cond.classLink_spec hown hlink e.platform hpl
  cases hnameA.symm.trans hfc0
  obtain ⟨hg₁, hwarm₁, hready₁⟩ := State.classEntry (e := e) X.warmed hcl
  generalize T.vm.noted g.method.cls index (.cls cA) = vm₁ at hg₁ hwarm₁ hready₁
  have X₁ := X.noted hwarm₁
  have ch := mz_chain X₁ cA comp n.toNatClampNeg k.toNatClampNeg { cls := cA, slots := #[], vm := .none }
  generalize hUf : mz_U (T.setVm vm₁) (T.setVm vm₁).heap.size cA comp n.toNatClampNeg k.toNatClampNeg { cls := cA, slots := #[], vm := .none } = Uf at ch
  have ch : ∀ i : Nat, i ≤ n.toNatClampNeg → Stand p l e R s g.method args below meth c (Uf i) (locs ++ (List.range i).map fun j => ⟨T.heap.size, j⟩) (cells + 1 + i) (slots + n.toNatClampNeg + i * k.toNatClampNeg) ∧ mz_H T.heap (Uf i).heap cA comp n.toNatClampNeg k.toNatClampNeg i := ch
  refine ⟨cA, comp, hnameA, hcomp, Uf n.toNatClampNeg, (ch _ (Nat.le_refl _)).1, (ch _ (Nat.le_refl _)).2, fun target hall => ?_⟩
  have kinds : ∀ U : State, s.WarmedH U.vm → (∃ kA₁, U.vm.classes[cA]? = some kA₁ ∧ kA₁.kind = .array comp (.array .long)) ∧ ∃ kC₁, U.vm.classes[comp]? = some kC₁ ∧ kC₁.kind = .array cc .long := by
    intro U hU
    obtain ⟨kA₁, hkA₁, heA⟩ := hU.alike.2.2 _ _ hkA
    obtain ⟨kC₁, hkC₁, heC⟩ := hU.alike.2.2 _ _ hkC
    exact ⟨⟨kA₁, hkA₁, by rw [heA]; exact hkindA⟩, kC₁, hkC₁, by rw [heC]; exact hkindC⟩
  have hl1 : ¬ n.toNatClampNeg > e.platform.arrayLengthLimit := by rw [Launch.admits_arrayLengthLimit X.admits]; omega
  have hh1 : ¬ n.toNatClampNeg * componentBytes (.array .long) > e.platform.maxHeapBytes := by
    rw [Launch.admits_maxHeapBytes X.admits]; show ¬ n.toNatClampNeg * 4 > 536870912; omega
  have hl2 : ¬ k.toNatClampNeg > e.platform.arrayLengthLimit := by rw [Launch.admits_arrayLengthLimit X.admits]; omega
  have hh2 : ¬ k.toNatClampNeg * componentBytes .long > e.platform.maxHeapBytes := by
    rw [Launch.admits_maxHeapBytes X.admits]; show ¬ k.toNatClampNeg * 8 > 536870912; omega
  jvm_step X.here [hexec, hdg]
  simp only [multianewarray.sem, wp_bind', Jvm.W.resolveClassAt_links (State.method?_setTop g X.here.top) hg₁]
  rw [Jvm.W.popN, if_neg (by decide)]
  refine ⟨g, State.topJava?_setTop' (s := T.setVm vm₁) g X.here.top, [.int n, .int k], rest, rfl, hstack, ?_⟩
  simp only [List.mapM_cons, List.mapM_nil, wp_bind', wp_pure']
  have eS : ((T.setTop g).setVm vm₁).setTop { g with stack := rest } = (T.setVm vm₁).setTop { g with stack := rest } := by
    show ((T.setVm vm₁).setTop g).setTop _ = _
    rw [State.setTop_setTop]
  rw [eS]
  generalize hgf : ({ g with stack := rest } : JFrame) = gf
  obtain ⟨⟨kA₁, hkA₁, hkindA₁⟩, -⟩ := kinds (T.setVm vm₁) hwarm₁
  have hfind : ([k].find? (· < 0)) = none := by simp [hk]
  obtain ⟨hr1, hr2⟩ := X.roomAbove hcells hslots
  rw [multianewarray.make]
  simp only [wp_bind', Jvm.W.ite, hn, if_false, wp_pure', Jvm.W.theClass]
  refine ⟨kA₁, hkA₁, ?_⟩
  simp only [hkindA₁, wp_bind']
  refine mz_new (s := (T.setVm vm₁).setTop gf) (v0 := .null) hkA₁ hkindA₁ hl1 hh1 rfl rfl (by show T.heap.size < _; omega) (by show T.slotsUsed + _ ≤ _; omega) ?_
  simp only [hfind]
  rw [ite_self, wp_bind', Std.Legacy.Range.forIn_eq_forIn_range']
  have hsz : ([:n.toNatClampNeg] : Std.Legacy.Range).size = n.toNatClampNeg := by simp [Std.Legacy.Range.size]
  rw [hsz]
  refine wp_forIn_inv (fun todo s' => ∃ i : Nat, i ≤ n.toNatClampNeg ∧ todo = List.range' i (n.toNatClampNeg - i) ∧ s' = (Uf i).setTop gf) _ _ ⟨0, Nat.zero_le _, rfl, by rw [← hUf]; rfl⟩ ?_ ?_
  · rintro x todo s' d' acts' Q' ⟨i, hi, hl, rfl⟩ hnext
    have hlt : i < n.toNatClampNeg := by
      rcases Nat.lt_or_ge i n.toNatClampNeg with h | h
      · exact h
      · rw [show n.toNatClampNeg - i = 0 from by omega] at hl; simp at hl
    rw [show n.toNatClampNeg - i = (n.toNatClampNeg - (i + 1)) + 1 from by omega, List.range'_succ] at hl
    obtain ⟨hx, hrest⟩ := List.cons.inj hl
    subst hx
    obtain ⟨XU, hH⟩ := ch x hi
    have hU1 : Uf (x + 1) = ((Uf x).pushCell { cls := comp, slots := Array.replicate k.toNatClampNeg (.long 0), vm := .none }).setCell T.heap.size ((((Uf x).heap[T.heap.size]?).getD { cls := cA, slots := #[], vm := .none }).setSlot x (.ref (T.heap.size + 1 + x))) := by rw [← hUf]; rfl
    generalize Uf x = U at XU hH hU1 ⊢
    obtain ⟨-, kC₁, hkC₁, hkindC₁⟩ := kinds U XU.warmed
    have hmul : x * k.toNatClampNeg + k.toNatClampNeg ≤ n.toNatClampNeg * k.toNatClampNeg := by
      have := Nat.mul_le_mul_right k.toNatClampNeg (show x + 1 ≤ n.toNatClampNeg from hlt)
      rw [Nat.succ_mul] at this; exact this
    obtain ⟨hu1, hu2⟩ := XU.roomAbove (a := 1) (b := k.toNatClampNeg) (by omega) (by omega)
    obtain ⟨os, ho, o3, o4⟩ := hH.2.2.1
    have hz := hH.1
    simp only [wp_bind']
    rw [multianewarray.make]
    simp only [wp_bind', Jvm.W.ite, hk, if_false, wp_pure', Jvm.W.theClass]
    refine ⟨kC₁, hkC₁, ?_⟩
    simp only [hkindC₁]
    refine mz_new (s := U.setTop gf) (v0 := defaultValue .long) hkC₁ hkindC₁ hl2 hh2 rfl rfl (by show U.heap.size < _; omega) (by show U.slotsUsed + _ ≤ _; omega) ?_
    simp only [wp_bind', Jvm.W.writeLoc, wp_pure']
    have hlt9 : T.heap.size < U.heap.size := by omega
    have hcell : (U.pushCell { cls := comp, slots := Array.replicate k.toNatClampNeg (defaultValue .long), vm := .none }).heap[T.heap.size]? = some { cls := cA, slots := os, vm := .none } := by
      rw [State.heap_pushCell_of_lt (h := hlt9)]; exact ho
    refine ⟨_, hcell, by simp, by show x < os.size; rw [o3]; exact hlt, ?_, hnext _ _ _ ⟨x + 1, hlt, hrest, ?_⟩⟩
    · obtain ⟨⟨kA₂, hkA₂, hkindA₂⟩, -⟩ := kinds U XU.warmed
      simp [State.fitsSlot, State.slotType?, hkA₂, hkindA₂]
      rfl
    · rw [hU1, ho, ← hz]; rfl
  · rintro s' d' acts' ⟨i, hi, hl, rfl⟩
    have hiN : i = n.toNatClampNeg := by
      rcases Nat.lt_or_ge i n.toNatClampNeg with h | h
      · rw [show n.toNatClampNeg - i = (n.toNatClampNeg - (i + 1)) + 1 from by omega, List.range'_succ] at hl; cases hl
      · omega
    subst hiN
    have XU := (ch _ (Nat.le_refl _)).1
    generalize Uf n.toNatClampNeg = U at XU hall ⊢
    simp only [wp_pure']
    simp only [wp_bind', Jvm.W.mark, Jvm.W.pushRef, State.topJava?_setTop' _ XU.here.top, Option.some.injEq, exists_eq_left', State.setTop_setTop, State.heap_setTop]
    intro acts
    subst hgf
    simp [jvm, XU.here.top]
    exact hall
end MZ
end
section
/-! the claim's short texts: their lengths -/
def xsl : List Nat := [4, 5, 5, 6, 4]
def xsb : List (List Int32) := [[117, 115, 101, 100], [119, 97, 115, 116, 101], [116, 105, 109, 101, 115], [112, 105, 101, 99, 101, 115], [102, 117, 108, 108]]
def xStr (B : Nat) (sa : Nat → Nat) (U : State) (H : Heap) : Prop := va_Z "java/lang/String" "COMPACT_STRINGS" "Z" (.int 1) (fun q => B ≤ q) U H ∧ (∃ adV : Nat → Nat, vk_S 5 xsl xsb sa adV (fun q => B ≤ q) U H) ∧ (∀ (k : Nat) (q : Nat × String), xstr[k]? = some q → vk_R "RollCutter$Condition" q.1 q.2 (sa k) U) ∧ mz_F U
theorem xStr.kept {B : Nat} {sa : Nat → Nat} {U : State} {H H1 : Heap} (h : xStr B sa U H) (hq : ∀ a : Nat, a < H.size → ¬ B ≤ a → H1[a]? = H[a]?) : xStr B sa U H1 := by
  obtain ⟨h1, ⟨adV, h2⟩, h3, h4⟩ := h
  exact ⟨h1.kept hq, ⟨adV, h2.kept hq⟩, h3, h4⟩
theorem xStr.moved {B : Nat} {sa : Nat → Nat} {s U : State} {H : Heap} (hW : s.WarmedH U.vm) (h : xStr B sa s H) : xStr B sa U H := by
  obtain ⟨h1, ⟨adV, h2⟩, h3, h4⟩ := h
  exact ⟨h1.moved hW.alike, ⟨adV, h2.moved hW.alike⟩, fun k q hq => (h3 k q hq).warm hW, h4.moved hW.alike⟩
theorem xStr.same {B : Nat} {sa : Nat → Nat} {s U : State} {H : Heap} (hv : U.vm = s.vm) (h : xStr B sa s H) : xStr B sa U H := by
  obtain ⟨h1, ⟨adV, h2⟩, h3, h4⟩ := h
  have ha : s.vm.Alike U.vm := by rw [hv]; exact Vm.Alike.refl _
  exact ⟨h1.moved ha, ⟨adV, h2.moved ha⟩, fun k q hq => (h3 k q hq).same hv, h4.moved ha⟩
def yCod : MethodName := ⟨"java/lang/String", "coder", "()B"⟩
abbrev bLen : ByteArray := prog_18_method_54_code
abbrev bCod : ByteArray := prog_18_method_152_code
theorem dl_0 : decode bLen 0 = .ok (.aload_n 0, 1) := by decide +kernel
theorem dl_1 : decode bLen 1 = .ok (.getfield 9, 3) := by decide +kernel
theorem dl_4 : decode bLen 4 = .ok (.arraylength, 1) := by decide +kernel
theorem dl_5 : decode bLen 5 = .ok (.aload_n 0, 1) := by decide +kernel
theorem dl_6 : decode bLen 6 = .ok (.invokevirtual 335, 3) := by decide +kernel
theorem dl_9 : decode bLen 9 = .ok (.ishr, 1) := by decide +kernel
theorem dl_10 : decode bLen 10 = .ok (.ireturn, 1) := by decide +kernel
theorem dc_0 : decode bCod 0 = .ok (.getstatic 38, 3) := by decide +kernel
theorem dc_3 : decode bCod 3 = .ok (.ifCond .eq 10, 3) := by decide +kernel
theorem dc_6 : decode bCod 6 = .ok (.aload_n 0, 1) := by decide +kernel
theorem dc_7 : decode bCod 7 = .ok (.getfield 15, 3) := by decide +kernel
theorem dc_10 : decode bCod 10 = .ok (.goto 4, 3) := by decide +kernel
theorem dc_14 : decode bCod 14 = .ok (.ireturn, 1) := by decide +kernel
theorem ws_ini : Cond.initialized "java/lang/String" ∈ xT := xw_mem (i := 98) (by decide +kernel)
theorem ws_cl : Cond.methodLink "java/lang/String" 335 yCod ∈ xT := xw_mem (i := 997) (by decide +kernel)
theorem ws_ci : Cond.instanceMethod yCod ∈ xT := xw_mem (i := 998) (by decide +kernel)
theorem ws_cs : Cond.selects "java/lang/String" yCod yCod ∈ xT := xw_mem (i := 999) (by decide +kernel)
theorem ws_cc : Cond.code yCod bCod 1 (some .byte) ∈ xT := xw_mem (i := 1000) (by decide +kernel)
theorem ws_li : Cond.instanceMethod yLen ∈ xT := xw_mem (i := 994) (by decide +kernel)
theorem ws_ls : Cond.selects "java/lang/String" yLen yLen ∈ xT := xw_mem (i := 995) (by decide +kernel)
theorem ws_lc : Cond.code yLen bLen 1 (some .int) ∈ xT := xw_mem (i := 996) (by decide +kernel)
theorem ws_fs : Cond.fieldLink "java/lang/String" 38 "java/lang/String" "COMPACT_STRINGS" "Z" ∈ xT := xw_mem (i := 1001) (by decide +kernel)
theorem ws_fv : Cond.fieldLink "java/lang/String" 9 "java/lang/String" "value" "[B" ∈ xT := xw_mem (i := 1662) (by decide +kernel)
theorem ws_fc : Cond.fieldLink "java/lang/String" 15 "java/lang/String" "coder" "B" ∈ xT := xw_mem (i := 1663) (by decide +kernel)
def xSp (v : Int32) : Array Value → State → Outcome → State → Prop := fun _ st oc t => oc = .returned (some (.int v)) ∧ t.heap = st.heap
def xSb (B : Nat) (sa : Nat → Nat) (U : State) : Prop := B ≤ U.heap.size ∧ xStr B sa U U.heap
theorem xSb_bl {B : Nat} {sa : Nat → Nat} {av : List Value} : FrameBlind (va_Pc av (xSb B sa)) := fun a U g mk q => ⟨q.1, q.2.1, (q.2.2).same rfl⟩
theorem xSb_U {B : Nat} {sa : Nat → Nat} {av : List Value} {s : State} {H : Heap} (hB : B ≤ H.size) (h : xStr B sa s H) : ∀ U : State, U.heap = H → s.WarmedH U.vm → va_Pc av (xSb B sa) av.toArray U := fun U hU hW => ⟨rfl, by rw [hU]; exact hB, by rw [hU]; exact h.moved hW⟩
theorem x_rcS {B : Nat} {sa : Nat → Nat} {s : State} {H : Heap} (h : xStr B sa s H) {k : Nat} (hk : k < 5) : ∃ cellB : Cell, H[sa k]? = some cellB ∧ cellB.vm.isStatics = false ∧ s.vm.findClass "java/lang/String" = some cellB.cls := by
  obtain ⟨-, ⟨adV, h2⟩, -⟩ := h
  obtain ⟨cell, e1, e2, e3, -⟩ := (h2.1 k hk).1
  exact ⟨cell, e1, e2, e3⟩
set_option maxHeartbeats 1000000 in
theorem c_cod (l : Launch) {B : Nat} {sa : Nat → Nat} {k : Nat} (hk : k < 5) : Met l yCod (Cond.code yCod bCod 1 (some .byte) :: xT) { frames := 0, cells := 0, slots := 0, locals := 0 } (va_Pc [.ref (sa k)] (xSb B sa)) (xSp 0) 0 0 (fun z => B ≤ z) := by
  refine Met.ofW (cc := bCod) (maxL := 1) (ret := some .byte) (by decide) rfl ?_
  intro p e s m args below meth c s₁ Bd hml hv
  obtain ⟨rfl, hB, hX⟩ := hv
  obtain ⟨hZ, ⟨adV, hV⟩, -⟩ := hX
  have hx := Bd.exec
  have hb := Bd.bytes
  have hr := Bd.returns
  have hts0 := atoms_spec (ws := Cond.code yCod bCod 1 (some .byte) :: xT) Bd.pre
  have hts : ∀ w ∈ xT, w.before [Value.ref (sa k)].toArray s = true := fun w hw => hts0 w (List.mem_cons_of_mem _ hw)
  have hown : s.vm.findClass "java/lang/String" = some m.cls := findClass_of_methodNamed Bd.named
  have hlocks := Bd.notSynchronized
  have hS : va_S (fun q => B ≤ q) s.heap s.heap [] := va_S.rf
  have hl := lv_entry ([.ref (sa k)]) (n := 1) (Nat.le_of_ble_eq_true rfl)
  rw [lg_entry_eq]
  generalize (lg_sl ([.ref (sa k)]) ++ List.replicate (1 - (lg_sl ([.ref (sa k)])).length) Slot.unset).toArray = ls at hl ⊢
  have hl : lv_has ls 1 [(0, .ref (sa k))] := hl
  refine va_gets hx hb hZ hS hown (hts _ ws_fs) (fun _ z => z) dc_0 ?_
  refine lv_if_eq (tgt := 13) hx hb dc_3 (by decide) (fun z => absurd z (by decide)) (fun _ => ?_)
  refine lv_aload_n hx hb dc_6 rfl (lv_at hl 0 rfl) ?_
  refine va_getX (N := 5) (v := fun _ => .int 0) (ad := sa) hx hb (fun i hi => (hV.1 i hi).2.1) hk hS hown (hts _ ws_fc) (fun _ z => z) dc_7 ?_
  refine lv_goto (tgt := 14) hx hb dc_10 (by decide) ?_
  exact W.zret (v := 0) (ty := .byte) hx hb hr rfl (fun t ht _ => ⟨rfl, ht⟩) hS.2.2 dc_14 hlocks
set_option maxHeartbeats 1000000 in
theorem c_len (l : Launch) {B : Nat} {sa : Nat → Nat} {k : Nat} (hk : k < 5) : Met l yLen (Cond.code yLen bLen 1 (some .int) :: xT) { frames := 1, cells := 0, slots := 0, locals := 20 } (va_Pc [.ref (sa k)] (xSb B sa)) (xSp (nI (xsl.getD k 0))) 0 0 (fun z => B ≤ z) := by
  refine Met.ofW (cc := bLen) (maxL := 1) (ret := some .int) (by decide) rfl ?_
  intro p e s m args below meth c s₁ Bd hml hv
  obtain ⟨rfl, hB, hX⟩ := hv
  have hX0 := hX
  obtain ⟨hZ, ⟨adV, hV⟩, -⟩ := hX
  have hx := Bd.exec
  have hb := Bd.bytes
  have hr := Bd.returns
  have hts0 := atoms_spec (ws := Cond.code yLen bLen 1 (some .int) :: xT) Bd.pre
  have hts : ∀ w ∈ xT, w.before [Value.ref (sa k)].toArray s = true := fun w hw => hts0 w (List.mem_cons_of_mem _ hw)
  have hown : s.vm.findClass "java/lang/String" = some m.cls := findClass_of_methodNamed Bd.named
  have hlocks := Bd.notSynchronized
  have hS : va_S (fun q => B ≤ q) s.heap s.heap [] := va_S.rf
  have hl := lv_entry ([.ref (sa k)]) (n := 1) (Nat.le_of_ble_eq_true rfl)
  rw [lg_entry_eq]
  generalize (lg_sl ([.ref (sa k)]) ++ List.replicate (1 - (lg_sl ([.ref (sa k)])).length) Slot.unset).toArray = ls at hl ⊢
  have hl : lv_has ls 1 [(0, .ref (sa k))] := hl
  refine lv_aload_n hx hb dl_0 rfl (lv_at hl 0 rfl) ?_
  refine va_getX (N := 5) (v := fun i => .ref (adV i)) (ad := sa) hx hb (fun i hi => (hV.1 i hi).2.2.1) hk hS hown (hts _ ws_fv) (fun _ z => z) dl_1 ?_
  refine va_tlen hx hb (hV.1 k hk).2.2.2 hS rfl dl_4 ?_
  refine lv_aload_n hx hb dl_5 rfl (lv_at hl 0 rfl) ?_
  have hgi : GoodIn xT (Cond.code yCod bCod 1 (some .byte) :: xT) := fun w hw => by
    rcases List.mem_cons.mp hw with rfl | hw
    · exact ⟨ws_cc, x_good _ ws_cc⟩
    · exact ⟨hw, x_good _ hw⟩
  have hrun := va_runV (As := []) (rest := [.int (Int32.ofNat (xsl.getD k 0))]) (own := "java/lang/String") (b := sa k) (g := F0 m 6 ls [.ref (sa k), .int (Int32.ofNat (xsl.getD k 0))]) (H := s.heap) (locs := []) (cells := 0) (slots := 0) (R := { frames := 1, cells := 0, slots := 0, locals := 20 }) ⟨hx, hb, hml, hown, hts⟩ (c_cod l (B := B) (sa := sa) hk) ⟨callB_of 0 hts hgi rfl rfl rfl (hts _ ws_ini) (hts _ ws_cl) ⟨by decide, by decide, by decide +kernel⟩ ⟨Nat.le_of_ble_eq_true rfl, Nat.le_of_ble_eq_true rfl⟩, hts _ ws_ci, hts _ ws_cs⟩ ⟨xSb_bl, x_rcS hX0 hk, xSb_U hB hX0⟩ rfl rfl hl.1 rfl (lv_room (Nat.le_of_ble_eq_true rfl)) dl_6 ⟨Nat.le_of_ble_eq_true rfl, Nat.le_of_ble_eq_true rfl⟩ (below := below) (meth := meth) (e := e)
  intro T hT X
  obtain ⟨v, st₀, t, T', L, h0, X', hL, e1, e2, ⟨hv, hh⟩, st⟩ := hrun T hT X
  cases hv
  have hT' : T'.heap = s.heap := by rw [e1, hh, h0]
  have K : W p l e { frames := 1, cells := 0, slots := 0, locals := 20 } s m [Value.ref (sa k)].toArray below meth c s.heap ([] ++ L) 0 0 (MQ below (xSp (nI (xsl.getD k 0))) [Value.ref (sa k)].toArray s 0 0 (fun z => B ≤ z)) (F0 m 9 ls [.int 0, .int (Int32.ofNat (xsl.getD k 0))]) := by
    refine lv_ishr hx hb dl_9 ?_
    have e3 : (Int32.ofNat (xsl.getD k 0) >>> ((0 : Int32) &&& 31)) = nI (xsl.getD k 0) := by
      have h5 : k = 0 ∨ k = 1 ∨ k = 2 ∨ k = 3 ∨ k = 4 := by omega
      rcases h5 with rfl | rfl | rfl | rfl | rfl <;> decide +kernel
    rw [e3]
    exact W.iret hx hb hr (fun t ht _ => ⟨rfl, ht⟩) (fun q hq => hL q (by simpa using hq)) dl_10 hlocks
  obtain ⟨t2, a1, b1⟩ := K T' hT' X'
  exact ⟨t2, st t2 a1, b1⟩
end
section
/-! one step of the executor -/
-- the shapes of a stack
def xBI (st : List Value) (k : Int32 → Int32 → List Value → Option xX) : Option xX := match st with
  | .int y :: .int x :: r => k x y r
  | _ => none
theorem xBI_ok {st : List Value} {k : Int32 → Int32 → List Value → Option xX} {X : xX} (h : xBI st k = some X) : ∃ x y r, st = .int y :: .int x :: r ∧ k x y r = some X := by
  unfold xBI at h
  split at h
  · exact ⟨_, _, _, rfl, h⟩
  · cases h
def xBL (st : List Value) (k : Int64 → Int64 → List Value → Option xX) : Option xX := match st with
  | .long y :: .long x :: r => k x y r
  | _ => none
theorem xBL_ok {st : List Value} {k : Int64 → Int64 → List Value → Option xX} {X : xX} (h : xBL st k = some X) : ∃ x y r, st = .long y :: .long x :: r ∧ k x y r = some X := by
  unfold xBL at h
  split at h
  · exact ⟨_, _, _, rfl, h⟩
  · cases h
def xUI (st : List Value) (k : Int32 → List Value → Option xX) : Option xX := match st with
  | .int x :: r => k x r
  | _ => none
theorem xUI_ok {st : List Value} {k : Int32 → List Value → Option xX} {X : xX} (h : xUI st k = some X) : ∃ x r, st = .int x :: r ∧ k x r = some X := by
  unfold xUI at h
  split at h
  · exact ⟨_, _, rfl, h⟩
  · cases h
def xUL (st : List Value) (k : Int64 → List Value → Option xX) : Option xX := match st with
  | .long x :: r => k x r
  | _ => none
theorem xUL_ok {st : List Value} {k : Int64 → List Value → Option xX} {X : xX} (h : xUL st k = some X) : ∃ x r, st = .long x :: r ∧ k x r = some X := by
  unfold xUL at h
  split at h
  · exact ⟨_, _, rfl, h⟩
  · cases h
def xV1 (st : List Value) (k : Value → List Value → Option xX) : Option xX := match st with
  | v :: r => k v r
  | _ => none
theorem xV1_ok {st : List Value} {k : Value → List Value → Option xX} {X : xX} (h : xV1 st k = some X) : ∃ v r, st = v :: r ∧ k v r = some X := by
  unfold xV1 at h
  split at h
  · exact ⟨_, _, rfl, h⟩
  · cases h
def xRf (st : List Value) (k : Nat → List Value → Option xX) : Option xX := match st with
  | .ref a :: r => k a r
  | _ => none
theorem xRf_ok {st : List Value} {k : Nat → List Value → Option xX} {X : xX} (h : xRf st k = some X) : ∃ a r, st = .ref a :: r ∧ k a r = some X := by
  unfold xRf at h
  split at h
  · exact ⟨_, _, rfl, h⟩
  · cases h
noncomputable def xOb (w : xW) (a : Nat) (k : Nat → List Value → Option xX) : Option xX := match xnth w a with
  | some (.inr q) => k q.1 q.2
  | _ => none
theorem xOb_ok {w : xW} {a : Nat} {k : Nat → List Value → Option xX} {X : xX} (h : xOb w a k = some X) : ∃ ci fs, w[a]? = some (.inr (ci, fs)) ∧ k ci fs = some X := by
  unfold xOb at h
  rw [xnth_eq] at h
  split at h
  · rename_i q hq
    exact ⟨q.1, q.2, hq, h⟩
  · cases h
noncomputable def xAy (w : xW) (a : Nat) (k : Nat → Nat → List (Nat × Value) → Option xX) : Option xX := match xnth w a with
  | some (.inl q) => k q.1 q.2.1 q.2.2
  | _ => none
theorem xAy_ok {w : xW} {a : Nat} {k : Nat → Nat → List (Nat × Value) → Option xX} {X : xX} (h : xAy w a k = some X) : ∃ t n es, w[a]? = some (.inl (t, n, es)) ∧ k t n es = some X := by
  unfold xAy at h
  rw [xnth_eq] at h
  split at h
  · rename_i q hq
    exact ⟨q.1, q.2.1, q.2.2, hq, h⟩
  · cases h
def xgd (b : Bool) (o : Option xX) : Option xX := cond b o none
theorem xgd_ok {b : Bool} {o : Option xX} {X : xX} (h : xgd b o = some X) : b = true ∧ o = some X := by
  cases b with
  | true => exact ⟨rfl, h⟩
  | false => cases h
def xOp {α : Type} (o : Option α) (k : α → Option xX) : Option xX := match o with
  | some v => k v
  | none => none
theorem xOp_ok {α : Type} {o : Option α} {k : α → Option xX} {X : xX} (h : xOp o k = some X) : ∃ v, o = some v ∧ k v = some X := by
  cases o with
  | none => cases h
  | some v => exact ⟨v, rfl, h⟩
-- pieces of a step
noncomputable def xLd (en : xE) (cs : List xE) (lv : List (Nat × Value)) (st : List Value) (w : xW) (mc ms : Nat) (k : xX → Option xX) (t i : Nat) : Option xX := xOp (xlv lv i) fun v => xgd (xkd t v) (xPu en cs lv w mc ms k v st)
def xf1 (i : Nat) (q : Nat × Value) : Bool := !(q.1 == i) && !(q.1 + 1 == i && q.2.category == 2)
def xf2 (i : Nat) (q : Nat × Value) : Bool := !(q.1 == i) && (!(q.1 == i + 1) && !(q.1 + 1 == i && q.2.category == 2))
noncomputable def xSt (nL : Nat) (en : xE) (cs : List xE) (lv : List (Nat × Value)) (st : List Value) (w : xW) (mc ms : Nat) (k : xX → Option xX) (t i : Nat) : Option xX := xV1 st fun v r => xgd (xkd t v && Nat.ble (i + 1) nL) (xfil (xf1 i) lv fun lv' => xNx cs (en.1 + en.2.2.1) fun cs => k (cs, (i, v) :: lv', r, w, mc, ms))
noncomputable def xSt2 (nL : Nat) (en : xE) (cs : List xE) (lv : List (Nat × Value)) (st : List Value) (w : xW) (mc ms : Nat) (k : xX → Option xX) (i : Nat) : Option xX := xV1 st fun v r => xgd (xkd 1 v && Nat.ble (i + 2) nL) (xfil (xf2 i) lv fun lv' => xNx cs (en.1 + en.2.2.1) fun cs => k (cs, (i, v) :: lv', r, w, mc, ms))
noncomputable def xIn (nL : Nat) (en : xE) (cs : List xE) (lv : List (Nat × Value)) (st : List Value) (w : xW) (mc ms : Nat) (k : xX → Option xX) (i : Nat) (n : Int) : Option xX := xOp (xlv lv i) fun v => xUI [v] fun x _ => xgd (Nat.ble (i + 1) nL) (fI (x + Int32.ofInt n) fun y => xfil (xf1 i) lv fun lv' => xNx cs (en.1 + en.2.2.1) fun cs => k (cs, (i, .int y) :: lv', st, w, mc, ms))
noncomputable def xJm (tab : List xE) (pc : Nat) (off : Int) (k : List xE → Option xX) : Option xX := xgd (decide (0 ≤ (pc : Int) + off)) (xJ tab ((pc : Int) + off).toNat k)
theorem xJm_ok {tab : List xE} {pc : Nat} {off : Int} {k : List xE → Option xX} {X : xX} (h : xJm tab pc off k = some X) : ∃ cs, (pc : Int) + off = (xpc cs : Int) ∧ k cs = some X ∧ ∀ q ∈ cs, q ∈ tab := by
  obtain ⟨h1, h2⟩ := xgd_ok h
  obtain ⟨cs, h3, h4, h5⟩ := xJ_ok h2
  have h1 := of_decide_eq_true h1
  exact ⟨cs, by rw [h3]; omega, h4, h5⟩
noncomputable def xBr (ivs : List (Int × Int)) (tab : List xE) (en : xE) (cs : List xE) (op : ClassFile.Cond) (off : Int) (x y : Value) (k : List xE → Option xX) : Option xX := xOp (xbd ivs x) fun a => xOp (xbd ivs y) fun b => xOp (xcmp op a b) fun r => xgd (decide (0 ≤ (en.1 : Int) + off)) (cond r (xJm tab en.1 off k) (xNx cs (en.1 + 3) k))
noncomputable def xTw (ivs : List (Int × Int)) (tab : List xE) (en : xE) (x : Value) (d lo hi : Int) (offs : Array Int) (k : List xE → Option xX) : Option xX := xOp (xbd ivs x) fun a => cond (decide (a.1 = a.2) && (decide (lo ≤ a.1) && decide (a.1 ≤ hi))) (xOp (xnth offs.toList (a.1 - lo).toNat) fun off => xJm tab en.1 off k) (xgd (decide (a.2 < lo) || decide (hi < a.1)) (xJm tab en.1 d k))
def xft : Nat → Value → Bool
  | 0, v => xkd 0 v
  | 1, v => xkd 1 v
  | 3, .int x => decide (x = 0) || decide (x = 1)
  | 4, v => xkd 2 v
  | _, _ => false
def xin (i : Int32) (n : Nat) : Bool := decide (0 ≤ i.toInt) && decide (i.toInt < n)
def xsp : Nat → List Value → List Value → (List Value → List Value → Option xX) → Option xX
  | 0, as, st, k => k as st
  | n + 1, as, st, k => match st with
    | [] => none
    | v :: r => xsp n (v :: as) r k
noncomputable def xCl (MC MS : Nat) (call : Nat → List Value → xW → Option (Option Value × xW)) (en : xE) (cs : List xE) (lv : List (Nat × Value)) (w : xW) (mc ms : Nat) (k : xX → Option xX) (q : xM) (as : List Value) (r : List Value) : Option xX := xgd (Nat.ble ((r.map fun v => v.category).sum) 8 && (Nat.ble (mc + xmc q) MC && Nat.ble (ms + xms q) MS)) (xOp (call (xa3 en) as w) fun z => fN (mc + xmc q) fun mc1 => fN (ms + xms q) fun ms1 => xNx cs (en.1 + 3) fun cs => k (cs, lv, z.1.toList ++ r, z.2, mc1, ms1))
noncomputable def xVi (MC MS : Nat) (call : Nat → List Value → xW → Option (Option Value × xW)) (en : xE) (cs : List xE) (lv : List (Nat × Value)) (st : List Value) (w : xW) (mc ms : Nat) (k : xX → Option xX) : Option xX := xOp (xnth xMs (xa3 en)) fun q => xsp (xmn q) [] st fun as r => xRf r fun a r => xOb w a fun ci _ => xgd (Nat.beq ci (xmk q)) (xCl MC MS call en cs lv w mc ms k q (.ref a :: as) r)
noncomputable def xSi (MC MS : Nat) (call : Nat → List Value → xW → Option (Option Value × xW)) (en : xE) (cs : List xE) (lv : List (Nat × Value)) (st : List Value) (w : xW) (mc ms : Nat) (k : xX → Option xX) : Option xX := xOp (xnth xMs (xa3 en)) fun q => xsp (xmn q) [] st fun as r => xCl MC MS call en cs lv w mc ms k q as r
noncomputable def xNw (MC MS : Nat) (en : xE) (cs : List xE) (lv : List (Nat × Value)) (w : xW) (mc ms : Nat) (k : xX → Option xX) (c : xC) (n : Nat) (r : List Value) : Option xX := xgd (Nat.ble (mc + 1) MC && Nat.ble (ms + n) MS) (fN w.length fun h => fN (mc + 1) fun mc1 => fN (ms + n) fun ms1 => appK w c fun w1 => xNx cs (en.1 + en.2.2.1) fun cs => k (cs, lv, .ref h :: r, w1, mc1, ms1))
noncomputable def xMa (w : xW) (h K : Nat) (k : xW → Option xX) : Option xX := appK w (.inl (4, 6, [(0, .ref (h + 1)), (1, .ref (h + 2)), (2, .ref (h + 3)), (3, .ref (h + 4)), (4, .ref (h + 5)), (5, .ref (h + 6))])) fun w => appK w (.inl (1, K, [])) fun w => appK w (.inl (1, K, [])) fun w => appK w (.inl (1, K, [])) fun w => appK w (.inl (1, K, [])) fun w => appK w (.inl (1, K, [])) fun w => appK w (.inl (1, K, [])) k
set_option maxRecDepth 100000 in
theorem ws_jl : Cond.arrayClass .long ∈ xT := xw_mem (i := 205) (by decide +kernel)
noncomputable def xS (LL : Option Nat) (ivs : List (Int × Int)) (nL MC MS : Nat) (call : Nat → List Value → xW → Option (Option Value × xW)) (tab : List xE) (X : xX) (k : xX → Option xX) : Option xX := match X with
  | ([], _) => none
  | (en :: cs, lv, st, w, mc, ms) => match en.2.1 with
    | .iconst n => xPu en cs lv w mc ms k (.int (Int32.ofInt n)) st
    | .bipush n => xPu en cs lv w mc ms k (.int (Int8.ofInt n).toInt32) st
    | .sipush n => xPu en cs lv w mc ms k (.int (Int16.ofInt n).toInt32) st
    | .lconst n => xPu en cs lv w mc ms k (.long (Int64.ofNat n.val)) st
    | .ldc _ => cond (Nat.beq (xa3 en) 1) (xgd (Nat.ble (xa2 en) 4) (xPu en cs lv w mc ms k (.retAddr (xa2 en)) st)) (xPu en cs lv w mc ms k (.int (Int32.ofNat (xa2 en))) st)
    | .ldc_w _ => cond (Nat.beq (xa3 en) 1) none (xPu en cs lv w mc ms k (.int (Int32.ofNat (xa2 en))) st)
    | .ldc2_w _ => xPu en cs lv w mc ms k (.long (Int64.ofNat (xa2 en))) st
    | .iload_n i => xLd en cs lv st w mc ms k 0 i.val
    | .iload i => xLd en cs lv st w mc ms k 0 i
    | .lload_n i => xLd en cs lv st w mc ms k 1 i.val
    | .lload i => xLd en cs lv st w mc ms k 1 i
    | .aload_n i => xLd en cs lv st w mc ms k 2 i.val
    | .aload i => xLd en cs lv st w mc ms k 2 i
    | .istore_n i => xSt nL en cs lv st w mc ms k 0 i.val
    | .istore i => xSt nL en cs lv st w mc ms k 0 i
    | .astore_n i => xSt nL en cs lv st w mc ms k 2 i.val
    | .astore i => xSt nL en cs lv st w mc ms k 2 i
    | .lstore_n i => xSt2 nL en cs lv st w mc ms k i.val
    | .lstore i => xSt2 nL en cs lv st w mc ms k i
    | .iinc i n => xIn nL en cs lv st w mc ms k i n
    | .iadd => xBI st fun x y r => xPu en cs lv w mc ms k (.int (x + y)) r
    | .isub => xBI st fun x y r => xPu en cs lv w mc ms k (.int (x - y)) r
    | .imul => xBI st fun x y r => xPu en cs lv w mc ms k (.int (x * y)) r
    | .ior => xBI st fun x y r => xPu en cs lv w mc ms k (.int (x ||| y)) r
    | .ixor => xBI st fun x y r => xPu en cs lv w mc ms k (.int (x ^^^ y)) r
    | .ishl => xBI st fun x y r => xPu en cs lv w mc ms k (.int (x <<< (y &&& 31))) r
    | .ishr => xBI st fun x y r => xPu en cs lv w mc ms k (.int (x >>> (y &&& 31))) r
    | .idiv => xBI st fun x y r => xgd (!decide (y = 0)) (xPu en cs lv w mc ms k (.int (x / y)) r)
    | .irem => xBI st fun x y r => xgd (!decide (y = 0)) (xPu en cs lv w mc ms k (.int (x - x / y * y)) r)
    | .iand => xUI st fun y r => xV1 r fun v r => (match v with
      | .int x => xPu en cs lv w mc ms k (.int (x &&& y)) r
      | .float q => xgd (decide (y = 63) && Nat.beq q.toNat 0) (xPu en cs lv w mc ms k (.float 4) r)
      | _ => none)
    | .ladd => xBL st fun x y r => xPu en cs lv w mc ms k (.long (x + y)) r
    | .lsub => xBL st fun x y r => xPu en cs lv w mc ms k (.long (x - y)) r
    | .lmul => xBL st fun x y r => xPu en cs lv w mc ms k (.long (x * y)) r
    | .ldiv => xBL st fun x y r => xgd (!decide (y = 0)) (xPu en cs lv w mc ms k (.long (x / y)) r)
    | .lrem => xBL st fun x y r => xgd (!decide (y = 0)) (xPu en cs lv w mc ms k (.long (x - x / y * y)) r)
    | .lcmp => xBL st fun x y r => xPu en cs lv w mc ms k (.int (lg_cmp x y)) r
    | .ineg => xUI st fun x r => xPu en cs lv w mc ms k (.int (-x)) r
    | .lneg => xUL st fun x r => xPu en cs lv w mc ms k (.long (-x)) r
    | .i2l => xUI st fun x r => xPu en cs lv w mc ms k (.long x.toInt64) r
    | .l2i => xUL st fun x r => xPu en cs lv w mc ms k (.int x.toInt32) r
    | .i2b => xUI st fun x r => xPu en cs lv w mc ms k (.int x.toInt8.toInt32) r
    | .dup => xV1 st fun v r => xgd (Nat.beq v.category 1) (xNx cs (en.1 + en.2.2.1) fun cs => k (cs, lv, v :: v :: r, w, mc, ms))
    | .dup2 => xV1 st fun v r => xV1 r fun u r => xgd (Nat.beq v.category 1 && Nat.beq u.category 1) (xNx cs (en.1 + en.2.2.1) fun cs => k (cs, lv, v :: u :: v :: u :: r, w, mc, ms))
    | .pop => xV1 st fun v r => xgd (Nat.beq v.category 1) (xNx cs (en.1 + en.2.2.1) fun cs => k (cs, lv, r, w, mc, ms))
    | .if_icmp op off => xV1 st fun y r => xV1 r fun x r => xBr ivs tab en cs op off x y fun cs => k (cs, lv, r, w, mc, ms)
    | .ifCond op off => xV1 st fun x r => xBr ivs tab en cs op off x (.int 0) fun cs => k (cs, lv, r, w, mc, ms)
    | .goto off => xJm tab en.1 off fun cs => k (cs, lv, st, w, mc, ms)
    | .tableswitch d lo hi offs => xV1 st fun x r => xTw ivs tab en x d lo hi offs fun cs => k (cs, lv, r, w, mc, ms)
    | .getfield _ => xRf st fun a r => xOb w a fun ci fs => xgd (Nat.beq ci (xa2 en / 100)) (xOp (xnth fs (xa2 en % 100)) fun v => xPu en cs lv w mc ms k v r)
    | .putfield _ => xV1 st fun v r => xRf r fun a r => xOb w a fun ci fs => xgd (Nat.beq ci (xa2 en / 100) && (Nat.ble (xa2 en % 100 + 1) fs.length && xft (xa3 en) v)) (setK fs (xa2 en % 100) v fun fs1 => setK w a (.inr (ci, fs1)) fun w1 => xNx cs (en.1 + en.2.2.1) fun cs => k (cs, lv, r, w1, mc, ms))
    | .new _ => xOp (xnth xdf (xa2 en)) fun fs => xNw MC MS en cs lv w mc ms k (.inr (xa2 en, fs)) fs.length st
    | .newarray _ => xUI st fun n r => xgd (decide (0 ≤ n.toInt) && decide (n.toInt ≤ 60000)) (fN n.toNatClampNeg fun N => xNw MC MS en cs lv w mc ms k (.inl (xa2 en, N, [])) N r)
    | .multianewarray _ _ => xUI st fun kk r => xUI r fun n r => xgd (decide (n = 6) && (decide (0 ≤ kk.toInt) && (decide (kk.toInt ≤ 1000) && (Nat.ble (mc + 7) MC && Nat.ble (ms + (6 + 6 * kk.toNatClampNeg)) MS)))) (fN kk.toNatClampNeg fun K => fN w.length fun h => fN (mc + 7) fun mc1 => fN (ms + (6 + 6 * K)) fun ms1 => xMa w h K fun w1 => xNx cs (en.1 + en.2.2.1) fun cs => k (cs, lv, .ref h :: r, w1, mc1, ms1))
    | .iaload => xUI st fun i r => xV1 r fun v r => (match v with
      | .ref a => xAy w a fun t n es => xgd (Nat.beq t 0 && (xin i n && xkd 0 (xlk es (.int 0) i.toNatClampNeg))) (xPu en cs lv w mc ms k (xlk es (.int 0) i.toNatClampNeg) r)
      | .retAddr q => xOp LL fun L => xgd (Nat.beq q 5 && (xin i L && Nat.ble i.toNatClampNeg 3)) (fN i.toNatClampNeg fun j => xOp (xnth ivs j) fun iv => cond (decide (iv.1 = iv.2)) (xPu en cs lv w mc ms k (.int (Int32.ofInt iv.1)) r) (xPu en cs lv w mc ms k (.float (UInt32.ofNat j)) r))
      | _ => none)
    | .baload => xUI st fun i r => xRf r fun a r => xAy w a fun t n es => xgd ((Nat.beq t 2 || Nat.beq t 3) && (xin i n && xkd 0 (xlk es (.int 0) i.toNatClampNeg))) (xPu en cs lv w mc ms k (xlk es (.int 0) i.toNatClampNeg) r)
    | .laload => xUI st fun i r => xRf r fun a r => xAy w a fun t n es => xgd (Nat.beq t 1 && (xin i n && xkd 1 (xlk es (.long 0) i.toNatClampNeg))) (xPu en cs lv w mc ms k (xlk es (.long 0) i.toNatClampNeg) r)
    | .iastore => xV1 st fun v r => xUI r fun i r => xRf r fun a r => xAy w a fun t n es => xgd (Nat.beq t 0 && (xin i n && xkd 0 v)) (fN i.toNatClampNeg fun j => setK w a (.inl (t, n, (j, v) :: es)) fun w1 => xNx cs (en.1 + en.2.2.1) fun cs => k (cs, lv, r, w1, mc, ms))
    | .lastore => xV1 st fun v r => xUI r fun i r => xRf r fun a r => xAy w a fun t n es => xgd (Nat.beq t 1 && (xin i n && xkd 1 v)) (fN i.toNatClampNeg fun j => setK w a (.inl (t, n, (j, v) :: es)) fun w1 => xNx cs (en.1 + en.2.2.1) fun cs => k (cs, lv, r, w1, mc, ms))
    | .bastore => xUI st fun x r => xUI r fun i r => xRf r fun a r => xAy w a fun t n es => xgd (Nat.beq t 2 && xin i n) (fN i.toNatClampNeg fun j => fI (vp_nar .byte x) fun y => setK w a (.inl (t, n, (j, .int y) :: es)) fun w1 => xNx cs (en.1 + en.2.2.1) fun cs => k (cs, lv, r, w1, mc, ms))
    | .arraylength => xV1 st fun v r => (match v with
      | .retAddr q => xOp LL fun L => xgd (Nat.beq q 5) (xPu en cs lv w mc ms k (.int (Int32.ofNat L)) r)
      | _ => none)
    | .checkcast _ => xRf st fun a r => xAy w a fun t _ _ => xgd (Nat.beq t 0) (xNx cs (en.1 + en.2.2.1) fun cs => k (cs, lv, .ref a :: r, w, mc, ms))
    | .invokevirtual _ => (match xa2 en with
      | 0 => xVi MC MS call en cs lv st w mc ms k
      | 1 => xVi MC MS call en cs lv st w mc ms k
      | 10 => xRf st fun a r => xAy w a fun t n es => xgd (Nat.beq t 0 && Nat.ble ((r.map fun v => v.category).sum) 8) (xNw MC MS en cs lv w mc ms k (.inl (t, n, es)) n r)
      | 12 => xV1 st fun v r => (match v with
        | .retAddr q => xgd (Nat.ble q 4 && (Nat.ble ((r.map fun v => v.category).sum) 8 && (Nat.ble mc MC && Nat.ble ms MS))) (xPu en cs lv w mc ms k (.int (nI (xsl.getD q 0))) r)
        | _ => none)
      | _ => none)
    | .invokestatic _ => (match xa2 en with
      | 2 => xSi MC MS call en cs lv st w mc ms k
      | 3 => xSi MC MS call en cs lv st w mc ms k
      | 7 => xBI st fun x y r => xgd (Nat.ble ((r.map fun v => v.category).sum) 8 && (Nat.ble mc MC && Nat.ble ms MS)) (xPu en cs lv w mc ms k (.int (if x < y then y else x)) r)
      | 11 => xBI st fun x y r => xgd (Nat.ble ((r.map fun v => v.category).sum) 8 && (Nat.ble mc MC && Nat.ble ms MS)) (xPu en cs lv w mc ms k (.int (if y < x then y else x)) r)
      | 9 => xUI st fun n r => xUI r fun dp r => xRf r fun a r => xUI r fun sp r => xRf r fun a0 r => xAy w a0 fun t0 n0 es0 => xAy w a fun t n1 es => xgd (Nat.beq t0 0 && (Nat.beq t 0 && (Nat.beq es0.length 0 && (Nat.beq es.length 0 && (decide (sp = 0) && (decide (dp = 0) && (decide (0 ≤ n.toInt) && (Nat.ble n.toNatClampNeg n0 && (Nat.ble n.toNatClampNeg n1 && Nat.ble ((r.map fun v => v.category).sum) 8))))))))) (xNx cs (en.1 + 3) fun cs => k (cs, lv, r, w, mc, ms))
      | 8 => xUL st fun x r => xgd (Nat.ble ((r.map fun v => v.category).sum) 8 && (Nat.ble mc MC && Nat.ble ms MS)) (xPu en cs lv w mc ms k (.long (if 0 < x then x else -x)) r)
      | _ => none)
    | .invokespecial _ => (match xa2 en with
      | 4 => xVi MC MS call en cs lv st w mc ms k
      | 5 => xVi MC MS call en cs lv st w mc ms k
      | 6 => xRf st fun _ r => xgd (Nat.ble ((r.map fun v => v.category).sum) 8) (xNx cs (en.1 + 3) fun cs => k (cs, lv, r, w, mc, ms))
      | _ => none)
    | .ireturn => some X
    | .lreturn => some X
    | .areturn => some X
    | .return_ => some X
    | _ => none
noncomputable def xGo (LL : Option Nat) (ivs : List (Int × Int)) (nL MC MS : Nat) (call : Nat → List Value → xW → Option (Option Value × xW)) (tab : List xE) (n : Nat) : xX → Option xX := Nat.rec (motive := fun _ => xX → Option xX) (fun X => some X) (fun _ ih X => xS LL ivs nL MC MS call tab X ih) n
end
section
/-! the step is sound -/
section XS
variable {p : Program} {l : Launch} {e : Env} {R : Room} {s : State} {m : MethodId} {args : Array Value} {below : List Frame} {meth : Method} {c : Code} {Q : State → Prop} {cc : ByteArray} {own : String} {B : Nat} {ev : Nat → Int32} {sa : Nat → Nat} {cA : Nat → ClassId} {D : va_G} {ini : Bool} {nL d : Nat} {ivs : List (Int × Int)}
def xGd (p : Program) (l : Launch) (e : Env) (R : Room) (s : State) (m : MethodId) (args : Array Value) (below : List Frame) (meth : Method) (c : Code) (Q : State → Prop) (nL B : Nat) (ev : Nat → Int32) (sa : Nat → Nat) (cA : Nat → ClassId) (D : va_G) (cs : List xE) (lv : List (Nat × Value)) (st : List Value) (w : xW) (mc ms : Nat) : Prop :=
  ∀ (H : Heap) (locs : List Loc) (ls : Array Slot), s.heap.size + mc = B + w.length → va_P D xcl (xWd B ev sa cA w) H → va_S (fun q => B ≤ q) s.heap H locs → lv_has ls nL (lv.map (xG2 B ev sa)) → W p l e R s m args below meth c H locs mc ms Q (F0 m (xpc cs) ls (st.map (xG B ev sa)))
def xCx (p : Program) (R : Room) (s : State) (m : MethodId) (args : Array Value) (meth : Method) (c : Code) (own : String) (cc : ByteArray) (nL : Nat) (ini : Bool) (B : Nat) (ev : Nat → Int32) (cA : Nat → ClassId) (D : va_G) (ivs : List (Int × Int)) (d : Nat) (sa : Nat → Nat) (LL : Option Nat) : Prop :=
  p.tables.exec = Jvm.exec ∧ c.code = cc ∧ c.maxLocals = nL ∧ s.vm.findClass own = some m.cls ∧ (∀ w ∈ xT, w.before args s = true) ∧ va_K D xcl (xTy cA) s ∧ B ≤ s.heap.size ∧ (ini = true → meth.name = "<init>") ∧ xEv ivs ev ∧ (d + 2 ≤ R.frames ∧ 40 * (d + 2) ≤ R.locals) ∧ (∀ L, LL = some L → va_X (sa 5) L ev s s.heap ∧ sa 5 < s.heap.size ∧ ¬ B ≤ sa 5) ∧ (∀ w ∈ xN, va_Nw w s) ∧ xStr B sa s s.heap
def xPre (B : Nat) (ev : Nat → Int32) (sa : Nat → Nat) (cA : Nat → ClassId) (D : va_G) (w : xW) (U : State) : Prop := B ≤ U.heap.size ∧ U.heap.size = B + w.length ∧ va_P D xcl (xWd B ev sa cA w) U.heap ∧ va_K D xcl (xTy cA) U ∧ (∀ w ∈ xN, va_Nw w U) ∧ xStr B sa U U.heap
def xPost (B : Nat) (ev : Nat → Int32) (sa : Nat → Nat) (cA : Nat → ClassId) (D : va_G) (r : Option Value) (w : xW) : Array Value → State → Outcome → State → Prop := fun _ st oc t => oc = .returned (r.map (xG B ev sa)) ∧ va_P D xcl (xWd B ev sa cA w) t.heap ∧ va_F (fun q => B ≤ q) st t
def xMet (l : Launch) (B : Nat) (ev : Nat → Int32) (sa : Nat → Nat) (cA : Nat → ClassId) (D : va_G) (d : Nat) (q : xM) (as : List Value) (w : xW) (r : Option Value) (w1 : xW) : Prop :=
  Met l (xmy q) (Cond.code (xmy q) (xmb q) (xml q) (xmr q) :: xT) { frames := d + 1, cells := xmc q, slots := xms q, locals := 40 * (d + 1) } (va_Pc (as.map (xG B ev sa)) (xPre B ev sa cA D w)) (xPost B ev sa cA D r w1) (xmc q) (xms q) (fun z => B ≤ z)
def xCa (l : Launch) (B : Nat) (ev : Nat → Int32) (sa : Nat → Nat) (cA : Nat → ClassId) (D : va_G) (d : Nat) (call : Nat → List Value → xW → Option (Option Value × xW)) : Prop := ∀ (j : Nat) (as : List Value) (w : xW) (z : Option Value × xW) (q : xM), call j as w = some z → xMs[j]? = some q → xMet l B ev sa cA D d q as w z.1 z.2 ∧ z.2.length = w.length + xmc q
theorem xkd0 {v : Value} (h : xkd 0 v = true) : xG B ev sa v = .int (xi ev v) := by
  cases v <;> first | rfl | cases h
theorem xkd1 {v : Value} (h : xkd 1 v = true) : xG B ev sa v = .long (xl v) := by
  cases v <;> first | rfl | cases h
theorem xkd2 {v : Value} (h : xkd 2 v = true) : ∃ a, xG B ev sa v = .ref a := by
  cases v <;> first | exact ⟨_, rfl⟩ | cases h
theorem xlv_ls {ls : Array Slot} {lv : List (Nat × Value)} {i : Nat} {v : Value} (h : lv_has ls nL (lv.map (xG2 B ev sa))) (hv : xlv lv i = some v) : ls[i]? = some (.val (xG B ev sa v)) := h.2.2 (i, xG B ev sa v) (List.mem_map.mpr ⟨(i, v), xlv_mem hv, rfl⟩)
theorem xf1_map (lv : List (Nat × Value)) (i : Nat) : (lv.map (xG2 B ev sa)).filter (fun q => !(q.1 == i) && !(q.1 + 1 == i && q.2.category == 2)) = (lv.filter (xf1 i)).map (xG2 B ev sa) := by
  rw [List.filter_map]
  congr 1
  apply List.filter_congr
  intro q _
  simp only [Function.comp, xG2, xG_cat, xf1]
theorem xf2_map (lv : List (Nat × Value)) (i : Nat) : (lv.map (xG2 B ev sa)).filter (fun q => !(q.1 == i) && (!(q.1 == i + 1) && !(q.1 + 1 == i && q.2.category == 2))) = (lv.filter (xf2 i)).map (xG2 B ev sa) := by
  rw [List.filter_map]
  congr 1
  apply List.filter_congr
  intro q _
  simp only [Function.comp, xG2, xG_cat, xf2]
theorem xlen {a b : Nat} (h : Nat.beq a b = true) : a = b := Nat.eq_of_beq_eq_true h
/-- a branch -/
theorem xBr_ok {tab : List xE} {en : xE} {cs : List xE} {op : ClassFile.Cond} {off : Int} {x y : Value} {k : List xE → Option xX} {X : xX} (hev : xEv ivs ev) (h : xBr ivs tab en cs op off x y k = some X) : ∃ (r : Bool) (cs1 : List xE), xG B ev sa x = .int (xi ev x) ∧ xG B ev sa y = .int (xi ev y) ∧ ((r = true → xrel op (xi ev x).toInt (xi ev y).toInt) ∧ (r = false → ¬ xrel op (xi ev x).toInt (xi ev y).toInt)) ∧ k cs1 = some X ∧ (r = true → (en.1 : Int) + off = (xpc cs1 : Int)) ∧ (r = false → xpc cs1 = en.1 + 3) ∧ (∀ q ∈ cs1, q ∈ tab ∨ q ∈ cs) ∧ 0 ≤ (en.1 : Int) + off := by
  obtain ⟨a, ha, h⟩ := xOp_ok h
  obtain ⟨b, hb, h⟩ := xOp_ok h
  obtain ⟨r, hr, h⟩ := xOp_ok h
  obtain ⟨h0, h⟩ := xgd_ok h
  have h0 := of_decide_eq_true h0
  have qa := xbd_ok hev ha (B := B) (sa := sa)
  have qb := xbd_ok hev hb (B := B) (sa := sa)
  have qr := xcmp_ok qa.1 qb.1 hr
  cases r with
  | true =>
    obtain ⟨cs1, h1, h2, h3⟩ := xJm_ok h
    exact ⟨true, cs1, qa.2, qb.2, qr, h2, fun _ => h1, fun h => (by cases h), fun q hq => Or.inl (h3 q hq), h0⟩
  | false =>
    obtain ⟨h1, h2⟩ := xNx_ok h
    exact ⟨false, cs, qa.2, qb.2, qr, h2, fun h => (by cases h), fun _ => h1, fun q hq => Or.inr hq, h0⟩
theorem x_icmp {op : ClassFile.Cond} {off : Int} {pc tgt : Nat} {x y : Int32} {r : Bool} {H : Heap} {locs : List Loc} {mc ms : Nat} {ls : Array Slot} {rest : List Value} (hx : p.tables.exec = Jvm.exec) (hb : c.code = cc) (hd : decode cc pc = .ok (.if_icmp op off, 3)) (hr : (r = true → xrel op x.toInt y.toInt) ∧ (r = false → ¬ xrel op x.toInt y.toInt)) (ht : r = true → (pc : Int) + off = (tgt : Int)) (hf : r = false → tgt = pc + 3) (h0 : 0 ≤ (pc : Int) + off) (G : W p l e R s m args below meth c H locs mc ms Q (F0 m tgt ls rest)) : W p l e R s m args below meth c H locs mc ms Q (F0 m pc ls (.int y :: .int x :: rest)) := by
  have h1 : (pc : Int) + off = (((pc : Int) + off).toNat : Int) := (Int.toNat_of_nonneg h0).symm
  cases r with
  | true =>
    have hq := hr.1 rfl
    have ht := ht rfl
    cases op with
    | eq => exact lv_icmp_eq hx hb hd ht (fun _ => G) (fun n => absurd (Int32.toInt_inj.mp hq) n)
    | ne => exact lv_icmp_ne hx hb hd ht (fun _ => G) (fun n => absurd (by rw [n]) hq)
    | lt => exact lv_icmp_lt hx hb hd ht (fun _ => G) (fun n => absurd (Int32.lt_iff_toInt_lt.mpr hq) n)
    | ge => exact lv_icmp_ge hx hb hd ht (fun _ => G) (fun n => absurd (Int32.le_iff_toInt_le.mpr hq) n)
    | gt => exact lv_icmp_gt hx hb hd ht (fun _ => G) (fun n => absurd (Int32.lt_iff_toInt_lt.mpr hq) n)
    | le => exact lv_icmp_le hx hb hd ht (fun _ => G) (fun n => absurd (Int32.le_iff_toInt_le.mpr hq) n)
  | false =>
    have hq := hr.2 rfl
    have hf := hf rfl
    subst hf
    cases op with
    | eq => exact lv_icmp_eq hx hb hd h1 (fun n => absurd (Int32.toInt_inj.mpr n) hq) (fun _ => G)
    | ne => exact lv_icmp_ne hx hb hd h1 (fun n => absurd (fun z => n (Int32.toInt_inj.mp z)) hq) (fun _ => G)
    | lt => exact lv_icmp_lt hx hb hd h1 (fun n => absurd (Int32.lt_iff_toInt_lt.mp n) hq) (fun _ => G)
    | ge => exact lv_icmp_ge hx hb hd h1 (fun n => absurd (Int32.le_iff_toInt_le.mp n) hq) (fun _ => G)
    | gt => exact lv_icmp_gt hx hb hd h1 (fun n => absurd (Int32.lt_iff_toInt_lt.mp n) hq) (fun _ => G)
    | le => exact lv_icmp_le hx hb hd h1 (fun n => absurd (Int32.le_iff_toInt_le.mp n) hq) (fun _ => G)
theorem x_if {op : ClassFile.Cond} {off : Int} {pc tgt : Nat} {x : Int32} {r : Bool} {H : Heap} {locs : List Loc} {mc ms : Nat} {ls : Array Slot} {rest : List Value} (hx : p.tables.exec = Jvm.exec) (hb : c.code = cc) (hd : decode cc pc = .ok (.ifCond op off, 3)) (hr : (r = true → xrel op x.toInt (0 : Int32).toInt) ∧ (r = false → ¬ xrel op x.toInt (0 : Int32).toInt)) (ht : r = true → (pc : Int) + off = (tgt : Int)) (hf : r = false → tgt = pc + 3) (h0 : 0 ≤ (pc : Int) + off) (G : W p l e R s m args below meth c H locs mc ms Q (F0 m tgt ls rest)) : W p l e R s m args below meth c H locs mc ms Q (F0 m pc ls (.int x :: rest)) := by
  have h1 : (pc : Int) + off = (((pc : Int) + off).toNat : Int) := (Int.toNat_of_nonneg h0).symm
  cases r with
  | true =>
    have hq := hr.1 rfl
    have ht := ht rfl
    cases op with
    | eq => exact lv_if_eq hx hb hd ht (fun _ => G) (fun n => absurd (Int32.toInt_inj.mp hq) n)
    | ne => exact lv_if_ne hx hb hd ht (fun _ => G) (fun n => absurd (by rw [n]) hq)
    | lt => exact lv_if_lt hx hb hd ht (fun _ => G) (fun n => absurd (Int32.lt_iff_toInt_lt.mpr hq) n)
    | ge => exact lv_if_ge hx hb hd ht (fun _ => G) (fun n => absurd (Int32.le_iff_toInt_le.mpr hq) n)
    | gt => exact lv_if_gt hx hb hd ht (fun _ => G) (fun n => absurd (Int32.lt_iff_toInt_lt.mpr hq) n)
    | le => exact lv_if_le hx hb hd ht (fun _ => G) (fun n => absurd (Int32.le_iff_toInt_le.mpr hq) n)
  | false =>
    have hq := hr.2 rfl
    have hf := hf rfl
    subst hf
    cases op with
    | eq => exact lv_if_eq hx hb hd h1 (fun n => absurd (Int32.toInt_inj.mpr n) hq) (fun _ => G)
    | ne => exact lv_if_ne hx hb hd h1 (fun n => absurd (fun z => n (Int32.toInt_inj.mp z)) hq) (fun _ => G)
    | lt => exact lv_if_lt hx hb hd h1 (fun n => absurd (Int32.lt_iff_toInt_lt.mp n) hq) (fun _ => G)
    | ge => exact lv_if_ge hx hb hd h1 (fun n => absurd (Int32.le_iff_toInt_le.mp n) hq) (fun _ => G)
    | gt => exact lv_if_gt hx hb hd h1 (fun n => absurd (Int32.lt_iff_toInt_lt.mp n) hq) (fun _ => G)
    | le => exact lv_if_le hx hb hd h1 (fun n => absurd (Int32.le_iff_toInt_le.mp n) hq) (fun _ => G)
/-- a local is stored -/
theorem x_st1 {ls : Array Slot} {lv : List (Nat × Value)} {i : Nat} {v : Value} : (i, xG B ev sa v) :: (lv.map (xG2 B ev sa)).filter (fun q => !(q.1 == i) && !(q.1 + 1 == i && q.2.category == 2)) = ((i, v) :: lv.filter (xf1 i)).map (xG2 B ev sa) := by
  rw [xf1_map]; rfl
theorem x_st2 {ls : Array Slot} {lv : List (Nat × Value)} {i : Nat} {v : Value} : (i, xG B ev sa v) :: (lv.map (xG2 B ev sa)).filter (fun q => !(q.1 == i) && (!(q.1 == i + 1) && !(q.1 + 1 == i && q.2.category == 2))) = ((i, v) :: lv.filter (xf2 i)).map (xG2 B ev sa) := by
  rw [xf2_map]; rfl
theorem x_in {i : Int32} {n : Nat} (h : xin i n = true) : vp_in i n := by
  unfold xin at h
  rw [Bool.and_eq_true, decide_eq_true_eq, decide_eq_true_eq] at h
  exact vp_in_iff.mpr h
theorem x_hin {q : vw_C} {ci : Nat} (h : xcl[ci]? = some q) : ∀ w ∈ u_ws q.1 q.2.1 q.2.2, w ∈ xT := by
  obtain ⟨ty, fs, -, -, h1, -⟩ := x_cls ci q h
  exact h1
/-- what a step answers -/
def xRs (p : Program) (l : Launch) (e : Env) (R : Room) (s : State) (m : MethodId) (args : Array Value) (below : List Frame) (meth : Method) (c : Code) (Q : State → Prop) (own : String) (ini : Bool) (cc : ByteArray) (nL B : Nat) (ev : Nat → Int32) (sa : Nat → Nat) (cA : Nat → ClassId) (D : va_G) (k : xX → Option xX) (X' : xX) (cs : List xE) (lv : List (Nat × Value)) (st : List Value) (w : xW) (mc ms : Nat) : Prop := X' = (cs, lv, st, w, mc, ms) ∨ ∃ (cs1 : List xE) (lv1 : List (Nat × Value)) (st1 : List Value) (w1 : xW) (mc1 ms1 : Nat), k (cs1, lv1, st1, w1, mc1, ms1) = some X' ∧ (∀ q ∈ cs1, xOK own ini cc q) ∧ (xGd p l e R s m args below meth c Q nL B ev sa cA D cs1 lv1 st1 w1 mc1 ms1 → xGd p l e R s m args below meth c Q nL B ev sa cA D cs lv st w mc ms)
end XS
end
section
/-! each instruction of the executor is the machine's -/
section XS
variable {p : Program} {l : Launch} {e : Env} {R : Room} {s : State} {m : MethodId} {args : Array Value} {below : List Frame} {meth : Method} {c : Code} {Q : State → Prop} {cc : ByteArray} {own : String} {B : Nat} {ev : Nat → Int32} {sa : Nat → Nat} {cA : Nat → ClassId} {D : va_G} {ini : Bool} {nL d : Nat} {ivs : List (Int × Int)} {LL : Option Nat}
theorem x_sz {H : Heap} {locs : List Loc} {cells slots : Nat} {g : JFrame} (k : H.size ≤ s.heap.size + cells → W p l e R s m args below meth c H locs cells slots Q g) : W p l e R s m args below meth c H locs cells slots Q g := fun T hT X => k (by rw [← hT]; exact X.heapSize) T hT X
theorem x_low {w : xW} {H : Heap} (hP : va_P D xcl (xWd B ev sa cA w) H) (hB : B ≤ H.size) : B + w.length ≤ H.size := by
  rcases Nat.eq_zero_or_pos w.length with h | h
  · omega
  · have h1 : w[w.length - 1]? = some w[w.length - 1] := List.getElem?_eq_getElem (by omega)
    have h2 := (hP _ _ (xWd_get h1)).lt
    simp only at h2
    omega
theorem x_new {w : xW} {q : Nat} {en : va_E} {H1 : Heap} (hP : va_P D xcl (xWd B ev sa cA w ++ [(q, en)]) H1) (hD : va_D (fun q => B ≤ q) (xWd B ev sa cA w ++ [(q, en)])) (hz : H1.size ≤ B + w.length + 1) : q = B + w.length := by
  have hlen : (xWd B ev sa cA w).length = w.length := by unfold xWd; simp
  have h0 : (xWd B ev sa cA w ++ [(q, en)])[w.length]? = some (q, en) := by
    rw [List.getElem?_append_right (by omega), hlen, Nat.sub_self]; rfl
  have h1 := (hP _ _ h0).lt
  have h2 : B ≤ q := hD.2 _ _ h0
  simp only at h1
  rcases Nat.lt_or_ge q (B + w.length) with h | h
  · exfalso
    have h3 : w[q - B]? = some w[q - B] := List.getElem?_eq_getElem (by omega)
    have h4 : (xWd B ev sa cA w ++ [(q, en)])[q - B]? = some (B + (q - B), xCe B ev sa cA w[q - B]) := by
      rw [List.getElem?_append_left (by omega)]; exact xWd_get h3
    have h5 := hD.1 (q - B) w.length _ _ h4 h0 (by simp only; omega)
    omega
  · omega
theorem xFl_ok {ix : Nat} {en : xE} (h : xFl own ix en = true) : ∃ q, xcl[xa2 en / 100]? = some q ∧ xa2 en % 100 < q.2.2 ∧ (q.2.1 (xa2 en % 100)).1 = q.1 ∧ Cond.fieldLink own ix q.1 (q.2.1 (xa2 en % 100)).2.1 (q.2.1 (xa2 en % 100)).2.2.1 ∈ xT := by
  unfold xFl at h
  split at h
  · rename_i q hq
    simp only [Bool.and_eq_true, decide_eq_true_eq] at h
    exact ⟨q, hq, h.1, h.2.1, xw_mem h.2.2⟩
  · cases h
theorem xFt_ok {en : xE} {q : vw_C} (h : xFt own ini en = true) (hq : xcl[xa2 en / 100]? = some q) : ∃ ty, xtt[xa2 en / 100]? = some ty ∧ xtc (xa3 en) (ty (xa2 en % 100)) = true ∧ ((q.2.1 (xa2 en % 100)).2.2.2 = false ∨ (ini = true ∧ own = q.1 ∧ (q.2.1 (xa2 en % 100)).2.2.2 = true)) := by
  unfold xFt at h
  split at h
  · rename_i q' ty hq' hty
    rw [hq] at hq'
    cases hq'
    simp only [Bool.and_eq_true, Bool.or_eq_true, decide_eq_true_eq] at h
    refine ⟨ty, hty, h.1, ?_⟩
    cases hf : (q.2.1 (xa2 en % 100)).2.2.2 with
    | false => exact Or.inl rfl
    | true =>
      rw [hf] at h
      rcases h.2 with h2 | h2
      · cases h2
      · exact Or.inr ⟨h2.1, h2.2, rfl⟩
  · cases h
theorem xft_ok {n : Nat} {v : Value} {ty : FieldType} (h : xft n v = true) (ht : xtc n ty = true) : narrow ty (xG B ev sa v) = xG B ev sa v ∧ fits ty (xG B ev sa v) = true := by
  match n, h, ht with
  | 0, h, ht =>
    rw [xkd0 h]
    cases ty <;> first | exact ⟨rfl, rfl⟩ | exact nomatch ht
  | 1, h, ht =>
    rw [xkd1 h]
    cases ty <;> first | exact ⟨rfl, rfl⟩ | exact nomatch ht
  | 2, h, ht => exact nomatch h
  | 3, h, ht =>
    cases v with
    | int x =>
      have h : (decide (x = 0) || decide (x = 1)) = true := h
      rw [Bool.or_eq_true, decide_eq_true_eq, decide_eq_true_eq] at h
      cases ty <;> first | (rcases h with h | h <;> subst h <;> exact ⟨rfl, rfl⟩) | exact nomatch ht
    | _ => exact nomatch h
  | 4, h, ht =>
    obtain ⟨a, ha⟩ := xkd2 (B := B) (ev := ev) (sa := sa) h
    rw [ha]
    cases ty <;> first | exact ⟨rfl, rfl⟩ | exact nomatch ht
  | n + 5, h, ht => exact nomatch h
theorem x_upd {es : List (Nat × Value)} {j : Nat} {v : Value} {x : Int32} (hv : xi ev v = x) : upd (fun j => xi ev (xlk es (.int 0) j)) j x = fun i => xi ev (xlk ((j, v) :: es) (.int 0) i) := by
  funext i
  show (if i = j then x else _) = xi ev (cond (Nat.beq j i) v (xlk es (.int 0) i))
  by_cases h : i = j
  · subst h; rw [if_pos rfl, Nat.beq_refl]; exact hv.symm
  · rw [if_neg h]
    cases hb : Nat.beq j i with
    | true => exact absurd (Nat.eq_of_beq_eq_true hb).symm h
    | false => rfl
theorem x_updL {es : List (Nat × Value)} {j : Nat} {v : Value} {x : Int64} (hv : xl v = x) : vp_updL (fun j => xl (xlk es (.long 0) j)) j x = fun i => xl (xlk ((j, v) :: es) (.long 0) i) := by
  funext i
  show (if i = j then x else _) = xl (cond (Nat.beq j i) v (xlk es (.long 0) i))
  by_cases h : i = j
  · subst h; rw [if_pos rfl, Nat.beq_refl]; exact hv.symm
  · rw [if_neg h]
    cases hb : Nat.beq j i with
    | true => exact absurd (Nat.eq_of_beq_eq_true hb).symm h
    | false => rfl
theorem xw_set {w : xW} {k : Nat} {c : xC} : (w.set k c).length = w.length := List.length_set
theorem xNw_ok {MC MS : Nat} {en : xE} {cs : List xE} {lv : List (Nat × Value)} {w : xW} {mc ms : Nat} {k : xX → Option xX} {c0 : xC} {n : Nat} {r : List Value} {X : xX} (h : xNw MC MS en cs lv w mc ms k c0 n r = some X) : mc + 1 ≤ MC ∧ ms + n ≤ MS ∧ xpc cs = en.1 + en.2.2.1 ∧ k (cs, lv, .ref w.length :: r, w ++ [c0], mc + 1, ms + n) = some X := by
  obtain ⟨h1, h⟩ := xgd_ok h
  rw [Bool.and_eq_true] at h1
  rw [fN_eq, fN_eq, fN_eq, appK_eq] at h
  obtain ⟨h2, h3⟩ := xNx_ok h
  exact ⟨Nat.le_of_ble_eq_true h1.1, Nat.le_of_ble_eq_true h1.2, h2, h3⟩
theorem x_plm {fs : List Value} (h : ∀ v ∈ fs, xpl v = true) : fs.map (xG B ev sa) = fs := by
  induction fs with
  | nil => rfl
  | cons v r ih =>
    rw [List.map_cons, xpl_G (h v List.mem_cons_self), ih (fun z hz => h z (List.mem_cons_of_mem _ hz))]
theorem x_nwa {t : ArrayType} {a2 N : Nat} (h : xat a2 t = true) : (∀ c0 : ClassId, vp_cell c0 (xAr B ev (a2, N, [])) = arrV c0 N (fun _ => defaultValue (newarray.typeOf t))) ∧ (xTy cA)[a2]? = some (cA a2, newarray.typeOf t) ∧ (∀ (U : State) (c1 : ClassId), va_RA U c1 (newarray.typeOf t) → va_RA U (cA a2) (newarray.typeOf t) → c1 = cA a2) ∧ componentBytes (newarray.typeOf t) ≤ 8 := by
  match a2, t, h with
  | 0, .int, _ => exact ⟨fun _ => rfl, rfl, fun U c1 g1 g2 => Option.some.inj ((show U.vm.findClass _ = some c1 from g1).symm.trans g2), by decide⟩
  | 1, .long, _ => exact ⟨fun _ => rfl, rfl, fun U c1 g1 g2 => Option.some.inj ((show U.vm.findClass _ = some c1 from g1).symm.trans g2), by decide⟩
  | 2, .byte, _ => exact ⟨fun _ => rfl, rfl, fun U c1 g1 g2 => Option.some.inj ((show U.vm.findClass _ = some c1 from g1).symm.trans g2), by decide⟩
  | 3, .boolean, _ => exact ⟨fun _ => rfl, rfl, fun U c1 g1 g2 => Option.some.inj ((show U.vm.findClass _ = some c1 from g1).symm.trans g2), by decide⟩
theorem x_setq {w : xW} {k : Nat} {c0 : xC} (h : w[k]? = some c0) : w.set k c0 = w := by
  apply List.ext_getElem?
  intro i
  rw [List.getElem?_set]
  by_cases hk : k = i
  · subst hk
    rw [if_pos rfl, h]
    rw [if_pos (List.getElem?_eq_some_iff.mp h).1]
  · rw [if_neg hk]
theorem xMa_eq (w : xW) (h K : Nat) (k : xW → Option xX) : xMa w h K k = k (w ++ [.inl (4, 6, [(0, .ref (h + 1)), (1, .ref (h + 2)), (2, .ref (h + 3)), (3, .ref (h + 4)), (4, .ref (h + 5)), (5, .ref (h + 6))])] ++ [.inl (1, K, [])] ++ [.inl (1, K, [])] ++ [.inl (1, K, [])] ++ [.inl (1, K, [])] ++ [.inl (1, K, [])] ++ [.inl (1, K, [])]) := by
  unfold xMa
  rw [appK_eq, appK_eq, appK_eq, appK_eq, appK_eq, appK_eq, appK_eq]
theorem x_P1 {w : xW} {c0 : xC} {H1 : Heap} (h : va_P D xcl (xWd B ev sa cA w) H1) (h0 : va_at D xcl (B + w.length, xCe B ev sa cA c0) H1) : va_P D xcl (xWd B ev sa cA (w ++ [c0])) H1 := by
  rw [xWd_app]
  refine h.app (fun k q hk => ?_)
  have hz : k < 1 := (List.getElem?_eq_some_iff.mp hk).1
  rw [show k = 0 by omega] at hk
  cases hk
  exact h0
theorem x_ma7l (w : xW) (c0 c1 c2 c3 c4 c5 c6 : xC) : (w ++ [c0] ++ [c1] ++ [c2] ++ [c3] ++ [c4] ++ [c5] ++ [c6]).length = w.length + 7 := by
  simp
theorem x_ma7 {w : xW} {H H1 : Heap} {K : Nat} (hP : va_P D xcl (xWd B ev sa cA w) H) (hz : H.size = B + w.length) (hH : mz_H H H1 (cA 4) (cA 1) 6 K 6) : va_P D xcl (xWd B ev sa cA (w ++ [.inl (4, 6, [(0, .ref (w.length + 1)), (1, .ref (w.length + 2)), (2, .ref (w.length + 3)), (3, .ref (w.length + 4)), (4, .ref (w.length + 5)), (5, .ref (w.length + 6))])] ++ [.inl (1, K, [])] ++ [.inl (1, K, [])] ++ [.inl (1, K, [])] ++ [.inl (1, K, [])] ++ [.inl (1, K, [])] ++ [.inl (1, K, [])])) H1 := by
  obtain ⟨z, hk, ⟨oslots, ho, o3, o4⟩, hin⟩ := hH
  have hi : ∀ (j n : Nat), j < 6 → n = w.length + 1 + j → va_at D xcl (B + n, xCe B ev sa cA (.inl (1, K, []))) H1 := by
    intro j n hj hn
    show H1[B + n]? = some (arrV (cA 1) K (fun _ => .long 0))
    rw [show B + n = H.size + 1 + j by omega, hin j hj]
    congr 1
    unfold arrV
    congr 1
    apply Array.ext
    · simp
    · intro i h1 h2; simp
  have h0 : va_at D xcl (B + w.length, xCe B ev sa cA (.inl (4, 6, [(0, .ref (w.length + 1)), (1, .ref (w.length + 2)), (2, .ref (w.length + 3)), (3, .ref (w.length + 4)), (4, .ref (w.length + 5)), (5, .ref (w.length + 6))]))) H1 := by
    show H1[B + w.length]? = some (arrV (cA 4) 6 (fun j => va_rf (xr B (xlk [(0, .ref (w.length + 1)), (1, .ref (w.length + 2)), (2, .ref (w.length + 3)), (3, .ref (w.length + 4)), (4, .ref (w.length + 5)), (5, .ref (w.length + 6))] .null j))))
    rw [← hz, ho]
    congr 1
    unfold arrV
    congr 1
    apply Array.ext
    · simp [o3]
    · intro i h1 h2
      have hi6 : i < 6 := by omega
      have q := o4 i hi6
      rw [if_pos hi6, hz] at q
      have q2 := (Array.getElem?_eq_some_iff.mp q).2
      rw [q2]
      simp only [Array.getElem_ofFn]
      have h7 : i = 0 ∨ i = 1 ∨ i = 2 ∨ i = 3 ∨ i = 4 ∨ i = 5 := by omega
      rcases h7 with rfl | rfl | rfl | rfl | rfl | rfl <;> rfl
  have hP0 : va_P D xcl (xWd B ev sa cA w) H1 := hP.kept (fun k q hq => hk q.1 ((hP k q hq).lt))
  refine x_P1 (x_P1 (x_P1 (x_P1 (x_P1 (x_P1 (x_P1 hP0 h0) (hi 0 _ (by omega) ?_)) (hi 1 _ (by omega) ?_)) (hi 2 _ (by omega) ?_)) (hi 3 _ (by omega) ?_)) (hi 4 _ (by omega) ?_)) (hi 5 _ (by omega) ?_) <;> simp
theorem xsp_ok {n : Nat} {acc st : List Value} {k : List Value → List Value → Option xX} {X : xX} (h : xsp n acc st k = some X) : ∃ as r, st = as.reverse ++ r ∧ as.length = n ∧ k (as ++ acc) r = some X := by
  induction n generalizing acc st with
  | zero => exact ⟨[], st, rfl, rfl, h⟩
  | succ n ih =>
    cases st with
    | nil => exact nomatch h
    | cons v r0 =>
      obtain ⟨as, r, e1, e2, e3⟩ := ih (show xsp n (v :: acc) r0 k = some X from h)
      refine ⟨as ++ [v], r, ?_, by simp [e2], by rw [List.append_assoc]; exact e3⟩
      rw [e1, List.reverse_append]; rfl
theorem xCl_ok {MC MS : Nat} {call : Nat → List Value → xW → Option (Option Value × xW)} {en : xE} {cs : List xE} {lv : List (Nat × Value)} {w : xW} {mc ms : Nat} {k : xX → Option xX} {q : xM} {as r : List Value} {X : xX} (h : xCl MC MS call en cs lv w mc ms k q as r = some X) : ((r.map fun v => v.category).sum ≤ 8 ∧ mc + xmc q ≤ MC ∧ ms + xms q ≤ MS) ∧ ∃ z, call (xa3 en) as w = some z ∧ xpc cs = en.1 + 3 ∧ k (cs, lv, z.1.toList ++ r, z.2, mc + xmc q, ms + xms q) = some X := by
  obtain ⟨h1, h⟩ := xgd_ok h
  rw [Bool.and_eq_true, Bool.and_eq_true] at h1
  obtain ⟨z, hz, h⟩ := xOp_ok h
  rw [fN_eq, fN_eq] at h
  obtain ⟨h2, h3⟩ := xNx_ok h
  exact ⟨⟨Nat.le_of_ble_eq_true h1.1, Nat.le_of_ble_eq_true h1.2.1, Nat.le_of_ble_eq_true h1.2.2⟩, z, hz, h2, h3⟩
/-- the words of a callee -/
def xMw (q : xM) : Prop := Cond.code (xmy q) (xmb q) (xml q) (xmr q) ∈ xT ∧ (xmy q).cls ≠ "java/lang/invoke/MethodHandle" ∧ (xmy q).cls ≠ "java/lang/invoke/VarHandle" ∧ (parseMethodDescriptor (xmy q).desc).map (fun d => d.parameters.length) = some (xmn q) ∧ xml q ≤ 21 ∧ Cond.initialized (xmy q).cls ∈ xT
theorem xMk_ok {q : xM} (h : xMk q = true) : xMw q := by
  unfold xMk at h
  simp only [Bool.and_eq_true, decide_eq_true_eq] at h
  exact ⟨xw_mem h.1, h.2.1, h.2.2.1, h.2.2.2.1, Nat.le_of_ble_eq_true h.2.2.2.2.1, xw_mem h.2.2.2.2.2⟩
def xIw (own : String) (ix : Nat) (q : xM) (t : Nat) : Prop := match t with
  | 0 => Cond.methodLink own ix (xmy q) ∈ xT ∧ Cond.instanceMethod (xmy q) ∈ xT ∧ (xcl[xmk q]?).map (fun z => z.1) = some (xmy q).cls ∧ Cond.selects (xmy q).cls (xmy q) (xmy q) ∈ xT
  | 1 => Cond.methodLinkNest own ix (xmy q) "RollCutter" ∈ xN ∧ Cond.instanceMethod (xmy q) ∈ xT ∧ (xcl[xmk q]?).map (fun z => z.1) = some (xmy q).cls ∧ Cond.selects (xmy q).cls (xmy q) (xmy q) ∈ xT
  | 2 => Cond.methodLink own ix (xmy q) ∈ xT ∧ Cond.static (xmy q) ∈ xT
  | 3 => Cond.methodLinkNest own ix (xmy q) "RollCutter" ∈ xN ∧ Cond.static (xmy q) ∈ xT
  | 4 => Cond.methodLink own ix (xmy q) ∈ xT ∧ Cond.instanceMethod (xmy q) ∈ xT ∧ (xcl[xmk q]?).map (fun z => z.1) = some (xmy q).cls ∧ (xmy q).name = "<init>" ∧ xmr q = none
  | _ => Cond.methodLinkNest own ix (xmy q) "RollCutter" ∈ xN ∧ Cond.instanceMethod (xmy q) ∈ xT ∧ (xcl[xmk q]?).map (fun z => z.1) = some (xmy q).cls ∧ (xmy q).name = "<init>" ∧ xmr q = none
theorem xIv_ok {ix : Nat} {en : xE} {t : Nat} (h : xIv own ix en t = true) : ∃ q, xMs[xa3 en]? = some q ∧ xMw q ∧ xIw own ix q t := by
  unfold xIv at h
  cases hq : xMs[xa3 en]? with
  | none => rw [hq] at h; cases h
  | some q =>
    rw [hq] at h
    have h : (xMk q && xIt own ix en q t) = true := h
    rw [Bool.and_eq_true] at h
    refine ⟨q, rfl, xMk_ok h.1, ?_⟩
    have h2 := h.2
    unfold xIt at h2
    split at h2
    · simp only [xMo, Bool.and_eq_true, decide_eq_true_eq] at h2
      exact ⟨xw_mem h2.1, xw_mem h2.2.1.2, h2.2.1.1, xw_mem h2.2.2⟩
    · simp only [xMo, Bool.and_eq_true, decide_eq_true_eq] at h2
      exact ⟨xwN_mem h2.1, xw_mem h2.2.1.2, h2.2.1.1, xw_mem h2.2.2⟩
    · simp only [Bool.and_eq_true] at h2
      exact ⟨xw_mem h2.1, xw_mem h2.2⟩
    · simp only [Bool.and_eq_true] at h2
      exact ⟨xwN_mem h2.1, xw_mem h2.2⟩
    · simp only [xMo, Bool.and_eq_true, decide_eq_true_eq] at h2
      exact ⟨xw_mem h2.1, xw_mem h2.2.1.2, h2.2.1.1, h2.2.2.1, h2.2.2.2⟩
    · simp only [xMo, Bool.and_eq_true, decide_eq_true_eq] at h2
      exact ⟨xwN_mem h2.1, xw_mem h2.2.1.2, h2.2.1.1, h2.2.2.1, h2.2.2.2⟩
    · cases h2
theorem x_cats (r : List Value) : ((r.map (xG B ev sa)).map fun v => v.category).sum = (r.map fun v => v.category).sum := by
  rw [List.map_map]
  congr 1
  apply List.map_congr_left
  intro v _
  exact xG_cat B ev sa v
theorem x_tol (r : Option Value) : r.toList.map (xG B ev sa) = (r.map (xG B ev sa)).toList := by
  cases r <;> rfl
theorem xNb_on {w : Jvm.Cond} (h : xNb w = true) : w.onTables = true := by
  cases w <;> first | rfl | exact nomatch h
theorem x_nws {u U : State} (h : u.vm = U.vm) (hz : ∀ w ∈ xN, va_Nw w u) : ∀ w ∈ xN, va_Nw w U := fun w hw => va_Nw.same (xNb_on (List.mem_filter.mp hw).2) h (hz w hw)
theorem x_nwm {U : State} (hW : s.WarmedH U.vm) (hz : ∀ w ∈ xN, va_Nw w s) : ∀ w ∈ xN, va_Nw w U := by
  intro w hw
  have h1 := (List.mem_filter.mp hw).2
  have h2 := hz w hw
  cases w with
  | methodLinkNest a b c d => exact va_Nw.warmM hW h2
  | castable a b => exact va_Nw.warmC hW h2
  | _ => exact nomatch h1
theorem x_blind {w : xW} {av : List Value} : FrameBlind (va_Pc av (xPre B ev sa cA D w)) := fun a U g mk q => ⟨q.1, q.2.1, q.2.2.1, q.2.2.2.1, va_K.moved (u := U) (U := U.calling g mk a) (Vm.Alike.refl U.vm) q.2.2.2.2.1, x_nws (u := U) (U := U.calling g mk a) rfl q.2.2.2.2.2.1, q.2.2.2.2.2.2.same rfl⟩
theorem x_pcU {w : xW} {H : Heap} {av : List Value} (hz : H.size = B + w.length) (hB : B ≤ H.size) (hP : va_P D xcl (xWd B ev sa cA w) H) (hK : va_K D xcl (xTy cA) s) (hNw : ∀ w ∈ xN, va_Nw w s) (hXs : xStr B sa s H) : ∀ U : State, U.heap = H → s.WarmedH U.vm → va_Pc av (xPre B ev sa cA D w) av.toArray U := fun U hU hW => ⟨rfl, by rw [hU]; exact hB, by rw [hU]; exact hz, by rw [hU]; exact hP, va_K.moved hW.alike hK, x_nwm hW hNw, by rw [hU]; exact hXs.moved hW⟩
theorem x_rcv {w : xW} {H : Heap} {a ci : Nat} {fs : List Value} {q : xM} (hK : va_K D xcl (xTy cA) s) (hP : va_P D xcl (xWd B ev sa cA w) H) (hw : w[a]? = some (.inr (ci, fs))) (hc : ci = xmk q) (hq : (xcl[xmk q]?).map (fun z => z.1) = some (xmy q).cls) : ∃ cellB : Cell, H[B + a]? = some cellB ∧ cellB.vm.isStatics = false ∧ s.vm.findClass (xmy q).cls = some cellB.cls := by
  subst hc
  cases hz : xcl[xmk q]? with
  | none => rw [hz] at hq; cases hq
  | some z =>
    rw [hz] at hq
    obtain ⟨cell, e1, e2, e3⟩ := va_recv hK hP hz (xWd_get hw)
    exact ⟨cell, e1, e2, by rw [← Option.some.inj hq]; exact e3⟩
theorem x_gin {q : xM} (h : xMw q) : GoodIn xT (Cond.code (xmy q) (xmb q) (xml q) (xmr q) :: xT) := fun w hw => by
  rcases List.mem_cons.mp hw with rfl | hw
  · exact ⟨h.1, x_good _ h.1⟩
  · exact ⟨hw, x_good _ hw⟩
theorem x_cb {ix : Nat} {q : xM} (hts : ∀ w ∈ xT, w.before args s = true) (h : xMw q) (hl : Cond.methodLink own ix (xmy q) ∈ xT) (hR : d + 2 ≤ R.frames ∧ 40 * (d + 2) ≤ R.locals) : CallB R s args own ix (xmy q) (xmb q) (xml q) (xmr q) (Cond.code (xmy q) (xmb q) (xml q) (xmr q) :: xT) { frames := d + 1, cells := xmc q, slots := xms q, locals := 40 * (d + 1) } (xmc q) (xms q) (xmn q) :=
  callB_of (xmn q) hts (x_gin h) rfl rfl rfl (hts _ h.2.2.2.2.2) (hts _ hl) ⟨h.2.1, h.2.2.1, h.2.2.2.1⟩ ⟨hR.1, by have := h.2.2.2.2.1; show 8 + (xml q + 11) + 40 * (d + 1) ≤ R.locals; omega⟩
theorem x_nw {w : Cond} (h : w.onTables = true) (hb : w.before args s = true) : va_Nw w s := va_tabs h rfl hb
theorem x_cbN {ix : Nat} {q : xM} (hts : ∀ w ∈ xT, w.before args s = true) (hNw : ∀ w ∈ xN, va_Nw w s) (h : xMw q) (hl : Cond.methodLinkNest own ix (xmy q) "RollCutter" ∈ xN) (hR : d + 2 ≤ R.frames ∧ 40 * (d + 2) ≤ R.locals) : va_CN R s args own ix (xmy q) "RollCutter" (xmb q) (xml q) (xmr q) (Cond.code (xmy q) (xmb q) (xml q) (xmr q) :: xT) { frames := d + 1, cells := xmc q, slots := xms q, locals := 40 * (d + 1) } (xmc q) (xms q) (xmn q) :=
  va_cnB (xmn q) hts (x_gin h) rfl rfl rfl (hNw _ hl) (hts _ h.2.2.2.2.2) ⟨h.2.1, h.2.2.1, h.2.2.2.1⟩ ⟨hR.1, by have := h.2.2.2.2.1; show 8 + (xml q + 11) + 40 * (d + 1) ≤ R.locals; omega⟩
theorem x_cbI {ix : Nat} {q : xM} (hts : ∀ w ∈ xT, w.before args s = true) (h : xMw q) (hl : Cond.methodLink own ix (xmy q) ∈ xT) (hR : d + 2 ≤ R.frames ∧ 40 * (d + 2) ≤ R.locals) (hr : xmr q = none) : CallB R s args own ix (xmy q) (xmb q) (xml q) none (Cond.code (xmy q) (xmb q) (xml q) (xmr q) :: xT) { frames := d + 1, cells := xmc q, slots := xms q, locals := 40 * (d + 1) } (xmc q) (xms q) (xmn q) :=
  callB_of (xmn q) hts (x_gin h) (by rw [hr]) rfl rfl (hts _ h.2.2.2.2.2) (hts _ hl) ⟨h.2.1, h.2.2.1, h.2.2.2.1⟩ ⟨hR.1, by have := h.2.2.2.2.1; show 8 + (xml q + 11) + 40 * (d + 1) ≤ R.locals; omega⟩
theorem x_cbNI {ix : Nat} {q : xM} (hts : ∀ w ∈ xT, w.before args s = true) (hNw : ∀ w ∈ xN, va_Nw w s) (h : xMw q) (hl : Cond.methodLinkNest own ix (xmy q) "RollCutter" ∈ xN) (hR : d + 2 ≤ R.frames ∧ 40 * (d + 2) ≤ R.locals) (hr : xmr q = none) : va_CN R s args own ix (xmy q) "RollCutter" (xmb q) (xml q) none (Cond.code (xmy q) (xmb q) (xml q) (xmr q) :: xT) { frames := d + 1, cells := xmc q, slots := xms q, locals := 40 * (d + 1) } (xmc q) (xms q) (xmn q) :=
  va_cnB (xmn q) hts (x_gin h) (by rw [hr]) rfl rfl (hNw _ hl) (hts _ h.2.2.2.2.2) ⟨h.2.1, h.2.2.1, h.2.2.2.1⟩ ⟨hR.1, by have := h.2.2.2.2.1; show 8 + (xml q + 11) + 40 * (d + 1) ≤ R.locals; omega⟩
/-- behind a call -/
theorem x_cal {H : Heap} {locs : List Loc} {cells slots mc ms pc : Nat} {ls : Array Slot} {st0 rest : List Value} {a : Array Value} {r : Option Value} {w1 : xW} (hB : B ≤ s.heap.size) (hS : va_S (fun q => B ≤ q) s.heap H locs) (hr : va_Run p l e R s m args below meth c H locs cells slots mc ms (F0 m pc ls st0) rest (xPost B ev sa cA D r w1 a) (fun z => B ≤ z))
    (kk : ∀ (H1 : Heap) (locs1 : List Loc), va_P D xcl (xWd B ev sa cA w1) H1 → va_S (fun q => B ≤ q) s.heap H1 locs1 → W p l e R s m args below meth c H1 locs1 (cells + mc) (slots + ms) Q (F0 m (pc + 3) ls ((r.map (xG B ev sa)).toList ++ rest))) : W p l e R s m args below meth c H locs cells slots Q (F0 m pc ls st0) := by
  intro T hT X
  obtain ⟨v, st₀, t, T', L, h0, X', hL, e1, e2, ⟨hv, hP, hz, hk⟩, st⟩ := hr T hT X
  cases hv
  rw [h0] at hz hk
  obtain ⟨t2, a1, b1⟩ := kk T'.heap (locs ++ L) (by rw [e1]; exact hP)
    ⟨Nat.le_trans hS.1 (by rw [e1]; exact hz), fun q h1 h2 => by rw [e1, hk q (Nat.lt_of_lt_of_le h1 hS.1) h2]; exact hS.2.1 q h1 h2, fun q hq => by
      rcases List.mem_append.mp hq with h | h
      · exact hS.2.2 q h
      · exact hL q h⟩ T' rfl X'
  exact ⟨t2, st t2 a1, b1⟩

set_option maxHeartbeats 4000000 in
set_option maxRecDepth 20000 in
theorem xS_ok {tab : List xE} {call : Nat → List Value → xW → Option (Option Value × xW)} (C0 : xCx p R s m args meth c own cc nL ini B ev cA D ivs d sa LL) (hca : xCa l B ev sa cA D d call) {MC MS : Nat} (hMC : MC ≤ R.cells) (hMS : MS ≤ R.slots) (htab : ∀ q ∈ tab, xOK own ini cc q) {en : xE} {cs : List xE} {lv : List (Nat × Value)} {st : List Value} {w : xW} {mc ms : Nat} {k : xX → Option xX} {X' : xX} (hen : xOK own ini cc en) (hcs : ∀ q ∈ cs, xOK own ini cc q) (h : xS LL ivs nL MC MS call tab (en :: cs, lv, st, w, mc, ms) k = some X') : xRs p l e R s m args below meth c Q own ini cc nL B ev sa cA D k X' (en :: cs) lv st w mc ms := by
  obtain ⟨hx, hb, hml, hown, hts, hK, hB, hini, hev, hR, hLL, hNw, hXs⟩ := C0
  obtain ⟨pc, ins, len, a1, a2, a3⟩ := en
  obtain ⟨hd, hln, hlk⟩ := hen
  dsimp only at hd hln hlk
  unfold xS at h
  cases ins with
  | iconst n =>
    dsimp only at h
    have hln : Nat.beq len 1 = true := hln
    obtain rfl := xlen hln
    replace h := xPu_ok h
    obtain ⟨hp, h⟩ := h
    refine Or.inr ⟨_, _, _, _, _, _, h, hcs, fun G H locs ls h1 h2 h3 h4 => ?_⟩
    have G := G H locs ls h1 h2 h3 h4
    rw [hp] at G
    exact lv_iconst hx hb hd rfl G
  | bipush n =>
    dsimp only at h
    have hln : Nat.beq len 2 = true := hln
    obtain rfl := xlen hln
    replace h := xPu_ok h
    obtain ⟨hp, h⟩ := h
    refine Or.inr ⟨_, _, _, _, _, _, h, hcs, fun G H locs ls h1 h2 h3 h4 => ?_⟩
    have G := G H locs ls h1 h2 h3 h4
    rw [hp] at G
    exact lv_bipush hx hb hd rfl G
  | sipush n =>
    dsimp only at h
    have hln : Nat.beq len 3 = true := hln
    obtain rfl := xlen hln
    replace h := xPu_ok h
    obtain ⟨hp, h⟩ := h
    refine Or.inr ⟨_, _, _, _, _, _, h, hcs, fun G H locs ls h1 h2 h3 h4 => ?_⟩
    have G := G H locs ls h1 h2 h3 h4
    rw [hp] at G
    exact lv_sipush hx hb hd rfl G
  | lconst n =>
    dsimp only at h
    have hln : Nat.beq len 1 = true := hln
    obtain rfl := xlen hln
    replace h := xPu_ok h
    obtain ⟨hp, h⟩ := h
    refine Or.inr ⟨_, _, _, _, _, _, h, hcs, fun G H locs ls h1 h2 h3 h4 => ?_⟩
    have G := G H locs ls h1 h2 h3 h4
    rw [hp] at G
    exact lv_lconst hx hb hd rfl G
  | ldc ix =>
    dsimp only at h
    have hln : Nat.beq len 2 = true := hln
    obtain rfl := xlen hln
    have hlk : cond (Nat.beq a3 1) (Nat.beq a2 9 || (decide (own = "RollCutter$Condition") && decide ((xstr[a2]?).map (fun z => z.1) = some ix))) (xw a1 (.constant own ix (Int32.ofNat a2))) = true := hlk
    have h : cond (Nat.beq a3 1) (xgd (Nat.ble a2 4) (xPu (pc, .ldc ix, 2, a1, a2, a3) cs lv w mc ms k (.retAddr a2) st)) (xPu (pc, .ldc ix, 2, a1, a2, a3) cs lv w mc ms k (.int (Int32.ofNat a2)) st) = some X' := h
    cases h3 : Nat.beq a3 1 with
    | true =>
      rw [h3] at h hlk
      have h : xgd (Nat.ble a2 4) (xPu (pc, .ldc ix, 2, a1, a2, a3) cs lv w mc ms k (.retAddr a2) st) = some X' := h
      replace h := xgd_ok h
      obtain ⟨h9, h⟩ := h
      have h9 := Nat.le_of_ble_eq_true h9
      have hlk : (Nat.beq a2 9 || (decide (own = "RollCutter$Condition") && decide ((xstr[a2]?).map (fun z => z.1) = some ix))) = true := hlk
      rw [Bool.or_eq_true, Bool.and_eq_true, decide_eq_true_eq, decide_eq_true_eq] at hlk
      rcases hlk with hlk | ⟨ho, hi⟩
      · have := xlen hlk; omega
      · cases hq : xstr[a2]? with
        | none => rw [hq] at hi; cases hi
        | some q =>
          rw [hq] at hi
          have hi : q.1 = ix := Option.some.inj hi
          subst ho
          subst hi
          replace h := xPu_ok h
          obtain ⟨hp, h⟩ := h
          refine Or.inr ⟨_, _, _, _, _, _, h, hcs, fun G H locs ls h1 h2 h5 h4 => ?_⟩
          have G := G H locs ls h1 h2 h5 h4
          rw [hp] at G
          exact va_ldcS hx hb hown (hXs.2.2.1 a2 q hq) hd G
    | false =>
      rw [h3] at h hlk
      have h : xPu (pc, .ldc ix, 2, a1, a2, a3) cs lv w mc ms k (.int (Int32.ofNat a2)) st = some X' := h
      have hlk : xw a1 (.constant own ix (Int32.ofNat a2)) = true := hlk
      replace h := xPu_ok h
      obtain ⟨hp, h⟩ := h
      refine Or.inr ⟨_, _, _, _, _, _, h, hcs, fun G H locs ls h1 h2 h5 h4 => ?_⟩
      have G := G H locs ls h1 h2 h5 h4
      rw [hp] at G
      exact lv_ldc hx hb hown (hts _ (xw_mem hlk)) hd G
  | ldc_w ix =>
    dsimp only at h
    have hln : Nat.beq len 3 = true := hln
    obtain rfl := xlen hln
    have hlk : cond (Nat.beq a3 1) (Nat.beq a2 9) (xw a1 (.constant own ix (Int32.ofNat a2))) = true := hlk
    have h : cond (Nat.beq a3 1) none (xPu (pc, .ldc_w ix, 3, a1, a2, a3) cs lv w mc ms k (.int (Int32.ofNat a2)) st) = some X' := h
    cases h3 : Nat.beq a3 1 with
    | true => rw [h3] at h; cases h
    | false =>
      rw [h3] at h hlk
      have h : xPu (pc, .ldc_w ix, 3, a1, a2, a3) cs lv w mc ms k (.int (Int32.ofNat a2)) st = some X' := h
      have hlk : xw a1 (.constant own ix (Int32.ofNat a2)) = true := hlk
      replace h := xPu_ok h
      obtain ⟨hp, h⟩ := h
      refine Or.inr ⟨_, _, _, _, _, _, h, hcs, fun G H locs ls h1 h2 h5 h4 => ?_⟩
      have G := G H locs ls h1 h2 h5 h4
      rw [hp] at G
      exact lv_ldcw hx hb hown (hts _ (xw_mem hlk)) hd G
  | ldc2_w ix =>
    dsimp only at h
    have hln : Nat.beq len 3 = true := hln
    obtain rfl := xlen hln
    replace h := xPu_ok h
    obtain ⟨hp, h⟩ := h
    refine Or.inr ⟨_, _, _, _, _, _, h, hcs, fun G H locs ls h1 h2 h3 h4 => ?_⟩
    have G := G H locs ls h1 h2 h3 h4
    rw [hp] at G
    exact lv_ldc2 hx hb hown (hts _ (xw_mem hlk)) hd G
  | iload_n i =>
    dsimp only at h
    have hln : Nat.beq len 1 = true := hln
    obtain rfl := xlen hln
    replace h := xOp_ok h
    obtain ⟨v, hv, h⟩ := h
    replace h := xgd_ok h
    obtain ⟨hk, h⟩ := h
    replace h := xPu_ok h
    obtain ⟨hp, h⟩ := h
    refine Or.inr ⟨_, _, _, _, _, _, h, hcs, fun G H locs ls h1 h2 h3 h4 => ?_⟩
    have G := G H locs ls h1 h2 h3 h4
    rw [hp] at G
    have hl := xlv_ls h4 hv
    rw [xkd0 hk] at hl
    rw [List.map_cons, xkd0 hk] at G
    exact lv_iload_n hx hb hd rfl hl G
  | iload i =>
    dsimp only at h
    have hln : Nat.beq len 2 = true := hln
    obtain rfl := xlen hln
    replace h := xOp_ok h
    obtain ⟨v, hv, h⟩ := h
    replace h := xgd_ok h
    obtain ⟨hk, h⟩ := h
    replace h := xPu_ok h
    obtain ⟨hp, h⟩ := h
    refine Or.inr ⟨_, _, _, _, _, _, h, hcs, fun G H locs ls h1 h2 h3 h4 => ?_⟩
    have G := G H locs ls h1 h2 h3 h4
    rw [hp] at G
    have hl := xlv_ls h4 hv
    rw [xkd0 hk] at hl
    rw [List.map_cons, xkd0 hk] at G
    exact lv_iload hx hb hd hl G
  | lload_n i =>
    dsimp only at h
    have hln : Nat.beq len 1 = true := hln
    obtain rfl := xlen hln
    replace h := xOp_ok h
    obtain ⟨v, hv, h⟩ := h
    replace h := xgd_ok h
    obtain ⟨hk, h⟩ := h
    replace h := xPu_ok h
    obtain ⟨hp, h⟩ := h
    refine Or.inr ⟨_, _, _, _, _, _, h, hcs, fun G H locs ls h1 h2 h3 h4 => ?_⟩
    have G := G H locs ls h1 h2 h3 h4
    rw [hp] at G
    have hl := xlv_ls h4 hv
    rw [xkd1 hk] at hl
    rw [List.map_cons, xkd1 hk] at G
    exact lv_lload_n hx hb hd rfl hl G
  | lload i =>
    dsimp only at h
    have hln : Nat.beq len 2 = true := hln
    obtain rfl := xlen hln
    replace h := xOp_ok h
    obtain ⟨v, hv, h⟩ := h
    replace h := xgd_ok h
    obtain ⟨hk, h⟩ := h
    replace h := xPu_ok h
    obtain ⟨hp, h⟩ := h
    refine Or.inr ⟨_, _, _, _, _, _, h, hcs, fun G H locs ls h1 h2 h3 h4 => ?_⟩
    have G := G H locs ls h1 h2 h3 h4
    rw [hp] at G
    have hl := xlv_ls h4 hv
    rw [xkd1 hk] at hl
    rw [List.map_cons, xkd1 hk] at G
    exact lv_lload hx hb hd hl G
  | aload_n i =>
    dsimp only at h
    have hln : Nat.beq len 1 = true := hln
    obtain rfl := xlen hln
    replace h := xOp_ok h
    obtain ⟨v, hv, h⟩ := h
    replace h := xgd_ok h
    obtain ⟨hk, h⟩ := h
    replace h := xPu_ok h
    obtain ⟨hp, h⟩ := h
    refine Or.inr ⟨_, _, _, _, _, _, h, hcs, fun G H locs ls h1 h2 h3 h4 => ?_⟩
    have G := G H locs ls h1 h2 h3 h4
    rw [hp] at G
    have hl := xlv_ls h4 hv
    obtain ⟨a, ha⟩ := xkd2 (B := B) (ev := ev) (sa := sa) hk
    rw [ha] at hl
    rw [List.map_cons, ha] at G
    exact lv_aload_n hx hb hd rfl hl G
  | aload i =>
    dsimp only at h
    have hln : Nat.beq len 2 = true := hln
    obtain rfl := xlen hln
    replace h := xOp_ok h
    obtain ⟨v, hv, h⟩ := h
    replace h := xgd_ok h
    obtain ⟨hk, h⟩ := h
    replace h := xPu_ok h
    obtain ⟨hp, h⟩ := h
    refine Or.inr ⟨_, _, _, _, _, _, h, hcs, fun G H locs ls h1 h2 h3 h4 => ?_⟩
    have G := G H locs ls h1 h2 h3 h4
    rw [hp] at G
    have hl := xlv_ls h4 hv
    obtain ⟨a, ha⟩ := xkd2 (B := B) (ev := ev) (sa := sa) hk
    rw [ha] at hl
    rw [List.map_cons, ha] at G
    exact lv_aload hx hb hd hl G
  | istore_n i =>
    dsimp only at h
    have hln : Nat.beq len 1 = true := hln
    obtain rfl := xlen hln
    replace h := xV1_ok h
    obtain ⟨v, r, rfl, h⟩ := h
    replace h := xgd_ok h
    obtain ⟨hk, h⟩ := h
    rw [Bool.and_eq_true] at hk
    obtain ⟨hk, hi⟩ := hk
    have hi := Nat.le_of_ble_eq_true hi
    rw [xfil_eq] at h
    replace h := xNx_ok h
    obtain ⟨hp, h⟩ := h
    refine Or.inr ⟨_, _, _, _, _, _, h, hcs, fun G H locs ls h1 h2 h3 h4 => ?_⟩
    have ha := xkd0 (B := B) (ev := ev) (sa := sa) hk
    have hst := x_st1 (B := B) (ev := ev) (sa := sa) (ls := ls) (lv := lv) (i := i.val) (v := v)
    rw [ha] at hst
    rw [List.map_cons, ha]
    refine lv_istore_n hx hb hd rfl h4 hi hst (fun ls hl => ?_)
    have G := G H locs ls h1 h2 h3 hl
    rw [hp] at G
    exact G
  | istore i =>
    dsimp only at h
    have hln : Nat.beq len 2 = true := hln
    obtain rfl := xlen hln
    replace h := xV1_ok h
    obtain ⟨v, r, rfl, h⟩ := h
    replace h := xgd_ok h
    obtain ⟨hk, h⟩ := h
    rw [Bool.and_eq_true] at hk
    obtain ⟨hk, hi⟩ := hk
    have hi := Nat.le_of_ble_eq_true hi
    rw [xfil_eq] at h
    replace h := xNx_ok h
    obtain ⟨hp, h⟩ := h
    refine Or.inr ⟨_, _, _, _, _, _, h, hcs, fun G H locs ls h1 h2 h3 h4 => ?_⟩
    have ha := xkd0 (B := B) (ev := ev) (sa := sa) hk
    have hst := x_st1 (B := B) (ev := ev) (sa := sa) (ls := ls) (lv := lv) (i := i) (v := v)
    rw [ha] at hst
    rw [List.map_cons, ha]
    refine lv_istore hx hb hd h4 hi hst (fun ls hl => ?_)
    have G := G H locs ls h1 h2 h3 hl
    rw [hp] at G
    exact G
  | astore_n i =>
    dsimp only at h
    have hln : Nat.beq len 1 = true := hln
    obtain rfl := xlen hln
    replace h := xV1_ok h
    obtain ⟨v, r, rfl, h⟩ := h
    replace h := xgd_ok h
    obtain ⟨hk, h⟩ := h
    rw [Bool.and_eq_true] at hk
    obtain ⟨hk, hi⟩ := hk
    have hi := Nat.le_of_ble_eq_true hi
    rw [xfil_eq] at h
    replace h := xNx_ok h
    obtain ⟨hp, h⟩ := h
    refine Or.inr ⟨_, _, _, _, _, _, h, hcs, fun G H locs ls h1 h2 h3 h4 => ?_⟩
    obtain ⟨a, ha⟩ := xkd2 (B := B) (ev := ev) (sa := sa) hk
    have hst := x_st1 (B := B) (ev := ev) (sa := sa) (ls := ls) (lv := lv) (i := i.val) (v := v)
    rw [ha] at hst
    rw [List.map_cons, ha]
    refine lv_astore_n hx hb hd rfl h4 hi hst (fun ls hl => ?_)
    have G := G H locs ls h1 h2 h3 hl
    rw [hp] at G
    exact G
  | astore i =>
    dsimp only at h
    have hln : Nat.beq len 2 = true := hln
    obtain rfl := xlen hln
    replace h := xV1_ok h
    obtain ⟨v, r, rfl, h⟩ := h
    replace h := xgd_ok h
    obtain ⟨hk, h⟩ := h
    rw [Bool.and_eq_true] at hk
    obtain ⟨hk, hi⟩ := hk
    have hi := Nat.le_of_ble_eq_true hi
    rw [xfil_eq] at h
    replace h := xNx_ok h
    obtain ⟨hp, h⟩ := h
    refine Or.inr ⟨_, _, _, _, _, _, h, hcs, fun G H locs ls h1 h2 h3 h4 => ?_⟩
    obtain ⟨a, ha⟩ := xkd2 (B := B) (ev := ev) (sa := sa) hk
    have hst := x_st1 (B := B) (ev := ev) (sa := sa) (ls := ls) (lv := lv) (i := i) (v := v)
    rw [ha] at hst
    rw [List.map_cons, ha]
    refine lv_astore hx hb hd h4 hi hst (fun ls hl => ?_)
    have G := G H locs ls h1 h2 h3 hl
    rw [hp] at G
    exact G
  | lstore_n i =>
    dsimp only at h
    have hln : Nat.beq len 1 = true := hln
    obtain rfl := xlen hln
    replace h := xV1_ok h
    obtain ⟨v, r, rfl, h⟩ := h
    replace h := xgd_ok h
    obtain ⟨hk, h⟩ := h
    rw [Bool.and_eq_true] at hk
    obtain ⟨hk, hi⟩ := hk
    have hi := Nat.le_of_ble_eq_true hi
    rw [xfil_eq] at h
    replace h := xNx_ok h
    obtain ⟨hp, h⟩ := h
    refine Or.inr ⟨_, _, _, _, _, _, h, hcs, fun G H locs ls h1 h2 h3 h4 => ?_⟩
    have ha := xkd1 (B := B) (ev := ev) (sa := sa) hk
    have hst := x_st2 (B := B) (ev := ev) (sa := sa) (ls := ls) (lv := lv) (i := i.val) (v := v)
    rw [ha] at hst
    rw [List.map_cons, ha]
    refine lv_lstore_n hx hb hd rfl h4 hi hst (fun ls hl => ?_)
    have G := G H locs ls h1 h2 h3 hl
    rw [hp] at G
    exact G
  | lstore i =>
    dsimp only at h
    have hln : Nat.beq len 2 = true := hln
    obtain rfl := xlen hln
    replace h := xV1_ok h
    obtain ⟨v, r, rfl, h⟩ := h
    replace h := xgd_ok h
    obtain ⟨hk, h⟩ := h
    rw [Bool.and_eq_true] at hk
    obtain ⟨hk, hi⟩ := hk
    have hi := Nat.le_of_ble_eq_true hi
    rw [xfil_eq] at h
    replace h := xNx_ok h
    obtain ⟨hp, h⟩ := h
    refine Or.inr ⟨_, _, _, _, _, _, h, hcs, fun G H locs ls h1 h2 h3 h4 => ?_⟩
    have ha := xkd1 (B := B) (ev := ev) (sa := sa) hk
    have hst := x_st2 (B := B) (ev := ev) (sa := sa) (ls := ls) (lv := lv) (i := i) (v := v)
    rw [ha] at hst
    rw [List.map_cons, ha]
    refine lv_lstore hx hb hd h4 hi hst (fun ls hl => ?_)
    have G := G H locs ls h1 h2 h3 hl
    rw [hp] at G
    exact G
  | iinc i n =>
    dsimp only at h
    have hln : Nat.beq len 3 = true := hln
    obtain rfl := xlen hln
    replace h := xOp_ok h
    obtain ⟨v, hv, h⟩ := h
    replace h := xUI_ok h
    obtain ⟨x, r, hr, h⟩ := h
    cases hr
    replace h := xgd_ok h
    obtain ⟨hi, h⟩ := h
    have hi := Nat.le_of_ble_eq_true hi
    rw [fI_eq, xfil_eq] at h
    replace h := xNx_ok h
    obtain ⟨hp, h⟩ := h
    refine Or.inr ⟨_, _, _, _, _, _, h, hcs, fun G H locs ls h1 h2 h3 h4 => ?_⟩
    obtain ⟨q, hq⟩ := List.getElem?_of_mem (List.mem_map.mpr ⟨(i, .int x), xlv_mem hv, rfl⟩ : (i, Value.int x) ∈ lv.map (xG2 B ev sa))
    refine lv_iinc hx hb hd h4 hq rfl hi (x_st1 (ls := ls) (v := .int (x + Int32.ofInt n))) (fun ls hl => ?_)
    have G := G H locs ls h1 h2 h3 hl
    rw [hp] at G
    exact G
  | iadd =>
    dsimp only at h
    have hln : Nat.beq len 1 = true := hln
    obtain rfl := xlen hln
    replace h := xBI_ok h
    obtain ⟨x, y, r, rfl, h⟩ := h
    replace h := xPu_ok h
    obtain ⟨hp, h⟩ := h
    refine Or.inr ⟨_, _, _, _, _, _, h, hcs, fun G H locs ls h1 h2 h3 h4 => ?_⟩
    have G := G H locs ls h1 h2 h3 h4
    rw [hp] at G
    exact lv_iadd hx hb hd G
  | isub =>
    dsimp only at h
    have hln : Nat.beq len 1 = true := hln
    obtain rfl := xlen hln
    replace h := xBI_ok h
    obtain ⟨x, y, r, rfl, h⟩ := h
    replace h := xPu_ok h
    obtain ⟨hp, h⟩ := h
    refine Or.inr ⟨_, _, _, _, _, _, h, hcs, fun G H locs ls h1 h2 h3 h4 => ?_⟩
    have G := G H locs ls h1 h2 h3 h4
    rw [hp] at G
    exact lv_isub hx hb hd G
  | imul =>
    dsimp only at h
    have hln : Nat.beq len 1 = true := hln
    obtain rfl := xlen hln
    replace h := xBI_ok h
    obtain ⟨x, y, r, rfl, h⟩ := h
    replace h := xPu_ok h
    obtain ⟨hp, h⟩ := h
    refine Or.inr ⟨_, _, _, _, _, _, h, hcs, fun G H locs ls h1 h2 h3 h4 => ?_⟩
    have G := G H locs ls h1 h2 h3 h4
    rw [hp] at G
    exact lv_imul hx hb hd G
  | ior =>
    dsimp only at h
    have hln : Nat.beq len 1 = true := hln
    obtain rfl := xlen hln
    replace h := xBI_ok h
    obtain ⟨x, y, r, rfl, h⟩ := h
    replace h := xPu_ok h
    obtain ⟨hp, h⟩ := h
    refine Or.inr ⟨_, _, _, _, _, _, h, hcs, fun G H locs ls h1 h2 h3 h4 => ?_⟩
    have G := G H locs ls h1 h2 h3 h4
    rw [hp] at G
    exact lv_ior hx hb hd G
  | ixor =>
    dsimp only at h
    have hln : Nat.beq len 1 = true := hln
    obtain rfl := xlen hln
    replace h := xBI_ok h
    obtain ⟨x, y, r, rfl, h⟩ := h
    replace h := xPu_ok h
    obtain ⟨hp, h⟩ := h
    refine Or.inr ⟨_, _, _, _, _, _, h, hcs, fun G H locs ls h1 h2 h3 h4 => ?_⟩
    have G := G H locs ls h1 h2 h3 h4
    rw [hp] at G
    exact lv_ixor hx hb hd G
  | ishl =>
    dsimp only at h
    have hln : Nat.beq len 1 = true := hln
    obtain rfl := xlen hln
    replace h := xBI_ok h
    obtain ⟨x, y, r, rfl, h⟩ := h
    replace h := xPu_ok h
    obtain ⟨hp, h⟩ := h
    refine Or.inr ⟨_, _, _, _, _, _, h, hcs, fun G H locs ls h1 h2 h3 h4 => ?_⟩
    have G := G H locs ls h1 h2 h3 h4
    rw [hp] at G
    exact lv_ishl hx hb hd G
  | ishr =>
    dsimp only at h
    have hln : Nat.beq len 1 = true := hln
    obtain rfl := xlen hln
    replace h := xBI_ok h
    obtain ⟨x, y, r, rfl, h⟩ := h
    replace h := xPu_ok h
    obtain ⟨hp, h⟩ := h
    refine Or.inr ⟨_, _, _, _, _, _, h, hcs, fun G H locs ls h1 h2 h3 h4 => ?_⟩
    have G := G H locs ls h1 h2 h3 h4
    rw [hp] at G
    exact lv_ishr hx hb hd G
  | idiv =>
    dsimp only at h
    have hln : Nat.beq len 1 = true := hln
    obtain rfl := xlen hln
    replace h := xBI_ok h
    obtain ⟨x, y, r, rfl, h⟩ := h
    replace h := xgd_ok h
    obtain ⟨h9, h⟩ := h
    have h9 : ¬ y = 0 := by simpa using h9
    replace h := xPu_ok h
    obtain ⟨hp, h⟩ := h
    refine Or.inr ⟨_, _, _, _, _, _, h, hcs, fun G H locs ls h1 h2 h3 h4 => ?_⟩
    have G := G H locs ls h1 h2 h3 h4
    rw [hp] at G
    exact lv_idiv hx hb hd h9 G
  | irem =>
    dsimp only at h
    have hln : Nat.beq len 1 = true := hln
    obtain rfl := xlen hln
    replace h := xBI_ok h
    obtain ⟨x, y, r, rfl, h⟩ := h
    replace h := xgd_ok h
    obtain ⟨h9, h⟩ := h
    have h9 : ¬ y = 0 := by simpa using h9
    replace h := xPu_ok h
    obtain ⟨hp, h⟩ := h
    refine Or.inr ⟨_, _, _, _, _, _, h, hcs, fun G H locs ls h1 h2 h3 h4 => ?_⟩
    have G := G H locs ls h1 h2 h3 h4
    rw [hp] at G
    exact lv_irem hx hb hd h9 G
  | ladd =>
    dsimp only at h
    have hln : Nat.beq len 1 = true := hln
    obtain rfl := xlen hln
    replace h := xBL_ok h
    obtain ⟨x, y, r, rfl, h⟩ := h
    replace h := xPu_ok h
    obtain ⟨hp, h⟩ := h
    refine Or.inr ⟨_, _, _, _, _, _, h, hcs, fun G H locs ls h1 h2 h3 h4 => ?_⟩
    have G := G H locs ls h1 h2 h3 h4
    rw [hp] at G
    exact lv_ladd hx hb hd G
  | lsub =>
    dsimp only at h
    have hln : Nat.beq len 1 = true := hln
    obtain rfl := xlen hln
    replace h := xBL_ok h
    obtain ⟨x, y, r, rfl, h⟩ := h
    replace h := xPu_ok h
    obtain ⟨hp, h⟩ := h
    refine Or.inr ⟨_, _, _, _, _, _, h, hcs, fun G H locs ls h1 h2 h3 h4 => ?_⟩
    have G := G H locs ls h1 h2 h3 h4
    rw [hp] at G
    exact lv_lsub hx hb hd G
  | lmul =>
    dsimp only at h
    have hln : Nat.beq len 1 = true := hln
    obtain rfl := xlen hln
    replace h := xBL_ok h
    obtain ⟨x, y, r, rfl, h⟩ := h
    replace h := xPu_ok h
    obtain ⟨hp, h⟩ := h
    refine Or.inr ⟨_, _, _, _, _, _, h, hcs, fun G H locs ls h1 h2 h3 h4 => ?_⟩
    have G := G H locs ls h1 h2 h3 h4
    rw [hp] at G
    exact lv_lmul hx hb hd G
  | ldiv =>
    dsimp only at h
    have hln : Nat.beq len 1 = true := hln
    obtain rfl := xlen hln
    replace h := xBL_ok h
    obtain ⟨x, y, r, rfl, h⟩ := h
    replace h := xgd_ok h
    obtain ⟨h9, h⟩ := h
    have h9 : ¬ y = 0 := by simpa using h9
    replace h := xPu_ok h
    obtain ⟨hp, h⟩ := h
    refine Or.inr ⟨_, _, _, _, _, _, h, hcs, fun G H locs ls h1 h2 h3 h4 => ?_⟩
    have G := G H locs ls h1 h2 h3 h4
    rw [hp] at G
    exact lv_ldiv hx hb hd h9 G
  | lrem =>
    dsimp only at h
    have hln : Nat.beq len 1 = true := hln
    obtain rfl := xlen hln
    replace h := xBL_ok h
    obtain ⟨x, y, r, rfl, h⟩ := h
    replace h := xgd_ok h
    obtain ⟨h9, h⟩ := h
    have h9 : ¬ y = 0 := by simpa using h9
    replace h := xPu_ok h
    obtain ⟨hp, h⟩ := h
    refine Or.inr ⟨_, _, _, _, _, _, h, hcs, fun G H locs ls h1 h2 h3 h4 => ?_⟩
    have G := G H locs ls h1 h2 h3 h4
    rw [hp] at G
    exact lv_lrem hx hb hd h9 G
  | lcmp =>
    dsimp only at h
    have hln : Nat.beq len 1 = true := hln
    obtain rfl := xlen hln
    replace h := xBL_ok h
    obtain ⟨x, y, r, rfl, h⟩ := h
    replace h := xPu_ok h
    obtain ⟨hp, h⟩ := h
    refine Or.inr ⟨_, _, _, _, _, _, h, hcs, fun G H locs ls h1 h2 h3 h4 => ?_⟩
    have G := G H locs ls h1 h2 h3 h4
    rw [hp] at G
    exact W.lcmp hx hb hd G
  | ineg =>
    dsimp only at h
    have hln : Nat.beq len 1 = true := hln
    obtain rfl := xlen hln
    replace h := xUI_ok h
    obtain ⟨x, r, rfl, h⟩ := h
    replace h := xPu_ok h
    obtain ⟨hp, h⟩ := h
    refine Or.inr ⟨_, _, _, _, _, _, h, hcs, fun G H locs ls h1 h2 h3 h4 => ?_⟩
    have G := G H locs ls h1 h2 h3 h4
    rw [hp] at G
    exact lv_ineg hx hb hd G
  | lneg =>
    dsimp only at h
    have hln : Nat.beq len 1 = true := hln
    obtain rfl := xlen hln
    replace h := xUL_ok h
    obtain ⟨x, r, rfl, h⟩ := h
    replace h := xPu_ok h
    obtain ⟨hp, h⟩ := h
    refine Or.inr ⟨_, _, _, _, _, _, h, hcs, fun G H locs ls h1 h2 h3 h4 => ?_⟩
    have G := G H locs ls h1 h2 h3 h4
    rw [hp] at G
    exact lv_lneg hx hb hd G
  | i2l =>
    dsimp only at h
    have hln : Nat.beq len 1 = true := hln
    obtain rfl := xlen hln
    replace h := xUI_ok h
    obtain ⟨x, r, rfl, h⟩ := h
    replace h := xPu_ok h
    obtain ⟨hp, h⟩ := h
    refine Or.inr ⟨_, _, _, _, _, _, h, hcs, fun G H locs ls h1 h2 h3 h4 => ?_⟩
    have G := G H locs ls h1 h2 h3 h4
    rw [hp] at G
    exact lv_i2l hx hb hd rfl G
  | l2i =>
    dsimp only at h
    have hln : Nat.beq len 1 = true := hln
    obtain rfl := xlen hln
    replace h := xUL_ok h
    obtain ⟨x, r, rfl, h⟩ := h
    replace h := xPu_ok h
    obtain ⟨hp, h⟩ := h
    refine Or.inr ⟨_, _, _, _, _, _, h, hcs, fun G H locs ls h1 h2 h3 h4 => ?_⟩
    have G := G H locs ls h1 h2 h3 h4
    rw [hp] at G
    exact lv_l2i hx hb hd rfl G
  | i2b =>
    dsimp only at h
    have hln : Nat.beq len 1 = true := hln
    obtain rfl := xlen hln
    replace h := xUI_ok h
    obtain ⟨x, r, rfl, h⟩ := h
    replace h := xPu_ok h
    obtain ⟨hp, h⟩ := h
    refine Or.inr ⟨_, _, _, _, _, _, h, hcs, fun G H locs ls h1 h2 h3 h4 => ?_⟩
    have G := G H locs ls h1 h2 h3 h4
    rw [hp] at G
    exact lv_i2b hx hb hd rfl G
  | iand =>
    dsimp only at h
    have hln : Nat.beq len 1 = true := hln
    obtain rfl := xlen hln
    replace h := xUI_ok h
    obtain ⟨y, r, rfl, h⟩ := h
    replace h := xV1_ok h
    obtain ⟨v, r, rfl, h⟩ := h
    cases v with
    | int x =>
      replace h := xPu_ok h
      obtain ⟨hp, h⟩ := h
      refine Or.inr ⟨_, _, _, _, _, _, h, hcs, fun G H locs ls h1 h2 h3 h4 => ?_⟩
      have G := G H locs ls h1 h2 h3 h4
      rw [hp] at G
      exact lv_iand hx hb hd G
    | float q =>
      replace h := xgd_ok h
      obtain ⟨h9, h⟩ := h
      rw [Bool.and_eq_true, decide_eq_true_eq] at h9
      obtain ⟨h9, h8⟩ := h9
      have h8 := xlen h8
      replace h := xPu_ok h
      obtain ⟨hp, h⟩ := h
      refine Or.inr ⟨_, _, _, _, _, _, h, hcs, fun G H locs ls h1 h2 h3 h4 => ?_⟩
      have G := G H locs ls h1 h2 h3 h4
      rw [hp] at G
      have G : W p l e R s m args below meth c H locs mc ms Q (F0 m (pc + 1) ls (.int (ev 4) :: r.map (xG B ev sa))) := G
      rw [hev.2] at G
      subst h9
      show W p l e R s m args below meth c H locs mc ms Q (F0 m pc ls (.int 63 :: .int (ev q.toNat) :: r.map (xG B ev sa)))
      rw [h8]
      exact lv_iand hx hb hd G
    | _ => exact nomatch h
  | dup =>
    dsimp only at h
    have hln : Nat.beq len 1 = true := hln
    obtain rfl := xlen hln
    replace h := xV1_ok h
    obtain ⟨v, r, rfl, h⟩ := h
    replace h := xgd_ok h
    obtain ⟨h9, h⟩ := h
    replace h := xNx_ok h
    obtain ⟨hp, h⟩ := h
    refine Or.inr ⟨_, _, _, _, _, _, h, hcs, fun G H locs ls h1 h2 h3 h4 => ?_⟩
    have G := G H locs ls h1 h2 h3 h4
    rw [hp] at G
    exact lv_dup hx hb hd (by rw [xG_cat]; exact xlen h9) G
  | dup2 =>
    dsimp only at h
    have hln : Nat.beq len 1 = true := hln
    obtain rfl := xlen hln
    replace h := xV1_ok h
    obtain ⟨v, r, rfl, h⟩ := h
    replace h := xV1_ok h
    obtain ⟨u, r, rfl, h⟩ := h
    replace h := xgd_ok h
    obtain ⟨h9, h⟩ := h
    rw [Bool.and_eq_true] at h9
    replace h := xNx_ok h
    obtain ⟨hp, h⟩ := h
    refine Or.inr ⟨_, _, _, _, _, _, h, hcs, fun G H locs ls h1 h2 h3 h4 => ?_⟩
    have G := G H locs ls h1 h2 h3 h4
    rw [hp] at G
    exact lv_dup2_11 hx hb hd (by rw [xG_cat]; exact xlen h9.1) (by rw [xG_cat]; exact xlen h9.2) G
  | pop =>
    dsimp only at h
    have hln : Nat.beq len 1 = true := hln
    obtain rfl := xlen hln
    replace h := xV1_ok h
    obtain ⟨v, r, rfl, h⟩ := h
    replace h := xgd_ok h
    obtain ⟨h9, h⟩ := h
    replace h := xNx_ok h
    obtain ⟨hp, h⟩ := h
    refine Or.inr ⟨_, _, _, _, _, _, h, hcs, fun G H locs ls h1 h2 h3 h4 => ?_⟩
    have G := G H locs ls h1 h2 h3 h4
    rw [hp] at G
    exact lv_pop hx hb hd (by rw [xG_cat]; exact xlen h9) G
  | if_icmp op off =>
    dsimp only at h
    have hln : Nat.beq len 3 = true := hln
    obtain rfl := xlen hln
    replace h := xV1_ok h
    obtain ⟨y, r, rfl, h⟩ := h
    replace h := xV1_ok h
    obtain ⟨x, r, rfl, h⟩ := h
    replace h := xBr_ok (B := B) (sa := sa) hev h
    obtain ⟨b, cs1, hgx, hgy, hr, h, ht, hf, hm, h0⟩ := h
    refine Or.inr ⟨_, _, _, _, _, _, h, fun q hq => (hm q hq).elim (htab q) (hcs q), fun G H locs ls h1 h2 h3 h4 => ?_⟩
    have G := G H locs ls h1 h2 h3 h4
    rw [List.map_cons, List.map_cons, hgx, hgy]
    exact x_icmp hx hb hd hr ht hf h0 G
  | ifCond op off =>
    dsimp only at h
    have hln : Nat.beq len 3 = true := hln
    obtain rfl := xlen hln
    replace h := xV1_ok h
    obtain ⟨x, r, rfl, h⟩ := h
    replace h := xBr_ok (B := B) (sa := sa) hev h
    obtain ⟨b, cs1, hgx, hgy, hr, h, ht, hf, hm, h0⟩ := h
    refine Or.inr ⟨_, _, _, _, _, _, h, fun q hq => (hm q hq).elim (htab q) (hcs q), fun G H locs ls h1 h2 h3 h4 => ?_⟩
    have G := G H locs ls h1 h2 h3 h4
    rw [List.map_cons, hgx]
    exact x_if hx hb hd hr ht hf h0 G
  | goto off =>
    dsimp only at h
    have hln : Nat.beq len 3 = true := hln
    obtain rfl := xlen hln
    replace h := xJm_ok h
    obtain ⟨cs1, h8, h, hm⟩ := h
    refine Or.inr ⟨_, _, _, _, _, _, h, fun q hq => htab q (hm q hq), fun G H locs ls h1 h2 h3 h4 => ?_⟩
    exact lv_goto hx hb hd h8 (G H locs ls h1 h2 h3 h4)
  | tableswitch dd lo hi offs =>
    dsimp only at h
    replace h := xV1_ok h
    obtain ⟨x, r, rfl, h⟩ := h
    replace h := xOp_ok h
    obtain ⟨a, ha, h⟩ := h
    have qa := xbd_ok hev ha (B := B) (sa := sa)
    cases hc : (decide (a.1 = a.2) && (decide (lo ≤ a.1) && decide (a.1 ≤ hi))) with
    | true =>
      rw [hc] at h
      simp only [Bool.and_eq_true, decide_eq_true_eq] at hc
      replace h := xOp_ok h
      obtain ⟨off, ho, h⟩ := h
      rw [xnth_eq, Array.getElem?_toList] at ho
      replace h := xJm_ok h
      obtain ⟨cs1, h8, h, hm⟩ := h
      refine Or.inr ⟨_, _, _, _, _, _, h, fun q hq => htab q (hm q hq), fun G H locs ls h1 h2 h3 h4 => ?_⟩
      have hv : (xi ev x).toInt = a.1 := by omega
      rw [List.map_cons, qa.2]
      exact lv_tableIn hx hb hd (by omega) (by omega) (by rw [hv]; exact ho) h8 (G H locs ls h1 h2 h3 h4)
    | false =>
      rw [hc] at h
      replace h := xgd_ok h
      obtain ⟨h9, h⟩ := h
      simp only [Bool.or_eq_true, decide_eq_true_eq] at h9
      replace h := xJm_ok h
      obtain ⟨cs1, h8, h, hm⟩ := h
      refine Or.inr ⟨_, _, _, _, _, _, h, fun q hq => htab q (hm q hq), fun G H locs ls h1 h2 h3 h4 => ?_⟩
      rw [List.map_cons, qa.2]
      exact lv_tableOut hx hb hd (by omega) h8 (G H locs ls h1 h2 h3 h4)
  | getfield ix =>
    dsimp only at h
    have hln : Nat.beq len 3 = true := hln
    obtain rfl := xlen hln
    replace h := xRf_ok h
    obtain ⟨a, r, rfl, h⟩ := h
    replace h := xOb_ok h
    obtain ⟨ci, fs, hw, h⟩ := h
    replace h := xgd_ok h
    obtain ⟨hc, h⟩ := h
    obtain rfl := xlen hc
    replace h := xOp_ok h
    obtain ⟨v, hv, h⟩ := h
    rw [xnth_eq] at hv
    replace h := xPu_ok h
    obtain ⟨hp, h⟩ := h
    obtain ⟨q, hq, k1, k2, k3⟩ := xFl_ok hlk
    refine Or.inr ⟨_, _, _, _, _, _, h, hcs, fun G H locs ls h1 h2 h3 h4 => ?_⟩
    have G := G H locs ls h1 h2 h3 h4
    rw [hp] at G
    exact va_get (D := D) (C := q.1) (T := q.2.1) (N := q.2.2) hx hb hts (x_hin hq) hown hK h2 a (xWd_get hw) hq (a2 % 100) k1 (hts _ k3) (fun _ z => by rw [k2] at z; exact z) (by rw [List.getElem?_map]; exact congrArg (Option.map _) hv) hd G
  | putfield ix =>
    dsimp only at h
    have hln : Nat.beq len 3 = true := hln
    obtain rfl := xlen hln
    replace h := xV1_ok h
    obtain ⟨v, r, rfl, h⟩ := h
    replace h := xRf_ok h
    obtain ⟨a, r, rfl, h⟩ := h
    replace h := xOb_ok h
    obtain ⟨ci, fs, hw, h⟩ := h
    replace h := xgd_ok h
    obtain ⟨hc, h⟩ := h
    simp only [Bool.and_eq_true] at hc
    obtain ⟨hc, hle, hft⟩ := hc
    obtain rfl := xlen hc
    have hle := Nat.le_of_ble_eq_true hle
    rw [setK_eq, setK_eq] at h
    replace h := xNx_ok h
    obtain ⟨hp, h⟩ := h
    have hlk : (xFl own ix (pc, .putfield ix, 3, a1, a2, a3) && xFt own ini (pc, .putfield ix, 3, a1, a2, a3)) = true := hlk
    rw [Bool.and_eq_true] at hlk
    obtain ⟨q, hq, k1, k2, k3⟩ := xFl_ok hlk.1
    obtain ⟨ty, hty, ht1, hfin⟩ := xFt_ok hlk.2 hq
    obtain ⟨ty', fs', hty', -, q1, q2, -, q4, -⟩ := x_cls _ q hq
    rw [hty] at hty'
    cases hty'
    have hnf := xft_ok (B := B) (ev := ev) (sa := sa) hft ht1
    refine Or.inr ⟨_, _, _, _, _, _, h, hcs, fun G H locs ls h1 h2 h3 h4 => ?_⟩
    have key : ∀ (H1 : Heap) (locs1 : List Loc), va_P D xcl ((xWd B ev sa cA w).set a (B + a, .inr (a2 / 100, (fs.map (xG B ev sa)).set (a2 % 100) (xG B ev sa v)))) H1 → va_S (fun q => B ≤ q) s.heap H1 locs1 → W p l e R s m args below meth c H1 locs1 mc ms Q (F0 m (pc + 3) ls (r.map (xG B ev sa))) := by
      intro H1 locs1 hP1 hS1
      have e1 : (B + a, (.inr (a2 / 100, (fs.map (xG B ev sa)).set (a2 % 100) (xG B ev sa v)) : va_E)) = (B + a, xCe B ev sa cA (.inr (a2 / 100, fs.set (a2 % 100) v))) := by
        show _ = (B + a, (.inr (a2 / 100, (fs.set (a2 % 100) v).map (xG B ev sa)) : va_E))
        rw [List.map_set]
      rw [e1, xWd_set] at hP1
      have G := G H1 locs1 ls (by rw [xw_set]; exact h1) hP1 hS1 h4
      rw [hp] at G
      exact G
    have hl9 : a2 % 100 < (fs.map (xG B ev sa)).length := by rw [List.length_map]; exact hle
    rcases hfin with hfin | ⟨hi1, hi2, hi3⟩
    · exact va_put (D := D) (C := q.1) (T := q.2.1) (N := q.2.2) hx hb hts (x_hin hq) ty q2 q4 hown hK h2 (xWd_D w) h3 a (xWd_get hw) hq (a2 % 100) k1 (hts _ k3) (fun _ z => by rw [k2] at z; exact z) hfin (q2 _ k1) hnf.1 hnf.2 hl9 hd (fun H1 locs1 hP1 _ hS1 => key H1 locs1 hP1 hS1)
    · exact va_putF (D := D) (C := q.1) (T := q.2.1) (N := q.2.2) hx hb hts (x_hin hq) ty q2 q4 hown hK h2 (xWd_D w) h3 a (xWd_get hw) hq (a2 % 100) k1 (hts _ k3) (fun _ z => by rw [k2] at z; exact z) hi3 (hini hi1) (by rw [k2]; exact hi2.symm) (q2 _ k1) hnf.1 hnf.2 hl9 hd (fun H1 locs1 hP1 _ hS1 => key H1 locs1 hP1 hS1)
  | new ix =>
    dsimp only at h
    have hln : Nat.beq len 3 = true := hln
    obtain rfl := xlen hln
    have hlk : (match xcl[a2]? with | some q => xw a1 (.classLink own ix q.1) | none => false) = true := hlk
    replace h := xOp_ok h
    obtain ⟨fs, hfs, h⟩ := h
    rw [xnth_eq] at hfs
    cases hq : xcl[a2]? with
    | none => rw [hq] at hlk; cases hlk
    | some q =>
      rw [hq] at hlk
      have hlk : xw a1 (.classLink own ix q.1) = true := hlk
      obtain ⟨ty, fs', hty, hfs', q1, q2, q3, q4, q5, q6, q7, q8⟩ := x_cls _ q hq
      cases Option.some.inj (hfs.symm.trans hfs')
      replace h := xNw_ok h
      obtain ⟨g1, g2, hp, h⟩ := h
      refine Or.inr ⟨_, _, _, _, _, _, h, hcs, fun G H locs ls h1 h2 h3 h4 => ?_⟩
      rw [q5] at g2 G
      refine va_new (D := D) (C := q.1) (T := q.2.1) (N := q.2.2) (fs := fs) hx hb hts q1 ty q2 hown (hts _ (xw_mem hlk)) (hts _ q7) (hts _ q8) hK h2 (xWd_D w) h3 (fun z hz => Nat.le_trans hB hz) hq q3 (by omega) (by omega) hd (fun z H1 hP1 hD1 hS1 => ?_)
      refine x_sz (fun hz => ?_)
      obtain rfl := x_new hP1 hD1 (by omega)
      have e1 : (B + w.length, (.inr (a2, fs) : va_E)) = (B + w.length, xCe B ev sa cA (.inr (a2, fs))) := by
        show _ = (B + w.length, (.inr (a2, fs.map (xG B ev sa)) : va_E))
        rw [x_plm q6]
      rw [e1, ← xWd_app] at hP1
      have G := G H1 locs ls (by rw [List.length_append]; show _ = B + (w.length + 1); omega) hP1 hS1 h4
      rw [hp] at G
      exact G
  | multianewarray ix nd =>
    dsimp only at h
    have hln : Nat.beq len 4 = true := hln
    obtain rfl := xlen hln
    have hlk : (Nat.beq nd 2 && xw a1 (.classLink own ix "[[J")) = true := hlk
    rw [Bool.and_eq_true] at hlk
    have hnd : nd = 2 := xlen hlk.1
    subst hnd
    replace h := xUI_ok h
    obtain ⟨kk, r, rfl, h⟩ := h
    replace h := xUI_ok h
    obtain ⟨n, r, rfl, h⟩ := h
    replace h := xgd_ok h
    obtain ⟨hg, h⟩ := h
    simp only [Bool.and_eq_true, decide_eq_true_eq] at hg
    obtain ⟨rfl, g2, g3, g4, g5⟩ := hg
    have g4 := Nat.le_of_ble_eq_true g4
    have g5 := Nat.le_of_ble_eq_true g5
    rw [fN_eq, fN_eq, fN_eq, fN_eq, xMa_eq] at h
    replace h := xNx_ok h
    obtain ⟨hp, h⟩ := h
    refine Or.inr ⟨_, _, _, _, _, _, h, hcs, fun G0 H locs ls h1 h2 h3 h4 => ?_⟩
    refine x_sz (fun hz0 => ?_)
    have hsz : H.size = B + w.length := by have := x_low h2 (Nat.le_trans hB h3.1); omega
    have hk0 : ¬ kk < 0 := by rw [Int32.lt_iff_toInt_lt, Int32.toInt_zero]; omega
    have hk1 : kk.toNatClampNeg ≤ 1000 := by
      have : kk.toNatClampNeg = kk.toInt.toNat := rfl
      omega
    have h6 : (6 : Int32).toNatClampNeg = 6 := by decide
    have es : "[" ++ (FieldType.array .long).toString = "[[J" := by decide +kernel
    intro T hT X
    obtain ⟨cO, cI, f1, f2, U, XU, hH, stp⟩ := mz_stand X hx hown (by rw [es]; exact hts _ (xw_mem hlk.2)) hXs.2.2.2 (hts _ ws_jl) (g := F0 m pc ls (.int kk :: .int 6 :: r.map (xG B ev sa))) rfl (by rw [hb]; exact hd) rfl (by decide) hk0 (by decide) hk1 (by rw [h6]; omega) (by rw [h6]; omega)
    rw [h6] at XU hH
    rw [hT] at hH
    have c4 : cO = cA 4 := Option.some.inj (f1.symm.trans (hK.2 4 _ rfl).2)
    have c1 : cI = cA 1 := Option.some.inj (f2.symm.trans (hK.2 1 _ rfl).2)
    rw [c4, c1] at hH
    have hP1 := x_ma7 h2 hsz hH
    have hS1 : va_S (fun q => B ≤ q) s.heap U.heap (locs ++ (List.range 6).map fun j => ⟨T.heap.size, j⟩) := by
      refine ⟨Nat.le_trans h3.1 (by rw [hH.1]; omega), fun q q1 q2 => by rw [hH.2.1 q (Nat.lt_of_lt_of_le q1 h3.1)]; exact h3.2.1 q q1 q2, fun z hz => ?_⟩
      rcases List.mem_append.mp hz with hz | hz
      · exact h3.2.2 z hz
      · obtain ⟨j, _, rfl⟩ := List.mem_map.mp hz
        show B ≤ T.heap.size
        rw [hT]; omega
    have e1 : mc + 1 + 6 = mc + 7 := by omega
    have e2 : ms + 6 + 6 * kk.toNatClampNeg = ms + (6 + 6 * kk.toNatClampNeg) := by omega
    rw [e1, e2] at XU
    obtain ⟨t2, a5, b5⟩ := G0 U.heap _ ls (by rw [x_ma7l]; omega) hP1 hS1 h4 U rfl XU
    refine ⟨t2, stp t2 ?_, b5⟩
    rw [hp] at a5
    rw [hT, hsz]
    exact a5
  | newarray t =>
    dsimp only at h
    have hln : Nat.beq len 2 = true := hln
    obtain rfl := xlen hln
    have hlk : (xat a2 t && xw a1 (.arrayClass (newarray.typeOf t))) = true := hlk
    rw [Bool.and_eq_true] at hlk
    replace h := xUI_ok h
    obtain ⟨n, r, rfl, h⟩ := h
    replace h := xgd_ok h
    obtain ⟨hg, h⟩ := h
    rw [Bool.and_eq_true, decide_eq_true_eq, decide_eq_true_eq] at hg
    rw [fN_eq] at h
    replace h := xNw_ok h
    obtain ⟨g1, g2, hp, h⟩ := h
    obtain ⟨z1, z2, z3, z4⟩ := x_nwa (B := B) (ev := ev) (cA := cA) (N := n.toNatClampNeg) hlk.1
    refine Or.inr ⟨_, _, _, _, _, _, h, hcs, fun G H locs ls h1 h2 h3 h4 => ?_⟩
    have hn0 : ¬ n < 0 := by rw [Int32.lt_iff_toInt_lt, Int32.toInt_zero]; omega
    have hn1 : n.toNatClampNeg ≤ 60000 := by
      have : n.toNatClampNeg = n.toInt.toNat := rfl
      omega
    refine va_newa (D := D) hx hb (hts _ (xw_mem hlk.2)) rfl hK h2 (xWd_D w) h3 (fun z hz => Nat.le_trans hB hz) z1 hn0 rfl (Nat.le_trans (Nat.mul_le_mul hn1 z4) (by decide)) (by omega) (by omega) hd (fun z c1 H1 hK1 hP1 hD1 hS1 => ?_)
    refine x_sz (fun hz => ?_)
    obtain rfl := x_new hP1 hD1 (by omega)
    have hc1 : c1 = cA a2 := z3 s c1 (hK1.2 5 (c1, newarray.typeOf t) rfl).2 (hK.2 a2 _ z2).2
    rw [hc1] at hP1
    have e1 : (B + w.length, (.inl (cA a2, xAr B ev (a2, n.toNatClampNeg, [])) : va_E)) = (B + w.length, xCe B ev sa cA (.inl (a2, n.toNatClampNeg, []))) := rfl
    rw [e1, ← xWd_app] at hP1
    have G := G H1 locs ls (by rw [List.length_append]; show _ = B + (w.length + 1); omega) hP1 hS1 h4
    rw [hp] at G
    exact G
  | iaload =>
    dsimp only at h
    have hln : Nat.beq len 1 = true := hln
    obtain rfl := xlen hln
    replace h := xUI_ok h
    obtain ⟨i, r, rfl, h⟩ := h
    replace h := xV1_ok h
    obtain ⟨v, r, rfl, h⟩ := h
    cases v with
    | ref a =>
      replace h := xAy_ok h
      obtain ⟨t, n, es, hw, h⟩ := h
      replace h := xgd_ok h
      obtain ⟨hg, h⟩ := h
      simp only [Bool.and_eq_true] at hg
      obtain ⟨ht, hin, hk⟩ := hg
      replace h := xPu_ok h
      obtain ⟨hp, h⟩ := h
      have ht : t = 0 := xlen ht
      subst ht
      refine Or.inr ⟨_, _, _, _, _, _, h, hcs, fun G H locs ls h1 h2 h3 h4 => ?_⟩
      have G := G H locs ls h1 h2 h3 h4
      rw [hp] at G
      rw [List.map_cons, xkd0 hk] at G
      exact va_iald hx hb hK h2 a 0 (xWd_get hw) rfl (x_in hin) hd G
    | retAddr q =>
      replace h := xOp_ok h
      obtain ⟨L, hL, h⟩ := h
      replace h := xgd_ok h
      obtain ⟨hg, h⟩ := h
      simp only [Bool.and_eq_true] at hg
      obtain ⟨ht, hin, hk⟩ := hg
      have ht : q = 5 := xlen ht
      subst ht
      have hk := Nat.le_of_ble_eq_true hk
      rw [fN_eq] at h
      obtain ⟨l1, l2, l3⟩ := hLL L hL
      replace h := xOp_ok h
      obtain ⟨iv, hiv, h⟩ := h
      rw [xnth_eq] at hiv
      have hb9 := hev.1 _ iv hiv
      cases hc9 : decide (iv.1 = iv.2) with
      | true =>
        rw [hc9] at h
        have h : xPu (pc, .iaload, 1, a1, a2, a3) cs lv w mc ms k (.int (Int32.ofInt iv.1)) r = some X' := h
        have hc9 := of_decide_eq_true hc9
        have hu : Int32.ofInt iv.1 = ev i.toNatClampNeg := by
          rw [show iv.1 = (ev i.toNatClampNeg).toInt by omega, Int32.ofInt_toInt]
        replace h := xPu_ok h
        obtain ⟨hp, h⟩ := h
        refine Or.inr ⟨_, _, _, _, _, _, h, hcs, fun G H locs ls h1 h2 h3 h4 => ?_⟩
        have G := G H locs ls h1 h2 h3 h4
        rw [hp] at G
        have G : W p l e R s m args below meth c H locs mc ms Q (F0 m (pc + 1) ls (.int (Int32.ofInt iv.1) :: r.map (xG B ev sa))) := G
        rw [hu] at G
        exact va_sld hx hb l1 l2 l3 h3 (x_in hin) hd G
      | false =>
        rw [hc9] at h
        have h : xPu (pc, .iaload, 1, a1, a2, a3) cs lv w mc ms k (.float (UInt32.ofNat i.toNatClampNeg)) r = some X' := h
        replace h := xPu_ok h
        obtain ⟨hp, h⟩ := h
        refine Or.inr ⟨_, _, _, _, _, _, h, hcs, fun G H locs ls h1 h2 h3 h4 => ?_⟩
        have G := G H locs ls h1 h2 h3 h4
        rw [hp] at G
        have hu : (UInt32.ofNat i.toNatClampNeg).toNat = i.toNatClampNeg := UInt32.toNat_ofNat_of_lt (Nat.lt_of_le_of_lt hk (by decide))
        have G : W p l e R s m args below meth c H locs mc ms Q (F0 m (pc + 1) ls (.int (ev (UInt32.ofNat i.toNatClampNeg).toNat) :: r.map (xG B ev sa))) := G
        rw [hu] at G
        exact va_sld hx hb l1 l2 l3 h3 (x_in hin) hd G
    | _ => exact nomatch h
  | baload =>
    dsimp only at h
    have hln : Nat.beq len 1 = true := hln
    obtain rfl := xlen hln
    replace h := xUI_ok h
    obtain ⟨i, r, rfl, h⟩ := h
    replace h := xRf_ok h
    obtain ⟨a, r, rfl, h⟩ := h
    replace h := xAy_ok h
    obtain ⟨t, n, es, hw, h⟩ := h
    replace h := xgd_ok h
    obtain ⟨hg, h⟩ := h
    simp only [Bool.and_eq_true, Bool.or_eq_true] at hg
    obtain ⟨ht, hin, hk⟩ := hg
    replace h := xPu_ok h
    obtain ⟨hp, h⟩ := h
    rcases ht with ht | ht
    · have ht : t = 2 := xlen ht
      subst ht
      refine Or.inr ⟨_, _, _, _, _, _, h, hcs, fun G H locs ls h1 h2 h3 h4 => ?_⟩
      have G := G H locs ls h1 h2 h3 h4
      rw [hp] at G
      rw [List.map_cons, xkd0 hk] at G
      exact va_bald hx hb hK h2 a 2 (xWd_get hw) rfl (x_in hin) hd G
    · have ht : t = 3 := xlen ht
      subst ht
      refine Or.inr ⟨_, _, _, _, _, _, h, hcs, fun G H locs ls h1 h2 h3 h4 => ?_⟩
      have G := G H locs ls h1 h2 h3 h4
      rw [hp] at G
      rw [List.map_cons, xkd0 hk] at G
      exact va_zald hx hb hK h2 a 3 (xWd_get hw) rfl (x_in hin) hd G
  | laload =>
    dsimp only at h
    have hln : Nat.beq len 1 = true := hln
    obtain rfl := xlen hln
    replace h := xUI_ok h
    obtain ⟨i, r, rfl, h⟩ := h
    replace h := xRf_ok h
    obtain ⟨a, r, rfl, h⟩ := h
    replace h := xAy_ok h
    obtain ⟨t, n, es, hw, h⟩ := h
    replace h := xgd_ok h
    obtain ⟨hg, h⟩ := h
    simp only [Bool.and_eq_true] at hg
    obtain ⟨ht, hin, hk⟩ := hg
    replace h := xPu_ok h
    obtain ⟨hp, h⟩ := h
    have ht : t = 1 := xlen ht
    subst ht
    refine Or.inr ⟨_, _, _, _, _, _, h, hcs, fun G H locs ls h1 h2 h3 h4 => ?_⟩
    have G := G H locs ls h1 h2 h3 h4
    rw [hp] at G
    rw [List.map_cons, xkd1 hk] at G
    exact va_lald hx hb hK h2 a 1 (xWd_get hw) rfl (x_in hin) hd G
  | iastore =>
    dsimp only at h
    have hln : Nat.beq len 1 = true := hln
    obtain rfl := xlen hln
    replace h := xV1_ok h
    obtain ⟨v, r, rfl, h⟩ := h
    replace h := xUI_ok h
    obtain ⟨i, r, rfl, h⟩ := h
    replace h := xRf_ok h
    obtain ⟨a, r, rfl, h⟩ := h
    replace h := xAy_ok h
    obtain ⟨t, n, es, hw, h⟩ := h
    replace h := xgd_ok h
    obtain ⟨hg, h⟩ := h
    simp only [Bool.and_eq_true] at hg
    obtain ⟨ht, hin, hk⟩ := hg
    rw [fN_eq, setK_eq] at h
    replace h := xNx_ok h
    obtain ⟨hp, h⟩ := h
    have ht : t = 0 := xlen ht
    subst ht
    refine Or.inr ⟨_, _, _, _, _, _, h, hcs, fun G H locs ls h1 h2 h3 h4 => ?_⟩
    rw [List.map_cons, xkd0 hk]
    refine va_iast hx hb hK h2 (xWd_D w) h3 a 0 (xWd_get hw) rfl (x_in hin) hd (fun H1 locs1 hP1 _ hS1 => ?_)
    have e1 : (B + a, (.inl (cA 0, n, .inl (upd (fun j => xi ev (xlk es (.int 0) j)) i.toNatClampNeg (xi ev v))) : va_E)) = (B + a, xCe B ev sa cA (.inl (0, n, (i.toNatClampNeg, v) :: es))) := by
      rw [x_upd (v := v) rfl]
      rfl
    
    rw [e1, xWd_set] at hP1
    have G := G H1 locs1 ls (by rw [xw_set]; exact h1) hP1 hS1 h4
    rw [hp] at G
    exact G
  | lastore =>
    dsimp only at h
    have hln : Nat.beq len 1 = true := hln
    obtain rfl := xlen hln
    replace h := xV1_ok h
    obtain ⟨v, r, rfl, h⟩ := h
    replace h := xUI_ok h
    obtain ⟨i, r, rfl, h⟩ := h
    replace h := xRf_ok h
    obtain ⟨a, r, rfl, h⟩ := h
    replace h := xAy_ok h
    obtain ⟨t, n, es, hw, h⟩ := h
    replace h := xgd_ok h
    obtain ⟨hg, h⟩ := h
    simp only [Bool.and_eq_true] at hg
    obtain ⟨ht, hin, hk⟩ := hg
    rw [fN_eq, setK_eq] at h
    replace h := xNx_ok h
    obtain ⟨hp, h⟩ := h
    have ht : t = 1 := xlen ht
    subst ht
    refine Or.inr ⟨_, _, _, _, _, _, h, hcs, fun G H locs ls h1 h2 h3 h4 => ?_⟩
    rw [List.map_cons, xkd1 hk]
    refine va_last hx hb hK h2 (xWd_D w) h3 a 1 (xWd_get hw) rfl (x_in hin) hd (fun H1 locs1 hP1 _ hS1 => ?_)
    have e1 : (B + a, (.inl (cA 1, n, .inr (.inl (vp_updL (fun j => xl (xlk es (.long 0) j)) i.toNatClampNeg (xl v)))) : va_E)) = (B + a, xCe B ev sa cA (.inl (1, n, (i.toNatClampNeg, v) :: es))) := by
      rw [x_updL (v := v) rfl]
      rfl
    
    rw [e1, xWd_set] at hP1
    have G := G H1 locs1 ls (by rw [xw_set]; exact h1) hP1 hS1 h4
    rw [hp] at G
    exact G
  | bastore =>
    dsimp only at h
    have hln : Nat.beq len 1 = true := hln
    obtain rfl := xlen hln
    replace h := xUI_ok h
    obtain ⟨x, r, rfl, h⟩ := h
    replace h := xUI_ok h
    obtain ⟨i, r, rfl, h⟩ := h
    replace h := xRf_ok h
    obtain ⟨a, r, rfl, h⟩ := h
    replace h := xAy_ok h
    obtain ⟨t, n, es, hw, h⟩ := h
    replace h := xgd_ok h
    obtain ⟨hg, h⟩ := h
    simp only [Bool.and_eq_true] at hg
    obtain ⟨ht, hin⟩ := hg
    rw [fN_eq, fI_eq, setK_eq] at h
    replace h := xNx_ok h
    obtain ⟨hp, h⟩ := h
    have ht : t = 2 := xlen ht
    subst ht
    refine Or.inr ⟨_, _, _, _, _, _, h, hcs, fun G H locs ls h1 h2 h3 h4 => ?_⟩
    refine va_bast hx hb hK h2 (xWd_D w) h3 a 2 (xWd_get hw) rfl (x_in hin) hd (fun H1 locs1 hP1 _ hS1 => ?_)
    have e1 : (B + a, (.inl (cA 2, n, .inl (upd (fun j => xi ev (xlk es (.int 0) j)) i.toNatClampNeg (vp_nar .byte x))) : va_E)) = (B + a, xCe B ev sa cA (.inl (2, n, (i.toNatClampNeg, .int (vp_nar .byte x)) :: es))) := by
      rw [x_upd (v := .int (vp_nar .byte x)) (x := vp_nar .byte x) rfl]
      rfl
    
    rw [e1, xWd_set] at hP1
    have G := G H1 locs1 ls (by rw [xw_set]; exact h1) hP1 hS1 h4
    rw [hp] at G
    exact G
  | arraylength =>
    dsimp only at h
    have hln : Nat.beq len 1 = true := hln
    obtain rfl := xlen hln
    replace h := xV1_ok h
    obtain ⟨v, r, rfl, h⟩ := h
    cases v with
    | retAddr q =>
      replace h := xOp_ok h
      obtain ⟨L, hL, h⟩ := h
      replace h := xgd_ok h
      obtain ⟨hg, h⟩ := h
      have ht : q = 5 := xlen hg
      subst ht
      replace h := xPu_ok h
      obtain ⟨hp, h⟩ := h
      obtain ⟨l1, l2, l3⟩ := hLL L hL
      refine Or.inr ⟨_, _, _, _, _, _, h, hcs, fun G H locs ls h1 h2 h3 h4 => ?_⟩
      have G := G H locs ls h1 h2 h3 h4
      rw [hp] at G
      exact va_slen hx hb l1 l2 l3 h3 hd G
    | _ => exact nomatch h
  | checkcast ix =>
    dsimp only at h
    have hln : Nat.beq len 3 = true := hln
    obtain rfl := xlen hln
    have hlk : xw a1 (.classLink own ix "[I") = true := hlk
    replace h := xRf_ok h
    obtain ⟨a, r, rfl, h⟩ := h
    replace h := xAy_ok h
    obtain ⟨t, n, es, hw, h⟩ := h
    replace h := xgd_ok h
    obtain ⟨hg, h⟩ := h
    have ht : t = 0 := xlen hg
    subst ht
    replace h := xNx_ok h
    obtain ⟨hp, h⟩ := h
    refine Or.inr ⟨_, _, _, _, _, _, h, hcs, fun G H locs ls h1 h2 h3 h4 => ?_⟩
    have G := G H locs ls h1 h2 h3 h4
    rw [hp] at G
    exact va_castA hx hb hown (hts _ (xw_mem hlk)) h2 a (xWd_get hw) (hK.2 0 _ rfl).2 hd G
  | invokevirtual ix =>
    dsimp only at h
    have hln : Nat.beq len 3 = true := hln
    obtain rfl := xlen hln
    split at h
    · rename_i hz
      have hz : a2 = 0 := hz
      subst hz
      have hlk : xIv own ix (pc, .invokevirtual ix, 3, a1, 0, a3) 0 = true := hlk
      replace h := xOp_ok h
      obtain ⟨q, hq, h⟩ := h
      rw [xnth_eq] at hq
      replace h := xsp_ok h
      obtain ⟨as, r, rfl, hn, h⟩ := h
      rw [List.append_nil] at h
      replace h := xRf_ok h
      obtain ⟨a, r, rfl, h⟩ := h
      replace h := xOb_ok h
      obtain ⟨ci, fs, hw, h⟩ := h
      replace h := xgd_ok h
      obtain ⟨hc, h⟩ := h
      have hc : ci = xmk q := xlen hc
      replace h := xCl_ok h
      obtain ⟨⟨b1, b2, b3⟩, z, hz, hp, h⟩ := h
      obtain ⟨q', hq', w1, w2⟩ := xIv_ok hlk
      cases Option.some.inj (hq.symm.trans hq')
      obtain ⟨hM, hlen⟩ := hca _ _ _ _ _ hz hq
      refine Or.inr ⟨_, _, _, _, _, _, h, hcs, fun G H locs ls h1 h2 h3 h4 => ?_⟩
      refine x_sz (fun hz0 => ?_)
      have hsz : H.size = B + w.length := by have := x_low h2 (Nat.le_trans hB h3.1); omega
      have hst : (as.reverse ++ .ref a :: r).map (xG B ev sa) = (as.map (xG B ev sa)).reverse ++ .ref (B + a) :: r.map (xG B ev sa) := by
        rw [List.map_append, List.map_reverse]; rfl
      rw [hst]
      have hrr : ((r.map (xG B ev sa)).map fun v => v.category).sum ≤ 8 := by rw [x_cats]; exact b1
      refine x_cal hB h3 (va_runV (As := as.map (xG B ev sa)) (rest := r.map (xG B ev sa)) ⟨hx, hb, hml, hown, hts⟩ hM ⟨x_cb hts w1 w2.1 hR, hts _ w2.2.1, hts _ w2.2.2.2⟩ ⟨x_blind, x_rcv hK h2 hw hc w2.2.2.1, x_pcU hsz (Nat.le_trans hB h3.1) h2 hK hNw (hXs.kept h3.2.1)⟩ rfl (by rw [List.length_map]; exact hn) h4.1 rfl (lv_room hrr) hd ⟨by omega, by omega⟩) (fun H1 locs1 hP1 hS1 => ?_)
      have G := G H1 locs1 ls (by omega) hP1 hS1 h4
      rw [hp, List.map_append, x_tol] at G
      exact G
    · rename_i hz
      have hz : a2 = 1 := hz
      subst hz
      have hlk : xIv own ix (pc, .invokevirtual ix, 3, a1, 1, a3) 1 = true := hlk
      replace h := xOp_ok h
      obtain ⟨q, hq, h⟩ := h
      rw [xnth_eq] at hq
      replace h := xsp_ok h
      obtain ⟨as, r, rfl, hn, h⟩ := h
      rw [List.append_nil] at h
      replace h := xRf_ok h
      obtain ⟨a, r, rfl, h⟩ := h
      replace h := xOb_ok h
      obtain ⟨ci, fs, hw, h⟩ := h
      replace h := xgd_ok h
      obtain ⟨hc, h⟩ := h
      have hc : ci = xmk q := xlen hc
      replace h := xCl_ok h
      obtain ⟨⟨b1, b2, b3⟩, z, hz, hp, h⟩ := h
      obtain ⟨q', hq', w1, w2⟩ := xIv_ok hlk
      cases Option.some.inj (hq.symm.trans hq')
      obtain ⟨hM, hlen⟩ := hca _ _ _ _ _ hz hq
      refine Or.inr ⟨_, _, _, _, _, _, h, hcs, fun G H locs ls h1 h2 h3 h4 => ?_⟩
      refine x_sz (fun hz0 => ?_)
      have hsz : H.size = B + w.length := by have := x_low h2 (Nat.le_trans hB h3.1); omega
      have hst : (as.reverse ++ .ref a :: r).map (xG B ev sa) = (as.map (xG B ev sa)).reverse ++ .ref (B + a) :: r.map (xG B ev sa) := by
        rw [List.map_append, List.map_reverse]; rfl
      rw [hst]
      have hrr : ((r.map (xG B ev sa)).map fun v => v.category).sum ≤ 8 := by rw [x_cats]; exact b1
      refine x_cal hB h3 (va_runVN (As := as.map (xG B ev sa)) (rest := r.map (xG B ev sa)) ⟨hx, hb, hml, hown, hts⟩ hM ⟨x_cbN hts hNw w1 w2.1 hR, hts _ w2.2.1, hts _ w2.2.2.2⟩ ⟨x_blind, x_rcv hK h2 hw hc w2.2.2.1, x_pcU hsz (Nat.le_trans hB h3.1) h2 hK hNw (hXs.kept h3.2.1)⟩ rfl (by rw [List.length_map]; exact hn) h4.1 rfl (lv_room hrr) hd ⟨by omega, by omega⟩) (fun H1 locs1 hP1 hS1 => ?_)
      have G := G H1 locs1 ls (by omega) hP1 hS1 h4
      rw [hp, List.map_append, x_tol] at G
      exact G
    · rename_i hz
      have hz : a2 = 10 := hz
      subst hz
      have hlk : xLv own ix (pc, .invokevirtual ix, 3, a1, 10, a3) = true := hlk
      simp only [xLv, Bool.and_eq_true] at hlk
      obtain ⟨k1, k2, k3, k4, k5, k6⟩ := hlk
      replace h := xRf_ok h
      obtain ⟨a, r, rfl, h⟩ := h
      replace h := xAy_ok h
      obtain ⟨t, n, es, hw, h⟩ := h
      replace h := xgd_ok h
      obtain ⟨hg, h⟩ := h
      rw [Bool.and_eq_true] at hg
      have ht : t = 0 := xlen hg.1
      subst ht
      have hrr : ((r.map (xG B ev sa)).map fun v => v.category).sum ≤ 8 := by rw [x_cats]; exact Nat.le_of_ble_eq_true hg.2
      replace h := xNw_ok h
      obtain ⟨g1, g2, hp, h⟩ := h
      refine Or.inr ⟨_, _, _, _, _, _, h, hcs, fun G H locs ls h1 h2 h3 h4 => ?_⟩
      refine va_clone (D := D) hx hb (hml.trans h4.1.symm) hown (hts _ (xw_mem k1)) (hts _ (xw_mem k2)) (hts _ (xw_mem k3)) (hts _ (xw_mem k4)) (hts _ (xw_mem k5)) (hNw _ (xwN_mem k6)) hK h2 (xWd_D w) h3 (fun z hz => Nat.le_trans hB hz) a 0 (xWd_get hw) rfl (hK.2 0 _ rfl).2 (fun i v hv => ?_) (by omega) (by omega) (by omega) (Nat.le_trans g2 hMS) hd (fun z H1 _ hP1 hD1 hS1 => ?_)
      · have hv : (arrV (cA 0) n (fun j => .int (xi ev (xlk es (.int 0) j)))).slots[i]? = some v := hv
        have hlt : i < n := by have := (Array.getElem?_eq_some_iff.mp hv).1; rw [arrV_size] at this; exact this
        rw [arrV_read _ _ hlt] at hv
        cases hv
        rfl
      · refine x_sz (fun hz => ?_)
        obtain rfl := x_new hP1 hD1 (by omega)
        have e1 : (B + w.length, (.inl (cA (0, n, es).1, xAr B ev (0, n, es)) : va_E)) = (B + w.length, xCe B ev sa cA (.inl (0, n, es))) := rfl
        rw [e1, ← xWd_app] at hP1
        have G := G H1 locs ls (by rw [List.length_append]; show _ = B + (w.length + 1); omega) hP1 hS1 h4
        rw [hp] at G
        exact G
    · rename_i hz
      have hz : a2 = 12 := hz
      subst hz
      have hlk : xw a1 (.methodLink own ix yLen) = true := hlk
      replace h := xV1_ok h
      obtain ⟨v, r, rfl, h⟩ := h
      cases v with
      | retAddr q =>
        replace h := xgd_ok h
        obtain ⟨hg, h⟩ := h
        simp only [Bool.and_eq_true] at hg
        obtain ⟨g0, g1, g2, g3⟩ := hg
        have g0 := Nat.le_of_ble_eq_true g0
        have g2 := Nat.le_of_ble_eq_true g2
        have g3 := Nat.le_of_ble_eq_true g3
        have hrr : ((r.map (xG B ev sa)).map fun v => v.category).sum ≤ 8 := by rw [x_cats]; exact Nat.le_of_ble_eq_true g1
        replace h := xPu_ok h
        obtain ⟨hp, h⟩ := h
        refine Or.inr ⟨_, _, _, _, _, _, h, hcs, fun G0 H locs ls h1 h2 h3 h4 => ?_⟩
        have hXH := hXs.kept h3.2.1
        have hgi : GoodIn xT (Cond.code yLen bLen 1 (some .int) :: xT) := fun w hw => by
          rcases List.mem_cons.mp hw with rfl | hw
          · exact ⟨ws_lc, x_good _ ws_lc⟩
          · exact ⟨hw, x_good _ hw⟩
        have hk5 : q < 5 := by omega
        have hrun := va_runV (p := p) (l := l) (e := e) (below := below) (meth := meth) (As := []) (rest := r.map (xG B ev sa)) (own := own) (b := sa q) (g := F0 m pc ls (.ref (sa q) :: r.map (xG B ev sa))) (H := H) (locs := locs) (cells := mc) (slots := ms) (R := R) ⟨hx, hb, hml, hown, hts⟩ (c_len l (B := B) (sa := sa) hk5) ⟨callB_of 0 hts hgi rfl rfl rfl (hts _ ws_ini) (hts _ (xw_mem hlk)) ⟨by decide, by decide, by decide +kernel⟩ ⟨by show 1 + 1 ≤ R.frames; omega, by show 8 + (1 + 11) + 20 ≤ R.locals; omega⟩, hts _ ws_li, hts _ ws_ls⟩ ⟨xSb_bl, x_rcS hXH hk5, xSb_U (Nat.le_trans hB h3.1) hXH⟩ rfl rfl h4.1 rfl (lv_room hrr) hd ⟨by omega, by omega⟩
        intro T hT X
        obtain ⟨v, st₀, t, T', L, e0, X2, hL, e1, e2, ⟨hv, hh⟩, stp⟩ := hrun T hT X
        cases hv
        obtain ⟨t2, a5, b5⟩ := (G0 H (locs ++ L) ls h1 h2 ⟨h3.1, h3.2.1, fun z hz => by
          rcases List.mem_append.mp hz with h | h
          · exact h3.2.2 z h
          · exact hL z h⟩ h4) T' (by rw [e1, hh, e0]) X2
        rw [hp] at a5
        exact ⟨t2, stp t2 a5, b5⟩
      | _ => exact nomatch h
    · exact nomatch h
  | invokestatic ix =>
    dsimp only at h
    have hln : Nat.beq len 3 = true := hln
    obtain rfl := xlen hln
    split at h
    · rename_i hz
      have hz : a2 = 2 := hz
      subst hz
      have hlk : xIv own ix (pc, .invokestatic ix, 3, a1, 2, a3) 2 = true := hlk
      replace h := xOp_ok h
      obtain ⟨q, hq, h⟩ := h
      rw [xnth_eq] at hq
      replace h := xsp_ok h
      obtain ⟨as, r, rfl, hn, h⟩ := h
      rw [List.append_nil] at h
      replace h := xCl_ok h
      obtain ⟨⟨b1, b2, b3⟩, z, hz, hp, h⟩ := h
      obtain ⟨q', hq', w1, w2⟩ := xIv_ok hlk
      cases Option.some.inj (hq.symm.trans hq')
      obtain ⟨hM, hlen⟩ := hca _ _ _ _ _ hz hq
      refine Or.inr ⟨_, _, _, _, _, _, h, hcs, fun G H locs ls h1 h2 h3 h4 => ?_⟩
      refine x_sz (fun hz0 => ?_)
      have hsz : H.size = B + w.length := by have := x_low h2 (Nat.le_trans hB h3.1); omega
      have hst : (as.reverse ++ r).map (xG B ev sa) = (as.map (xG B ev sa)).reverse ++ r.map (xG B ev sa) := by
        rw [List.map_append, List.map_reverse]
      rw [hst]
      have hrr : ((r.map (xG B ev sa)).map fun v => v.category).sum ≤ 8 := by rw [x_cats]; exact b1
      refine x_cal hB h3 (va_runS (As := as.map (xG B ev sa)) (rest := r.map (xG B ev sa)) ⟨hx, hb, hml, hown, hts⟩ hM ⟨x_cb hts w1 w2.1 hR, hts _ w2.2⟩ ⟨x_blind, x_pcU hsz (Nat.le_trans hB h3.1) h2 hK hNw (hXs.kept h3.2.1)⟩ rfl (by rw [List.length_map]; exact hn) h4.1 rfl (lv_room hrr) hd ⟨by omega, by omega⟩) (fun H1 locs1 hP1 hS1 => ?_)
      have G := G H1 locs1 ls (by omega) hP1 hS1 h4
      rw [hp, List.map_append, x_tol] at G
      exact G
    · rename_i hz
      have hz : a2 = 3 := hz
      subst hz
      have hlk : xIv own ix (pc, .invokestatic ix, 3, a1, 3, a3) 3 = true := hlk
      replace h := xOp_ok h
      obtain ⟨q, hq, h⟩ := h
      rw [xnth_eq] at hq
      replace h := xsp_ok h
      obtain ⟨as, r, rfl, hn, h⟩ := h
      rw [List.append_nil] at h
      replace h := xCl_ok h
      obtain ⟨⟨b1, b2, b3⟩, z, hz, hp, h⟩ := h
      obtain ⟨q', hq', w1, w2⟩ := xIv_ok hlk
      cases Option.some.inj (hq.symm.trans hq')
      obtain ⟨hM, hlen⟩ := hca _ _ _ _ _ hz hq
      refine Or.inr ⟨_, _, _, _, _, _, h, hcs, fun G H locs ls h1 h2 h3 h4 => ?_⟩
      refine x_sz (fun hz0 => ?_)
      have hsz : H.size = B + w.length := by have := x_low h2 (Nat.le_trans hB h3.1); omega
      have hst : (as.reverse ++ r).map (xG B ev sa) = (as.map (xG B ev sa)).reverse ++ r.map (xG B ev sa) := by
        rw [List.map_append, List.map_reverse]
      rw [hst]
      have hrr : ((r.map (xG B ev sa)).map fun v => v.category).sum ≤ 8 := by rw [x_cats]; exact b1
      refine x_cal hB h3 (va_runSN (As := as.map (xG B ev sa)) (rest := r.map (xG B ev sa)) ⟨hx, hb, hml, hown, hts⟩ hM ⟨x_cbN hts hNw w1 w2.1 hR, hts _ w2.2, trivial⟩ ⟨x_blind, x_pcU hsz (Nat.le_trans hB h3.1) h2 hK hNw (hXs.kept h3.2.1)⟩ rfl (by rw [List.length_map]; exact hn) h4.1 rfl (lv_room hrr) hd ⟨by omega, by omega⟩) (fun H1 locs1 hP1 hS1 => ?_)
      have G := G H1 locs1 ls (by omega) hP1 hS1 h4
      rw [hp, List.map_append, x_tol] at G
      exact G
    · rename_i hz
      have hz : a2 = 7 := hz
      subst hz
      have hlk : xLs own ix (pc, .invokestatic ix, 3, a1, 7, a3) = true := hlk
      simp only [xLs, Bool.and_eq_true] at hlk
      obtain ⟨k1, k2, k3, k4⟩ := hlk
      replace h := xBI_ok h
      obtain ⟨x, y, r, rfl, h⟩ := h
      replace h := xgd_ok h
      obtain ⟨hg, h⟩ := h
      simp only [Bool.and_eq_true] at hg
      obtain ⟨g1, g2, g3⟩ := hg
      have g2 := Nat.le_of_ble_eq_true g2
      have g3 := Nat.le_of_ble_eq_true g3
      have hrr : ((r.map (xG B ev sa)).map fun v => v.category).sum ≤ 8 := by rw [x_cats]; exact Nat.le_of_ble_eq_true g1
      replace h := xPu_ok h
      obtain ⟨hp, h⟩ := h
      refine Or.inr ⟨_, _, _, _, _, _, h, hcs, fun G H locs ls h1 h2 h3 h4 => ?_⟩
      have G := G H locs ls h1 h2 h3 h4
      rw [hp] at G
      exact va_mmax hx hb (hml.trans h4.1.symm) hown (hts _ (xw_mem k1)) (hts _ (xw_mem k2)) (hts _ (xw_mem k3)) (hts _ (xw_mem k4)) (by omega) (by omega) (by omega) (by omega) hd G
    · rename_i hz
      have hz : a2 = 11 := hz
      subst hz
      have hlk : xLs own ix (pc, .invokestatic ix, 3, a1, 11, a3) = true := hlk
      simp only [xLs, Bool.and_eq_true] at hlk
      obtain ⟨k1, k2, k3, k4⟩ := hlk
      replace h := xBI_ok h
      obtain ⟨x, y, r, rfl, h⟩ := h
      replace h := xgd_ok h
      obtain ⟨hg, h⟩ := h
      simp only [Bool.and_eq_true] at hg
      obtain ⟨g1, g2, g3⟩ := hg
      have g2 := Nat.le_of_ble_eq_true g2
      have g3 := Nat.le_of_ble_eq_true g3
      have hrr : ((r.map (xG B ev sa)).map fun v => v.category).sum ≤ 8 := by rw [x_cats]; exact Nat.le_of_ble_eq_true g1
      replace h := xPu_ok h
      obtain ⟨hp, h⟩ := h
      refine Or.inr ⟨_, _, _, _, _, _, h, hcs, fun G H locs ls h1 h2 h3 h4 => ?_⟩
      have G := G H locs ls h1 h2 h3 h4
      rw [hp] at G
      exact va_mmin hx hb (hml.trans h4.1.symm) hown (hts _ (xw_mem k1)) (hts _ (xw_mem k2)) (hts _ (xw_mem k3)) (hts _ (xw_mem k4)) (by omega) (by omega) (by omega) (by omega) hd G
    · rename_i hz
      have hz : a2 = 9 := hz
      subst hz
      have hlk : xLs own ix (pc, .invokestatic ix, 3, a1, 9, a3) = true := hlk
      simp only [xLs, Bool.and_eq_true] at hlk
      obtain ⟨k1, k2, k3, k4⟩ := hlk
      replace h := xUI_ok h
      obtain ⟨n, r, rfl, h⟩ := h
      replace h := xUI_ok h
      obtain ⟨dp, r, rfl, h⟩ := h
      replace h := xRf_ok h
      obtain ⟨a, r, rfl, h⟩ := h
      replace h := xUI_ok h
      obtain ⟨sp, r, rfl, h⟩ := h
      replace h := xRf_ok h
      obtain ⟨a0, r, rfl, h⟩ := h
      replace h := xAy_ok h
      obtain ⟨t0, n0, es0, hw0, h⟩ := h
      replace h := xAy_ok h
      obtain ⟨t, n1, es, hw, h⟩ := h
      replace h := xgd_ok h
      obtain ⟨hg, h⟩ := h
      simp only [Bool.and_eq_true, decide_eq_true_eq] at hg
      obtain ⟨g1, g2, g3, g4, rfl, rfl, g7, g8, g9, g0⟩ := hg
      have g1 : t0 = 0 := xlen g1
      have g2 : t = 0 := xlen g2
      have g3 : es0 = [] := List.length_eq_zero_iff.mp (xlen g3)
      have g4 : es = [] := List.length_eq_zero_iff.mp (xlen g4)
      have g8 := Nat.le_of_ble_eq_true g8
      have g9 := Nat.le_of_ble_eq_true g9
      subst g1
      subst g2
      subst g3
      subst g4
      have hrr : ((r.map (xG B ev sa)).map fun v => v.category).sum ≤ 8 := by rw [x_cats]; exact Nat.le_of_ble_eq_true g0
      replace h := xNx_ok h
      obtain ⟨hp, h⟩ := h
      refine Or.inr ⟨_, _, _, _, _, _, h, hcs, fun G H locs ls h1 h2 h3 h4 => ?_⟩
      have hfw : nativeFrameWords "java/lang/System" "arraycopy" 5 = 7 := by decide +kernel
      have hn0 : ¬ n < 0 := by rw [Int32.lt_iff_toInt_lt, Int32.toInt_zero]; omega
      have hz0 : (0 : Int32).toNatClampNeg = 0 := by decide
      refine va_copyi hx hb (hml.trans h4.1.symm) hown (hts _ (xw_mem k1)) (hts _ (xw_mem k2)) (hts _ (xw_mem k3)) (hts _ (xw_mem k4)) hK h2 (xWd_D w) h3 a0 a 0 0 (xWd_get hw0) (xWd_get hw) rfl rfl rfl (by decide) (by decide) hn0 (by rw [hz0]; show 0 + _ ≤ n0; omega) (by rw [hz0]; show 0 + _ ≤ n1; omega) (fun _ _ => rfl) (by omega) (by rw [hfw]; omega) hd (fun H1 locs1 hP1 _ hS1 => ?_)
      have e1 : va_cpy (fun j => xi ev (xlk [] (.int 0) j)) (fun j => xi ev (xlk [] (.int 0) j)) (0 : Int32).toNatClampNeg (0 : Int32).toNatClampNeg n.toNatClampNeg = fun j => xi ev (xlk [] (.int 0) j) := by
        funext j
        show (if _ then _ else _) = _
        split <;> rfl
      have e2 : (B + a, (.inl (cA 0, n1, .inl (va_cpy (fun j => xi ev (xlk [] (.int 0) j)) (fun j => xi ev (xlk [] (.int 0) j)) (0 : Int32).toNatClampNeg (0 : Int32).toNatClampNeg n.toNatClampNeg)) : va_E)) = (B + a, xCe B ev sa cA (.inl (0, n1, []))) := by
        rw [e1]; rfl
      rw [e2, xWd_set, x_setq hw] at hP1
      have G := G H1 locs1 ls h1 hP1 hS1 h4
      rw [hp] at G
      exact G
    · rename_i hz
      have hz : a2 = 8 := hz
      subst hz
      have hlk : xLs own ix (pc, .invokestatic ix, 3, a1, 8, a3) = true := hlk
      simp only [xLs, Bool.and_eq_true] at hlk
      obtain ⟨k1, k2, k3, k4⟩ := hlk
      replace h := xUL_ok h
      obtain ⟨x, r, rfl, h⟩ := h
      replace h := xgd_ok h
      obtain ⟨hg, h⟩ := h
      simp only [Bool.and_eq_true] at hg
      obtain ⟨g1, g2, g3⟩ := hg
      have g2 := Nat.le_of_ble_eq_true g2
      have g3 := Nat.le_of_ble_eq_true g3
      have hrr : ((r.map (xG B ev sa)).map fun v => v.category).sum ≤ 8 := by rw [x_cats]; exact Nat.le_of_ble_eq_true g1
      replace h := xPu_ok h
      obtain ⟨hp, h⟩ := h
      refine Or.inr ⟨_, _, _, _, _, _, h, hcs, fun G H locs ls h1 h2 h3 h4 => ?_⟩
      have G := G H locs ls h1 h2 h3 h4
      rw [hp] at G
      exact va_mabs_long hx hb (hml.trans h4.1.symm) hown (hts _ (xw_mem k1)) (hts _ (xw_mem k2)) (hts _ (xw_mem k3)) (hts _ (xw_mem k4)) (by omega) (by omega) (by omega) (by omega) hd G
    · exact nomatch h
  | invokespecial ix =>
    dsimp only at h
    have hln : Nat.beq len 3 = true := hln
    obtain rfl := xlen hln
    split at h
    · rename_i hz
      have hz : a2 = 4 := hz
      subst hz
      have hlk : xIv own ix (pc, .invokespecial ix, 3, a1, 4, a3) 4 = true := hlk
      replace h := xOp_ok h
      obtain ⟨q, hq, h⟩ := h
      rw [xnth_eq] at hq
      replace h := xsp_ok h
      obtain ⟨as, r, rfl, hn, h⟩ := h
      rw [List.append_nil] at h
      replace h := xRf_ok h
      obtain ⟨a, r, rfl, h⟩ := h
      replace h := xOb_ok h
      obtain ⟨ci, fs, hw, h⟩ := h
      replace h := xgd_ok h
      obtain ⟨hc, h⟩ := h
      have hc : ci = xmk q := xlen hc
      replace h := xCl_ok h
      obtain ⟨⟨b1, b2, b3⟩, z, hz, hp, h⟩ := h
      obtain ⟨q', hq', w1, w2⟩ := xIv_ok hlk
      cases Option.some.inj (hq.symm.trans hq')
      obtain ⟨hM, hlen⟩ := hca _ _ _ _ _ hz hq
      refine Or.inr ⟨_, _, _, _, _, _, h, hcs, fun G H locs ls h1 h2 h3 h4 => ?_⟩
      refine x_sz (fun hz0 => ?_)
      have hsz : H.size = B + w.length := by have := x_low h2 (Nat.le_trans hB h3.1); omega
      have hst : (as.reverse ++ .ref a :: r).map (xG B ev sa) = (as.map (xG B ev sa)).reverse ++ .ref (B + a) :: r.map (xG B ev sa) := by
        rw [List.map_append, List.map_reverse]; rfl
      rw [hst]
      have hrr : ((r.map (xG B ev sa)).map fun v => v.category).sum ≤ 8 := by rw [x_cats]; exact b1
      refine x_cal hB h3 (va_runI (As := as.map (xG B ev sa)) (rest := r.map (xG B ev sa)) ⟨hx, hb, hml, hown, hts⟩ hM ⟨x_cbI hts w1 w2.1 hR w2.2.2.2.2, w2.2.2.2.1, hts _ w2.2.1⟩ ⟨x_blind, x_pcU hsz (Nat.le_trans hB h3.1) h2 hK hNw (hXs.kept h3.2.1)⟩ rfl (by rw [List.length_map]; exact hn) h4.1 rfl (lv_room hrr) hd ⟨by omega, by omega⟩) (fun H1 locs1 hP1 hS1 => ?_)
      have G := G H1 locs1 ls (by omega) hP1 hS1 h4
      rw [hp, List.map_append, x_tol] at G
      exact G
    · rename_i hz
      have hz : a2 = 5 := hz
      subst hz
      have hlk : xIv own ix (pc, .invokespecial ix, 3, a1, 5, a3) 5 = true := hlk
      replace h := xOp_ok h
      obtain ⟨q, hq, h⟩ := h
      rw [xnth_eq] at hq
      replace h := xsp_ok h
      obtain ⟨as, r, rfl, hn, h⟩ := h
      rw [List.append_nil] at h
      replace h := xRf_ok h
      obtain ⟨a, r, rfl, h⟩ := h
      replace h := xOb_ok h
      obtain ⟨ci, fs, hw, h⟩ := h
      replace h := xgd_ok h
      obtain ⟨hc, h⟩ := h
      have hc : ci = xmk q := xlen hc
      replace h := xCl_ok h
      obtain ⟨⟨b1, b2, b3⟩, z, hz, hp, h⟩ := h
      obtain ⟨q', hq', w1, w2⟩ := xIv_ok hlk
      cases Option.some.inj (hq.symm.trans hq')
      obtain ⟨hM, hlen⟩ := hca _ _ _ _ _ hz hq
      refine Or.inr ⟨_, _, _, _, _, _, h, hcs, fun G H locs ls h1 h2 h3 h4 => ?_⟩
      refine x_sz (fun hz0 => ?_)
      have hsz : H.size = B + w.length := by have := x_low h2 (Nat.le_trans hB h3.1); omega
      have hst : (as.reverse ++ .ref a :: r).map (xG B ev sa) = (as.map (xG B ev sa)).reverse ++ .ref (B + a) :: r.map (xG B ev sa) := by
        rw [List.map_append, List.map_reverse]; rfl
      rw [hst]
      have hrr : ((r.map (xG B ev sa)).map fun v => v.category).sum ≤ 8 := by rw [x_cats]; exact b1
      refine x_cal hB h3 (va_runIN (As := as.map (xG B ev sa)) (rest := r.map (xG B ev sa)) ⟨hx, hb, hml, hown, hts⟩ hM ⟨x_cbNI hts hNw w1 w2.1 hR w2.2.2.2.2, w2.2.2.2.1, hts _ w2.2.1⟩ ⟨x_blind, x_pcU hsz (Nat.le_trans hB h3.1) h2 hK hNw (hXs.kept h3.2.1)⟩ rfl (by rw [List.length_map]; exact hn) h4.1 rfl (lv_room hrr) hd ⟨by omega, by omega⟩) (fun H1 locs1 hP1 hS1 => ?_)
      have G := G H1 locs1 ls (by omega) hP1 hS1 h4
      rw [hp, List.map_append, x_tol] at G
      exact G
    · rename_i hz
      have hz : a2 = 6 := hz
      subst hz
      have hlk : xLp own ix (pc, .invokespecial ix, 3, a1, 6, a3) = true := hlk
      simp only [xLp, Bool.and_eq_true] at hlk
      obtain ⟨k1, k2, k3⟩ := hlk
      replace h := xRf_ok h
      obtain ⟨a, r, rfl, h⟩ := h
      replace h := xgd_ok h
      obtain ⟨hg, h⟩ := h
      have hrr : ((r.map (xG B ev sa)).map fun v => v.category).sum ≤ 8 := by rw [x_cats]; exact Nat.le_of_ble_eq_true hg
      replace h := xNx_ok h
      obtain ⟨hp, h⟩ := h
      refine Or.inr ⟨_, _, _, _, _, _, h, hcs, fun G H locs ls h1 h2 h3 h4 => ?_⟩
      have G := G H locs ls h1 h2 h3 h4
      rw [hp] at G
      exact W.objInit hx hb hown (hts _ (xw_mem k1)) (hts _ (xw_mem k2)) (hts _ (xw_mem k3)) rfl (h4.1.trans hml.symm) rfl hd (by omega) (by show 2 * 0 + _ + 12 ≤ _; omega) G
    · exact nomatch h
  | ireturn =>
    dsimp only at h
    cases h
    exact Or.inl rfl
  | lreturn =>
    dsimp only at h
    cases h
    exact Or.inl rfl
  | areturn =>
    dsimp only at h
    cases h
    exact Or.inl rfl
  | return_ =>
    dsimp only at h
    cases h
    exact Or.inl rfl
  | _ => exact nomatch h
end XS
end
section
/-! runs of the executor, calls of methods -/
noncomputable def xrt (r : Option FieldType) (v : Value) : Bool := match r with
  | some .int => xkd 0 v
  | some .boolean => (match v with
    | .int x => decide (x = 0) || decide (x = 1)
    | _ => false)
  | _ => false
noncomputable def xRet (q : xM) (i : ClassFile.Instr) (st : List Value) (w : xW) : Option (Option Value × xW) := match i with
  | .ireturn => (match st with
    | v :: r => (match r with
      | [] => cond (xrt (xmr q) v) (some (some v, w)) none
      | _ => none)
    | [] => none)
  | .lreturn => (match st with
    | v :: r => (match r with
      | [] => cond (xkd 1 v && decide (xmr q = some .long)) (some (some v, w)) none
      | _ => none)
    | [] => none)
  | .areturn => (match st with
    | v :: r => (match r with
      | [] => (match xmr q with
        | some (.object _) => cond (xkd 2 v) (some (some v, w)) none
        | _ => none)
      | _ => none)
    | [] => none)
  | .return_ => (match st with
    | [] => cond (decide (xmr q = none)) (some (none, w)) none
    | _ => none)
  | _ => none
noncomputable def xEnd (q : xM) (w0 : xW) (X : xX) : Option (Option Value × xW) := match X with
  | (en :: _, _, st, w, mc, ms) => cond (Nat.beq w.length (w0.length + xmc q) && (Nat.ble mc (xmc q) && Nat.ble ms (xms q))) (xRet q en.2.1 st w) none
  | _ => none
noncomputable def xFn (ivs : List (Int × Int)) (call : Nat → List Value → xW → Option (Option Value × xW)) (j : Nat) (as : List Value) (w : xW) : Option (Option Value × xW) := match xnth xMs j with
  | some q => (match xnth xTs j with
    | some tab => cond (Nat.beq (xpc tab) 0 && Nat.ble ((as.map fun v => v.category).sum) (xml q)) (match xGo none ivs (xml q) (xmc q) (xms q) call tab 2000 (tab, lv_args 0 as, [], w, 0, 0) with
      | some X => xEnd q w X
      | none => none) none
    | none => none)
  | none => none
noncomputable def xCall (ivs : List (Int × Int)) (d : Nat) : Nat → List Value → xW → Option (Option Value × xW) := Nat.rec (motive := fun _ => Nat → List Value → xW → Option (Option Value × xW)) (fun _ _ _ => none) (fun _ ih => xFn ivs ih) d
/-- the tables are as the executor takes them -/
def xTok : Prop := ∀ (j : Nat) (q : xM) (tab : List xE), xMs[j]? = some q → xTs[j]? = some tab → (∀ en ∈ tab, xOK (xmy q).cls (xini q) (xmb q) en) ∧ plainName (xmy q).cls = true
section XS
variable {p : Program} {l : Launch} {e : Env} {R : Room} {s : State} {m : MethodId} {args : Array Value} {below : List Frame} {meth : Method} {c : Code} {Q : State → Prop} {cc : ByteArray} {own : String} {B : Nat} {ev : Nat → Int32} {sa : Nat → Nat} {cA : Nat → ClassId} {D : va_G} {ini : Bool} {nL d : Nat} {ivs : List (Int × Int)} {LL : Option Nat}
theorem xGo_ok {tab : List xE} {call : Nat → List Value → xW → Option (Option Value × xW)} (C0 : xCx p R s m args meth c own cc nL ini B ev cA D ivs d sa LL) (hca : xCa l B ev sa cA D d call) {MC MS : Nat} (hMC : MC ≤ R.cells) (hMS : MS ≤ R.slots) (htab : ∀ q ∈ tab, xOK own ini cc q) (n : Nat) : ∀ {cs : List xE} {lv : List (Nat × Value)} {st : List Value} {w : xW} {mc ms : Nat} {cs1 : List xE} {lv1 : List (Nat × Value)} {st1 : List Value} {w1 : xW} {mc1 ms1 : Nat}, (∀ q ∈ cs, xOK own ini cc q) → xGo LL ivs nL MC MS call tab n (cs, lv, st, w, mc, ms) = some (cs1, lv1, st1, w1, mc1, ms1) → (∀ q ∈ cs1, xOK own ini cc q) ∧ (xGd p l e R s m args below meth c Q nL B ev sa cA D cs1 lv1 st1 w1 mc1 ms1 → xGd p l e R s m args below meth c Q nL B ev sa cA D cs lv st w mc ms) := by
  induction n with
  | zero =>
    intro cs lv st w mc ms cs1 lv1 st1 w1 mc1 ms1 hcs h
    have h : some (cs, lv, st, w, mc, ms) = some (cs1, lv1, st1, w1, mc1, ms1) := h
    cases h
    exact ⟨hcs, id⟩
  | succ n ih =>
    intro cs lv st w mc ms cs1 lv1 st1 w1 mc1 ms1 hcs h
    have h : xS LL ivs nL MC MS call tab (cs, lv, st, w, mc, ms) (xGo LL ivs nL MC MS call tab n) = some (cs1, lv1, st1, w1, mc1, ms1) := h
    cases cs with
    | nil => exact nomatch h
    | cons en cs =>
      rcases xS_ok (Q := Q) (below := below) (l := l) (e := e) C0 hca hMC hMS htab (hcs en List.mem_cons_self) (fun q hq => hcs q (List.mem_cons_of_mem _ hq)) h with h1 | ⟨cs2, lv2, st2, w2, mc2, ms2, h1, h2, h3⟩
      · cases h1
        exact ⟨hcs, id⟩
      · obtain ⟨g1, g2⟩ := ih h2 h1
        exact ⟨g1, fun G => h3 (g2 G)⟩
theorem x_args (as : List Value) : ∀ i : Nat, lv_args i (as.map (xG B ev sa)) = (lv_args i as).map (xG2 B ev sa) := by
  induction as with
  | nil => intro i; rfl
  | cons v r ih =>
    intro i
    show (i, xG B ev sa v) :: lv_args (if (xG B ev sa v).category = 2 then i + 2 else i + 1) (r.map (xG B ev sa)) = (i, xG B ev sa v) :: (lv_args (if v.category = 2 then i + 2 else i + 1) r).map (xG2 B ev sa)
    rw [ih, xG_cat]
theorem x_sll (as : List Value) : (lg_sl (as.map (xG B ev sa))).length = (as.map fun v => v.category).sum := by
  induction as with
  | nil => rfl
  | cons v r ih =>
    have e1 : lg_sl ((v :: r).map (xG B ev sa)) = (if (xG B ev sa v).category = 2 then [.val (xG B ev sa v), .second] else [.val (xG B ev sa v)]) ++ lg_sl (r.map (xG B ev sa)) := by
      unfold lg_sl; rw [List.map_cons, List.flatMap_cons]
    rw [e1, List.length_append, ih, List.map_cons, List.sum_cons, xG_cat]
    rcases lv_cat v with hc | hc
    · rw [hc, if_neg (by decide)]; rfl
    · rw [hc, if_pos rfl]; rfl
theorem xRet_w {q : xM} {i : ClassFile.Instr} {st : List Value} {w : xW} {z : Option Value × xW} (h : xRet q i st w = some z) : z.2 = w := by
  unfold xRet at h
  split at h
  · split at h
    · split at h
      · cases hc : xrt (xmr q) ‹Value› with
        | false => simp only [hc, cond_false] at h; cases h
        | true => simp only [hc, cond_true] at h; cases h; rfl
      · cases h
    · cases h
  · split at h
    · split at h
      · rename_i v _
        cases hc : (xkd 1 v && decide (xmr q = some .long)) with
        | false => rw [hc] at h; cases h
        | true => rw [hc] at h; cases h; rfl
      · cases h
    · cases h
  · split at h
    · split at h
      · split at h
        · rename_i v _ _ _ _
          cases hc : xkd 2 v with
          | false => rw [hc] at h; cases h
          | true => rw [hc] at h; cases h; rfl
        · cases h
      · cases h
    · cases h
  · split at h
    · cases hc : decide (xmr q = none) with
      | false => rw [hc] at h; cases h
      | true => rw [hc] at h; cases h; rfl
    · cases h
  · cases h
theorem x_post {r v : Option Value} {w : xW} {H : Heap} {locs : List Loc} (h2 : va_P D xcl (xWd B ev sa cA w) H) (h3 : va_S (fun q => B ≤ q) s.heap H locs) (hv : v = r.map (xG B ev sa)) : ∀ t : State, t.heap = H → s.WarmedH t.vm → xPost B ev sa cA D r w args s (.returned v) t := fun t ht _ => ⟨by rw [hv], by rw [ht]; exact h2, h3.F ht⟩
theorem xRet_ok {q : xM} {en : xE} {cs : List xE} {lv : List (Nat × Value)} {st : List Value} {w : xW} {mc ms : Nat} {z : Option Value × xW} (C0 : xCx p R s m args meth c own cc nL ini B ev cA D ivs d sa LL) (hr : meth.sig.returnType = xmr q) (hlk : meth.locks = false) (hok : xOK own ini cc en) (hmc : mc ≤ xmc q) (hms : ms ≤ xms q) (h : xRet q en.2.1 st w = some z) : z.2 = w ∧ xGd p l e R s m args below meth c (MQ below (xPost B ev sa cA D z.1 w) args s (xmc q) (xms q) (fun z => B ≤ z)) nL B ev sa cA D (en :: cs) lv st w mc ms := by
  refine ⟨xRet_w h, ?_⟩
  obtain ⟨hx, hb, hml, hown, hts, hK, hB, hini, hev, hR, hLL, hNw, hXs⟩ := C0
  obtain ⟨pc, ins, len, a1, a2, a3⟩ := en
  obtain ⟨hd, hln, -⟩ := hok
  dsimp only at hd hln h
  intro H locs ls h1 h2 h3 h4
  refine W.widen hmc hms ?_
  unfold xRet at h
  split at h
  · have hln : len = 1 := xlen hln
    subst hln
    split at h
    · split at h
      · rename_i v _
        cases hc : xrt (xmr q) v with
        | false => rw [hc] at h; cases h
        | true =>
          rw [hc] at h
          cases h
          unfold xrt at hc
          split at hc
          · rename_i hmr
            have hg := xkd0 (B := B) (ev := ev) (sa := sa) hc
            rw [List.map_cons, hg]
            exact W.zret (v := xi ev v) (ty := .int) hx hb (hr.trans hmr) rfl (x_post h2 h3 (by rw [Option.map_some, hg])) h3.2.2 hd hlk
          · rename_i hmr
            split at hc
            · rename_i x
              rw [Bool.or_eq_true, decide_eq_true_eq, decide_eq_true_eq] at hc
              have hn : narrow .boolean (.int x) = .int x := by rcases hc with hc | hc <;> subst hc <;> rfl
              exact W.zret (v := x) (ty := .boolean) hx hb (hr.trans hmr) hn (x_post h2 h3 rfl) h3.2.2 hd hlk
            · cases hc
          · cases hc
      · cases h
    · cases h
  · have hln : len = 1 := xlen hln
    subst hln
    split at h
    · split at h
      · rename_i v _
        cases hc : (xkd 1 v && decide (xmr q = some .long)) with
        | false => rw [hc] at h; cases h
        | true =>
          rw [hc] at h
          cases h
          rw [Bool.and_eq_true, decide_eq_true_eq] at hc
          have hg := xkd1 (B := B) (ev := ev) (sa := sa) hc.1
          rw [List.map_cons, hg]
          exact W.lret (v := xl v) hx hb (hr.trans hc.2) (x_post h2 h3 (by rw [Option.map_some, hg])) h3.2.2 hd hlk
      · cases h
    · cases h
  · have hln : len = 1 := xlen hln
    subst hln
    split at h
    · split at h
      · split at h
        · rename_i v _ _ nm hmr
          cases hc : xkd 2 v with
          | false => rw [hc] at h; cases h
          | true =>
            rw [hc] at h
            cases h
            obtain ⟨a, hg⟩ := xkd2 (B := B) (ev := ev) (sa := sa) hc
            rw [List.map_cons, hg]
            exact W.aret (v := .ref a) (rt := .object nm) hx hb (hr.trans hmr) (Or.inl ⟨nm, rfl⟩) (Or.inr ⟨a, rfl⟩) (x_post h2 h3 (by rw [Option.map_some, hg])) h3.2.2 hd hlk
        · cases h
      · cases h
    · cases h
  · have hln : len = 1 := xlen hln
    subst hln
    split at h
    · cases hc : decide (xmr q = none) with
      | false => rw [hc] at h; cases h
      | true =>
        rw [hc] at h
        cases h
        exact W.vret hx hb (hr.trans (of_decide_eq_true hc)) (x_post h2 h3 rfl) h3.2.2 hd hlk
    · cases h
  · cases h
theorem xCall_ok (hev : xEv ivs ev) (hT : xTok) : ∀ d : Nat, xCa l B ev sa cA D d (xCall ivs d) := by
  intro d
  induction d with
  | zero => intro j as w z q h _; exact nomatch h
  | succ d ih =>
    intro j as w z q h hq
    have h : xFn ivs (xCall ivs d) j as w = some z := h
    unfold xFn at h
    rw [xnth_eq, xnth_eq, hq] at h
    dsimp only at h
    cases ht : xTs[j]? with
    | none => rw [ht] at h; cases h
    | some tab =>
      rw [ht] at h
      dsimp only at h
      cases hc : (Nat.beq (xpc tab) 0 && Nat.ble ((as.map fun v => v.category).sum) (xml q)) with
      | false => rw [hc] at h; cases h
      | true =>
        rw [hc] at h
        rw [Bool.and_eq_true] at hc
        have hp0 := xlen hc.1
        have hle := Nat.le_of_ble_eq_true hc.2
        obtain ⟨hok, hpl⟩ := hT j q tab hq ht
        cases hg : xGo none ivs (xml q) (xmc q) (xms q) (xCall ivs d) tab 2000 (tab, lv_args 0 as, [], w, 0, 0) with
        | none => rw [hg] at h; cases h
        | some X =>
          rw [hg] at h
          have h : xEnd q w X = some z := h
          obtain ⟨cs, lv, st, w1, mc, ms⟩ := X
          cases cs with
          | nil => exact nomatch h
          | cons en cs =>
            have h : cond (Nat.beq w1.length (w.length + xmc q) && (Nat.ble mc (xmc q) && Nat.ble ms (xms q))) (xRet q en.2.1 st w1) none = some z := h
            cases hz : (Nat.beq w1.length (w.length + xmc q) && (Nat.ble mc (xmc q) && Nat.ble ms (xms q))) with
            | false => rw [hz] at h; cases h
            | true =>
              rw [hz] at h
              simp only [Bool.and_eq_true] at hz
              have hzl := xlen hz.1
              have hzc := Nat.le_of_ble_eq_true hz.2.1
              have hzs := Nat.le_of_ble_eq_true hz.2.2
              have h : xRet q en.2.1 st w1 = some z := h
              refine ⟨?_, ?_⟩
              · refine Met.ofW (cc := xmb q) (maxL := xml q) (ret := xmr q) hpl rfl ?_
                intro p e s m args below meth c s₁ Bd hml hv
                obtain ⟨rfl, hB, hsz, hP, hK, hNw, hXs⟩ := hv
                have hts0 := atoms_spec (ws := Cond.code (xmy q) (xmb q) (xml q) (xmr q) :: xT) Bd.pre
                have C0 : xCx p { frames := d + 1 + 1, cells := xmc q, slots := xms q, locals := 40 * (d + 1 + 1) } s m (as.map (xG B ev sa)).toArray meth c (xmy q).cls (xmb q) (xml q) (xini q) B ev cA D ivs d sa none := ⟨Bd.exec, Bd.bytes, hml, findClass_of_methodNamed Bd.named, fun w hw => hts0 w (List.mem_cons_of_mem _ hw), hK, hB, fun hi => (name_of_methodNamed Bd.named Bd.method).1.trans (of_decide_eq_true hi), hev, ⟨Nat.le_refl _, Nat.le_refl _⟩, (fun L hL => nomatch hL), hNw, hXs⟩
                obtain ⟨g1, g2⟩ := xGo_ok (Q := MQ below (xPost B ev sa cA D z.1 w1) (as.map (xG B ev sa)).toArray s (xmc q) (xms q) (fun z => B ≤ z)) (below := below) (l := l) (e := e) C0 ih (Nat.le_refl _) (Nat.le_refl _) hok 2000 hok hg
                obtain ⟨g3, g4⟩ := xRet_ok (cs := cs) (lv := lv) (below := below) (l := l) (e := e) C0 Bd.returns Bd.notSynchronized (g1 en List.mem_cons_self) hzc hzs h
                have hl := lv_entry (as.map (xG B ev sa)) (n := xml q) (by rw [x_sll]; exact hle)
                rw [lg_entry_eq]
                generalize (lg_sl (as.map (xG B ev sa)) ++ List.replicate (xml q - (lg_sl (as.map (xG B ev sa))).length) Slot.unset).toArray = ls at hl ⊢
                rw [x_args] at hl
                have G := g2 g4 s.heap [] ls (by omega) hP va_S.rf hl
                rw [hp0] at G
                rw [g3]
                exact G
              · rw [xRet_w h]
                exact hzl
end XS
end
section
/-! the law's runs on a fresh object, region by region of what the script holds -/
def xFin (X : Option xX) : Bool := match X with
  | some (en :: _, _, st, _, mc, ms) => (match en.2.1, st with
    | .ireturn, [.int x] => decide (x = 1) && (Nat.ble mc 600000 && Nat.ble ms 7302250)
    | _, _ => false)
  | _ => false
def xAny : Int × Int := (-2147483648, 2147483647)
def xX0 : xX := (xT_law, [(0, .retAddr 5)], [], [], 0, 0)
noncomputable def xLaw (L : Nat) (ivs : List (Int × Int)) (X : xX) : Option xX := xGo (some L) ivs 4 600000 7302250 (xCall ivs 20) xT_law 4000 X
def xW1 : xW := [.inr (0, [.ref 1, .ref 5, .int (Int32.ofNat 0), .ref 9, .ref 16, .ref 34, .ref 43, .ref 48, .ref 50, .ref 53, .ref 60, .ref 62, .int (Int32.ofNat 0)]),
  .inr (1, [.int (Int32.ofNat 0), .ref 2, .ref 3, .int (Int32.ofNat 60), .int (Int32.ofNat 0), .int (Int32.ofNat 12), .int (Int32.ofNat 10), .ref 4]),
  .inl (0, 6, []),
  .inl (0, 6, []),
  .inl (0, 61, []),
  .inr (1, [.int (Int32.ofNat 0), .ref 6, .ref 7, .int (Int32.ofNat 60), .int (Int32.ofNat 0), .int (Int32.ofNat 12), .int (Int32.ofNat 10), .ref 8]),
  .inl (0, 6, []),
  .inl (0, 6, []),
  .inl (0, 61, []),
  .inr (2, [.int (Int32.ofNat 0), .ref 10, .ref 11, .ref 12, .ref 13, .ref 14, .ref 15, .long (Int64.ofNat 0), .int (Int32.ofNat 0)]),
  .inl (0, 6, []),
  .inl (0, 6, []),
  .inl (0, 6, []),
  .inl (1, 6, []),
  .inl (1, 7, []),
  .inl (0, 7, []),
  .inr (3, [.int (Int32.ofNat 0), .ref 17, .ref 18, .ref 19, .ref 20, .ref 21, .ref 22, .ref 29, .ref 30, .ref 31, .long (Int64.ofNat 1), .int (Int32.ofNat 0), .ref 32, .ref 33]),
  .inl (0, 6, []),
  .inl (0, 6, []),
  .inl (0, 6, []),
  .inl (0, 6, []),
  .inl (0, 6, []),
  .inl (4, 6, [(0, .ref 23), (1, .ref 24), (2, .ref 25), (3, .ref 26), (4, .ref 27), (5, .ref 28)]),
  .inl (1, 6, []),
  .inl (1, 6, []),
  .inl (1, 6, []),
  .inl (1, 6, []),
  .inl (1, 6, []),
  .inl (1, 6, []),
  .inl (1, 6, []),
  .inl (1, 6, []),
  .inl (1, 6, []),
  .inl (0, 64, []),
  .inl (0, 64, []),
  .inr (4, [.ref 35, .ref 38, .ref 41, .ref 42, .int (Int32.ofNat 0)]),
  .inr (5, [.int (Int32.ofNat 0), .int (Int32.ofNat 0), .ref 36, .ref 37]),
  .inl (0, 246, []),
  .inl (0, 246, []),
  .inr (5, [.int (Int32.ofNat 0), .int (Int32.ofNat 0), .ref 39, .ref 40]),
  .inl (0, 246, []),
  .inl (0, 246, []),
  .inl (0, 6, []),
  .inl (0, 246, []),
  .inr (6, [.ref 44, .ref 45, .ref 46, .ref 47, .int (Int32.ofNat 0), .int (Int32.ofNat 0)]),
  .inl (0, 6, []),
  .inl (0, 64, []),
  .inl (0, 6, []),
  .inl (0, 6, []),
  .inr (7, [.ref 49, .int (Int32.ofNat 0), .int (Int32.ofNat 0), .int (Int32.ofNat 4294967295)]),
  .inl (0, 90, []),
  .inr (8, [.int (Int32.ofNat 0), .ref 51, .ref 52]),
  .inl (0, 6, []),
  .inl (0, 6, []),
  .inr (9, [.ref 54, .ref 55, .ref 56, .ref 57, .int (Int32.ofNat 0), .ref 58, .ref 59]),
  .inl (0, 90, []),
  .inl (0, 90, []),
  .inl (0, 90, []),
  .inl (0, 90, []),
  .inl (0, 11, []),
  .inl (3, 91, []),
  .inr (10, [.ref 61, .int (Int32.ofNat 0)]),
  .inl (0, 128, []),
  .inl (0, 2, [(1, .int (Int32.ofNat 4294967295)), (0, .int (Int32.ofNat 4294967295))]),
  .inr (11, [.ref 64, .ref 65, .int (Int32.ofNat 0), .int (Int32.ofNat 0), .ref 66, .ref 67, .ref 68, .long (Int64.ofNat 0), .int (Int32.ofNat 0), .ref 69, .ref 70, .ref 71, .ref 72, .ref 73, .ref 74, .ref 75, .long (Int64.ofNat 0), .int (Int32.ofNat 0), .ref 76, .ref 77, .int (Int32.ofNat 0), .ref 78, .ref 79, .ref 80, .ref 81, .int (Int32.ofNat 0), .ref 82, .int (Int32.ofNat 0), .ref 83, .ref 84, .ref 85, .int (Int32.ofNat 0), .int (Int32.ofNat 0), .int (Int32.ofNat 0), .int (Int32.ofNat 0), .int (Int32.ofNat 0), .ref 86, .ref 87, .int (Int32.ofNat 0), .int (Int32.ofNat 0), .int (Int32.ofNat 0), .ref 88, .int (Int32.ofNat 0)]),
  .inl (0, 78, [(3, .int (Int32.ofNat 10)), (2, .int (Int32.ofNat 12)), (0, .int (Int32.ofNat 60))]),
  .inl (0, 78, []),
  .inl (0, 6, []),
  .inl (0, 6, []),
  .inl (0, 6, []),
  .inl (0, 6, []),
  .inl (0, 36, []),
  .inl (0, 36, []),
  .inl (1, 36, []),
  .inl (1, 6, []),
  .inl (1, 6, []),
  .inl (1, 6, []),
  .inl (0, 300, []),
  .inl (0, 1800, []),
  .inl (0, 260, []),
  .inl (0, 1560, []),
  .inl (0, 2, []),
  .inl (0, 6, []),
  .inl (0, 1560, []),
  .inl (0, 6, []),
  .inl (0, 6, []),
  .inl (2, 90, []),
  .inl (0, 6, []),
  .inl (0, 6, []),
  .inl (0, 6000, [])]
def xX1 : xX := (xT_law.drop 10, [(3, .int (Int32.ofNat 0)), (2, .ref 63), (1, .ref 0), (0, .retAddr 5)], [], xW1, 89, 14452)
noncomputable def xRun (c : Int) (a b : Int × Int) : Bool := xFin (xLaw 4 [xAny, a, b, xAny, (c, c)] xX1)
/-- intervals side by side, from one end to the other -/
def xCon : Int → List (Int × Int) → Bool
  | n, [] => decide (n = 2147483648)
  | n, q :: r => decide (q.1 = n) && (decide (q.1 ≤ q.2) && xCon (q.2 + 1) r)
noncomputable def xOk (c : Int) (l : List ((Int × Int) × List (Int × Int))) : Bool := xCon (-2147483648) (l.map fun q => q.1) && l.all fun q => xCon (-2147483648) q.2 && q.2.all (xRun c q.1)
def xXe (X Y : xX) : Bool := decide (X.1 = Y.1) && (decide (X.2.1 = Y.2.1) && (decide (X.2.2.1 = Y.2.2.1) && (decide (X.2.2.2.1 = Y.2.2.2.1) && decide (X.2.2.2.2 = Y.2.2.2.2))))
def xOe (o : Option xX) (Y : xX) : Bool := match o with
  | some X => xXe X Y
  | none => false
theorem xOe_ok {o : Option xX} {Y : xX} (h : xOe o Y = true) : o = some Y := by
  cases o with
  | none => cases h
  | some X =>
    have h : xXe X Y = true := h
    unfold xXe at h
    simp only [Bool.and_eq_true, decide_eq_true_eq] at h
    obtain ⟨a, b, c, d, e⟩ := X
    obtain ⟨a2, b2, c2, d2, e2⟩ := Y
    simp only at h
    obtain ⟨h1, h2, h3, h4, h5⟩ := h
    rw [h1, h2, h3, h4, h5]
set_option maxRecDepth 100000 in
theorem xr_pre1 : xOe (xGo (some 4) [] 4 600000 7302250 (xCall [] 20) xT_law 10 xX0) xX1 = true := by decide +kernel
theorem xr_pre : xGo (some 4) [] 4 600000 7302250 (xCall [] 20) xT_law 10 xX0 = some xX1 := xOe_ok xr_pre1
end
section
/-! the runs -/
set_option maxRecDepth 100000 in
theorem xr_L0 : xFin (xLaw 0 [] xX0) = true := by decide +kernel
set_option maxRecDepth 100000 in
theorem xr_L1 : xFin (xLaw 1 [] xX0) = true := by decide +kernel
set_option maxRecDepth 100000 in
theorem xr_L2 : xFin (xLaw 2 [] xX0) = true := by decide +kernel
set_option maxRecDepth 100000 in
theorem xr_L3 : xFin (xLaw 3 [] xX0) = true := by decide +kernel
set_option maxRecDepth 100000 in
theorem xr_def : xFin (xLaw 4 [xAny, xAny, xAny, xAny, (38, 63)] xX1) = true := by decide +kernel
def xo_0 : List ((Int × Int) × List (Int × Int)) := [((-2147483648, 4), [(-2147483648, 2147483647)]), ((5, 60), [(-2147483648, -1), (0, 40), (41, 2147483647)]), ((61, 2147483647), [(-2147483648, 2147483647)])]
set_option maxRecDepth 100000 in
theorem xr_0 : xOk 0 xo_0 = true := by decide +kernel
def xo_1 : List ((Int × Int) × List (Int × Int)) := [((-2147483648, -1), [(-2147483648, 2147483647)]), ((0, 2147483647), [(-2147483648, 2147483647)])]
set_option maxRecDepth 100000 in
theorem xr_1 : xOk 1 xo_1 = true := by decide +kernel
def xo_2 : List ((Int × Int) × List (Int × Int)) := [((-2147483648, -1), [(-2147483648, 2147483647)]), ((0, 2147483647), [(-2147483648, 2147483647)])]
set_option maxRecDepth 100000 in
theorem xr_2 : xOk 2 xo_2 = true := by decide +kernel
def xo_3 : List ((Int × Int) × List (Int × Int)) := [((-2147483648, 2147483647), [(-2147483648, 2147483647)])]
set_option maxRecDepth 100000 in
theorem xr_3 : xOk 3 xo_3 = true := by decide +kernel
def xo_4 : List ((Int × Int) × List (Int × Int)) := [((-2147483648, -1), [(-2147483648, 2147483647)]), ((0, 0), [(-2147483648, 19), (20, 60), (61, 2147483647)]), ((1, 1), [(-2147483648, -1), (0, 2), (3, 2147483647)]), ((2, 2), [(-2147483648, 0), (1, 12), (13, 2147483647)]), ((3, 3), [(-2147483648, 0), (1, 60), (61, 2147483647)]), ((4, 2147483647), [(-2147483648, 2147483647)])]
set_option maxRecDepth 100000 in
theorem xr_4 : xOk 4 xo_4 = true := by decide +kernel
def xo_5 : List ((Int × Int) × List (Int × Int)) := [((-2147483648, -1), [(-2147483648, 2147483647)]), ((0, 0), [(-2147483648, 2147483647)]), ((1, 1), [(-2147483648, 2147483647)]), ((2, 2147483647), [(-2147483648, 2147483647)])]
set_option maxRecDepth 100000 in
theorem xr_5 : xOk 5 xo_5 = true := by decide +kernel
def xo_6 : List ((Int × Int) × List (Int × Int)) := [((-2147483648, 2147483647), [(-2147483648, 2147483647)])]
set_option maxRecDepth 100000 in
theorem xr_6 : xOk 6 xo_6 = true := by decide +kernel
def xo_7 : List ((Int × Int) × List (Int × Int)) := [((-2147483648, -1), [(-2147483648, 2147483647)]), ((0, 2147483647), [(-2147483648, 2147483647)])]
set_option maxRecDepth 100000 in
theorem xr_7 : xOk 7 xo_7 = true := by decide +kernel
def xo_8 : List ((Int × Int) × List (Int × Int)) := [((-2147483648, -1), [(-2147483648, 2147483647)]), ((0, 2147483647), [(-2147483648, 2147483647)])]
set_option maxRecDepth 100000 in
theorem xr_8 : xOk 8 xo_8 = true := by decide +kernel
def xo_9 : List ((Int × Int) × List (Int × Int)) := [((-2147483648, -1), [(-2147483648, 2147483647)]), ((0, 2147483647), [(-2147483648, 2147483647)])]
set_option maxRecDepth 100000 in
theorem xr_9 : xOk 9 xo_9 = true := by decide +kernel
def xo_10 : List ((Int × Int) × List (Int × Int)) := [((-2147483648, -1), [(-2147483648, 2147483647)]), ((0, 2147483647), [(-2147483648, 2147483647)])]
set_option maxRecDepth 100000 in
theorem xr_10 : xOk 10 xo_10 = true := by decide +kernel
def xo_11 : List ((Int × Int) × List (Int × Int)) := [((-2147483648, -1), [(-2147483648, 2147483647)]), ((0, 0), [(-2147483648, 2147483647)]), ((1, 1), [(-2147483648, 2147483647)]), ((2, 2147483647), [(-2147483648, 2147483647)])]
set_option maxRecDepth 100000 in
theorem xr_11 : xOk 11 xo_11 = true := by decide +kernel
def xo_12 : List ((Int × Int) × List (Int × Int)) := [((-2147483648, 2147483647), [(-2147483648, 2147483647)])]
set_option maxRecDepth 100000 in
theorem xr_12 : xOk 12 xo_12 = true := by decide +kernel
def xo_13 : List ((Int × Int) × List (Int × Int)) := [((-2147483648, 2147483647), [(-2147483648, 2147483647)])]
set_option maxRecDepth 100000 in
theorem xr_13 : xOk 13 xo_13 = true := by decide +kernel
def xo_14 : List ((Int × Int) × List (Int × Int)) := [((-2147483648, -1), [(-2147483648, 2147483647)]), ((0, 2147483647), [(-2147483648, 2147483647)])]
set_option maxRecDepth 100000 in
theorem xr_14 : xOk 14 xo_14 = true := by decide +kernel
def xo_15 : List ((Int × Int) × List (Int × Int)) := [((-2147483648, -1), [(-2147483648, 2147483647)]), ((0, 2147483647), [(-2147483648, 2147483647)])]
set_option maxRecDepth 100000 in
theorem xr_15 : xOk 15 xo_15 = true := by decide +kernel
def xo_16 : List ((Int × Int) × List (Int × Int)) := [((-2147483648, -1), [(-2147483648, 2147483647)]), ((0, 0), [(-2147483648, 2147483647)]), ((1, 1), [(-2147483648, 2147483647)]), ((2, 2), [(-2147483648, 2147483647)]), ((3, 2147483647), [(-2147483648, 2147483647)])]
set_option maxRecDepth 100000 in
theorem xr_16 : xOk 16 xo_16 = true := by decide +kernel
def xo_17 : List ((Int × Int) × List (Int × Int)) := [((-2147483648, -2), [(-2147483648, 2147483647)]), ((-1, -1), [(-2147483648, 2147483647)]), ((0, 2147483647), [(-2147483648, 2147483647)])]
set_option maxRecDepth 100000 in
theorem xr_17 : xOk 17 xo_17 = true := by decide +kernel
def xo_18 : List ((Int × Int) × List (Int × Int)) := [((-2147483648, -2), [(-2147483648, 2147483647)]), ((-1, -1), [(-2147483648, 2147483647)]), ((0, 2147483647), [(-2147483648, 2147483647)])]
set_option maxRecDepth 100000 in
theorem xr_18 : xOk 18 xo_18 = true := by decide +kernel
def xo_19 : List ((Int × Int) × List (Int × Int)) := [((-2147483648, 2147483647), [(-2147483648, 2147483647)])]
set_option maxRecDepth 100000 in
theorem xr_19 : xOk 19 xo_19 = true := by decide +kernel
def xo_20 : List ((Int × Int) × List (Int × Int)) := [((-2147483648, 2147483647), [(-2147483648, 2147483647)])]
set_option maxRecDepth 100000 in
theorem xr_20 : xOk 20 xo_20 = true := by decide +kernel
def xo_21 : List ((Int × Int) × List (Int × Int)) := [((-2147483648, -1), [(-2147483648, 2147483647)]), ((0, 2147483647), [(-2147483648, 2147483647)])]
set_option maxRecDepth 100000 in
theorem xr_21 : xOk 21 xo_21 = true := by decide +kernel
def xo_22 : List ((Int × Int) × List (Int × Int)) := [((-2147483648, -1), [(-2147483648, 2147483647)]), ((0, 2147483647), [(-2147483648, 2147483647)])]
set_option maxRecDepth 100000 in
theorem xr_22 : xOk 22 xo_22 = true := by decide +kernel
def xo_23 : List ((Int × Int) × List (Int × Int)) := [((-2147483648, 2147483647), [(-2147483648, 2147483647)])]
set_option maxRecDepth 100000 in
theorem xr_23 : xOk 23 xo_23 = true := by decide +kernel
def xo_24 : List ((Int × Int) × List (Int × Int)) := [((-2147483648, 2147483647), [(-2147483648, 2147483647)])]
set_option maxRecDepth 100000 in
theorem xr_24 : xOk 24 xo_24 = true := by decide +kernel
def xo_25 : List ((Int × Int) × List (Int × Int)) := [((-2147483648, -2), [(-2147483648, 2147483647)]), ((-1, -1), [(-2147483648, 2147483647)]), ((0, 0), [(-2147483648, 2147483647)]), ((1, 1), [(-2147483648, 2147483647)]), ((2, 2), [(-2147483648, 2147483647)]), ((3, 3), [(-2147483648, 2147483647)]), ((4, 4), [(-2147483648, 2147483647)]), ((5, 5), [(-2147483648, 2147483647)]), ((6, 6), [(-2147483648, 2147483647)]), ((7, 7), [(-2147483648, 2147483647)]), ((8, 8), [(-2147483648, 2147483647)]), ((9, 9), [(-2147483648, 2147483647)]), ((10, 10), [(-2147483648, 2147483647)]), ((11, 11), [(-2147483648, 2147483647)]), ((12, 12), [(-2147483648, 2147483647)]), ((13, 13), [(-2147483648, 2147483647)]), ((14, 14), [(-2147483648, 2147483647)]), ((15, 15), [(-2147483648, 2147483647)]), ((16, 16), [(-2147483648, 2147483647)]), ((17, 17), [(-2147483648, 2147483647)]), ((18, 18), [(-2147483648, 2147483647)]), ((19, 19), [(-2147483648, 2147483647)]), ((20, 20), [(-2147483648, 2147483647)]), ((21, 21), [(-2147483648, 2147483647)]), ((22, 22), [(-2147483648, 2147483647)]), ((23, 23), [(-2147483648, 2147483647)]), ((24, 24), [(-2147483648, 2147483647)]), ((25, 25), [(-2147483648, 2147483647)]), ((26, 26), [(-2147483648, 2147483647)]), ((27, 27), [(-2147483648, 2147483647)]), ((28, 28), [(-2147483648, 2147483647)]), ((29, 29), [(-2147483648, 2147483647)]), ((30, 30), [(-2147483648, 2147483647)]), ((31, 31), [(-2147483648, 2147483647)]), ((32, 32), [(-2147483648, 2147483647)]), ((33, 33), [(-2147483648, 2147483647)]), ((34, 34), [(-2147483648, 2147483647)]), ((35, 35), [(-2147483648, 2147483647)]), ((36, 36), [(-2147483648, 2147483647)]), ((37, 37), [(-2147483648, 2147483647)]), ((38, 38), [(-2147483648, 2147483647)]), ((39, 39), [(-2147483648, 2147483647)]), ((40, 40), [(-2147483648, 2147483647)]), ((41, 41), [(-2147483648, 2147483647)]), ((42, 42), [(-2147483648, 2147483647)]), ((43, 43), [(-2147483648, 2147483647)]), ((44, 44), [(-2147483648, 2147483647)]), ((45, 45), [(-2147483648, 2147483647)]), ((46, 46), [(-2147483648, 2147483647)]), ((47, 47), [(-2147483648, 2147483647)]), ((48, 48), [(-2147483648, 2147483647)]), ((49, 49), [(-2147483648, 2147483647)]), ((50, 50), [(-2147483648, 2147483647)]), ((51, 51), [(-2147483648, 2147483647)]), ((52, 52), [(-2147483648, 2147483647)]), ((53, 53), [(-2147483648, 2147483647)]), ((54, 54), [(-2147483648, 2147483647)]), ((55, 55), [(-2147483648, 2147483647)]), ((56, 56), [(-2147483648, 2147483647)]), ((57, 57), [(-2147483648, 2147483647)]), ((58, 58), [(-2147483648, 2147483647)]), ((59, 59), [(-2147483648, 2147483647)]), ((60, 60), [(-2147483648, 2147483647)]), ((61, 2147483647), [(-2147483648, 2147483647)])]
set_option maxRecDepth 100000 in
theorem xr_25 : xOk 25 xo_25 = true := by decide +kernel
def xo_26 : List ((Int × Int) × List (Int × Int)) := [((-2147483648, 0), [(-2147483648, 2147483647)]), ((1, 1), [(-2147483648, 2147483647)]), ((2, 2), [(-2147483648, 2147483647)]), ((3, 3), [(-2147483648, 2147483647)]), ((4, 4), [(-2147483648, 2147483647)]), ((5, 5), [(-2147483648, 2147483647)]), ((6, 6), [(-2147483648, 2147483647)]), ((7, 7), [(-2147483648, 2147483647)]), ((8, 8), [(-2147483648, 2147483647)]), ((9, 9), [(-2147483648, 2147483647)]), ((10, 10), [(-2147483648, 2147483647)]), ((11, 11), [(-2147483648, 2147483647)]), ((12, 12), [(-2147483648, 2147483647)]), ((13, 13), [(-2147483648, 2147483647)]), ((14, 14), [(-2147483648, 2147483647)]), ((15, 15), [(-2147483648, 2147483647)]), ((16, 16), [(-2147483648, 2147483647)]), ((17, 17), [(-2147483648, 2147483647)]), ((18, 18), [(-2147483648, 2147483647)]), ((19, 19), [(-2147483648, 2147483647)]), ((20, 20), [(-2147483648, 2147483647)]), ((21, 21), [(-2147483648, 2147483647)]), ((22, 22), [(-2147483648, 2147483647)]), ((23, 23), [(-2147483648, 2147483647)]), ((24, 24), [(-2147483648, 2147483647)]), ((25, 25), [(-2147483648, 2147483647)]), ((26, 26), [(-2147483648, 2147483647)]), ((27, 27), [(-2147483648, 2147483647)]), ((28, 28), [(-2147483648, 2147483647)]), ((29, 29), [(-2147483648, 2147483647)]), ((30, 30), [(-2147483648, 2147483647)]), ((31, 31), [(-2147483648, 2147483647)]), ((32, 32), [(-2147483648, 2147483647)]), ((33, 33), [(-2147483648, 2147483647)]), ((34, 34), [(-2147483648, 2147483647)]), ((35, 35), [(-2147483648, 2147483647)]), ((36, 36), [(-2147483648, 2147483647)]), ((37, 37), [(-2147483648, 2147483647)]), ((38, 38), [(-2147483648, 2147483647)]), ((39, 39), [(-2147483648, 2147483647)]), ((40, 40), [(-2147483648, 2147483647)]), ((41, 41), [(-2147483648, 2147483647)]), ((42, 42), [(-2147483648, 2147483647)]), ((43, 43), [(-2147483648, 2147483647)]), ((44, 44), [(-2147483648, 2147483647)]), ((45, 45), [(-2147483648, 2147483647)]), ((46, 46), [(-2147483648, 2147483647)]), ((47, 47), [(-2147483648, 2147483647)]), ((48, 48), [(-2147483648, 2147483647)]), ((49, 49), [(-2147483648, 2147483647)]), ((50, 50), [(-2147483648, 2147483647)]), ((51, 51), [(-2147483648, 2147483647)]), ((52, 52), [(-2147483648, 2147483647)]), ((53, 53), [(-2147483648, 2147483647)]), ((54, 54), [(-2147483648, 2147483647)]), ((55, 55), [(-2147483648, 2147483647)]), ((56, 56), [(-2147483648, 2147483647)]), ((57, 57), [(-2147483648, 2147483647)]), ((58, 58), [(-2147483648, 2147483647)]), ((59, 59), [(-2147483648, 2147483647)]), ((60, 60), [(-2147483648, 2147483647)]), ((61, 2147483647), [(-2147483648, 2147483647)])]
set_option maxRecDepth 100000 in
theorem xr_26 : xOk 26 xo_26 = true := by decide +kernel
def xo_27 : List ((Int × Int) × List (Int × Int)) := [((-2147483648, 0), [(-2147483648, 2147483647)]), ((1, 1), [(-2147483648, 2147483647)]), ((2, 2), [(-2147483648, 2147483647)]), ((3, 3), [(-2147483648, 2147483647)]), ((4, 4), [(-2147483648, 2147483647)]), ((5, 5), [(-2147483648, 2147483647)]), ((6, 6), [(-2147483648, 2147483647)]), ((7, 7), [(-2147483648, 2147483647)]), ((8, 8), [(-2147483648, 2147483647)]), ((9, 9), [(-2147483648, 2147483647)]), ((10, 10), [(-2147483648, 2147483647)]), ((11, 11), [(-2147483648, 2147483647)]), ((12, 12), [(-2147483648, 2147483647)]), ((13, 13), [(-2147483648, 2147483647)]), ((14, 14), [(-2147483648, 2147483647)]), ((15, 15), [(-2147483648, 2147483647)]), ((16, 16), [(-2147483648, 2147483647)]), ((17, 17), [(-2147483648, 2147483647)]), ((18, 18), [(-2147483648, 2147483647)]), ((19, 19), [(-2147483648, 2147483647)]), ((20, 20), [(-2147483648, 2147483647)]), ((21, 21), [(-2147483648, 2147483647)]), ((22, 22), [(-2147483648, 2147483647)]), ((23, 23), [(-2147483648, 2147483647)]), ((24, 24), [(-2147483648, 2147483647)]), ((25, 25), [(-2147483648, 2147483647)]), ((26, 26), [(-2147483648, 2147483647)]), ((27, 27), [(-2147483648, 2147483647)]), ((28, 28), [(-2147483648, 2147483647)]), ((29, 29), [(-2147483648, 2147483647)]), ((30, 30), [(-2147483648, 2147483647)]), ((31, 31), [(-2147483648, 2147483647)]), ((32, 32), [(-2147483648, 2147483647)]), ((33, 33), [(-2147483648, 2147483647)]), ((34, 34), [(-2147483648, 2147483647)]), ((35, 35), [(-2147483648, 2147483647)]), ((36, 36), [(-2147483648, 2147483647)]), ((37, 37), [(-2147483648, 2147483647)]), ((38, 38), [(-2147483648, 2147483647)]), ((39, 39), [(-2147483648, 2147483647)]), ((40, 40), [(-2147483648, 2147483647)]), ((41, 41), [(-2147483648, 2147483647)]), ((42, 42), [(-2147483648, 2147483647)]), ((43, 43), [(-2147483648, 2147483647)]), ((44, 44), [(-2147483648, 2147483647)]), ((45, 45), [(-2147483648, 2147483647)]), ((46, 46), [(-2147483648, 2147483647)]), ((47, 47), [(-2147483648, 2147483647)]), ((48, 48), [(-2147483648, 2147483647)]), ((49, 49), [(-2147483648, 2147483647)]), ((50, 50), [(-2147483648, 2147483647)]), ((51, 51), [(-2147483648, 2147483647)]), ((52, 52), [(-2147483648, 2147483647)]), ((53, 53), [(-2147483648, 2147483647)]), ((54, 54), [(-2147483648, 2147483647)]), ((55, 55), [(-2147483648, 2147483647)]), ((56, 56), [(-2147483648, 2147483647)]), ((57, 57), [(-2147483648, 2147483647)]), ((58, 58), [(-2147483648, 2147483647)]), ((59, 59), [(-2147483648, 2147483647)]), ((60, 60), [(-2147483648, 2147483647)]), ((61, 61), [(-2147483648, 2147483647)]), ((62, 62), [(-2147483648, 2147483647)]), ((63, 63), [(-2147483648, 2147483647)]), ((64, 64), [(-2147483648, 2147483647)]), ((65, 65), [(-2147483648, 2147483647)]), ((66, 66), [(-2147483648, 2147483647)]), ((67, 67), [(-2147483648, 2147483647)]), ((68, 68), [(-2147483648, 2147483647)]), ((69, 69), [(-2147483648, 2147483647)]), ((70, 70), [(-2147483648, 2147483647)]), ((71, 71), [(-2147483648, 2147483647)]), ((72, 72), [(-2147483648, 2147483647)]), ((73, 73), [(-2147483648, 2147483647)]), ((74, 74), [(-2147483648, 2147483647)]), ((75, 75), [(-2147483648, 2147483647)]), ((76, 76), [(-2147483648, 2147483647)]), ((77, 77), [(-2147483648, 2147483647)]), ((78, 78), [(-2147483648, 2147483647)]), ((79, 79), [(-2147483648, 2147483647)]), ((80, 80), [(-2147483648, 2147483647)]), ((81, 81), [(-2147483648, 2147483647)]), ((82, 82), [(-2147483648, 2147483647)]), ((83, 83), [(-2147483648, 2147483647)]), ((84, 84), [(-2147483648, 2147483647)]), ((85, 85), [(-2147483648, 2147483647)]), ((86, 86), [(-2147483648, 2147483647)]), ((87, 87), [(-2147483648, 2147483647)]), ((88, 88), [(-2147483648, 2147483647)]), ((89, 89), [(-2147483648, 2147483647)]), ((90, 90), [(-2147483648, 2147483647)]), ((91, 91), [(-2147483648, 2147483647)]), ((92, 92), [(-2147483648, 2147483647)]), ((93, 93), [(-2147483648, 2147483647)]), ((94, 94), [(-2147483648, 2147483647)]), ((95, 95), [(-2147483648, 2147483647)]), ((96, 96), [(-2147483648, 2147483647)]), ((97, 97), [(-2147483648, 2147483647)]), ((98, 98), [(-2147483648, 2147483647)]), ((99, 99), [(-2147483648, 2147483647)]), ((100, 100), [(-2147483648, 2147483647)]), ((101, 101), [(-2147483648, 2147483647)]), ((102, 102), [(-2147483648, 2147483647)]), ((103, 103), [(-2147483648, 2147483647)]), ((104, 104), [(-2147483648, 2147483647)]), ((105, 105), [(-2147483648, 2147483647)]), ((106, 106), [(-2147483648, 2147483647)]), ((107, 107), [(-2147483648, 2147483647)]), ((108, 108), [(-2147483648, 2147483647)]), ((109, 109), [(-2147483648, 2147483647)]), ((110, 110), [(-2147483648, 2147483647)]), ((111, 111), [(-2147483648, 2147483647)]), ((112, 112), [(-2147483648, 2147483647)]), ((113, 113), [(-2147483648, 2147483647)]), ((114, 114), [(-2147483648, 2147483647)]), ((115, 115), [(-2147483648, 2147483647)]), ((116, 116), [(-2147483648, 2147483647)]), ((117, 117), [(-2147483648, 2147483647)]), ((118, 118), [(-2147483648, 2147483647)]), ((119, 119), [(-2147483648, 2147483647)]), ((120, 120), [(-2147483648, 2147483647)]), ((121, 121), [(-2147483648, 2147483647)]), ((122, 122), [(-2147483648, 2147483647)]), ((123, 123), [(-2147483648, 2147483647)]), ((124, 124), [(-2147483648, 2147483647)]), ((125, 125), [(-2147483648, 2147483647)]), ((126, 126), [(-2147483648, 2147483647)]), ((127, 127), [(-2147483648, 2147483647)]), ((128, 2147483647), [(-2147483648, 2147483647)])]
set_option maxRecDepth 100000 in
theorem xr_27 : xOk 27 xo_27 = true := by decide +kernel
def xo_28 : List ((Int × Int) × List (Int × Int)) := [((-2147483648, 2147483647), [(-2147483648, 2147483647)])]
set_option maxRecDepth 100000 in
theorem xr_28 : xOk 28 xo_28 = true := by decide +kernel
def xo_29 : List ((Int × Int) × List (Int × Int)) := [((-2147483648, 2147483647), [(-2147483648, 2147483647)])]
set_option maxRecDepth 100000 in
theorem xr_29 : xOk 29 xo_29 = true := by decide +kernel
def xo_30 : List ((Int × Int) × List (Int × Int)) := [((-2147483648, 2147483647), [(-2147483648, 2147483647)])]
set_option maxRecDepth 100000 in
theorem xr_30 : xOk 30 xo_30 = true := by decide +kernel
def xo_31 : List ((Int × Int) × List (Int × Int)) := [((-2147483648, 2147483647), [(-2147483648, 2147483647)])]
set_option maxRecDepth 100000 in
theorem xr_31 : xOk 31 xo_31 = true := by decide +kernel
def xo_32 : List ((Int × Int) × List (Int × Int)) := [((-2147483648, 2147483647), [(-2147483648, 2147483647)])]
set_option maxRecDepth 100000 in
theorem xr_32 : xOk 32 xo_32 = true := by decide +kernel
def xo_33 : List ((Int × Int) × List (Int × Int)) := [((-2147483648, 2147483647), [(-2147483648, 2147483647)])]
set_option maxRecDepth 100000 in
theorem xr_33 : xOk 33 xo_33 = true := by decide +kernel
def xo_34 : List ((Int × Int) × List (Int × Int)) := [((-2147483648, -1), [(-2147483648, 2147483647)]), ((0, 2147483647), [(-2147483648, 2147483647)])]
set_option maxRecDepth 100000 in
theorem xr_34 : xOk 34 xo_34 = true := by decide +kernel
def xo_35 : List ((Int × Int) × List (Int × Int)) := [((-2147483648, -1), [(-2147483648, 2147483647)]), ((0, 0), [(-2147483648, 2147483647)]), ((1, 1), [(-2147483648, 2147483647)]), ((2, 2), [(-2147483648, 2147483647)]), ((3, 3), [(-2147483648, 2147483647)]), ((4, 4), [(-2147483648, 2147483647)]), ((5, 5), [(-2147483648, 2147483647)]), ((6, 6), [(-2147483648, 2147483647)]), ((7, 7), [(-2147483648, 2147483647)]), ((8, 8), [(-2147483648, 2147483647)]), ((9, 9), [(-2147483648, 2147483647)]), ((10, 2147483647), [(-2147483648, 2147483647)])]
set_option maxRecDepth 100000 in
theorem xr_35 : xOk 35 xo_35 = true := by decide +kernel
def xo_36 : List ((Int × Int) × List (Int × Int)) := [((-2147483648, 2147483647), [(-2147483648, 2147483647)])]
set_option maxRecDepth 100000 in
theorem xr_36 : xOk 36 xo_36 = true := by decide +kernel
def xo_37 : List ((Int × Int) × List (Int × Int)) := [((-2147483648, 2147483647), [(-2147483648, 2147483647)])]
set_option maxRecDepth 100000 in
theorem xr_37 : xOk 37 xo_37 = true := by decide +kernel
end
section
/-! the tables are what the code and the Statement say -/
def xOKb (own : String) (ini : Bool) (cc : ByteArray) (en : xE) : Bool := decide (decode cc en.1 = .ok (en.2.1, en.2.2.1)) && (xln en.2.1 en.2.2.1 && xLk own ini en)
def xPk (q : xM) (tab : List xE) : Bool := tab.all (xOKb (xmy q).cls (xini q) (xmb q)) && plainName (xmy q).cls
def xPp (q : xM) (tab : List xE) : Prop := (∀ en ∈ tab, xOK (xmy q).cls (xini q) (xmb q) en) ∧ plainName (xmy q).cls = true
theorem xPk_ok {q : xM} {tab : List xE} (h : xPk q tab = true) : xPp q tab := by
  unfold xPk at h
  rw [Bool.and_eq_true] at h
  refine ⟨fun en hen => ?_, h.2⟩
  have h1 := List.all_eq_true.mp h.1 en hen
  unfold xOKb at h1
  simp only [Bool.and_eq_true, decide_eq_true_eq] at h1
  exact h1
def xAll : List xM → List (List xE) → Prop
  | q :: qs, t :: ts => xPp q t ∧ xAll qs ts
  | _, _ => True
theorem xAll_ok : ∀ {qs : List xM} {ts : List (List xE)}, xAll qs ts → ∀ (j : Nat) (q : xM) (t : List xE), qs[j]? = some q → ts[j]? = some t → xPp q t
  | [], _, _, j, q, t, h, _ => by simp at h
  | _ :: _, [], _, j, q, t, _, h => by simp at h
  | q0 :: qs, t0 :: ts, h, j, q, t, h1, h2 => by
    cases j with
    | zero =>
      rw [List.getElem?_cons_zero] at h1 h2
      cases h1
      cases h2
      exact h.1
    | succ j =>
      rw [List.getElem?_cons_succ] at h1 h2
      exact xAll_ok h.2 j q t h1 h2
set_option maxRecDepth 100000 in
theorem xk_0 : xPk xm_0 xT_0 = true := by decide +kernel
set_option maxRecDepth 100000 in
theorem xk_1 : xPk xm_1 xT_1 = true := by decide +kernel
set_option maxRecDepth 100000 in
theorem xk_2 : xPk xm_2 xT_2 = true := by decide +kernel
set_option maxRecDepth 100000 in
theorem xk_3 : xPk xm_3 xT_3 = true := by decide +kernel
set_option maxRecDepth 100000 in
theorem xk_4 : xPk xm_4 xT_4 = true := by decide +kernel
set_option maxRecDepth 100000 in
theorem xk_5 : xPk xm_5 xT_5 = true := by decide +kernel
set_option maxRecDepth 100000 in
theorem xk_6 : xPk xm_6 xT_6 = true := by decide +kernel
set_option maxRecDepth 100000 in
theorem xk_7 : xPk xm_7 xT_7 = true := by decide +kernel
set_option maxRecDepth 100000 in
theorem xk_8 : xPk xm_8 xT_8 = true := by decide +kernel
set_option maxRecDepth 100000 in
theorem xk_9 : xPk xm_9 xT_9 = true := by decide +kernel
set_option maxRecDepth 100000 in
theorem xk_10 : xPk xm_10 xT_10 = true := by decide +kernel
set_option maxRecDepth 100000 in
theorem xk_11 : xPk xm_11 xT_11 = true := by decide +kernel
set_option maxRecDepth 100000 in
theorem xk_12 : xPk xm_12 xT_12 = true := by decide +kernel
set_option maxRecDepth 100000 in
theorem xk_13 : xPk xm_13 xT_13 = true := by decide +kernel
set_option maxRecDepth 100000 in
theorem xk_14 : xPk xm_14 xT_14 = true := by decide +kernel
set_option maxRecDepth 100000 in
theorem xk_15 : xPk xm_15 xT_15 = true := by decide +kernel
set_option maxRecDepth 100000 in
theorem xk_16 : xPk xm_16 xT_16 = true := by decide +kernel
set_option maxRecDepth 100000 in
theorem xk_17 : xPk xm_17 xT_17 = true := by decide +kernel
set_option maxRecDepth 100000 in
theorem xk_18 : xPk xm_18 xT_18 = true := by decide +kernel
set_option maxRecDepth 100000 in
theorem xk_19 : xPk xm_19 xT_19 = true := by decide +kernel
set_option maxRecDepth 100000 in
theorem xk_20 : xPk xm_20 xT_20 = true := by decide +kernel
set_option maxRecDepth 100000 in
theorem xk_21 : xPk xm_21 xT_21 = true := by decide +kernel
set_option maxRecDepth 100000 in
theorem xk_22 : xPk xm_22 xT_22 = true := by decide +kernel
set_option maxRecDepth 100000 in
theorem xk_23 : xPk xm_23 xT_23 = true := by decide +kernel
set_option maxRecDepth 100000 in
theorem xk_24 : xPk xm_24 xT_24 = true := by decide +kernel
set_option maxRecDepth 100000 in
theorem xk_25 : xPk xm_25 xT_25 = true := by decide +kernel
set_option maxRecDepth 100000 in
theorem xk_26 : xPk xm_26 xT_26 = true := by decide +kernel
set_option maxRecDepth 100000 in
theorem xk_27 : xPk xm_27 xT_27 = true := by decide +kernel
set_option maxRecDepth 100000 in
theorem xk_28 : xPk xm_28 xT_28 = true := by decide +kernel
set_option maxRecDepth 100000 in
theorem xk_29 : xPk xm_29 xT_29 = true := by decide +kernel
set_option maxRecDepth 100000 in
theorem xk_30 : xPk xm_30 xT_30 = true := by decide +kernel
set_option maxRecDepth 100000 in
theorem xk_31 : xPk xm_31 xT_31 = true := by decide +kernel
set_option maxRecDepth 100000 in
theorem xk_32 : xPk xm_32 xT_32 = true := by decide +kernel
set_option maxRecDepth 100000 in
theorem xk_33 : xPk xm_33 xT_33 = true := by decide +kernel
set_option maxRecDepth 100000 in
theorem xk_34 : xPk xm_34 xT_34 = true := by decide +kernel
set_option maxRecDepth 100000 in
theorem xk_35 : xPk xm_35 xT_35 = true := by decide +kernel
set_option maxRecDepth 100000 in
theorem xk_36 : xPk xm_36 xT_36 = true := by decide +kernel
set_option maxRecDepth 100000 in
theorem xk_37 : xPk xm_37 xT_37 = true := by decide +kernel
set_option maxRecDepth 100000 in
theorem xk_38 : xPk xm_38 xT_38 = true := by decide +kernel
set_option maxRecDepth 100000 in
theorem xk_39 : xPk xm_39 xT_39 = true := by decide +kernel
set_option maxRecDepth 100000 in
theorem xk_40 : xPk xm_40 xT_40 = true := by decide +kernel
set_option maxRecDepth 100000 in
theorem xk_41 : xPk xm_41 xT_41 = true := by decide +kernel
set_option maxRecDepth 100000 in
theorem xk_42 : xPk xm_42 xT_42 = true := by decide +kernel
set_option maxRecDepth 100000 in
theorem xk_43 : xPk xm_43 xT_43 = true := by decide +kernel
set_option maxRecDepth 100000 in
theorem xk_44 : xPk xm_44 xT_44 = true := by decide +kernel
set_option maxRecDepth 100000 in
theorem xk_45 : xPk xm_45 xT_45 = true := by decide +kernel
set_option maxRecDepth 100000 in
theorem xk_46 : xPk xm_46 xT_46 = true := by decide +kernel
set_option maxRecDepth 100000 in
theorem xk_47 : xPk xm_47 xT_47 = true := by decide +kernel
set_option maxRecDepth 100000 in
theorem xk_48 : xPk xm_48 xT_48 = true := by decide +kernel
set_option maxRecDepth 100000 in
theorem xk_49 : xPk xm_49 xT_49 = true := by decide +kernel
set_option maxRecDepth 100000 in
theorem xk_50 : xPk xm_50 xT_50 = true := by decide +kernel
set_option maxRecDepth 100000 in
theorem xk_51 : xPk xm_51 xT_51 = true := by decide +kernel
set_option maxRecDepth 100000 in
theorem xk_52 : xPk xm_52 xT_52 = true := by decide +kernel
set_option maxRecDepth 100000 in
theorem xk_53 : xPk xm_53 xT_53 = true := by decide +kernel
set_option maxRecDepth 100000 in
theorem xk_54 : xPk xm_54 xT_54 = true := by decide +kernel
set_option maxRecDepth 100000 in
theorem xk_55 : xPk xm_55 xT_55 = true := by decide +kernel
set_option maxRecDepth 100000 in
theorem xk_56 : xPk xm_56 xT_56 = true := by decide +kernel
set_option maxRecDepth 100000 in
theorem xk_57 : xPk xm_57 xT_57 = true := by decide +kernel
set_option maxRecDepth 100000 in
theorem xk_58 : xPk xm_58 xT_58 = true := by decide +kernel
set_option maxRecDepth 100000 in
theorem xk_59 : xPk xm_59 xT_59 = true := by decide +kernel
set_option maxRecDepth 100000 in
theorem xk_60 : xPk xm_60 xT_60 = true := by decide +kernel
set_option maxRecDepth 100000 in
theorem xk_61 : xPk xm_61 xT_61 = true := by decide +kernel
set_option maxRecDepth 100000 in
theorem xk_62 : xPk xm_62 xT_62 = true := by decide +kernel
set_option maxRecDepth 100000 in
theorem xk_63 : xPk xm_63 xT_63 = true := by decide +kernel
set_option maxRecDepth 100000 in
theorem xk_64 : xPk xm_64 xT_64 = true := by decide +kernel
set_option maxRecDepth 100000 in
theorem xk_65 : xPk xm_65 xT_65 = true := by decide +kernel
set_option maxRecDepth 100000 in
theorem xk_66 : xPk xm_66 xT_66 = true := by decide +kernel
set_option maxRecDepth 100000 in
theorem xk_67 : xPk xm_67 xT_67 = true := by decide +kernel
set_option maxRecDepth 100000 in
theorem xk_68 : xPk xm_68 xT_68 = true := by decide +kernel
set_option maxRecDepth 100000 in
theorem xk_69 : xPk xm_69 xT_69 = true := by decide +kernel
set_option maxRecDepth 100000 in
theorem xk_70 : xPk xm_70 xT_70 = true := by decide +kernel
set_option maxRecDepth 100000 in
theorem xk_71 : xPk xm_71 xT_71 = true := by decide +kernel
set_option maxRecDepth 100000 in
theorem xk_72 : xPk xm_72 xT_72 = true := by decide +kernel
set_option maxRecDepth 100000 in
theorem xk_73 : xPk xm_73 xT_73 = true := by decide +kernel
set_option maxRecDepth 100000 in
theorem xk_74 : xPk xm_74 xT_74 = true := by decide +kernel
set_option maxRecDepth 100000 in
theorem xk_75 : xPk xm_75 xT_75 = true := by decide +kernel
set_option maxRecDepth 100000 in
theorem xk_76 : xPk xm_76 xT_76 = true := by decide +kernel
set_option maxRecDepth 100000 in
theorem xk_77 : xPk xm_77 xT_77 = true := by decide +kernel
set_option maxRecDepth 100000 in
theorem xk_78 : xPk xm_78 xT_78 = true := by decide +kernel
set_option maxRecDepth 100000 in
theorem xk_79 : xPk xm_79 xT_79 = true := by decide +kernel
set_option maxRecDepth 100000 in
theorem xk_80 : xPk xm_80 xT_80 = true := by decide +kernel
set_option maxRecDepth 100000 in
theorem xk_81 : xPk xm_81 xT_81 = true := by decide +kernel
set_option maxRecDepth 100000 in
theorem xk_82 : xPk xm_82 xT_82 = true := by decide +kernel
set_option maxRecDepth 100000 in
theorem xk_83 : xPk xm_83 xT_83 = true := by decide +kernel
set_option maxRecDepth 100000 in
theorem xk_84 : xPk xm_84 xT_84 = true := by decide +kernel
set_option maxRecDepth 100000 in
theorem xk_85 : xPk xm_85 xT_85 = true := by decide +kernel
set_option maxRecDepth 100000 in
theorem xk_86 : xPk xm_86 xT_86 = true := by decide +kernel
set_option maxRecDepth 100000 in
theorem xk_87 : xPk xm_87 xT_87 = true := by decide +kernel
set_option maxRecDepth 100000 in
theorem xk_88 : xPk xm_88 xT_88 = true := by decide +kernel
set_option maxRecDepth 100000 in
theorem xk_89 : xPk xm_89 xT_89 = true := by decide +kernel
set_option maxRecDepth 100000 in
theorem xk_90 : xPk xm_90 xT_90 = true := by decide +kernel
set_option maxRecDepth 100000 in
theorem xk_91 : xPk xm_91 xT_91 = true := by decide +kernel
set_option maxRecDepth 100000 in
theorem xk_92 : xPk xm_92 xT_92 = true := by decide +kernel
set_option maxRecDepth 100000 in
theorem xk_93 : xPk xm_93 xT_93 = true := by decide +kernel
set_option maxRecDepth 100000 in
theorem xk_94 : xPk xm_94 xT_94 = true := by decide +kernel
set_option maxRecDepth 100000 in
theorem xk_95 : xPk xm_95 xT_95 = true := by decide +kernel
set_option maxRecDepth 100000 in
theorem xk_96 : xPk xm_96 xT_96 = true := by decide +kernel
set_option maxRecDepth 100000 in
theorem xk_97 : xPk xm_97 xT_97 = true := by decide +kernel
set_option maxRecDepth 100000 in
theorem xk_98 : xPk xm_98 xT_98 = true := by decide +kernel
set_option maxRecDepth 100000 in
theorem xk_99 : xPk xm_99 xT_99 = true := by decide +kernel
set_option maxRecDepth 100000 in
theorem xk_100 : xPk xm_100 xT_100 = true := by decide +kernel
set_option maxRecDepth 100000 in
theorem xk_101 : xPk xm_101 xT_101 = true := by decide +kernel
set_option maxRecDepth 100000 in
theorem xk_102 : xPk xm_102 xT_102 = true := by decide +kernel
set_option maxRecDepth 100000 in
theorem xk_103 : xPk xm_103 xT_103 = true := by decide +kernel
set_option maxRecDepth 100000 in
theorem xk_104 : xPk xm_104 xT_104 = true := by decide +kernel
set_option maxRecDepth 100000 in
theorem xk_105 : xPk xm_105 xT_105 = true := by decide +kernel
set_option maxRecDepth 100000 in
theorem xk_106 : xPk xm_106 xT_106 = true := by decide +kernel
set_option maxRecDepth 100000 in
theorem xk_107 : xPk xm_107 xT_107 = true := by decide +kernel
set_option maxRecDepth 100000 in
theorem xk_108 : xPk xm_108 xT_108 = true := by decide +kernel
set_option maxRecDepth 100000 in
theorem xk_109 : xPk xm_109 xT_109 = true := by decide +kernel
set_option maxRecDepth 100000 in
theorem xk_110 : xPk xm_110 xT_110 = true := by decide +kernel
set_option maxRecDepth 100000 in
theorem xk_111 : xPk xm_111 xT_111 = true := by decide +kernel
set_option maxRecDepth 100000 in
theorem xk_112 : xPk xm_112 xT_112 = true := by decide +kernel
set_option maxRecDepth 100000 in
theorem xk_113 : xPk xm_113 xT_113 = true := by decide +kernel
set_option maxRecDepth 100000 in
theorem xk_114 : xPk xm_114 xT_114 = true := by decide +kernel
set_option maxRecDepth 100000 in
theorem xk_115 : xPk xm_115 xT_115 = true := by decide +kernel
set_option maxRecDepth 100000 in
theorem xk_116 : xPk xm_116 xT_116 = true := by decide +kernel
set_option maxRecDepth 100000 in
theorem xk_117 : xPk xm_117 xT_117 = true := by decide +kernel
set_option maxRecDepth 100000 in
theorem xk_118 : xPk xm_118 xT_118 = true := by decide +kernel
set_option maxRecDepth 100000 in
theorem xk_119 : xPk xm_119 xT_119 = true := by decide +kernel
set_option maxRecDepth 100000 in
theorem xk_120 : xPk xm_120 xT_120 = true := by decide +kernel
set_option maxRecDepth 100000 in
theorem xk_121 : xPk xm_121 xT_121 = true := by decide +kernel
set_option maxRecDepth 100000 in
theorem xk_122 : xPk xm_122 xT_122 = true := by decide +kernel
set_option maxRecDepth 100000 in
theorem xk_123 : xPk xm_123 xT_123 = true := by decide +kernel
set_option maxRecDepth 100000 in
theorem xk_124 : xPk xm_124 xT_124 = true := by decide +kernel
set_option maxRecDepth 100000 in
theorem xk_125 : xPk xm_125 xT_125 = true := by decide +kernel
set_option maxRecDepth 100000 in
theorem xk_126 : xPk xm_126 xT_126 = true := by decide +kernel
set_option maxRecDepth 100000 in
theorem xk_127 : xPk xm_127 xT_127 = true := by decide +kernel
set_option maxRecDepth 100000 in
theorem xk_128 : xPk xm_128 xT_128 = true := by decide +kernel
set_option maxRecDepth 100000 in
theorem xk_129 : xPk xm_129 xT_129 = true := by decide +kernel
set_option maxRecDepth 100000 in
theorem xk_130 : xPk xm_130 xT_130 = true := by decide +kernel
set_option maxRecDepth 100000 in
theorem xk_131 : xPk xm_131 xT_131 = true := by decide +kernel
set_option maxRecDepth 100000 in
theorem xk_132 : xPk xm_132 xT_132 = true := by decide +kernel
set_option maxRecDepth 100000 in
theorem xk_133 : xPk xm_133 xT_133 = true := by decide +kernel
set_option maxRecDepth 100000 in
theorem xk_134 : xPk xm_134 xT_134 = true := by decide +kernel
set_option maxRecDepth 100000 in
theorem xk_135 : xPk xm_135 xT_135 = true := by decide +kernel
set_option maxRecDepth 100000 in
theorem xk_136 : xPk xm_136 xT_136 = true := by decide +kernel
set_option maxRecDepth 100000 in
theorem xk_137 : xPk xm_137 xT_137 = true := by decide +kernel
set_option maxRecDepth 100000 in
theorem xk_138 : xPk xm_138 xT_138 = true := by decide +kernel
set_option maxRecDepth 100000 in
theorem xk_139 : xPk xm_139 xT_139 = true := by decide +kernel
set_option maxRecDepth 100000 in
theorem xk_140 : xPk xm_140 xT_140 = true := by decide +kernel
set_option maxRecDepth 100000 in
theorem xk_141 : xPk xm_141 xT_141 = true := by decide +kernel
set_option maxRecDepth 100000 in
theorem xk_142 : xPk xm_142 xT_142 = true := by decide +kernel
set_option maxRecDepth 100000 in
theorem xk_143 : xPk xm_143 xT_143 = true := by decide +kernel
set_option maxRecDepth 100000 in
theorem xk_144 : xPk xm_144 xT_144 = true := by decide +kernel
set_option maxRecDepth 100000 in
theorem xk_145 : xPk xm_145 xT_145 = true := by decide +kernel
set_option maxRecDepth 100000 in
theorem xk_146 : xPk xm_146 xT_146 = true := by decide +kernel
set_option maxRecDepth 100000 in
theorem xk_147 : xPk xm_147 xT_147 = true := by decide +kernel
set_option maxRecDepth 100000 in
theorem xk_148 : xPk xm_148 xT_148 = true := by decide +kernel
set_option maxRecDepth 100000 in
theorem xk_149 : xPk xm_149 xT_149 = true := by decide +kernel
set_option maxRecDepth 100000 in
theorem xk_150 : xPk xm_150 xT_150 = true := by decide +kernel
set_option maxRecDepth 100000 in
theorem xk_151 : xPk xm_151 xT_151 = true := by decide +kernel
set_option maxRecDepth 100000 in
theorem xk_152 : xPk xm_152 xT_152 = true := by decide +kernel
set_option maxRecDepth 100000 in
theorem xk_153 : xPk xm_153 xT_153 = true := by decide +kernel
set_option maxRecDepth 100000 in
theorem xk_154 : xPk xm_154 xT_154 = true := by decide +kernel
set_option maxRecDepth 100000 in
theorem xk_155 : xPk xm_155 xT_155 = true := by decide +kernel
set_option maxRecDepth 100000 in
theorem xk_156 : xPk xm_156 xT_156 = true := by decide +kernel
set_option maxRecDepth 100000 in
theorem xk_157 : xPk xm_157 xT_157 = true := by decide +kernel
set_option maxRecDepth 100000 in
theorem xk_158 : xPk xm_158 xT_158 = true := by decide +kernel
set_option maxRecDepth 100000 in
theorem xk_159 : xPk xm_159 xT_159 = true := by decide +kernel
set_option maxRecDepth 100000 in
theorem xk_160 : xPk xm_160 xT_160 = true := by decide +kernel
set_option maxRecDepth 100000 in
theorem xk_161 : xPk xm_161 xT_161 = true := by decide +kernel
set_option maxRecDepth 100000 in
theorem xk_162 : xPk xm_162 xT_162 = true := by decide +kernel
set_option maxRecDepth 100000 in
theorem xk_163 : xPk xm_163 xT_163 = true := by decide +kernel
set_option maxRecDepth 100000 in
theorem xk_164 : xPk xm_164 xT_164 = true := by decide +kernel
set_option maxRecDepth 100000 in
theorem xk_165 : xPk xm_165 xT_165 = true := by decide +kernel
set_option maxRecDepth 100000 in
theorem xk_166 : xPk xm_166 xT_166 = true := by decide +kernel
set_option maxRecDepth 100000 in
theorem xk_167 : xPk xm_167 xT_167 = true := by decide +kernel
set_option maxRecDepth 100000 in
theorem xk_168 : xPk xm_168 xT_168 = true := by decide +kernel
set_option maxRecDepth 100000 in
theorem xk_169 : xPk xm_169 xT_169 = true := by decide +kernel
set_option maxRecDepth 100000 in
theorem xk_170 : xPk xm_170 xT_170 = true := by decide +kernel
set_option maxRecDepth 100000 in
theorem xk_171 : xPk xm_171 xT_171 = true := by decide +kernel
set_option maxRecDepth 100000 in
theorem xk_172 : xPk xm_172 xT_172 = true := by decide +kernel
set_option maxRecDepth 100000 in
theorem xk_173 : xPk xm_173 xT_173 = true := by decide +kernel
set_option maxRecDepth 100000 in
theorem xk_174 : xPk xm_174 xT_174 = true := by decide +kernel
set_option maxRecDepth 100000 in
theorem xk_175 : xPk xm_175 xT_175 = true := by decide +kernel
set_option maxRecDepth 100000 in
theorem xk_176 : xPk xm_176 xT_176 = true := by decide +kernel
set_option maxRecDepth 100000 in
theorem xk_177 : xPk xm_177 xT_177 = true := by decide +kernel
set_option maxRecDepth 100000 in
theorem xk_178 : xPk xm_178 xT_178 = true := by decide +kernel
set_option maxRecDepth 100000 in
theorem xk_179 : xPk xm_179 xT_179 = true := by decide +kernel
set_option maxRecDepth 100000 in
theorem xk_180 : xPk xm_180 xT_180 = true := by decide +kernel
set_option maxRecDepth 100000 in
theorem xk_181 : xPk xm_181 xT_181 = true := by decide +kernel
set_option maxRecDepth 100000 in
theorem xk_182 : xPk xm_182 xT_182 = true := by decide +kernel
set_option maxRecDepth 100000 in
theorem xk_183 : xPk xm_183 xT_183 = true := by decide +kernel
set_option maxRecDepth 100000 in
theorem x_all : xAll xMs xTs := ⟨xPk_ok xk_0, xPk_ok xk_1, xPk_ok xk_2, xPk_ok xk_3, xPk_ok xk_4, xPk_ok xk_5, xPk_ok xk_6, xPk_ok xk_7, xPk_ok xk_8, xPk_ok xk_9, xPk_ok xk_10, xPk_ok xk_11, xPk_ok xk_12, xPk_ok xk_13, xPk_ok xk_14, xPk_ok xk_15, xPk_ok xk_16, xPk_ok xk_17, xPk_ok xk_18, xPk_ok xk_19, xPk_ok xk_20, xPk_ok xk_21, xPk_ok xk_22, xPk_ok xk_23, xPk_ok xk_24, xPk_ok xk_25, xPk_ok xk_26, xPk_ok xk_27, xPk_ok xk_28, xPk_ok xk_29, xPk_ok xk_30, xPk_ok xk_31, xPk_ok xk_32, xPk_ok xk_33, xPk_ok xk_34, xPk_ok xk_35, xPk_ok xk_36, xPk_ok xk_37, xPk_ok xk_38, xPk_ok xk_39, xPk_ok xk_40, xPk_ok xk_41, xPk_ok xk_42, xPk_ok xk_43, xPk_ok xk_44, xPk_ok xk_45, xPk_ok xk_46, xPk_ok xk_47, xPk_ok xk_48, xPk_ok xk_49, xPk_ok xk_50, xPk_ok xk_51, xPk_ok xk_52, xPk_ok xk_53, xPk_ok xk_54, xPk_ok xk_55, xPk_ok xk_56, xPk_ok xk_57, xPk_ok xk_58, xPk_ok xk_59, xPk_ok xk_60, xPk_ok xk_61, xPk_ok xk_62, xPk_ok xk_63, xPk_ok xk_64, xPk_ok xk_65, xPk_ok xk_66, xPk_ok xk_67, xPk_ok xk_68, xPk_ok xk_69, xPk_ok xk_70, xPk_ok xk_71, xPk_ok xk_72, xPk_ok xk_73, xPk_ok xk_74, xPk_ok xk_75, xPk_ok xk_76, xPk_ok xk_77, xPk_ok xk_78, xPk_ok xk_79, xPk_ok xk_80, xPk_ok xk_81, xPk_ok xk_82, xPk_ok xk_83, xPk_ok xk_84, xPk_ok xk_85, xPk_ok xk_86, xPk_ok xk_87, xPk_ok xk_88, xPk_ok xk_89, xPk_ok xk_90, xPk_ok xk_91, xPk_ok xk_92, xPk_ok xk_93, xPk_ok xk_94, xPk_ok xk_95, xPk_ok xk_96, xPk_ok xk_97, xPk_ok xk_98, xPk_ok xk_99, xPk_ok xk_100, xPk_ok xk_101, xPk_ok xk_102, xPk_ok xk_103, xPk_ok xk_104, xPk_ok xk_105, xPk_ok xk_106, xPk_ok xk_107, xPk_ok xk_108, xPk_ok xk_109, xPk_ok xk_110, xPk_ok xk_111, xPk_ok xk_112, xPk_ok xk_113, xPk_ok xk_114, xPk_ok xk_115, xPk_ok xk_116, xPk_ok xk_117, xPk_ok xk_118, xPk_ok xk_119, xPk_ok xk_120, xPk_ok xk_121, xPk_ok xk_122, xPk_ok xk_123, xPk_ok xk_124, xPk_ok xk_125, xPk_ok xk_126, xPk_ok xk_127, xPk_ok xk_128, xPk_ok xk_129, xPk_ok xk_130, xPk_ok xk_131, xPk_ok xk_132, xPk_ok xk_133, xPk_ok xk_134, xPk_ok xk_135, xPk_ok xk_136, xPk_ok xk_137, xPk_ok xk_138, xPk_ok xk_139, xPk_ok xk_140, xPk_ok xk_141, xPk_ok xk_142, xPk_ok xk_143, xPk_ok xk_144, xPk_ok xk_145, xPk_ok xk_146, xPk_ok xk_147, xPk_ok xk_148, xPk_ok xk_149, xPk_ok xk_150, xPk_ok xk_151, xPk_ok xk_152, xPk_ok xk_153, xPk_ok xk_154, xPk_ok xk_155, xPk_ok xk_156, xPk_ok xk_157, xPk_ok xk_158, xPk_ok xk_159, xPk_ok xk_160, xPk_ok xk_161, xPk_ok xk_162, xPk_ok xk_163, xPk_ok xk_164, xPk_ok xk_165, xPk_ok xk_166, xPk_ok xk_167, xPk_ok xk_168, xPk_ok xk_169, xPk_ok xk_170, xPk_ok xk_171, xPk_ok xk_172, xPk_ok xk_173, xPk_ok xk_174, xPk_ok xk_175, xPk_ok xk_176, xPk_ok xk_177, xPk_ok xk_178, xPk_ok xk_179, xPk_ok xk_180, xPk_ok xk_181, xPk_ok xk_182, xPk_ok xk_183, trivial⟩
theorem x_tok : xTok := fun j q tab hq ht => xAll_ok x_all j q tab hq ht
end
section
/-! what the runs say -/
def xkc (i : Nat) : Bool := ((xT_law.drop (40 * i)).take 40).all (xOKb "RollCutterLaw" false code)
set_option maxRecDepth 100000 in
theorem xkc_0 : xkc 0 = true := by decide +kernel
set_option maxRecDepth 100000 in
theorem xkc_1 : xkc 1 = true := by decide +kernel
set_option maxRecDepth 100000 in
theorem xkc_2 : xkc 2 = true := by decide +kernel
set_option maxRecDepth 100000 in
theorem xkc_3 : xkc 3 = true := by decide +kernel
set_option maxRecDepth 100000 in
theorem xkc_4 : xkc 4 = true := by decide +kernel
set_option maxRecDepth 100000 in
theorem xkc_5 : xkc 5 = true := by decide +kernel
set_option maxRecDepth 100000 in
theorem xkc_6 : xkc 6 = true := by decide +kernel
set_option maxRecDepth 100000 in
theorem xkc_7 : xkc 7 = true := by decide +kernel
set_option maxRecDepth 100000 in
theorem xkc_8 : xkc 8 = true := by decide +kernel
set_option maxRecDepth 100000 in
theorem xkc_9 : xkc 9 = true := by decide +kernel
set_option maxRecDepth 100000 in
theorem xkc_10 : xkc 10 = true := by decide +kernel
set_option maxRecDepth 100000 in
theorem xkc_11 : xkc 11 = true := by decide +kernel
set_option maxRecDepth 100000 in
theorem xkc_12 : xkc 12 = true := by decide +kernel
set_option maxRecDepth 100000 in
theorem xkc_13 : xkc 13 = true := by decide +kernel
set_option maxRecDepth 100000 in
theorem xkc_14 : xkc 14 = true := by decide +kernel
set_option maxRecDepth 100000 in
theorem xkc_15 : xkc 15 = true := by decide +kernel
set_option maxRecDepth 100000 in
theorem xT_len : xT_law.length = 636 := by decide +kernel
theorem xkc_all : ∀ i : Nat, i < 16 → xkc i = true := by
  intro i hi
  match i, hi with
  | 0, _ => exact xkc_0
  | 1, _ => exact xkc_1
  | 2, _ => exact xkc_2
  | 3, _ => exact xkc_3
  | 4, _ => exact xkc_4
  | 5, _ => exact xkc_5
  | 6, _ => exact xkc_6
  | 7, _ => exact xkc_7
  | 8, _ => exact xkc_8
  | 9, _ => exact xkc_9
  | 10, _ => exact xkc_10
  | 11, _ => exact xkc_11
  | 12, _ => exact xkc_12
  | 13, _ => exact xkc_13
  | 14, _ => exact xkc_14
  | 15, _ => exact xkc_15
  | i + 16, h => exact absurd h (by omega)
theorem xk_lawE : ∀ en ∈ xT_law, xOK "RollCutterLaw" false code en := by
  intro en hen
  obtain ⟨i, hi⟩ := List.getElem?_of_mem hen
  have hl : i < 636 := by have := (List.getElem?_eq_some_iff.mp hi).1; rw [xT_len] at this; exact this
  have hc := xkc_all (i / 40) (by omega)
  unfold xkc at hc
  have hm : en ∈ (xT_law.drop (40 * (i / 40))).take 40 := by
    apply List.mem_of_getElem? (i := i % 40)
    rw [List.getElem?_take, if_pos (Nat.mod_lt _ (by decide)), List.getElem?_drop, Nat.div_add_mod]
    exact hi
  have h1 := List.all_eq_true.mp hc en hm
  unfold xOKb at h1
  simp only [Bool.and_eq_true, decide_eq_true_eq] at h1
  exact h1
theorem xCon_ok : ∀ {l : List (Int × Int)} {n : Int}, xCon n l = true → ∀ a : Int, n ≤ a → a < 2147483648 → ∃ q ∈ l, q.1 ≤ a ∧ a ≤ q.2
  | [], n, h, a, h1, h2 => by
    have h : decide (n = 2147483648) = true := h
    have := of_decide_eq_true h
    omega
  | q :: r, n, h, a, h1, h2 => by
    have h : (decide (q.1 = n) && (decide (q.1 ≤ q.2) && xCon (q.2 + 1) r)) = true := h
    simp only [Bool.and_eq_true, decide_eq_true_eq] at h
    obtain ⟨g1, g2, g3⟩ := h
    by_cases hq : a ≤ q.2
    · exact ⟨q, List.mem_cons_self, by omega, hq⟩
    · obtain ⟨z, hz, e1, e2⟩ := xCon_ok g3 a (by omega) h2
      exact ⟨z, List.mem_cons_of_mem _ hz, e1, e2⟩
theorem xOk_ok {c : Int} {l : List ((Int × Int) × List (Int × Int))} (h : xOk c l = true) (a b : Int) (ha : -2147483648 ≤ a ∧ a < 2147483648) (hb : -2147483648 ≤ b ∧ b < 2147483648) : ∃ ia ib : Int × Int, (ia.1 ≤ a ∧ a ≤ ia.2) ∧ (ib.1 ≤ b ∧ b ≤ ib.2) ∧ xRun c ia ib = true := by
  unfold xOk at h
  rw [Bool.and_eq_true] at h
  obtain ⟨q, hq, e1, e2⟩ := xCon_ok h.1 a ha.1 ha.2
  obtain ⟨z, hz, rfl⟩ := List.mem_map.mp hq
  have h2 := List.all_eq_true.mp h.2 z hz
  rw [Bool.and_eq_true] at h2
  obtain ⟨ib, hib, f1, f2⟩ := xCon_ok h2.1 b hb.1 hb.2
  exact ⟨z.1, ib, ⟨e1, e2⟩, ⟨f1, f2⟩, List.all_eq_true.mp h2.2 ib hib⟩
theorem xr_all : ∀ j : Nat, j < 38 → ∃ l, xOk (j : Int) l = true := by
  intro j hj
  match j, hj with
  | 0, _ => exact ⟨xo_0, by rw [show ((0 : Nat) : Int) = 0 from rfl]; exact xr_0⟩
  | 1, _ => exact ⟨xo_1, by rw [show ((1 : Nat) : Int) = 1 from rfl]; exact xr_1⟩
  | 2, _ => exact ⟨xo_2, by rw [show ((2 : Nat) : Int) = 2 from rfl]; exact xr_2⟩
  | 3, _ => exact ⟨xo_3, by rw [show ((3 : Nat) : Int) = 3 from rfl]; exact xr_3⟩
  | 4, _ => exact ⟨xo_4, by rw [show ((4 : Nat) : Int) = 4 from rfl]; exact xr_4⟩
  | 5, _ => exact ⟨xo_5, by rw [show ((5 : Nat) : Int) = 5 from rfl]; exact xr_5⟩
  | 6, _ => exact ⟨xo_6, by rw [show ((6 : Nat) : Int) = 6 from rfl]; exact xr_6⟩
  | 7, _ => exact ⟨xo_7, by rw [show ((7 : Nat) : Int) = 7 from rfl]; exact xr_7⟩
  | 8, _ => exact ⟨xo_8, by rw [show ((8 : Nat) : Int) = 8 from rfl]; exact xr_8⟩
  | 9, _ => exact ⟨xo_9, by rw [show ((9 : Nat) : Int) = 9 from rfl]; exact xr_9⟩
  | 10, _ => exact ⟨xo_10, by rw [show ((10 : Nat) : Int) = 10 from rfl]; exact xr_10⟩
  | 11, _ => exact ⟨xo_11, by rw [show ((11 : Nat) : Int) = 11 from rfl]; exact xr_11⟩
  | 12, _ => exact ⟨xo_12, by rw [show ((12 : Nat) : Int) = 12 from rfl]; exact xr_12⟩
  | 13, _ => exact ⟨xo_13, by rw [show ((13 : Nat) : Int) = 13 from rfl]; exact xr_13⟩
  | 14, _ => exact ⟨xo_14, by rw [show ((14 : Nat) : Int) = 14 from rfl]; exact xr_14⟩
  | 15, _ => exact ⟨xo_15, by rw [show ((15 : Nat) : Int) = 15 from rfl]; exact xr_15⟩
  | 16, _ => exact ⟨xo_16, by rw [show ((16 : Nat) : Int) = 16 from rfl]; exact xr_16⟩
  | 17, _ => exact ⟨xo_17, by rw [show ((17 : Nat) : Int) = 17 from rfl]; exact xr_17⟩
  | 18, _ => exact ⟨xo_18, by rw [show ((18 : Nat) : Int) = 18 from rfl]; exact xr_18⟩
  | 19, _ => exact ⟨xo_19, by rw [show ((19 : Nat) : Int) = 19 from rfl]; exact xr_19⟩
  | 20, _ => exact ⟨xo_20, by rw [show ((20 : Nat) : Int) = 20 from rfl]; exact xr_20⟩
  | 21, _ => exact ⟨xo_21, by rw [show ((21 : Nat) : Int) = 21 from rfl]; exact xr_21⟩
  | 22, _ => exact ⟨xo_22, by rw [show ((22 : Nat) : Int) = 22 from rfl]; exact xr_22⟩
  | 23, _ => exact ⟨xo_23, by rw [show ((23 : Nat) : Int) = 23 from rfl]; exact xr_23⟩
  | 24, _ => exact ⟨xo_24, by rw [show ((24 : Nat) : Int) = 24 from rfl]; exact xr_24⟩
  | 25, _ => exact ⟨xo_25, by rw [show ((25 : Nat) : Int) = 25 from rfl]; exact xr_25⟩
  | 26, _ => exact ⟨xo_26, by rw [show ((26 : Nat) : Int) = 26 from rfl]; exact xr_26⟩
  | 27, _ => exact ⟨xo_27, by rw [show ((27 : Nat) : Int) = 27 from rfl]; exact xr_27⟩
  | 28, _ => exact ⟨xo_28, by rw [show ((28 : Nat) : Int) = 28 from rfl]; exact xr_28⟩
  | 29, _ => exact ⟨xo_29, by rw [show ((29 : Nat) : Int) = 29 from rfl]; exact xr_29⟩
  | 30, _ => exact ⟨xo_30, by rw [show ((30 : Nat) : Int) = 30 from rfl]; exact xr_30⟩
  | 31, _ => exact ⟨xo_31, by rw [show ((31 : Nat) : Int) = 31 from rfl]; exact xr_31⟩
  | 32, _ => exact ⟨xo_32, by rw [show ((32 : Nat) : Int) = 32 from rfl]; exact xr_32⟩
  | 33, _ => exact ⟨xo_33, by rw [show ((33 : Nat) : Int) = 33 from rfl]; exact xr_33⟩
  | 34, _ => exact ⟨xo_34, by rw [show ((34 : Nat) : Int) = 34 from rfl]; exact xr_34⟩
  | 35, _ => exact ⟨xo_35, by rw [show ((35 : Nat) : Int) = 35 from rfl]; exact xr_35⟩
  | 36, _ => exact ⟨xo_36, by rw [show ((36 : Nat) : Int) = 36 from rfl]; exact xr_36⟩
  | 37, _ => exact ⟨xo_37, by rw [show ((37 : Nat) : Int) = 37 from rfl]; exact xr_37⟩
  | j + 38, h => exact absurd h (by omega)
theorem xFin_ok {X : Option xX} (h : xFin X = true) : ∃ (en : xE) (cs : List xE) (lv : List (Nat × Value)) (w : xW) (mc ms : Nat), X = some (en :: cs, lv, [.int 1], w, mc, ms) ∧ en.2.1 = .ireturn ∧ mc ≤ 600000 ∧ ms ≤ 7302250 := by
  unfold xFin at h
  split at h
  · rename_i en cs lv st w mc ms
    split at h
    · rename_i x hi
      simp only [Bool.and_eq_true, decide_eq_true_eq] at h
      obtain ⟨h1, h2, h3⟩ := h
      subst h1
      exact ⟨en, cs, lv, w, mc, ms, rfl, hi, Nat.le_of_ble_eq_true h2, Nat.le_of_ble_eq_true h3⟩
    · cases h
  · cases h
end
section
/-! a run of the law is a walk -/
/-! THE CLAIM OUT OF ONE WALK OF THE LAW'S BODY. Your part is whole_start (and what it stands on); all else here is the same for every law, but numbers. -/
def R_law : String := "RollCutterLaw"
def lw_P (b : Addr) (xs : List Int32) (args : Array Value) (s : State) : Prop := args = #[.ref b] ∧ s.IntsAt b xs ∧ xs.length ≤ 4 ∧ (Jvm.Cond.and given_1 narrow_1).before args s = true
def lw_Q (_ : Array Value) (s : State) (o : Outcome) (t : State) : Prop := o = .returned (some (.int 1)) ∧ Framed s o t [] 600000 7302250
def lw_Z (below : List Frame) (a : Array Value) (s : State) : State → Prop := fun t => ∃ o, t.status = .running ∧ Ended t below o ∧ lw_Q a s o t
/-- the law's own end, with 1 on the stack, nothing written that was there before, its room as the claim has it -/
theorem lw_ret {p : Program} {l : Launch} {e : Env} {s : State} {m : MethodId} {below : List Frame} {meth : Method} {c : Code} {b : Nat} (hx : p.tables.exec = Jvm.exec) (hb : c.code = code) (hr : meth.sig.returnType = ret) (hlocks : meth.locks = false) {pc : Nat} {H : Heap} {ls : Array Slot} (hdg : decode code pc = .ok (.ireturn, 1)) : W p l e room_1 s m #[Value.ref b] below meth c H [] 600000 7302250 (lw_Z below #[Value.ref b] s) (F0 m pc ls [.int 1]) := by
  intro T hT X
  obtain ⟨fs, hret, hrun, hended, hW, hframe⟩ := X.leave (v := some (.int 1)) (hlocks := hlocks) (fun h => by rw [hr] at h; cases h)
  have hmeth' : T.vm.method? m = some meth := X.method'
  refine ⟨T.setFrames fs, ?_, .returned (some (.int 1)), hrun, hended, rfl, ⟨_, rfl⟩, hW, hframe⟩
  jvm_step X.here [X.here.top, hx, hb, hdg, hmeth', hr, ret, narrow_b1]
  (try refine ⟨rfl, ?_⟩); (try refine ⟨rfl, ?_⟩)
  first | (intro acts; rw [hret _ acts rfl rfl rfl]) | rw [hret _ _ rfl rfl rfl]
  exact Steps.refl _
/-- what holds at the law's entry: the machine, the code, the tables' words (any of lw_tbl by 'hts w (by decide +kernel)'), the script of L ints xs at the cell b, what the Statement gives of the start (any of its parts by flat_of_before) -/
def lw_At (p : Program) (s : State) (m : MethodId) (meth : Method) (c : Code) (b L : Nat) (xs : Nat → Int32) : Prop :=
  p.tables.exec = Jvm.exec ∧ c.code = code ∧ meth.sig.returnType = ret ∧ c.maxLocals = 4 ∧ s.vm.findClass R_law = some m.cls ∧ (∀ w ∈ lw_tbl, w.before #[Value.ref b] s = true) ∧ va_X b L xs s s.heap ∧ b < s.heap.size ∧ meth.locks = false ∧ (Jvm.Cond.and given_1 narrow_1).before #[Value.ref b] s = true
section XLAW
variable {p : Program} {l : Launch} {e : Env} {s : State} {m : MethodId} {below : List Frame} {meth : Method} {c : Code} {b : Nat} {ev : Nat → Int32} {sa : Nat → Nat} {cA : Nat → ClassId} {D : va_G} {ivs : List (Int × Int)} {L : Nat}
theorem x_lawrun {cs : List xE} {lv : List (Nat × Value)} {st : List Value} {w : xW} {mc ms : Nat} (C0 : xCx p room_1 s m #[Value.ref b] meth c "RollCutterLaw" code 4 false s.heap.size ev cA D ivs 20 sa (some L)) (hr : meth.sig.returnType = ret) (hlocks : meth.locks = false) (hcs : ∀ q ∈ cs, xOK "RollCutterLaw" false code q) (h : xFin (xLaw L ivs (cs, lv, st, w, mc, ms)) = true) : xGd p l e room_1 s m #[Value.ref b] below meth c (lw_Z below #[Value.ref b] s) 4 s.heap.size ev sa cA D cs lv st w mc ms := by
  obtain ⟨en, cs1, lv1, w1, mc1, ms1, hX, hi, hmc, hms⟩ := xFin_ok h
  obtain ⟨g1, g2⟩ := xGo_ok (Q := lw_Z below #[Value.ref b] s) (below := below) (l := l) (e := e) C0 (xCall_ok C0.2.2.2.2.2.2.2.2.1 x_tok 20) (Nat.le_refl 600000) (Nat.le_refl 7302250) xk_lawE 4000 hcs hX
  refine g2 ?_
  obtain ⟨hd, hln, -⟩ := g1 en List.mem_cons_self
  intro H locs ls h1 h2 h3 h4
  refine W.widen hmc hms ?_
  refine va_forget (fun q hq => h3.2.2 q hq) ?_
  obtain ⟨pc, ins, len, a1, a2, a3⟩ := en
  dsimp only at hi hd hln
  subst hi
  have hln : len = 1 := xlen hln
  subst hln
  exact lw_ret C0.1 C0.2.1 hr hlocks hd
end XLAW
end
section
/-! the texts at the start -/
theorem x_five {P : Nat → Prop} (h0 : P 0) (h1 : P 1) (h2 : P 2) (h3 : P 3) (h4 : P 4) : ∀ i : Nat, i < 5 → P i := by
  intro i hi
  have h5 : i = 0 ∨ i = 1 ∨ i = 2 ∨ i = 3 ∨ i = 4 := by omega
  rcases h5 with rfl | rfl | rfl | rfl | rfl
  · exact h0
  · exact h1
  · exact h2
  · exact h3
  · exact h4
def x_tm (i : Nat) : Term := .string "RollCutter$Condition" ((xstr.getD i (0, "")).1)
theorem x_arr {s : State} {args : Array Value} {ty : FieldType} (h : (Cond.arrayClass ty).before args s = true) : ∃ c0 : ClassId, ArrOfT s c0 ty ∧ s.vm.findClass ("[" ++ ty.toString) = some c0 := by
  obtain ⟨c0, k0, comp, h1, h2, h3⟩ := Cond.arrayClass_spec h
  exact ⟨c0, fun n z => ⟨fun k hk => (by cases hk), k0, h2, comp, h3⟩, h1⟩
set_option maxHeartbeats 4000000 in
set_option maxRecDepth 100000 in
theorem x_strof {s : State} {b : Nat} (hts : ∀ w ∈ lw_tbl, w.before #[Value.ref b] s = true) (hgv : (Jvm.Cond.and given_1 narrow_1).before #[Value.ref b] s = true) (hF : mz_F s) : ∃ sa : Nat → Nat, sa 5 = b ∧ xStr s.heap.size sa s s.heap := by
  have hs := flat_of_before _ hgv
  have hA : ∀ a : Nat, a < s.heap.size → ¬ (fun q : Nat => s.heap.size ≤ q) a := fun a h => Nat.not_le.mpr h
  have hex : ∀ i : Nat, i < 5 → (Cond.exactly (x_tm i) "java/lang/String").before #[Value.ref b] s = true := x_five (hs _ (by decide +kernel)) (hs _ (by decide +kernel)) (hs _ (by decide +kernel)) (hs _ (by decide +kernel)) (hs _ (by decide +kernel))
  have hco : ∀ i : Nat, i < 5 → (Cond.eq (.field (x_tm i) "java/lang/String" "coder" "B") (.int 0)).before #[Value.ref b] s = true := x_five (hs _ (by decide +kernel)) (hs _ (by decide +kernel)) (hs _ (by decide +kernel)) (hs _ (by decide +kernel)) (hs _ (by decide +kernel))
  have har : ∀ i : Nat, i < 5 → (Cond.arrayOf (.field (x_tm i) "java/lang/String" "value" "[B") .byte).before #[Value.ref b] s = true := x_five (hs _ (by decide +kernel)) (hs _ (by decide +kernel)) (hs _ (by decide +kernel)) (hs _ (by decide +kernel)) (hs _ (by decide +kernel))
  have hle : ∀ i : Nat, i < 5 → (Cond.eq (.length (.field (x_tm i) "java/lang/String" "value" "[B")) (.int (Int32.ofNat (xsl.getD i 0)))).before #[Value.ref b] s = true := x_five (hs _ (by decide +kernel)) (hs _ (by decide +kernel)) (hs _ (by decide +kernel)) (hs _ (by decide +kernel)) (hs _ (by decide +kernel))
  have hel1 : ∀ i : Nat, i < 5 → (∀ j : Nat, j < 6 → j < xsl.getD i 0 → (Cond.eq (.elem (.field (x_tm i) "java/lang/String" "value" "[B") (.int (Int32.ofNat j))) (.int ((xsb.getD i []).getD j 0))).before #[Value.ref b] s = true) := by
    intro i hi j hj hl
    have h5 : i = 0 ∨ i = 1 ∨ i = 2 ∨ i = 3 ∨ i = 4 := by omega
    have h6 : j = 0 ∨ j = 1 ∨ j = 2 ∨ j = 3 ∨ j = 4 ∨ j = 5 := by omega
    rcases h5 with rfl | rfl | rfl | rfl | rfl <;> rcases h6 with rfl | rfl | rfl | rfl | rfl | rfl <;> first | exact hs _ (by decide +kernel) | exact absurd hl (by decide)
  have hel : ∀ i : Nat, i < 5 → ∀ j : Nat, j < xsl.getD i 0 → (Cond.eq (.elem (.field (x_tm i) "java/lang/String" "value" "[B") (.int (Int32.ofNat j))) (.int ((xsb.getD i []).getD j 0))).before #[Value.ref b] s = true := by
    intro i hi j hj
    have h6 : xsl.getD i 0 ≤ 6 := x_five (P := fun i => xsl.getD i 0 ≤ 6) (by decide) (by decide) (by decide) (by decide) (by decide) i hi
    exact hel1 i hi j (by omega) hj
  have hne : ∀ i j : Nat, i < 5 → j < 5 → i ≠ j → (Cond.not (Cond.eq (x_tm i) (x_tm j))).before #[Value.ref b] s = true ∨ (Cond.not (Cond.eq (x_tm j) (x_tm i))).before #[Value.ref b] s = true := by
    intro i j hi hj hij
    have h5 : i = 0 ∨ i = 1 ∨ i = 2 ∨ i = 3 ∨ i = 4 := by omega
    have h6 : j = 0 ∨ j = 1 ∨ j = 2 ∨ j = 3 ∨ j = 4 := by omega
    rcases h5 with rfl | rfl | rfl | rfl | rfl <;> rcases h6 with rfl | rfl | rfl | rfl | rfl <;> first | exact absurd rfl hij | exact Or.inl (hs _ (by decide +kernel)) | exact Or.inr (hs _ (by decide +kernel))
  obtain ⟨sa0, adV, hV, hev⟩ := vk_Sof (N := 5) (tm := x_tm) (len := xsl) (byt := xsb) (A := fun q => s.heap.size ≤ q) (x_five (P := fun i => xsl.getD i 0 < 2 ^ 31) (by decide) (by decide) (by decide) (by decide) (by decide)) hex hco har hle hel hne hA
  obtain ⟨sa, hsd⟩ : ∃ sa : Nat → Nat, sa = fun k => if k < 5 then sa0 k else b := ⟨_, rfl⟩
  have hsa : ∀ i : Nat, i < 5 → sa i = sa0 i := fun i hi => by rw [hsd]; exact if_pos hi
  have hs5 : sa 5 = b := by rw [hsd]; exact if_neg (by decide)
  refine ⟨sa, hs5, va_Zof (hts _ (List.mem_of_getElem? (i := 1002) (by decide +kernel))) (hts _ (List.mem_of_getElem? (i := 98) (by decide +kernel))) (va_eqi (hs _ (by decide +kernel))) hA, ⟨adV, fun i hi => ?_, fun i j hi hj he => ?_⟩, fun k q hq => ?_, hF⟩
  · rw [hsa i hi]
    exact hV.1 i hi
  · rw [hsa i hi, hsa j hj] at he
    exact hV.2 i j hi hj he
  · have hk : k < 5 := (List.getElem?_eq_some_iff.mp hq).1
    rw [hsa k hk]
    have hw : ∀ i : Nat, i < 5 → ∀ q : Nat × String, xstr[i]? = some q → (Cond.stringRef "RollCutter$Condition" q.1 q.2).before #[Value.ref b] s = true := x_five (fun q h => by cases h; exact hts _ (List.mem_of_getElem? (i := 988) (by decide +kernel))) (fun q h => by cases h; exact hts _ (List.mem_of_getElem? (i := 1041) (by decide +kernel))) (fun q h => by cases h; exact hts _ (List.mem_of_getElem? (i := 1042) (by decide +kernel))) (fun q h => by cases h; exact hts _ (List.mem_of_getElem? (i := 1043) (by decide +kernel))) (fun q h => by cases h; exact hts _ (List.mem_of_getElem? (i := 1044) (by decide +kernel)))
    have ht : ∀ i : Nat, i < 5 → ∀ q : Nat × String, xstr[i]? = some q → x_tm i = .string "RollCutter$Condition" q.1 := x_five (fun q h => by cases h; rfl) (fun q h => by cases h; rfl) (fun q h => by cases h; rfl) (fun q h => by cases h; rfl) (fun q h => by cases h; rfl)
    have h2 := hev k hk
    rw [ht k hk q hq] at h2
    exact vk_R.of (hw k hk q hq) h2
end
section
/-! the law, and the claim out of it -/
set_option maxHeartbeats 4000000 in
set_option maxRecDepth 100000 in
/-- from the entry, for every script of at most 4 ints, the law comes to its end with true -/
theorem whole_start {p : Program} {e : Env} {s : State} {m : MethodId} {below : List Frame} {meth : Method} {c : Code} (l : Launch) (hflags : l.flags = flags0) {b L : Nat} {xs : Nat → Int32} (hL : L ≤ 4) (C0 : lw_At p s m meth c b L xs) : W p l e room_1 s m #[Value.ref b] below meth c s.heap [] 0 0 (lw_Z below #[Value.ref b] s) (entryFrame m ([Value.ref b] : List Value).toArray 4) := by
  obtain ⟨hx, hb, hr, hml, hown, hts0, hX, hbl, hlocks, hgv⟩ := C0
  have hts : ∀ w ∈ xT, w.before #[Value.ref b] s = true := fun w hw => hts0 w (List.mem_filter.mp hw).1
  have hNw : ∀ w ∈ xN, va_Nw w s := fun w hw => va_Nw.of (xNb_on (List.mem_filter.mp hw).2) (hts0 w (List.mem_filter.mp hw).1)
  have hF : mz_F s := mz_over (hts0 (Cond.arrayOver (.array .long)) (List.mem_of_getElem? (i := 213) (by decide +kernel)))
  obtain ⟨c0, a0, n0⟩ := x_arr (hts0 (Cond.arrayClass .int) (List.mem_of_getElem? (i := 170) (by decide +kernel)))
  obtain ⟨c1, a1, n1⟩ := x_arr (hts0 (Cond.arrayClass .long) (List.mem_of_getElem? (i := 205) (by decide +kernel)))
  obtain ⟨c2, a2, n2⟩ := x_arr (hts0 (Cond.arrayClass .byte) (List.mem_of_getElem? (i := 1064) (by decide +kernel)))
  obtain ⟨c3, a3, n3⟩ := x_arr (hts0 (Cond.arrayClass .boolean) (List.mem_of_getElem? (i := 425) (by decide +kernel)))
  obtain ⟨comp, c4, k4, f1, f2, f3, f4⟩ := id hF
  have a4 : ArrOfT s c4 (.array .long) := fun n z => ⟨fun k hk => (by cases hk), k4, f2, comp, f3⟩
  obtain ⟨D, hD⟩ : ∃ D : va_G, ∀ (k : Nat) (q : vw_C), xcl[k]? = some q → u_Kn s q.1 q.2.1 q.2.2 (D.1 k) (D.2 k) := by
    have h0 : ∀ k : Nat, ∃ z : ClassId × (Nat → Nat), ∀ q : vw_C, xcl[k]? = some q → u_Kn s q.1 q.2.1 q.2.2 z.1 z.2 := by
      intro k
      cases hq : xcl[k]? with
      | none => exact ⟨(c0, fun _ => 0), fun q h => by cases h⟩
      | some q =>
        obtain ⟨ty, fs, -, -, q1, -, -, -, -, -, q7, -⟩ := x_cls k q hq
        obtain ⟨cC, iS, hK⟩ := u_known hts q1 (hts _ q7)
        exact ⟨(cC, iS), fun q' h => by cases h; exact hK⟩
    obtain ⟨f, hf⟩ := Classical.axiomOfChoice h0
    exact ⟨(fun k => (f k).1, fun k => (f k).2), hf⟩
  obtain ⟨sa, hsa, hXs⟩ := x_strof hts0 hgv hF
  have hK : va_K D xcl (xTy (fun k => if k = 0 then c0 else if k = 1 then c1 else if k = 2 then c2 else if k = 3 then c3 else c4)) s := by
    refine ⟨hD, fun k q hk => ?_⟩
    match k, hk with
    | 0, hk => cases hk; exact ⟨a0, n0⟩
    | 1, hk => cases hk; exact ⟨a1, n1⟩
    | 2, hk => cases hk; exact ⟨a2, n2⟩
    | 3, hk => cases hk; exact ⟨a3, n3⟩
    | 4, hk => cases hk; exact ⟨a4, f4⟩
    | k + 5, hk => simp [xTy] at hk
  generalize (fun k : Nat => if k = 0 then c0 else if k = 1 then c1 else if k = 2 then c2 else if k = 3 then c3 else c4) = cA at hK
  obtain ⟨ev, hev⟩ : ∃ ev : Nat → Int32, ev = fun k => if k < 4 then xs k else if k = 4 then xs 0 &&& 63 else 0 := ⟨_, rfl⟩
  have h63 : ev 4 = ev 0 &&& 63 := by rw [hev]; rfl
  have hXv : va_X (sa 5) L ev s s.heap := by
    obtain ⟨scr, g1, g2, g3, g4, g5⟩ := hX
    rw [hsa]
    refine ⟨scr, g1, g2, g3, g4, fun j hj => ?_⟩
    rw [g5 j hj, hev]
    show _ = some (Value.int (if j < 4 then xs j else if j = 4 then xs 0 &&& 63 else 0))
    rw [if_pos (by omega)]
  have hroom : 20 + 2 ≤ room_1.frames ∧ 40 * (20 + 2) ≤ room_1.locals := ⟨by decide +kernel, by decide +kernel⟩
  have hown2 : s.vm.findClass "RollCutterLaw" = some m.cls := hown
  have hscr : ∀ L' : Nat, some L = some L' → va_X (sa 5) L' ev s s.heap ∧ sa 5 < s.heap.size ∧ ¬ s.heap.size ≤ sa 5 := by
    intro L' hL'
    have hL' := Option.some.inj hL'
    subst hL'
    exact ⟨hXv, by rw [hsa]; exact hbl, by rw [hsa]; exact Nat.not_le.mpr hbl⟩
  have hini : false = true → meth.name = "<init>" := fun h => by cases h
  have CX : ∀ ivs : List (Int × Int), (∀ (k : Nat) (q : Int × Int), ivs[k]? = some q → q.1 ≤ (ev k).toInt ∧ (ev k).toInt ≤ q.2) → xCx p room_1 s m #[Value.ref b] meth c "RollCutterLaw" code 4 false s.heap.size ev cA D ivs 20 sa (some L) := by
    intro ivs hi
    unfold xCx
    exact ⟨hx, hb, hml, hown2, hts, hK, Nat.le_refl _, hini, ⟨hi, h63⟩, hroom, hscr, hNw, hXs⟩
  have hbd : ∀ k : Nat, -2147483648 ≤ (ev k).toInt ∧ (ev k).toInt < 2147483648 := fun k => ⟨by have := Int32.le_toInt (ev k); omega, by have := Int32.toInt_lt (ev k); omega⟩
  have key : xGd p l e room_1 s m #[Value.ref b] below meth c (lw_Z below #[Value.ref b] s) 4 s.heap.size ev sa cA D xT_law [(0, .retAddr 5)] [] [] 0 0 := by
    have hnil : ∀ (k : Nat) (q : Int × Int), ([] : List (Int × Int))[k]? = some q → q.1 ≤ (ev k).toInt ∧ (ev k).toInt ≤ q.2 := fun k q h => by simp at h
    have h5 : L = 0 ∨ L = 1 ∨ L = 2 ∨ L = 3 ∨ L = 4 := by omega
    rcases h5 with rfl | rfl | rfl | rfl | rfl
    · exact x_lawrun (CX [] hnil) hr hlocks xk_lawE xr_L0
    · exact x_lawrun (CX [] hnil) hr hlocks xk_lawE xr_L1
    · exact x_lawrun (CX [] hnil) hr hlocks xk_lawE xr_L2
    · exact x_lawrun (CX [] hnil) hr hlocks xk_lawE xr_L3
    · obtain ⟨g1, g2⟩ := xGo_ok (Q := lw_Z below #[Value.ref b] s) (below := below) (l := l) (e := e) (CX [] hnil) (xCall_ok (CX [] hnil).2.2.2.2.2.2.2.2.1 x_tok 20) (Nat.le_refl 600000) (Nat.le_refl 7302250) xk_lawE 10 xk_lawE xr_pre
      refine g2 ?_
      obtain ⟨j, hj, hjx⟩ := pk_andE (ev 0) (m := 63) 6 (by decide)
      have hj4 : (ev 4).toInt = (j : Int) := by rw [h63, hjx, nI_toInt (by omega)]
      rcases Nat.lt_or_ge j 38 with hj38 | hj38
      · obtain ⟨lr, hlr⟩ := xr_all j hj38
        obtain ⟨ia, ib, ha, hb9, hrun⟩ := xOk_ok hlr (ev 1).toInt (ev 2).toInt (hbd 1) (hbd 2)
        refine x_lawrun (CX [xAny, ia, ib, xAny, ((j : Int), (j : Int))] (fun k q hq => ?_)) hr hlocks g1 hrun
        match k, hq with
        | 0, hq => cases hq; exact ⟨(hbd 0).1, by have := (hbd 0).2; show _ ≤ (2147483647 : Int); omega⟩
        | 1, hq => cases hq; exact ha
        | 2, hq => cases hq; exact hb9
        | 3, hq => cases hq; exact ⟨(hbd 3).1, by have := (hbd 3).2; show _ ≤ (2147483647 : Int); omega⟩
        | 4, hq => cases hq; exact ⟨by show (j : Int) ≤ _; omega, by show _ ≤ (j : Int); omega⟩
        | k + 5, hq => simp at hq
      · refine x_lawrun (CX [xAny, xAny, xAny, xAny, (38, 63)] (fun k q hq => ?_)) hr hlocks g1 xr_def
        match k, hq with
        | 0, hq => cases hq; exact ⟨(hbd 0).1, by have := (hbd 0).2; show _ ≤ (2147483647 : Int); omega⟩
        | 1, hq => cases hq; exact ⟨(hbd 1).1, by have := (hbd 1).2; show _ ≤ (2147483647 : Int); omega⟩
        | 2, hq => cases hq; exact ⟨(hbd 2).1, by have := (hbd 2).2; show _ ≤ (2147483647 : Int); omega⟩
        | 3, hq => cases hq; exact ⟨(hbd 3).1, by have := (hbd 3).2; show _ ≤ (2147483647 : Int); omega⟩
        | 4, hq => cases hq; exact ⟨by show (38 : Int) ≤ _; omega, by show _ ≤ (63 : Int); omega⟩
        | k + 5, hq => simp at hq
  have hl := lv_entry ([.ref b]) (n := 4) (Nat.le_of_ble_eq_true rfl)
  rw [lg_entry_eq]
  generalize (lg_sl ([.ref b]) ++ List.replicate (4 - (lg_sl ([.ref b])).length) Slot.unset).toArray = ls at hl ⊢
  have hl : lv_has ls 4 [(0, .ref b)] := hl
  refine key s.heap [] ls (by show s.heap.size + 0 = s.heap.size + 0; rfl) (fun k q h => by simp [xWd] at h) va_S.rf ?_
  show lv_has ls 4 [(0, .ref (sa 5))]
  rw [hsa]
  exact hl
-- ===== YOUR PART ENDS =====
set_option maxHeartbeats 4000000 in
theorem lw_walk (l : Launch) (hflags : l.flags = flags0) (b : Addr) (xs : List Int32) : MetFree l x (headSpec (Jvm.Cond.code x code maxLocals ret :: tables_1) room_1) (lw_P b xs) (fun _ _ _ _ _ => True) lw_Q := by
  refine MetFree.of_bodyS (code := code) (maxLocals := maxLocals) (ret := ret) (by decide) ?_ ?_
  · intro args s m h hn
    obtain ⟨meth, c, h1, h2, h3, h4, h5, h6, -, -⟩ := Cond.code_spec hn (atoms_spec (ws := Jvm.Cond.code x code maxLocals ret :: tables_1) h _ List.mem_cons_self)
    exact ⟨meth, c, h1, h2, h3, h4, h5, h6⟩
  · intro p e s m args below meth c s₁ B hml0 hP _
    obtain ⟨rfl, hx, hbd, hgv⟩ := hP
    obtain ⟨scr, harrAt, hlist, hof, hsmall⟩ := hx
    obtain ⟨hcb, hkn, -, -⟩ := State.arrayAt?_spec harrAt
    have hown : s.vm.findClass R_law = some m.cls := findClass_of_methodNamed B.named
    have hts0 : ∀ c ∈ (Jvm.Cond.code x code maxLocals ret :: tables_1), c.before #[Value.ref b] s = true := atoms_spec (ws := Jvm.Cond.code x code maxLocals ret :: tables_1) B.pre
    have hts : ∀ w ∈ lw_tbl, w.before #[Value.ref b] s = true := k2_hts_sels lw_privs (fun w hw => hts0 w (List.mem_cons_of_mem _ hw)) lw_privs_ok
    have hml : c.maxLocals = 4 := B.maxLocals_eq (hts0 _ List.mem_cons_self)
    have X₀ : Stand p l e room_1 s m #[Value.ref b] below meth c s₁ [] 0 0 := Stand.of_body B
    have hh0 : s₁.heap = s.heap := by rw [B.state]; rfl
    have hsz : scr.slots.size = xs.length := by rw [← Array.length_toList, hlist, List.length_map]
    have hval : ∀ j : Nat, j < xs.length → scr.slots[j]? = some (.int (xs.getD j 0)) := fun j hj => by
      rw [← Array.getElem?_toList, hlist]
      simp [hj]
    have hbl : b < s.heap.size := (Array.getElem?_eq_some_iff.mp hcb).1
    have hX : va_X b xs.length (fun j => xs.getD j 0) s s.heap := ⟨scr, hcb, hof, hkn, hsz, hval⟩
    have K : W p l e room_1 s m #[Value.ref b] below meth c s₁.heap [] 0 0 (lw_Z below #[Value.ref b] s) (entryFrame m ([Value.ref b] : List Value).toArray 4) := by
      rw [hh0]
      exact whole_start l hflags hbd ⟨B.exec, B.bytes, B.returns, hml, hown, hts, hX, hbl, B.notSynchronized, hgv⟩
    obtain ⟨t, a1, o, b1, b2, b3⟩ := K s₁ rfl X₀
    exact ⟨t, o, a1, b1, b2, b3⟩
theorem lw_pre_spec {args : Array Value} {s : State} (h : (Jvm.Cond.and given_1 narrow_1).before args s = true) (hr : rest_1_c.before args s = true) : ∃ (b : Addr) (xs : List Int32), lw_P b xs args s := by
  have hs := flat_of_before _ h
  have hq := flat_of_before _ hr
  have hc : (Cond.count 1).before args s = true := hs _ (by decide +kernel)
  have harr : (Cond.arrayOf (.arg 0) .int).before args s = true := hs _ (by decide +kernel)
  have hle : (Cond.le (.length (.arg 0)) (.int 4)).before args s = true := hs _ (by decide +kernel)
  have hlen : (Cond.isInt (.length (.arg 0))).before args s = true := hq _ (by decide +kernel)
  have hall : (Cond.all (.arg 0) (.isInt (.elem (.arg 0) (.index 0)))).before args s = true := hq _ (by decide +kernel)
  obtain ⟨b, xs, hb, hx⟩ := State.ints_of_pre rfl harr hlen hall
  have hsm : xs.length < 2 ^ 31 := hx.choose_spec.2.2.2
  have hev : (Term.length (.arg 0)).eval args s none [] s = some (.int xs.length.toInt32) := hx.length_eval hb
  have hv := Cond.le_ints hev (show (Term.int 4).eval args s none [] s = some (.int 4) from rfl)
  have hd : xs.length.toInt32 ≤ 4 := by
    simpa [Cond.before, Cond.holds, hv] using hle
  have hN : xs.length ≤ 4 := (Int32.ofNat_le_ofNat hsm (by decide)).mp (show Int32.ofNat xs.length ≤ Int32.ofNat 4 from hd)
  exact ⟨b, xs, Cond.one_arg hc (show args[0]? = some (.ref b) from hb), hx, hN, h⟩
theorem lw_comes (l : Launch) (hflags : l.flags = flags0) : Comes l x (Jvm.Cond.code x code maxLocals ret :: tables_1) room_1 (fun tb e args s => Calls_1 tb e args s ∧ rest_1 tb e args s ∧ Pre_1 tb e args s)
    (fun _ _ args s o t => lw_Q args s o t) := by
  intro p e ha hc hk s m args below hf hfit hheap happ hpre
  obtain ⟨b, xs, hP⟩ := lw_pre_spec hpre.2.2 hpre.2.1
  obtain ⟨k, o, h1, h2, h3, hQ⟩ := lw_walk l hflags b xs p e ha hc hk s m args below hf ((Spec.applies_iff_loose hf).mp happ).1 hP trivial
  exact ⟨k, o, h1, h2, h3, hQ⟩
theorem lw_frame {s t : State} {o : Outcome} {args : Array Value} (h : Framed s o t [] 600000 7302250) :
    Framed s o t (fieldLocs frame_1_writes args s ++ arrayLocs frame_1_arrays args s ++ staticLocs frame_1_statics s) 600000 7302250 := h
theorem lw_limb (L : Cond) (hL : ∀ (args : Array Value) (s t : State), L.after args s (.returned (some (.int 1))) t = true) :
    ArmFor flags0 classFile x code maxLocals ret World_1 tables_1 room_1 Calls_1 rest_1 Pre_1
      (fun tb e a s o t => postC L tb e a s o t ∧ Framed s o t (fieldLocs frame_1_writes a s ++ arrayLocs frame_1_arrays a s ++ staticLocs frame_1_statics s) 600000 7302250) := by
  intro l hflags _ _ p e ha hc hk s m args below hf hfit hheap happ hpre
  obtain ⟨k, o, h1, h2, h3, rfl, hF⟩ := lw_comes l hflags p e ha hc hk s m args below hf hfit hheap happ hpre
  exact ⟨k, _, h1, h2, h3, hL args s _, lw_frame hF⟩
theorem i_vc : Claimed_1_1 ∧ Claimed_1_2 := ⟨lw_limb limb_1_1 (fun args s t => by simp [limb_1_1, Cond.after, Cond.holds, Cond.value]), lw_limb limb_1_2 (fun args s t => Cond.after_iff.mpr (by
  first | (rw [show limb_1_2 = Cond.eq .result (.int 1) from rfl, Cond.eq_ints (x := 1) (y := 1) rfl rfl]; simp; done) | (simp [limb_1_2, Cond.value, Term.eval]; done)))⟩
end
