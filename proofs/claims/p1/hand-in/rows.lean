section
-- ===== PART A: goes FIRST, ahead of the names: the tables' words, and 'selects' of the private methods out of them =====
/-- a private method of a class that the tables say can be made, by its rows of tables_1 -/
def lw_okq (q : MethodName × Nat) : Prop := (q.1.cls ≠ "java/lang/invoke/MethodHandle" ∧ q.1.cls ≠ "java/lang/invoke/VarHandle") ∧ Cond.instantiable q.1.cls q.2 ∈ tables_1 ∧ Cond.privateMethod q.1 ∈ tables_1 ∧ Cond.instanceMethod q.1 ∈ tables_1
theorem lw_p0 : lw_okq (⟨"LoadsAhead$Law", "readRule", "(LLoadsAhead$Tape;I)Z"⟩, 9) := ⟨⟨by decide +kernel, by decide +kernel⟩, List.mem_of_getElem? (i := 127) (by decide +kernel), List.mem_of_getElem? (i := 403) (by decide +kernel), List.mem_of_getElem? (i := 404) (by decide +kernel)⟩
theorem lw_p1 : lw_okq (⟨"LoadsAhead$Law", "readSum", "(LLoadsAhead$Tape;I)Z"⟩, 9) := ⟨⟨by decide +kernel, by decide +kernel⟩, List.mem_of_getElem? (i := 127) (by decide +kernel), List.mem_of_getElem? (i := 419) (by decide +kernel), List.mem_of_getElem? (i := 420) (by decide +kernel)⟩
theorem lw_p2 : lw_okq (⟨"LoadsAhead$Law", "readProduct", "(LLoadsAhead$Tape;I)Z"⟩, 9) := ⟨⟨by decide +kernel, by decide +kernel⟩, List.mem_of_getElem? (i := 127) (by decide +kernel), List.mem_of_getElem? (i := 423) (by decide +kernel), List.mem_of_getElem? (i := 424) (by decide +kernel)⟩
theorem lw_p3 : lw_okq (⟨"LoadsAhead$Law", "readFactor", "(LLoadsAhead$Tape;I)Z"⟩, 9) := ⟨⟨by decide +kernel, by decide +kernel⟩, List.mem_of_getElem? (i := 127) (by decide +kernel), List.mem_of_getElem? (i := 427) (by decide +kernel), List.mem_of_getElem? (i := 428) (by decide +kernel)⟩
theorem lw_p4 : lw_okq (⟨"LoadsAhead$Law", "addStep", "(II)I"⟩, 9) := ⟨⟨by decide +kernel, by decide +kernel⟩, List.mem_of_getElem? (i := 127) (by decide +kernel), List.mem_of_getElem? (i := 449) (by decide +kernel), List.mem_of_getElem? (i := 450) (by decide +kernel)⟩
theorem lw_p5 : lw_okq (⟨"LoadsAhead$Law", "readEither", "(LLoadsAhead$Tape;I)Z"⟩, 9) := ⟨⟨by decide +kernel, by decide +kernel⟩, List.mem_of_getElem? (i := 127) (by decide +kernel), List.mem_of_getElem? (i := 531) (by decide +kernel), List.mem_of_getElem? (i := 532) (by decide +kernel)⟩
theorem lw_p6 : lw_okq (⟨"LoadsAhead$Law", "readBoth", "(LLoadsAhead$Tape;I)Z"⟩, 9) := ⟨⟨by decide +kernel, by decide +kernel⟩, List.mem_of_getElem? (i := 127) (by decide +kernel), List.mem_of_getElem? (i := 535) (by decide +kernel), List.mem_of_getElem? (i := 536) (by decide +kernel)⟩
theorem lw_p7 : lw_okq (⟨"LoadsAhead$Law", "readTest", "(LLoadsAhead$Tape;I)Z"⟩, 9) := ⟨⟨by decide +kernel, by decide +kernel⟩, List.mem_of_getElem? (i := 127) (by decide +kernel), List.mem_of_getElem? (i := 539) (by decide +kernel), List.mem_of_getElem? (i := 540) (by decide +kernel)⟩
theorem lw_p8 : lw_okq (⟨"LoadsAhead$Law", "skipToHere", "(I)V"⟩, 9) := ⟨⟨by decide +kernel, by decide +kernel⟩, List.mem_of_getElem? (i := 127) (by decide +kernel), List.mem_of_getElem? (i := 543) (by decide +kernel), List.mem_of_getElem? (i := 544) (by decide +kernel)⟩
theorem lw_p9 : lw_okq (⟨"LoadsAhead$Program", "readOp", "(LLoadsAhead$Tape;I)Z"⟩, 13) := ⟨⟨by decide +kernel, by decide +kernel⟩, List.mem_of_getElem? (i := 59) (by decide +kernel), List.mem_of_getElem? (i := 574) (by decide +kernel), List.mem_of_getElem? (i := 575) (by decide +kernel)⟩
theorem lw_p10 : lw_okq (⟨"LoadsAhead$Program", "readGiven", "(LLoadsAhead$Tape;I)Z"⟩, 13) := ⟨⟨by decide +kernel, by decide +kernel⟩, List.mem_of_getElem? (i := 59) (by decide +kernel), List.mem_of_getElem? (i := 584) (by decide +kernel), List.mem_of_getElem? (i := 585) (by decide +kernel)⟩
theorem lw_p11 : lw_okq (⟨"LoadsAhead$Program", "readNumber", "(LLoadsAhead$Tape;I)Z"⟩, 13) := ⟨⟨by decide +kernel, by decide +kernel⟩, List.mem_of_getElem? (i := 59) (by decide +kernel), List.mem_of_getElem? (i := 593) (by decide +kernel), List.mem_of_getElem? (i := 594) (by decide +kernel)⟩
theorem lw_p12 : lw_okq (⟨"LoadsAhead$Program", "readReckoning", "(LLoadsAhead$Tape;I)Z"⟩, 13) := ⟨⟨by decide +kernel, by decide +kernel⟩, List.mem_of_getElem? (i := 59) (by decide +kernel), List.mem_of_getElem? (i := 598) (by decide +kernel), List.mem_of_getElem? (i := 599) (by decide +kernel)⟩
theorem lw_p13 : lw_okq (⟨"LoadsAhead$Program", "readMove", "(LLoadsAhead$Tape;I)Z"⟩, 13) := ⟨⟨by decide +kernel, by decide +kernel⟩, List.mem_of_getElem? (i := 59) (by decide +kernel), List.mem_of_getElem? (i := 602) (by decide +kernel), List.mem_of_getElem? (i := 603) (by decide +kernel)⟩
theorem lw_p14 : lw_okq (⟨"LoadsAhead$Program", "findSources", "()V"⟩, 13) := ⟨⟨by decide +kernel, by decide +kernel⟩, List.mem_of_getElem? (i := 59) (by decide +kernel), List.mem_of_getElem? (i := 611) (by decide +kernel), List.mem_of_getElem? (i := 612) (by decide +kernel)⟩
theorem lw_p15 : lw_okq (⟨"LoadsAhead$Program", "giverOfRegister", "(I)I"⟩, 13) := ⟨⟨by decide +kernel, by decide +kernel⟩, List.mem_of_getElem? (i := 59) (by decide +kernel), List.mem_of_getElem? (i := 616) (by decide +kernel), List.mem_of_getElem? (i := 617) (by decide +kernel)⟩
def lw_privs_1 : List (MethodName × Nat) := [(⟨"LoadsAhead$Law", "readRule", "(LLoadsAhead$Tape;I)Z"⟩, 9), (⟨"LoadsAhead$Law", "readSum", "(LLoadsAhead$Tape;I)Z"⟩, 9), (⟨"LoadsAhead$Law", "readProduct", "(LLoadsAhead$Tape;I)Z"⟩, 9), (⟨"LoadsAhead$Law", "readFactor", "(LLoadsAhead$Tape;I)Z"⟩, 9), (⟨"LoadsAhead$Law", "addStep", "(II)I"⟩, 9), (⟨"LoadsAhead$Law", "readEither", "(LLoadsAhead$Tape;I)Z"⟩, 9), (⟨"LoadsAhead$Law", "readBoth", "(LLoadsAhead$Tape;I)Z"⟩, 9), (⟨"LoadsAhead$Law", "readTest", "(LLoadsAhead$Tape;I)Z"⟩, 9), (⟨"LoadsAhead$Law", "skipToHere", "(I)V"⟩, 9), (⟨"LoadsAhead$Program", "readOp", "(LLoadsAhead$Tape;I)Z"⟩, 13), (⟨"LoadsAhead$Program", "readGiven", "(LLoadsAhead$Tape;I)Z"⟩, 13), (⟨"LoadsAhead$Program", "readNumber", "(LLoadsAhead$Tape;I)Z"⟩, 13), (⟨"LoadsAhead$Program", "readReckoning", "(LLoadsAhead$Tape;I)Z"⟩, 13), (⟨"LoadsAhead$Program", "readMove", "(LLoadsAhead$Tape;I)Z"⟩, 13), (⟨"LoadsAhead$Program", "findSources", "()V"⟩, 13), (⟨"LoadsAhead$Program", "giverOfRegister", "(I)I"⟩, 13)]
theorem lw_r1 : ∀ q ∈ lw_privs_1, lw_okq q := List.forall_mem_cons.mpr ⟨lw_p0, List.forall_mem_cons.mpr ⟨lw_p1, List.forall_mem_cons.mpr ⟨lw_p2, List.forall_mem_cons.mpr ⟨lw_p3, List.forall_mem_cons.mpr ⟨lw_p4, List.forall_mem_cons.mpr ⟨lw_p5, List.forall_mem_cons.mpr ⟨lw_p6, List.forall_mem_cons.mpr ⟨lw_p7, List.forall_mem_cons.mpr ⟨lw_p8, List.forall_mem_cons.mpr ⟨lw_p9, List.forall_mem_cons.mpr ⟨lw_p10, List.forall_mem_cons.mpr ⟨lw_p11, List.forall_mem_cons.mpr ⟨lw_p12, List.forall_mem_cons.mpr ⟨lw_p13, List.forall_mem_cons.mpr ⟨lw_p14, List.forall_mem_cons.mpr ⟨lw_p15, fun _ h => absurd h List.not_mem_nil⟩⟩⟩⟩⟩⟩⟩⟩⟩⟩⟩⟩⟩⟩⟩⟩
theorem lw_p16 : lw_okq (⟨"LoadsAhead$Program", "depthOf", "(I)I"⟩, 13) := ⟨⟨by decide +kernel, by decide +kernel⟩, List.mem_of_getElem? (i := 59) (by decide +kernel), List.mem_of_getElem? (i := 623) (by decide +kernel), List.mem_of_getElem? (i := 624) (by decide +kernel)⟩
theorem lw_p17 : lw_okq (⟨"LoadsAhead", "canRun", "(I)Z"⟩, 11) := ⟨⟨by decide +kernel, by decide +kernel⟩, List.mem_of_getElem? (i := 20) (by decide +kernel), List.mem_of_getElem? (i := 646) (by decide +kernel), List.mem_of_getElem? (i := 647) (by decide +kernel)⟩
theorem lw_p18 : lw_okq (⟨"LoadsAhead$Machine", "begin", "()V"⟩, 12) := ⟨⟨by decide +kernel, by decide +kernel⟩, List.mem_of_getElem? (i := 53) (by decide +kernel), List.mem_of_getElem? (i := 654) (by decide +kernel), List.mem_of_getElem? (i := 655) (by decide +kernel)⟩
theorem lw_p19 : lw_okq (⟨"LoadsAhead$Machine", "finishOps", "()V"⟩, 12) := ⟨⟨by decide +kernel, by decide +kernel⟩, List.mem_of_getElem? (i := 53) (by decide +kernel), List.mem_of_getElem? (i := 677) (by decide +kernel), List.mem_of_getElem? (i := 678) (by decide +kernel)⟩
theorem lw_p20 : lw_okq (⟨"LoadsAhead$Machine", "valueRead", "(II)I"⟩, 12) := ⟨⟨by decide +kernel, by decide +kernel⟩, List.mem_of_getElem? (i := 53) (by decide +kernel), List.mem_of_getElem? (i := 681) (by decide +kernel), List.mem_of_getElem? (i := 682) (by decide +kernel)⟩
theorem lw_p21 : lw_okq (⟨"LoadsAhead$Machine", "takeBytes", "(I)V"⟩, 12) := ⟨⟨by decide +kernel, by decide +kernel⟩, List.mem_of_getElem? (i := 53) (by decide +kernel), List.mem_of_getElem? (i := 690) (by decide +kernel), List.mem_of_getElem? (i := 691) (by decide +kernel)⟩
theorem lw_p22 : lw_okq (⟨"LoadsAhead$Machine", "youngestCovering", "(II)I"⟩, 12) := ⟨⟨by decide +kernel, by decide +kernel⟩, List.mem_of_getElem? (i := 53) (by decide +kernel), List.mem_of_getElem? (i := 694) (by decide +kernel), List.mem_of_getElem? (i := 695) (by decide +kernel)⟩
theorem lw_p23 : lw_okq (⟨"LoadsAhead$Machine", "storedAt", "(II)I"⟩, 12) := ⟨⟨by decide +kernel, by decide +kernel⟩, List.mem_of_getElem? (i := 53) (by decide +kernel), List.mem_of_getElem? (i := 701) (by decide +kernel), List.mem_of_getElem? (i := 702) (by decide +kernel)⟩
theorem lw_p24 : lw_okq (⟨"LoadsAhead$Machine", "lookBack", "(I)V"⟩, 12) := ⟨⟨by decide +kernel, by decide +kernel⟩, List.mem_of_getElem? (i := 53) (by decide +kernel), List.mem_of_getElem? (i := 709) (by decide +kernel), List.mem_of_getElem? (i := 710) (by decide +kernel)⟩
theorem lw_p25 : lw_okq (⟨"LoadsAhead$Machine", "tookTooOld", "(II)Z"⟩, 12) := ⟨⟨by decide +kernel, by decide +kernel⟩, List.mem_of_getElem? (i := 53) (by decide +kernel), List.mem_of_getElem? (i := 713) (by decide +kernel), List.mem_of_getElem? (i := 714) (by decide +kernel)⟩
theorem lw_p26 : lw_okq (⟨"LoadsAhead$Machine", "replay", "(I)V"⟩, 12) := ⟨⟨by decide +kernel, by decide +kernel⟩, List.mem_of_getElem? (i := 53) (by decide +kernel), List.mem_of_getElem? (i := 723) (by decide +kernel), List.mem_of_getElem? (i := 724) (by decide +kernel)⟩
theorem lw_p27 : lw_okq (⟨"LoadsAhead$Machine", "makeWait", "(I)V"⟩, 12) := ⟨⟨by decide +kernel, by decide +kernel⟩, List.mem_of_getElem? (i := 53) (by decide +kernel), List.mem_of_getElem? (i := 727) (by decide +kernel), List.mem_of_getElem? (i := 728) (by decide +kernel)⟩
theorem lw_p28 : lw_okq (⟨"LoadsAhead$Machine", "undoDownTo", "(I)V"⟩, 12) := ⟨⟨by decide +kernel, by decide +kernel⟩, List.mem_of_getElem? (i := 53) (by decide +kernel), List.mem_of_getElem? (i := 731) (by decide +kernel), List.mem_of_getElem? (i := 732) (by decide +kernel)⟩
theorem lw_p29 : lw_okq (⟨"LoadsAhead$Machine", "dependsOn", "(II)Z"⟩, 12) := ⟨⟨by decide +kernel, by decide +kernel⟩, List.mem_of_getElem? (i := 53) (by decide +kernel), List.mem_of_getElem? (i := 735) (by decide +kernel), List.mem_of_getElem? (i := 736) (by decide +kernel)⟩
theorem lw_p30 : lw_okq (⟨"LoadsAhead$Machine", "sendOff", "(IZ)V"⟩, 12) := ⟨⟨by decide +kernel, by decide +kernel⟩, List.mem_of_getElem? (i := 53) (by decide +kernel), List.mem_of_getElem? (i := 743) (by decide +kernel), List.mem_of_getElem? (i := 744) (by decide +kernel)⟩
theorem lw_p31 : lw_okq (⟨"LoadsAhead$Machine", "isDone", "(I)Z"⟩, 12) := ⟨⟨by decide +kernel, by decide +kernel⟩, List.mem_of_getElem? (i := 53) (by decide +kernel), List.mem_of_getElem? (i := 747) (by decide +kernel), List.mem_of_getElem? (i := 748) (by decide +kernel)⟩
def lw_privs_2 : List (MethodName × Nat) := [(⟨"LoadsAhead$Program", "depthOf", "(I)I"⟩, 13), (⟨"LoadsAhead", "canRun", "(I)Z"⟩, 11), (⟨"LoadsAhead$Machine", "begin", "()V"⟩, 12), (⟨"LoadsAhead$Machine", "finishOps", "()V"⟩, 12), (⟨"LoadsAhead$Machine", "valueRead", "(II)I"⟩, 12), (⟨"LoadsAhead$Machine", "takeBytes", "(I)V"⟩, 12), (⟨"LoadsAhead$Machine", "youngestCovering", "(II)I"⟩, 12), (⟨"LoadsAhead$Machine", "storedAt", "(II)I"⟩, 12), (⟨"LoadsAhead$Machine", "lookBack", "(I)V"⟩, 12), (⟨"LoadsAhead$Machine", "tookTooOld", "(II)Z"⟩, 12), (⟨"LoadsAhead$Machine", "replay", "(I)V"⟩, 12), (⟨"LoadsAhead$Machine", "makeWait", "(I)V"⟩, 12), (⟨"LoadsAhead$Machine", "undoDownTo", "(I)V"⟩, 12), (⟨"LoadsAhead$Machine", "dependsOn", "(II)Z"⟩, 12), (⟨"LoadsAhead$Machine", "sendOff", "(IZ)V"⟩, 12), (⟨"LoadsAhead$Machine", "isDone", "(I)Z"⟩, 12)]
theorem lw_r2 : ∀ q ∈ lw_privs_2, lw_okq q := List.forall_mem_cons.mpr ⟨lw_p16, List.forall_mem_cons.mpr ⟨lw_p17, List.forall_mem_cons.mpr ⟨lw_p18, List.forall_mem_cons.mpr ⟨lw_p19, List.forall_mem_cons.mpr ⟨lw_p20, List.forall_mem_cons.mpr ⟨lw_p21, List.forall_mem_cons.mpr ⟨lw_p22, List.forall_mem_cons.mpr ⟨lw_p23, List.forall_mem_cons.mpr ⟨lw_p24, List.forall_mem_cons.mpr ⟨lw_p25, List.forall_mem_cons.mpr ⟨lw_p26, List.forall_mem_cons.mpr ⟨lw_p27, List.forall_mem_cons.mpr ⟨lw_p28, List.forall_mem_cons.mpr ⟨lw_p29, List.forall_mem_cons.mpr ⟨lw_p30, List.forall_mem_cons.mpr ⟨lw_p31, fun _ h => absurd h List.not_mem_nil⟩⟩⟩⟩⟩⟩⟩⟩⟩⟩⟩⟩⟩⟩⟩⟩
theorem lw_p32 : lw_okq (⟨"LoadsAhead$Machine", "mustWait", "(IZ)Z"⟩, 12) := ⟨⟨by decide +kernel, by decide +kernel⟩, List.mem_of_getElem? (i := 53) (by decide +kernel), List.mem_of_getElem? (i := 751) (by decide +kernel), List.mem_of_getElem? (i := 752) (by decide +kernel)⟩
theorem lw_p33 : lw_okq (⟨"LoadsAhead$Machine", "tellLaw", "(II)V"⟩, 12) := ⟨⟨by decide +kernel, by decide +kernel⟩, List.mem_of_getElem? (i := 53) (by decide +kernel), List.mem_of_getElem? (i := 760) (by decide +kernel), List.mem_of_getElem? (i := 761) (by decide +kernel)⟩
theorem lw_p34 : lw_okq (⟨"LoadsAhead$Law", "holds", "(I)Z"⟩, 9) := ⟨⟨by decide +kernel, by decide +kernel⟩, List.mem_of_getElem? (i := 127) (by decide +kernel), List.mem_of_getElem? (i := 772) (by decide +kernel), List.mem_of_getElem? (i := 773) (by decide +kernel)⟩
theorem lw_p35 : lw_okq (⟨"LoadsAhead$Law", "reckon", "(II)I"⟩, 9) := ⟨⟨by decide +kernel, by decide +kernel⟩, List.mem_of_getElem? (i := 127) (by decide +kernel), List.mem_of_getElem? (i := 776) (by decide +kernel), List.mem_of_getElem? (i := 777) (by decide +kernel)⟩
theorem lw_p36 : lw_okq (⟨"LoadsAhead$Machine", "retireOne", "()V"⟩, 12) := ⟨⟨by decide +kernel, by decide +kernel⟩, List.mem_of_getElem? (i := 53) (by decide +kernel), List.mem_of_getElem? (i := 785) (by decide +kernel), List.mem_of_getElem? (i := 786) (by decide +kernel)⟩
theorem lw_p37 : lw_okq (⟨"LoadsAhead$Machine", "oldestToRetire", "()I"⟩, 12) := ⟨⟨by decide +kernel, by decide +kernel⟩, List.mem_of_getElem? (i := 53) (by decide +kernel), List.mem_of_getElem? (i := 789) (by decide +kernel), List.mem_of_getElem? (i := 790) (by decide +kernel)⟩
theorem lw_p38 : lw_okq (⟨"LoadsAhead$Machine", "doneAhead", "(I)Z"⟩, 12) := ⟨⟨by decide +kernel, by decide +kernel⟩, List.mem_of_getElem? (i := 53) (by decide +kernel), List.mem_of_getElem? (i := 793) (by decide +kernel), List.mem_of_getElem? (i := 794) (by decide +kernel)⟩
theorem lw_p39 : lw_okq (⟨"LoadsAhead$Machine", "settled", "()Z"⟩, 12) := ⟨⟨by decide +kernel, by decide +kernel⟩, List.mem_of_getElem? (i := 53) (by decide +kernel), List.mem_of_getElem? (i := 805) (by decide +kernel), List.mem_of_getElem? (i := 806) (by decide +kernel)⟩
theorem lw_p40 : lw_okq (⟨"LoadsAhead$Machine", "giveRegisters", "()V"⟩, 12) := ⟨⟨by decide +kernel, by decide +kernel⟩, List.mem_of_getElem? (i := 53) (by decide +kernel), List.mem_of_getElem? (i := 809) (by decide +kernel), List.mem_of_getElem? (i := 810) (by decide +kernel)⟩
theorem lw_p41 : lw_okq (⟨"LoadsAhead", "isOp", "(I)Z"⟩, 11) := ⟨⟨by decide +kernel, by decide +kernel⟩, List.mem_of_getElem? (i := 20) (by decide +kernel), List.mem_of_getElem? (i := 839) (by decide +kernel), List.mem_of_getElem? (i := 840) (by decide +kernel)⟩
theorem lw_p42 : lw_okq (⟨"LoadsAhead", "giverOf", "(II)I"⟩, 11) := ⟨⟨by decide +kernel, by decide +kernel⟩, List.mem_of_getElem? (i := 20) (by decide +kernel), List.mem_of_getElem? (i := 844) (by decide +kernel), List.mem_of_getElem? (i := 845) (by decide +kernel)⟩
theorem lw_p43 : lw_okq (⟨"LoadsAhead$Plain", "valueIn", "(I)I"⟩, 2) := ⟨⟨by decide +kernel, by decide +kernel⟩, List.mem_of_getElem? (i := 298) (by decide +kernel), List.mem_of_getElem? (i := 872) (by decide +kernel), List.mem_of_getElem? (i := 873) (by decide +kernel)⟩
theorem lw_p44 : lw_okq (⟨"LoadsAhead$Plain", "loaded", "(II)I"⟩, 2) := ⟨⟨by decide +kernel, by decide +kernel⟩, List.mem_of_getElem? (i := 298) (by decide +kernel), List.mem_of_getElem? (i := 879) (by decide +kernel), List.mem_of_getElem? (i := 880) (by decide +kernel)⟩
theorem lw_p45 : lw_okq (⟨"LoadsAhead$Plain", "meet", "(LLoadsAhead$Program;II)Z"⟩, 2) := ⟨⟨by decide +kernel, by decide +kernel⟩, List.mem_of_getElem? (i := 298) (by decide +kernel), List.mem_of_getElem? (i := 915) (by decide +kernel), List.mem_of_getElem? (i := 916) (by decide +kernel)⟩
theorem lw_p46 : lw_okq (⟨"LoadsAheadModel", "types", "(I)V"⟩, 96) := ⟨⟨by decide +kernel, by decide +kernel⟩, List.mem_of_getElem? (i := 972) (by decide +kernel), List.mem_of_getElem? (i := 1282) (by decide +kernel), List.mem_of_getElem? (i := 1283) (by decide +kernel)⟩
theorem lw_p47 : lw_okq (⟨"LoadsAheadModel", "beginsText", "(I)V"⟩, 96) := ⟨⟨by decide +kernel, by decide +kernel⟩, List.mem_of_getElem? (i := 972) (by decide +kernel), List.mem_of_getElem? (i := 1290) (by decide +kernel), List.mem_of_getElem? (i := 1291) (by decide +kernel)⟩
def lw_privs_3 : List (MethodName × Nat) := [(⟨"LoadsAhead$Machine", "mustWait", "(IZ)Z"⟩, 12), (⟨"LoadsAhead$Machine", "tellLaw", "(II)V"⟩, 12), (⟨"LoadsAhead$Law", "holds", "(I)Z"⟩, 9), (⟨"LoadsAhead$Law", "reckon", "(II)I"⟩, 9), (⟨"LoadsAhead$Machine", "retireOne", "()V"⟩, 12), (⟨"LoadsAhead$Machine", "oldestToRetire", "()I"⟩, 12), (⟨"LoadsAhead$Machine", "doneAhead", "(I)Z"⟩, 12), (⟨"LoadsAhead$Machine", "settled", "()Z"⟩, 12), (⟨"LoadsAhead$Machine", "giveRegisters", "()V"⟩, 12), (⟨"LoadsAhead", "isOp", "(I)Z"⟩, 11), (⟨"LoadsAhead", "giverOf", "(II)I"⟩, 11), (⟨"LoadsAhead$Plain", "valueIn", "(I)I"⟩, 2), (⟨"LoadsAhead$Plain", "loaded", "(II)I"⟩, 2), (⟨"LoadsAhead$Plain", "meet", "(LLoadsAhead$Program;II)Z"⟩, 2), (⟨"LoadsAheadModel", "types", "(I)V"⟩, 96), (⟨"LoadsAheadModel", "beginsText", "(I)V"⟩, 96)]
theorem lw_r3 : ∀ q ∈ lw_privs_3, lw_okq q := List.forall_mem_cons.mpr ⟨lw_p32, List.forall_mem_cons.mpr ⟨lw_p33, List.forall_mem_cons.mpr ⟨lw_p34, List.forall_mem_cons.mpr ⟨lw_p35, List.forall_mem_cons.mpr ⟨lw_p36, List.forall_mem_cons.mpr ⟨lw_p37, List.forall_mem_cons.mpr ⟨lw_p38, List.forall_mem_cons.mpr ⟨lw_p39, List.forall_mem_cons.mpr ⟨lw_p40, List.forall_mem_cons.mpr ⟨lw_p41, List.forall_mem_cons.mpr ⟨lw_p42, List.forall_mem_cons.mpr ⟨lw_p43, List.forall_mem_cons.mpr ⟨lw_p44, List.forall_mem_cons.mpr ⟨lw_p45, List.forall_mem_cons.mpr ⟨lw_p46, List.forall_mem_cons.mpr ⟨lw_p47, fun _ h => absurd h List.not_mem_nil⟩⟩⟩⟩⟩⟩⟩⟩⟩⟩⟩⟩⟩⟩⟩⟩
theorem lw_p48 : lw_okq (⟨"LoadsAheadModel", "readsRule", "()Z"⟩, 96) := ⟨⟨by decide +kernel, by decide +kernel⟩, List.mem_of_getElem? (i := 972) (by decide +kernel), List.mem_of_getElem? (i := 1294) (by decide +kernel), List.mem_of_getElem? (i := 1295) (by decide +kernel)⟩
theorem lw_p49 : lw_okq (⟨"LoadsAheadModel", "here", "()I"⟩, 96) := ⟨⟨by decide +kernel, by decide +kernel⟩, List.mem_of_getElem? (i := 972) (by decide +kernel), List.mem_of_getElem? (i := 1298) (by decide +kernel), List.mem_of_getElem? (i := 1299) (by decide +kernel)⟩
theorem lw_p50 : lw_okq (⟨"LoadsAheadModel", "wrongAt", "(II)Z"⟩, 96) := ⟨⟨by decide +kernel, by decide +kernel⟩, List.mem_of_getElem? (i := 972) (by decide +kernel), List.mem_of_getElem? (i := 1302) (by decide +kernel), List.mem_of_getElem? (i := 1303) (by decide +kernel)⟩
theorem lw_p51 : lw_okq (⟨"LoadsAheadModel", "readsSum", "()Z"⟩, 96) := ⟨⟨by decide +kernel, by decide +kernel⟩, List.mem_of_getElem? (i := 972) (by decide +kernel), List.mem_of_getElem? (i := 1306) (by decide +kernel), List.mem_of_getElem? (i := 1307) (by decide +kernel)⟩
theorem lw_p52 : lw_okq (⟨"LoadsAheadModel", "readsFactor", "()Z"⟩, 96) := ⟨⟨by decide +kernel, by decide +kernel⟩, List.mem_of_getElem? (i := 972) (by decide +kernel), List.mem_of_getElem? (i := 1310) (by decide +kernel), List.mem_of_getElem? (i := 1311) (by decide +kernel)⟩
theorem lw_p53 : lw_okq (⟨"LoadsAheadModel", "opens", "(I)Z"⟩, 96) := ⟨⟨by decide +kernel, by decide +kernel⟩, List.mem_of_getElem? (i := 972) (by decide +kernel), List.mem_of_getElem? (i := 1314) (by decide +kernel), List.mem_of_getElem? (i := 1315) (by decide +kernel)⟩
theorem lw_p54 : lw_okq (⟨"LoadsAheadModel", "isDigit", "()Z"⟩, 96) := ⟨⟨by decide +kernel, by decide +kernel⟩, List.mem_of_getElem? (i := 972) (by decide +kernel), List.mem_of_getElem? (i := 1319) (by decide +kernel), List.mem_of_getElem? (i := 1320) (by decide +kernel)⟩
theorem lw_p55 : lw_okq (⟨"LoadsAheadModel", "readsNumber", "()Z"⟩, 96) := ⟨⟨by decide +kernel, by decide +kernel⟩, List.mem_of_getElem? (i := 972) (by decide +kernel), List.mem_of_getElem? (i := 1323) (by decide +kernel), List.mem_of_getElem? (i := 1324) (by decide +kernel)⟩
theorem lw_p56 : lw_okq (⟨"LoadsAheadModel", "notes", "(II)V"⟩, 96) := ⟨⟨by decide +kernel, by decide +kernel⟩, List.mem_of_getElem? (i := 972) (by decide +kernel), List.mem_of_getElem? (i := 1327) (by decide +kernel), List.mem_of_getElem? (i := 1328) (by decide +kernel)⟩
theorem lw_p57 : lw_okq (⟨"LoadsAheadModel", "closesSums", "(Z)V"⟩, 96) := ⟨⟨by decide +kernel, by decide +kernel⟩, List.mem_of_getElem? (i := 972) (by decide +kernel), List.mem_of_getElem? (i := 1337) (by decide +kernel), List.mem_of_getElem? (i := 1338) (by decide +kernel)⟩
theorem lw_p58 : lw_okq (⟨"LoadsAheadModel", "waitTop", "()I"⟩, 96) := ⟨⟨by decide +kernel, by decide +kernel⟩, List.mem_of_getElem? (i := 972) (by decide +kernel), List.mem_of_getElem? (i := 1341) (by decide +kernel), List.mem_of_getElem? (i := 1342) (by decide +kernel)⟩
theorem lw_p59 : lw_okq (⟨"LoadsAheadModel", "hasOpenSum", "(I)Z"⟩, 96) := ⟨⟨by decide +kernel, by decide +kernel⟩, List.mem_of_getElem? (i := 972) (by decide +kernel), List.mem_of_getElem? (i := 1345) (by decide +kernel), List.mem_of_getElem? (i := 1346) (by decide +kernel)⟩
theorem lw_p60 : lw_okq (⟨"LoadsAheadModel", "readsCondition", "()Z"⟩, 96) := ⟨⟨by decide +kernel, by decide +kernel⟩, List.mem_of_getElem? (i := 972) (by decide +kernel), List.mem_of_getElem? (i := 1349) (by decide +kernel), List.mem_of_getElem? (i := 1350) (by decide +kernel)⟩
theorem lw_p61 : lw_okq (⟨"LoadsAheadModel", "readsCompared", "()Z"⟩, 96) := ⟨⟨by decide +kernel, by decide +kernel⟩, List.mem_of_getElem? (i := 972) (by decide +kernel), List.mem_of_getElem? (i := 1353) (by decide +kernel), List.mem_of_getElem? (i := 1354) (by decide +kernel)⟩
theorem lw_p62 : lw_okq (⟨"LoadsAheadModel", "endsPiece", "()V"⟩, 96) := ⟨⟨by decide +kernel, by decide +kernel⟩, List.mem_of_getElem? (i := 972) (by decide +kernel), List.mem_of_getElem? (i := 1357) (by decide +kernel), List.mem_of_getElem? (i := 1358) (by decide +kernel)⟩
theorem lw_p63 : lw_okq (⟨"LoadsAheadModel", "lands", "(Z)V"⟩, 96) := ⟨⟨by decide +kernel, by decide +kernel⟩, List.mem_of_getElem? (i := 972) (by decide +kernel), List.mem_of_getElem? (i := 1361) (by decide +kernel), List.mem_of_getElem? (i := 1362) (by decide +kernel)⟩
def lw_privs_4 : List (MethodName × Nat) := [(⟨"LoadsAheadModel", "readsRule", "()Z"⟩, 96), (⟨"LoadsAheadModel", "here", "()I"⟩, 96), (⟨"LoadsAheadModel", "wrongAt", "(II)Z"⟩, 96), (⟨"LoadsAheadModel", "readsSum", "()Z"⟩, 96), (⟨"LoadsAheadModel", "readsFactor", "()Z"⟩, 96), (⟨"LoadsAheadModel", "opens", "(I)Z"⟩, 96), (⟨"LoadsAheadModel", "isDigit", "()Z"⟩, 96), (⟨"LoadsAheadModel", "readsNumber", "()Z"⟩, 96), (⟨"LoadsAheadModel", "notes", "(II)V"⟩, 96), (⟨"LoadsAheadModel", "closesSums", "(Z)V"⟩, 96), (⟨"LoadsAheadModel", "waitTop", "()I"⟩, 96), (⟨"LoadsAheadModel", "hasOpenSum", "(I)Z"⟩, 96), (⟨"LoadsAheadModel", "readsCondition", "()Z"⟩, 96), (⟨"LoadsAheadModel", "readsCompared", "()Z"⟩, 96), (⟨"LoadsAheadModel", "endsPiece", "()V"⟩, 96), (⟨"LoadsAheadModel", "lands", "(Z)V"⟩, 96)]
theorem lw_r4 : ∀ q ∈ lw_privs_4, lw_okq q := List.forall_mem_cons.mpr ⟨lw_p48, List.forall_mem_cons.mpr ⟨lw_p49, List.forall_mem_cons.mpr ⟨lw_p50, List.forall_mem_cons.mpr ⟨lw_p51, List.forall_mem_cons.mpr ⟨lw_p52, List.forall_mem_cons.mpr ⟨lw_p53, List.forall_mem_cons.mpr ⟨lw_p54, List.forall_mem_cons.mpr ⟨lw_p55, List.forall_mem_cons.mpr ⟨lw_p56, List.forall_mem_cons.mpr ⟨lw_p57, List.forall_mem_cons.mpr ⟨lw_p58, List.forall_mem_cons.mpr ⟨lw_p59, List.forall_mem_cons.mpr ⟨lw_p60, List.forall_mem_cons.mpr ⟨lw_p61, List.forall_mem_cons.mpr ⟨lw_p62, List.forall_mem_cons.mpr ⟨lw_p63, fun _ h => absurd h List.not_mem_nil⟩⟩⟩⟩⟩⟩⟩⟩⟩⟩⟩⟩⟩⟩⟩⟩
theorem lw_p64 : lw_okq (⟨"LoadsAheadModel", "jumps", "(I)V"⟩, 96) := ⟨⟨by decide +kernel, by decide +kernel⟩, List.mem_of_getElem? (i := 972) (by decide +kernel), List.mem_of_getElem? (i := 1365) (by decide +kernel), List.mem_of_getElem? (i := 1366) (by decide +kernel)⟩
theorem lw_p65 : lw_okq (⟨"LoadsAheadModel", "takes", "(I)Z"⟩, 96) := ⟨⟨by decide +kernel, by decide +kernel⟩, List.mem_of_getElem? (i := 972) (by decide +kernel), List.mem_of_getElem? (i := 1369) (by decide +kernel), List.mem_of_getElem? (i := 1370) (by decide +kernel)⟩
theorem lw_p66 : lw_okq (⟨"LoadsAheadModel", "readsOp", "()Z"⟩, 96) := ⟨⟨by decide +kernel, by decide +kernel⟩, List.mem_of_getElem? (i := 972) (by decide +kernel), List.mem_of_getElem? (i := 1377) (by decide +kernel), List.mem_of_getElem? (i := 1378) (by decide +kernel)⟩
theorem lw_p67 : lw_okq (⟨"LoadsAheadModel", "readsRegister", "()Z"⟩, 96) := ⟨⟨by decide +kernel, by decide +kernel⟩, List.mem_of_getElem? (i := 972) (by decide +kernel), List.mem_of_getElem? (i := 1387) (by decide +kernel), List.mem_of_getElem? (i := 1388) (by decide +kernel)⟩
theorem lw_p68 : lw_okq (⟨"LoadsAheadModel", "readsPlace", "(I)Z"⟩, 96) := ⟨⟨by decide +kernel, by decide +kernel⟩, List.mem_of_getElem? (i := 972) (by decide +kernel), List.mem_of_getElem? (i := 1391) (by decide +kernel), List.mem_of_getElem? (i := 1392) (by decide +kernel)⟩
theorem lw_p69 : lw_okq (⟨"LoadsAheadModel", "readsAmount", "()Z"⟩, 96) := ⟨⟨by decide +kernel, by decide +kernel⟩, List.mem_of_getElem? (i := 972) (by decide +kernel), List.mem_of_getElem? (i := 1395) (by decide +kernel), List.mem_of_getElem? (i := 1396) (by decide +kernel)⟩
theorem lw_p70 : lw_okq (⟨"LoadsAheadModel", "isOp", "(I)Z"⟩, 96) := ⟨⟨by decide +kernel, by decide +kernel⟩, List.mem_of_getElem? (i := 972) (by decide +kernel), List.mem_of_getElem? (i := 1403) (by decide +kernel), List.mem_of_getElem? (i := 1404) (by decide +kernel)⟩
theorem lw_p71 : lw_okq (⟨"LoadsAheadModel", "doesRead", "(II)Z"⟩, 96) := ⟨⟨by decide +kernel, by decide +kernel⟩, List.mem_of_getElem? (i := 972) (by decide +kernel), List.mem_of_getElem? (i := 1407) (by decide +kernel), List.mem_of_getElem? (i := 1408) (by decide +kernel)⟩
theorem lw_p72 : lw_okq (⟨"LoadsAheadModel", "giverOf", "(II)I"⟩, 96) := ⟨⟨by decide +kernel, by decide +kernel⟩, List.mem_of_getElem? (i := 972) (by decide +kernel), List.mem_of_getElem? (i := 1411) (by decide +kernel), List.mem_of_getElem? (i := 1412) (by decide +kernel)⟩
theorem lw_p73 : lw_okq (⟨"LoadsAheadModel", "gives", "(II)Z"⟩, 96) := ⟨⟨by decide +kernel, by decide +kernel⟩, List.mem_of_getElem? (i := 972) (by decide +kernel), List.mem_of_getElem? (i := 1415) (by decide +kernel), List.mem_of_getElem? (i := 1416) (by decide +kernel)⟩
theorem lw_p74 : lw_okq (⟨"LoadsAheadModel", "canRun", "(I)Z"⟩, 96) := ⟨⟨by decide +kernel, by decide +kernel⟩, List.mem_of_getElem? (i := 972) (by decide +kernel), List.mem_of_getElem? (i := 1423) (by decide +kernel), List.mem_of_getElem? (i := 1424) (by decide +kernel)⟩
theorem lw_p75 : lw_okq (⟨"LoadsAheadModel", "goesThrough", "(IZ)Z"⟩, 96) := ⟨⟨by decide +kernel, by decide +kernel⟩, List.mem_of_getElem? (i := 972) (by decide +kernel), List.mem_of_getElem? (i := 1427) (by decide +kernel), List.mem_of_getElem? (i := 1428) (by decide +kernel)⟩
theorem lw_p76 : lw_okq (⟨"LoadsAheadModel", "cycleGoes", "(II)V"⟩, 96) := ⟨⟨by decide +kernel, by decide +kernel⟩, List.mem_of_getElem? (i := 972) (by decide +kernel), List.mem_of_getElem? (i := 1431) (by decide +kernel), List.mem_of_getElem? (i := 1432) (by decide +kernel)⟩
theorem lw_p77 : lw_okq (⟨"LoadsAheadModel", "comesDone", "(II)V"⟩, 96) := ⟨⟨by decide +kernel, by decide +kernel⟩, List.mem_of_getElem? (i := 972) (by decide +kernel), List.mem_of_getElem? (i := 1435) (by decide +kernel), List.mem_of_getElem? (i := 1436) (by decide +kernel)⟩
theorem lw_p78 : lw_okq (⟨"LoadsAheadModel", "readBy", "(II)I"⟩, 96) := ⟨⟨by decide +kernel, by decide +kernel⟩, List.mem_of_getElem? (i := 972) (by decide +kernel), List.mem_of_getElem? (i := 1439) (by decide +kernel), List.mem_of_getElem? (i := 1440) (by decide +kernel)⟩
theorem lw_p79 : lw_okq (⟨"LoadsAheadModel", "placeBy", "(I)I"⟩, 96) := ⟨⟨by decide +kernel, by decide +kernel⟩, List.mem_of_getElem? (i := 972) (by decide +kernel), List.mem_of_getElem? (i := 1446) (by decide +kernel), List.mem_of_getElem? (i := 1447) (by decide +kernel)⟩
def lw_privs_5 : List (MethodName × Nat) := [(⟨"LoadsAheadModel", "jumps", "(I)V"⟩, 96), (⟨"LoadsAheadModel", "takes", "(I)Z"⟩, 96), (⟨"LoadsAheadModel", "readsOp", "()Z"⟩, 96), (⟨"LoadsAheadModel", "readsRegister", "()Z"⟩, 96), (⟨"LoadsAheadModel", "readsPlace", "(I)Z"⟩, 96), (⟨"LoadsAheadModel", "readsAmount", "()Z"⟩, 96), (⟨"LoadsAheadModel", "isOp", "(I)Z"⟩, 96), (⟨"LoadsAheadModel", "doesRead", "(II)Z"⟩, 96), (⟨"LoadsAheadModel", "giverOf", "(II)I"⟩, 96), (⟨"LoadsAheadModel", "gives", "(II)Z"⟩, 96), (⟨"LoadsAheadModel", "canRun", "(I)Z"⟩, 96), (⟨"LoadsAheadModel", "goesThrough", "(IZ)Z"⟩, 96), (⟨"LoadsAheadModel", "cycleGoes", "(II)V"⟩, 96), (⟨"LoadsAheadModel", "comesDone", "(II)V"⟩, 96), (⟨"LoadsAheadModel", "readBy", "(II)I"⟩, 96), (⟨"LoadsAheadModel", "placeBy", "(I)I"⟩, 96)]
theorem lw_r5 : ∀ q ∈ lw_privs_5, lw_okq q := List.forall_mem_cons.mpr ⟨lw_p64, List.forall_mem_cons.mpr ⟨lw_p65, List.forall_mem_cons.mpr ⟨lw_p66, List.forall_mem_cons.mpr ⟨lw_p67, List.forall_mem_cons.mpr ⟨lw_p68, List.forall_mem_cons.mpr ⟨lw_p69, List.forall_mem_cons.mpr ⟨lw_p70, List.forall_mem_cons.mpr ⟨lw_p71, List.forall_mem_cons.mpr ⟨lw_p72, List.forall_mem_cons.mpr ⟨lw_p73, List.forall_mem_cons.mpr ⟨lw_p74, List.forall_mem_cons.mpr ⟨lw_p75, List.forall_mem_cons.mpr ⟨lw_p76, List.forall_mem_cons.mpr ⟨lw_p77, List.forall_mem_cons.mpr ⟨lw_p78, List.forall_mem_cons.mpr ⟨lw_p79, fun _ h => absurd h List.not_mem_nil⟩⟩⟩⟩⟩⟩⟩⟩⟩⟩⟩⟩⟩⟩⟩⟩
theorem lw_p80 : lw_okq (⟨"LoadsAheadModel", "loads", "(I)V"⟩, 96) := ⟨⟨by decide +kernel, by decide +kernel⟩, List.mem_of_getElem? (i := 972) (by decide +kernel), List.mem_of_getElem? (i := 1450) (by decide +kernel), List.mem_of_getElem? (i := 1451) (by decide +kernel)⟩
theorem lw_p81 : lw_okq (⟨"LoadsAheadModel", "covers", "(II)Z"⟩, 96) := ⟨⟨by decide +kernel, by decide +kernel⟩, List.mem_of_getElem? (i := 972) (by decide +kernel), List.mem_of_getElem? (i := 1454) (by decide +kernel), List.mem_of_getElem? (i := 1455) (by decide +kernel)⟩
theorem lw_p82 : lw_okq (⟨"LoadsAheadModel", "looksBack", "(I)V"⟩, 96) := ⟨⟨by decide +kernel, by decide +kernel⟩, List.mem_of_getElem? (i := 972) (by decide +kernel), List.mem_of_getElem? (i := 1465) (by decide +kernel), List.mem_of_getElem? (i := 1466) (by decide +kernel)⟩
theorem lw_p83 : lw_okq (⟨"LoadsAheadModel", "tookOld", "(II)Z"⟩, 96) := ⟨⟨by decide +kernel, by decide +kernel⟩, List.mem_of_getElem? (i := 972) (by decide +kernel), List.mem_of_getElem? (i := 1469) (by decide +kernel), List.mem_of_getElem? (i := 1470) (by decide +kernel)⟩
theorem lw_p84 : lw_okq (⟨"LoadsAheadModel", "melts", "(II)V"⟩, 96) := ⟨⟨by decide +kernel, by decide +kernel⟩, List.mem_of_getElem? (i := 972) (by decide +kernel), List.mem_of_getElem? (i := 1473) (by decide +kernel), List.mem_of_getElem? (i := 1474) (by decide +kernel)⟩
theorem lw_p85 : lw_okq (⟨"LoadsAheadModel", "replaysAll", "(I)V"⟩, 96) := ⟨⟨by decide +kernel, by decide +kernel⟩, List.mem_of_getElem? (i := 972) (by decide +kernel), List.mem_of_getElem? (i := 1480) (by decide +kernel), List.mem_of_getElem? (i := 1481) (by decide +kernel)⟩
theorem lw_p86 : lw_okq (⟨"LoadsAheadModel", "lists", "(I)V"⟩, 96) := ⟨⟨by decide +kernel, by decide +kernel⟩, List.mem_of_getElem? (i := 972) (by decide +kernel), List.mem_of_getElem? (i := 1484) (by decide +kernel), List.mem_of_getElem? (i := 1485) (by decide +kernel)⟩
theorem lw_p87 : lw_okq (⟨"LoadsAheadModel", "listsThoseBy", "(I)V"⟩, 96) := ⟨⟨by decide +kernel, by decide +kernel⟩, List.mem_of_getElem? (i := 972) (by decide +kernel), List.mem_of_getElem? (i := 1488) (by decide +kernel), List.mem_of_getElem? (i := 1489) (by decide +kernel)⟩
theorem lw_p88 : lw_okq (⟨"LoadsAheadModel", "tookFrom", "(II)Z"⟩, 96) := ⟨⟨by decide +kernel, by decide +kernel⟩, List.mem_of_getElem? (i := 972) (by decide +kernel), List.mem_of_getElem? (i := 1492) (by decide +kernel), List.mem_of_getElem? (i := 1493) (by decide +kernel)⟩
theorem lw_p89 : lw_okq (⟨"LoadsAheadModel", "hasSource", "(II)Z"⟩, 96) := ⟨⟨by decide +kernel, by decide +kernel⟩, List.mem_of_getElem? (i := 972) (by decide +kernel), List.mem_of_getElem? (i := 1496) (by decide +kernel), List.mem_of_getElem? (i := 1497) (by decide +kernel)⟩
theorem lw_p90 : lw_okq (⟨"LoadsAheadModel", "undoesTo", "(I)V"⟩, 96) := ⟨⟨by decide +kernel, by decide +kernel⟩, List.mem_of_getElem? (i := 972) (by decide +kernel), List.mem_of_getElem? (i := 1500) (by decide +kernel), List.mem_of_getElem? (i := 1501) (by decide +kernel)⟩
theorem lw_p91 : lw_okq (⟨"LoadsAheadModel", "areSourcesDone", "(I)Z"⟩, 96) := ⟨⟨by decide +kernel, by decide +kernel⟩, List.mem_of_getElem? (i := 972) (by decide +kernel), List.mem_of_getElem? (i := 1504) (by decide +kernel), List.mem_of_getElem? (i := 1505) (by decide +kernel)⟩
theorem lw_p92 : lw_okq (⟨"LoadsAheadModel", "isKeptBack", "(I)Z"⟩, 96) := ⟨⟨by decide +kernel, by decide +kernel⟩, List.mem_of_getElem? (i := 972) (by decide +kernel), List.mem_of_getElem? (i := 1508) (by decide +kernel), List.mem_of_getElem? (i := 1509) (by decide +kernel)⟩
theorem lw_p93 : lw_okq (⟨"LoadsAheadModel", "areStoresDone", "(I)Z"⟩, 96) := ⟨⟨by decide +kernel, by decide +kernel⟩, List.mem_of_getElem? (i := 972) (by decide +kernel), List.mem_of_getElem? (i := 1512) (by decide +kernel), List.mem_of_getElem? (i := 1513) (by decide +kernel)⟩
theorem lw_p94 : lw_okq (⟨"LoadsAheadModel", "goesOff", "(II)V"⟩, 96) := ⟨⟨by decide +kernel, by decide +kernel⟩, List.mem_of_getElem? (i := 972) (by decide +kernel), List.mem_of_getElem? (i := 1516) (by decide +kernel), List.mem_of_getElem? (i := 1517) (by decide +kernel)⟩
theorem lw_p95 : lw_okq (⟨"LoadsAheadModel", "feels", "(III)V"⟩, 96) := ⟨⟨by decide +kernel, by decide +kernel⟩, List.mem_of_getElem? (i := 972) (by decide +kernel), List.mem_of_getElem? (i := 1521) (by decide +kernel), List.mem_of_getElem? (i := 1522) (by decide +kernel)⟩
def lw_privs_6 : List (MethodName × Nat) := [(⟨"LoadsAheadModel", "loads", "(I)V"⟩, 96), (⟨"LoadsAheadModel", "covers", "(II)Z"⟩, 96), (⟨"LoadsAheadModel", "looksBack", "(I)V"⟩, 96), (⟨"LoadsAheadModel", "tookOld", "(II)Z"⟩, 96), (⟨"LoadsAheadModel", "melts", "(II)V"⟩, 96), (⟨"LoadsAheadModel", "replaysAll", "(I)V"⟩, 96), (⟨"LoadsAheadModel", "lists", "(I)V"⟩, 96), (⟨"LoadsAheadModel", "listsThoseBy", "(I)V"⟩, 96), (⟨"LoadsAheadModel", "tookFrom", "(II)Z"⟩, 96), (⟨"LoadsAheadModel", "hasSource", "(II)Z"⟩, 96), (⟨"LoadsAheadModel", "undoesTo", "(I)V"⟩, 96), (⟨"LoadsAheadModel", "areSourcesDone", "(I)Z"⟩, 96), (⟨"LoadsAheadModel", "isKeptBack", "(I)Z"⟩, 96), (⟨"LoadsAheadModel", "areStoresDone", "(I)Z"⟩, 96), (⟨"LoadsAheadModel", "goesOff", "(II)V"⟩, 96), (⟨"LoadsAheadModel", "feels", "(III)V"⟩, 96)]
theorem lw_r6 : ∀ q ∈ lw_privs_6, lw_okq q := List.forall_mem_cons.mpr ⟨lw_p80, List.forall_mem_cons.mpr ⟨lw_p81, List.forall_mem_cons.mpr ⟨lw_p82, List.forall_mem_cons.mpr ⟨lw_p83, List.forall_mem_cons.mpr ⟨lw_p84, List.forall_mem_cons.mpr ⟨lw_p85, List.forall_mem_cons.mpr ⟨lw_p86, List.forall_mem_cons.mpr ⟨lw_p87, List.forall_mem_cons.mpr ⟨lw_p88, List.forall_mem_cons.mpr ⟨lw_p89, List.forall_mem_cons.mpr ⟨lw_p90, List.forall_mem_cons.mpr ⟨lw_p91, List.forall_mem_cons.mpr ⟨lw_p92, List.forall_mem_cons.mpr ⟨lw_p93, List.forall_mem_cons.mpr ⟨lw_p94, List.forall_mem_cons.mpr ⟨lw_p95, fun _ h => absurd h List.not_mem_nil⟩⟩⟩⟩⟩⟩⟩⟩⟩⟩⟩⟩⟩⟩⟩⟩
theorem lw_p96 : lw_okq (⟨"LoadsAheadModel", "delayOf", "(I)I"⟩, 96) := ⟨⟨by decide +kernel, by decide +kernel⟩, List.mem_of_getElem? (i := 972) (by decide +kernel), List.mem_of_getElem? (i := 1525) (by decide +kernel), List.mem_of_getElem? (i := 1526) (by decide +kernel)⟩
theorem lw_p97 : lw_okq (⟨"LoadsAheadModel", "reckonsTo", "(II)I"⟩, 96) := ⟨⟨by decide +kernel, by decide +kernel⟩, List.mem_of_getElem? (i := 972) (by decide +kernel), List.mem_of_getElem? (i := 1529) (by decide +kernel), List.mem_of_getElem? (i := 1530) (by decide +kernel)⟩
theorem lw_p98 : lw_okq (⟨"LoadsAheadModel", "retires", "(I)V"⟩, 96) := ⟨⟨by decide +kernel, by decide +kernel⟩, List.mem_of_getElem? (i := 972) (by decide +kernel), List.mem_of_getElem? (i := 1536) (by decide +kernel), List.mem_of_getElem? (i := 1537) (by decide +kernel)⟩
theorem lw_p99 : lw_okq (⟨"LoadsAheadModel", "oldestToRetire", "()I"⟩, 96) := ⟨⟨by decide +kernel, by decide +kernel⟩, List.mem_of_getElem? (i := 972) (by decide +kernel), List.mem_of_getElem? (i := 1540) (by decide +kernel), List.mem_of_getElem? (i := 1541) (by decide +kernel)⟩
theorem lw_p100 : lw_okq (⟨"LoadsAheadModel", "areAllDone", "(I)Z"⟩, 96) := ⟨⟨by decide +kernel, by decide +kernel⟩, List.mem_of_getElem? (i := 972) (by decide +kernel), List.mem_of_getElem? (i := 1544) (by decide +kernel), List.mem_of_getElem? (i := 1545) (by decide +kernel)⟩
theorem lw_p101 : lw_okq (⟨"LoadsAheadModel", "isHeldBack", "()Z"⟩, 96) := ⟨⟨by decide +kernel, by decide +kernel⟩, List.mem_of_getElem? (i := 972) (by decide +kernel), List.mem_of_getElem? (i := 1548) (by decide +kernel), List.mem_of_getElem? (i := 1549) (by decide +kernel)⟩
theorem lw_p102 : lw_okq (⟨"LoadsAheadModel", "isOver", "()Z"⟩, 96) := ⟨⟨by decide +kernel, by decide +kernel⟩, List.mem_of_getElem? (i := 972) (by decide +kernel), List.mem_of_getElem? (i := 1552) (by decide +kernel), List.mem_of_getElem? (i := 1553) (by decide +kernel)⟩
theorem lw_p103 : lw_okq (⟨"LoadsAheadModel", "putsSetsBack", "()V"⟩, 96) := ⟨⟨by decide +kernel, by decide +kernel⟩, List.mem_of_getElem? (i := 972) (by decide +kernel), List.mem_of_getElem? (i := 1556) (by decide +kernel), List.mem_of_getElem? (i := 1557) (by decide +kernel)⟩
theorem lw_p104 : lw_okq (⟨"LoadsAheadModel", "toldOf", "(I)I"⟩, 96) := ⟨⟨by decide +kernel, by decide +kernel⟩, List.mem_of_getElem? (i := 972) (by decide +kernel), List.mem_of_getElem? (i := 1560) (by decide +kernel), List.mem_of_getElem? (i := 1561) (by decide +kernel)⟩
theorem lw_p105 : lw_okq (⟨"LoadsAheadModel", "isTried", "(IZ)Z"⟩, 96) := ⟨⟨by decide +kernel, by decide +kernel⟩, List.mem_of_getElem? (i := 972) (by decide +kernel), List.mem_of_getElem? (i := 1568) (by decide +kernel), List.mem_of_getElem? (i := 1569) (by decide +kernel)⟩
theorem lw_p106 : lw_okq (⟨"LoadsAheadModel", "goesPlain", "()V"⟩, 96) := ⟨⟨by decide +kernel, by decide +kernel⟩, List.mem_of_getElem? (i := 972) (by decide +kernel), List.mem_of_getElem? (i := 1593) (by decide +kernel), List.mem_of_getElem? (i := 1594) (by decide +kernel)⟩
theorem lw_p107 : lw_okq (⟨"LoadsAheadModel", "doesPlain", "(I)V"⟩, 96) := ⟨⟨by decide +kernel, by decide +kernel⟩, List.mem_of_getElem? (i := 972) (by decide +kernel), List.mem_of_getElem? (i := 1597) (by decide +kernel), List.mem_of_getElem? (i := 1598) (by decide +kernel)⟩
theorem lw_p108 : lw_okq (⟨"LoadsAheadModel", "haveByte", "(II)Z"⟩, 96) := ⟨⟨by decide +kernel, by decide +kernel⟩, List.mem_of_getElem? (i := 972) (by decide +kernel), List.mem_of_getElem? (i := 1609) (by decide +kernel), List.mem_of_getElem? (i := 1610) (by decide +kernel)⟩
theorem lw_p109 : lw_okq (⟨"LoadsAheadModel", "toldOfOp", "(II)I"⟩, 96) := ⟨⟨by decide +kernel, by decide +kernel⟩, List.mem_of_getElem? (i := 972) (by decide +kernel), List.mem_of_getElem? (i := 1624) (by decide +kernel), List.mem_of_getElem? (i := 1625) (by decide +kernel)⟩
theorem lw_p110 : lw_okq (⟨"LoadsAheadModel", "worstOp", "()I"⟩, 96) := ⟨⟨by decide +kernel, by decide +kernel⟩, List.mem_of_getElem? (i := 972) (by decide +kernel), List.mem_of_getElem? (i := 1632) (by decide +kernel), List.mem_of_getElem? (i := 1633) (by decide +kernel)⟩
theorem lw_p111 : lw_okq (⟨"LoadsAheadModel", "withSet", "()I"⟩, 96) := ⟨⟨by decide +kernel, by decide +kernel⟩, List.mem_of_getElem? (i := 972) (by decide +kernel), List.mem_of_getElem? (i := 1648) (by decide +kernel), List.mem_of_getElem? (i := 1649) (by decide +kernel)⟩
def lw_privs_7 : List (MethodName × Nat) := [(⟨"LoadsAheadModel", "delayOf", "(I)I"⟩, 96), (⟨"LoadsAheadModel", "reckonsTo", "(II)I"⟩, 96), (⟨"LoadsAheadModel", "retires", "(I)V"⟩, 96), (⟨"LoadsAheadModel", "oldestToRetire", "()I"⟩, 96), (⟨"LoadsAheadModel", "areAllDone", "(I)Z"⟩, 96), (⟨"LoadsAheadModel", "isHeldBack", "()Z"⟩, 96), (⟨"LoadsAheadModel", "isOver", "()Z"⟩, 96), (⟨"LoadsAheadModel", "putsSetsBack", "()V"⟩, 96), (⟨"LoadsAheadModel", "toldOf", "(I)I"⟩, 96), (⟨"LoadsAheadModel", "isTried", "(IZ)Z"⟩, 96), (⟨"LoadsAheadModel", "goesPlain", "()V"⟩, 96), (⟨"LoadsAheadModel", "doesPlain", "(I)V"⟩, 96), (⟨"LoadsAheadModel", "haveByte", "(II)Z"⟩, 96), (⟨"LoadsAheadModel", "toldOfOp", "(II)I"⟩, 96), (⟨"LoadsAheadModel", "worstOp", "()I"⟩, 96), (⟨"LoadsAheadModel", "withSet", "()I"⟩, 96)]
theorem lw_r7 : ∀ q ∈ lw_privs_7, lw_okq q := List.forall_mem_cons.mpr ⟨lw_p96, List.forall_mem_cons.mpr ⟨lw_p97, List.forall_mem_cons.mpr ⟨lw_p98, List.forall_mem_cons.mpr ⟨lw_p99, List.forall_mem_cons.mpr ⟨lw_p100, List.forall_mem_cons.mpr ⟨lw_p101, List.forall_mem_cons.mpr ⟨lw_p102, List.forall_mem_cons.mpr ⟨lw_p103, List.forall_mem_cons.mpr ⟨lw_p104, List.forall_mem_cons.mpr ⟨lw_p105, List.forall_mem_cons.mpr ⟨lw_p106, List.forall_mem_cons.mpr ⟨lw_p107, List.forall_mem_cons.mpr ⟨lw_p108, List.forall_mem_cons.mpr ⟨lw_p109, List.forall_mem_cons.mpr ⟨lw_p110, List.forall_mem_cons.mpr ⟨lw_p111, fun _ h => absurd h List.not_mem_nil⟩⟩⟩⟩⟩⟩⟩⟩⟩⟩⟩⟩⟩⟩⟩⟩
theorem lw_p112 : lw_okq (⟨"LoadsAheadModel", "octet", "(I)I"⟩, 96) := ⟨⟨by decide +kernel, by decide +kernel⟩, List.mem_of_getElem? (i := 972) (by decide +kernel), List.mem_of_getElem? (i := 1668) (by decide +kernel), List.mem_of_getElem? (i := 1669) (by decide +kernel)⟩
theorem lw_p113 : lw_okq (⟨"LoadsAheadModel", "ofKind", "(I)I"⟩, 96) := ⟨⟨by decide +kernel, by decide +kernel⟩, List.mem_of_getElem? (i := 972) (by decide +kernel), List.mem_of_getElem? (i := 1676) (by decide +kernel), List.mem_of_getElem? (i := 1677) (by decide +kernel)⟩
theorem lw_p114 : lw_okq (⟨"LoadsAheadModel", "bytesThere", "()I"⟩, 96) := ⟨⟨by decide +kernel, by decide +kernel⟩, List.mem_of_getElem? (i := 972) (by decide +kernel), List.mem_of_getElem? (i := 1680) (by decide +kernel), List.mem_of_getElem? (i := 1681) (by decide +kernel)⟩
def lw_privs_8 : List (MethodName × Nat) := [(⟨"LoadsAheadModel", "octet", "(I)I"⟩, 96), (⟨"LoadsAheadModel", "ofKind", "(I)I"⟩, 96), (⟨"LoadsAheadModel", "bytesThere", "()I"⟩, 96)]
theorem lw_r8 : ∀ q ∈ lw_privs_8, lw_okq q := List.forall_mem_cons.mpr ⟨lw_p112, List.forall_mem_cons.mpr ⟨lw_p113, List.forall_mem_cons.mpr ⟨lw_p114, fun _ h => absurd h List.not_mem_nil⟩⟩⟩
def lw_privs : List (MethodName × Nat) := lw_privs_1 ++ (lw_privs_2 ++ (lw_privs_3 ++ (lw_privs_4 ++ (lw_privs_5 ++ (lw_privs_6 ++ (lw_privs_7 ++ (lw_privs_8)))))))
def lw_tbl : List Cond := k2_sels lw_privs ++ tables_1
theorem lw_privs_ok : ∀ q ∈ lw_privs, lw_okq q := by
  show ∀ q ∈ lw_privs_1 ++ (lw_privs_2 ++ (lw_privs_3 ++ (lw_privs_4 ++ (lw_privs_5 ++ (lw_privs_6 ++ (lw_privs_7 ++ (lw_privs_8))))))), lw_okq q
  exact List.forall_mem_append.mpr ⟨lw_r1, List.forall_mem_append.mpr ⟨lw_r2, List.forall_mem_append.mpr ⟨lw_r3, List.forall_mem_append.mpr ⟨lw_r4, List.forall_mem_append.mpr ⟨lw_r5, List.forall_mem_append.mpr ⟨lw_r6, List.forall_mem_append.mpr ⟨lw_r7, lw_r8⟩⟩⟩⟩⟩⟩⟩
end
section
/-! ===== BEGIN words of one list among another's, by their places ===== -/
theorem goodIn_r {big : List Cond} (ws : List Cond) (ps : List Nat) (hp : ws = ps.filterMap (fun i => big[i]?)) (h : ws.all goodWord = true) : GoodIn big ws := by
  intro w hw
  have h1 := List.all_eq_true.mp h w hw
  rw [hp] at hw
  obtain ⟨i, -, hi⟩ := List.mem_filterMap.mp hw
  have hm : w ∈ big := by first | exact List.mem_of_getElem? hi | exact List.getElem?_mem hi
  exact ⟨hm, good_of_word h1⟩
theorem goodIn_app {big a b : List Cond} (ha : GoodIn big a) (hb : GoodIn big b) : GoodIn big (a ++ b) := fun w h => (List.mem_append.mp h).elim (ha w) (hb w)
theorem goodIn_ca {big a b : List Cond} {c : Cond} (ha : GoodIn big (c :: a)) (hb : GoodIn big b) : GoodIn big (c :: (a ++ b)) := fun w h => (List.mem_cons.mp h).elim (fun e => ha w (List.mem_cons.mpr (Or.inl e))) (fun h => (List.mem_append.mp h).elim (fun h => ha w (List.mem_cons.mpr (Or.inr h))) (hb w))
theorem goodIn_sub {big ws : List Cond} (hm : ∀ w ∈ ws, w ∈ big) (h : ws.all goodWord = true) : GoodIn big ws := fun w hw => ⟨hm w hw, good_of_word (List.all_eq_true.mp h w hw)⟩
/-! ===== END ===== -/


/-! ===== BEGIN printed: names, fields, word lists, decode rows ===== -/
def RX0 : String := "LoadsAhead$Law"
def TX0 : u_T := fun k => match k with
  | 0 => ("LoadsAhead$Law", "kinds", "[I", true)
  | 1 => ("LoadsAhead$Law", "begins", "[I", true)
  | 2 => ("LoadsAhead$Law", "middles", "[I", true)
  | 3 => ("LoadsAhead$Law", "steps", "[I", true)
  | 4 => ("LoadsAhead$Law", "operands", "[I", true)
  | 5 => ("LoadsAhead$Law", "letters", "[I", true)
  | 6 => ("LoadsAhead$Law", "stack", "[I", true)
  | 7 => ("LoadsAhead$Law", "length", "I", false)
  | _ => ("LoadsAhead$Law", "stepCount", "I", false)
def tyX0 : Nat → FieldType := fun k => match k with
  | 0 => .array .int
  | 1 => .array .int
  | 2 => .array .int
  | 3 => .array .int
  | 4 => .array .int
  | 5 => .array .int
  | 6 => .array .int
  | 7 => .int
  | _ => .int
abbrev wsX00 : List Cond := u_ws RX0 TX0 9
theorem nmX0 : ∀ a, a < 9 → ∀ b, b < 9 → a ≠ b → (TX0 a).2.1 ≠ (TX0 b).2.1 := by decide +kernel
theorem tyX0_ok : ∀ k, k < 9 → parseFieldDescriptor (TX0 k).2.2.1 = some (tyX0 k) := by decide +kernel
abbrev cX0_init : ByteArray := prog_2_method_1_code
def yX0_init : MethodName := ⟨RX0, "<init>", "()V"⟩
abbrev cX0_copyFrom : ByteArray := prog_2_method_2_code
def yX0_copyFrom : MethodName := ⟨RX0, "copyFrom", "(LLoadsAhead$Law;)V"⟩
abbrev cX0_readFrom : ByteArray := prog_2_method_3_code
def yX0_readFrom : MethodName := ⟨RX0, "readFrom", "(LLoadsAhead$Tape;)I"⟩
abbrev cX0_readRule : ByteArray := prog_2_method_4_code
def yX0_readRule : MethodName := ⟨RX0, "readRule", "(LLoadsAhead$Tape;I)Z"⟩
abbrev cX0_readEither : ByteArray := prog_2_method_5_code
def yX0_readEither : MethodName := ⟨RX0, "readEither", "(LLoadsAhead$Tape;I)Z"⟩
abbrev cX0_readBoth : ByteArray := prog_2_method_6_code
def yX0_readBoth : MethodName := ⟨RX0, "readBoth", "(LLoadsAhead$Tape;I)Z"⟩
abbrev cX0_readTest : ByteArray := prog_2_method_7_code
def yX0_readTest : MethodName := ⟨RX0, "readTest", "(LLoadsAhead$Tape;I)Z"⟩
abbrev cX0_opens : ByteArray := prog_2_method_8_code
def yX0_opens : MethodName := ⟨RX0, "opens", "(LLoadsAhead$Tape;I)Z"⟩
abbrev cX0_readSum : ByteArray := prog_2_method_9_code
def yX0_readSum : MethodName := ⟨RX0, "readSum", "(LLoadsAhead$Tape;I)Z"⟩
abbrev cX0_readProduct : ByteArray := prog_2_method_10_code
def yX0_readProduct : MethodName := ⟨RX0, "readProduct", "(LLoadsAhead$Tape;I)Z"⟩
abbrev cX0_isOneOf : ByteArray := prog_2_method_11_code
def yX0_isOneOf : MethodName := ⟨RX0, "isOneOf", "(IIII)Z"⟩
abbrev cX0_readFactor : ByteArray := prog_2_method_12_code
def yX0_readFactor : MethodName := ⟨RX0, "readFactor", "(LLoadsAhead$Tape;I)Z"⟩
abbrev cX0_addStep : ByteArray := prog_2_method_13_code
def yX0_addStep : MethodName := ⟨RX0, "addStep", "(II)I"⟩
abbrev cX0_skipToHere : ByteArray := prog_2_method_14_code
def yX0_skipToHere : MethodName := ⟨RX0, "skipToHere", "(I)V"⟩
abbrev cX0_tell : ByteArray := prog_2_method_15_code
def yX0_tell : MethodName := ⟨RX0, "tell", "(IIIIIII)V"⟩
abbrev cX0_delay : ByteArray := prog_2_method_16_code
def yX0_delay : MethodName := ⟨RX0, "delay", "(I)I"⟩
abbrev cX0_holdsBack : ByteArray := prog_2_method_17_code
def yX0_holdsBack : MethodName := ⟨RX0, "holdsBack", "()Z"⟩
abbrev cX0_holds : ByteArray := prog_2_method_18_code
def yX0_holds : MethodName := ⟨RX0, "holds", "(I)Z"⟩
abbrev cX0_reckon : ByteArray := prog_2_method_19_code
def yX0_reckon : MethodName := ⟨RX0, "reckon", "(II)I"⟩
abbrev cX0_joined : ByteArray := prog_2_method_20_code
def yX0_joined : MethodName := ⟨RX0, "joined", "(III)I"⟩
def RX1 : String := "LoadsAhead$Machine"
def TX1 : u_T := fun k => match k with
  | 0 => ("LoadsAhead$Machine", "program", "LLoadsAhead$Program;", true)
  | 1 => ("LoadsAhead$Machine", "law", "LLoadsAhead$Law;", true)
  | 2 => ("LoadsAhead$Machine", "now", "LLoadsAhead$State;", true)
  | 3 => ("LoadsAhead$Machine", "after", "LLoadsAhead$State;", true)
  | 4 => ("LoadsAhead$Machine", "report", "LLoadsAhead$Report;", true)
  | 5 => ("LoadsAhead$Machine", "stages", "[I", true)
  | 6 => ("LoadsAhead$Machine", "until", "[I", true)
  | 7 => ("LoadsAhead$Machine", "retired", "[Z", true)
  | 8 => ("LoadsAhead$Machine", "remembered", "[I", true)
  | 9 => ("LoadsAhead$Machine", "wrongLoads", "[I", true)
  | 10 => ("LoadsAhead$Machine", "queue", "[I", true)
  | _ => ("LoadsAhead$Machine", "cycle", "I", false)
def tyX1 : Nat → FieldType := fun k => match k with
  | 0 => .object "LoadsAhead$Program"
  | 1 => .object "LoadsAhead$Law"
  | 2 => .object "LoadsAhead$State"
  | 3 => .object "LoadsAhead$State"
  | 4 => .object "LoadsAhead$Report"
  | 5 => .array .int
  | 6 => .array .int
  | 7 => .array .boolean
  | 8 => .array .int
  | 9 => .array .int
  | 10 => .array .int
  | _ => .int
abbrev wsX10 : List Cond := u_ws RX1 TX1 12
theorem nmX1 : ∀ a, a < 12 → ∀ b, b < 12 → a ≠ b → (TX1 a).2.1 ≠ (TX1 b).2.1 := by decide +kernel
theorem tyX1_ok : ∀ k, k < 12 → parseFieldDescriptor (TX1 k).2.2.1 = some (tyX1 k) := by decide +kernel
abbrev cX1_init : ByteArray := prog_3_method_1_code
def yX1_init : MethodName := ⟨RX1, "<init>", "()V"⟩
abbrev cX1_go : ByteArray := prog_3_method_2_code
def yX1_go : MethodName := ⟨RX1, "go", "(IZ)I"⟩
abbrev cX1_begin : ByteArray := prog_3_method_3_code
def yX1_begin : MethodName := ⟨RX1, "begin", "()V"⟩
abbrev cX1_finishOps : ByteArray := prog_3_method_4_code
def yX1_finishOps : MethodName := ⟨RX1, "finishOps", "()V"⟩
abbrev cX1_valueRead : ByteArray := prog_3_method_5_code
def yX1_valueRead : MethodName := ⟨RX1, "valueRead", "(II)I"⟩
abbrev cX1_takeBytes : ByteArray := prog_3_method_6_code
def yX1_takeBytes : MethodName := ⟨RX1, "takeBytes", "(I)V"⟩
abbrev cX1_youngestCovering : ByteArray := prog_3_method_7_code
def yX1_youngestCovering : MethodName := ⟨RX1, "youngestCovering", "(II)I"⟩
abbrev cX1_storedAt : ByteArray := prog_3_method_8_code
def yX1_storedAt : MethodName := ⟨RX1, "storedAt", "(II)I"⟩
abbrev cX1_lookBack : ByteArray := prog_3_method_9_code
def yX1_lookBack : MethodName := ⟨RX1, "lookBack", "(I)V"⟩
abbrev cX1_tookTooOld : ByteArray := prog_3_method_10_code
def yX1_tookTooOld : MethodName := ⟨RX1, "tookTooOld", "(II)Z"⟩
abbrev cX1_replay : ByteArray := prog_3_method_11_code
def yX1_replay : MethodName := ⟨RX1, "replay", "(I)V"⟩
abbrev cX1_dependsOn : ByteArray := prog_3_method_12_code
def yX1_dependsOn : MethodName := ⟨RX1, "dependsOn", "(II)Z"⟩
abbrev cX1_makeWait : ByteArray := prog_3_method_13_code
def yX1_makeWait : MethodName := ⟨RX1, "makeWait", "(I)V"⟩
abbrev cX1_undoDownTo : ByteArray := prog_3_method_14_code
def yX1_undoDownTo : MethodName := ⟨RX1, "undoDownTo", "(I)V"⟩
abbrev cX1_sendOff : ByteArray := prog_3_method_15_code
def yX1_sendOff : MethodName := ⟨RX1, "sendOff", "(IZ)V"⟩
abbrev cX1_isDone : ByteArray := prog_3_method_16_code
def yX1_isDone : MethodName := ⟨RX1, "isDone", "(I)Z"⟩
abbrev cX1_mustWait : ByteArray := prog_3_method_17_code
def yX1_mustWait : MethodName := ⟨RX1, "mustWait", "(IZ)Z"⟩
abbrev cX1_tellLaw : ByteArray := prog_3_method_18_code
def yX1_tellLaw : MethodName := ⟨RX1, "tellLaw", "(II)V"⟩
abbrev cX1_retireOne : ByteArray := prog_3_method_19_code
def yX1_retireOne : MethodName := ⟨RX1, "retireOne", "()V"⟩
abbrev cX1_oldestToRetire : ByteArray := prog_3_method_20_code
def yX1_oldestToRetire : MethodName := ⟨RX1, "oldestToRetire", "()I"⟩
abbrev cX1_doneAhead : ByteArray := prog_3_method_21_code
def yX1_doneAhead : MethodName := ⟨RX1, "doneAhead", "(I)Z"⟩
abbrev cX1_settled : ByteArray := prog_3_method_22_code
def yX1_settled : MethodName := ⟨RX1, "settled", "()Z"⟩
abbrev cX1_giveRegisters : ByteArray := prog_3_method_23_code
def yX1_giveRegisters : MethodName := ⟨RX1, "giveRegisters", "()V"⟩
def RX2 : String := "LoadsAhead$Plain"
def TX2 : u_T := fun k => match k with
  | 0 => ("LoadsAhead$Plain", "left", "LLoadsAhead$State;", true)
  | _ => ("LoadsAhead$Plain", "places", "[I", true)
def tyX2 : Nat → FieldType := fun k => match k with
  | 0 => .object "LoadsAhead$State"
  | _ => .array .int
abbrev wsX20 : List Cond := u_ws RX2 TX2 2
theorem nmX2 : ∀ a, a < 2 → ∀ b, b < 2 → a ≠ b → (TX2 a).2.1 ≠ (TX2 b).2.1 := by decide +kernel
theorem tyX2_ok : ∀ k, k < 2 → parseFieldDescriptor (TX2 k).2.2.1 = some (tyX2 k) := by decide +kernel
abbrev cX2_init : ByteArray := prog_4_method_1_code
def yX2_init : MethodName := ⟨RX2, "<init>", "()V"⟩
abbrev cX2_go : ByteArray := prog_4_method_2_code
def yX2_go : MethodName := ⟨RX2, "go", "(LLoadsAhead$Program;LLoadsAhead$State;)V"⟩
abbrev cX2_valueIn : ByteArray := prog_4_method_3_code
def yX2_valueIn : MethodName := ⟨RX2, "valueIn", "(I)I"⟩
abbrev cX2_loaded : ByteArray := prog_4_method_4_code
def yX2_loaded : MethodName := ⟨RX2, "loaded", "(II)I"⟩
abbrev cX2_sharedBytes : ByteArray := prog_4_method_5_code
def yX2_sharedBytes : MethodName := ⟨RX2, "sharedBytes", "(LLoadsAhead$Program;)I"⟩
abbrev cX2_meet : ByteArray := prog_4_method_6_code
def yX2_meet : MethodName := ⟨RX2, "meet", "(LLoadsAhead$Program;II)Z"⟩
def RX3 : String := "LoadsAhead$Program"
def TX3 : u_T := fun k => match k with
  | 0 => ("LoadsAhead$Program", "kinds", "[I", true)
  | 1 => ("LoadsAhead$Program", "signs", "[I", true)
  | 2 => ("LoadsAhead$Program", "sizes", "[I", true)
  | 3 => ("LoadsAhead$Program", "gives", "[I", true)
  | 4 => ("LoadsAhead$Program", "firsts", "[I", true)
  | 5 => ("LoadsAhead$Program", "seconds", "[I", true)
  | 6 => ("LoadsAhead$Program", "numbers", "[I", true)
  | 7 => ("LoadsAhead$Program", "firstSources", "[I", true)
  | 8 => ("LoadsAhead$Program", "secondSources", "[I", true)
  | 9 => ("LoadsAhead$Program", "givers", "[I", true)
  | 10 => ("LoadsAhead$Program", "depths", "[I", true)
  | 11 => ("LoadsAhead$Program", "length", "I", false)
  | _ => ("LoadsAhead$Program", "deepest", "I", false)
def tyX3 : Nat → FieldType := fun k => match k with
  | 0 => .array .int
  | 1 => .array .int
  | 2 => .array .int
  | 3 => .array .int
  | 4 => .array .int
  | 5 => .array .int
  | 6 => .array .int
  | 7 => .array .int
  | 8 => .array .int
  | 9 => .array .int
  | 10 => .array .int
  | 11 => .int
  | _ => .int
abbrev wsX30 : List Cond := u_ws RX3 TX3 13
theorem nmX3 : ∀ a, a < 13 → ∀ b, b < 13 → a ≠ b → (TX3 a).2.1 ≠ (TX3 b).2.1 := by decide +kernel
theorem tyX3_ok : ∀ k, k < 13 → parseFieldDescriptor (TX3 k).2.2.1 = some (tyX3 k) := by decide +kernel
abbrev cX3_init : ByteArray := prog_5_method_1_code
def yX3_init : MethodName := ⟨RX3, "<init>", "()V"⟩
abbrev cX3_copyFrom : ByteArray := prog_5_method_2_code
def yX3_copyFrom : MethodName := ⟨RX3, "copyFrom", "(LLoadsAhead$Program;)V"⟩
abbrev cX3_readFrom : ByteArray := prog_5_method_3_code
def yX3_readFrom : MethodName := ⟨RX3, "readFrom", "(LLoadsAhead$Tape;)I"⟩
abbrev cX3_readOp : ByteArray := prog_5_method_4_code
def yX3_readOp : MethodName := ⟨RX3, "readOp", "(LLoadsAhead$Tape;I)Z"⟩
abbrev cX3_kindOf : ByteArray := prog_5_method_5_code
def yX3_kindOf : MethodName := ⟨RX3, "kindOf", "(I)I"⟩
abbrev cX3_readGiven : ByteArray := prog_5_method_6_code
def yX3_readGiven : MethodName := ⟨RX3, "readGiven", "(LLoadsAhead$Tape;I)Z"⟩
abbrev cX3_readNumber : ByteArray := prog_5_method_7_code
def yX3_readNumber : MethodName := ⟨RX3, "readNumber", "(LLoadsAhead$Tape;I)Z"⟩
abbrev cX3_readReckoning : ByteArray := prog_5_method_8_code
def yX3_readReckoning : MethodName := ⟨RX3, "readReckoning", "(LLoadsAhead$Tape;I)Z"⟩
abbrev cX3_readMove : ByteArray := prog_5_method_9_code
def yX3_readMove : MethodName := ⟨RX3, "readMove", "(LLoadsAhead$Tape;I)Z"⟩
abbrev cX3_sizeOf : ByteArray := prog_5_method_10_code
def yX3_sizeOf : MethodName := ⟨RX3, "sizeOf", "(I)I"⟩
abbrev cX3_findSources : ByteArray := prog_5_method_11_code
def yX3_findSources : MethodName := ⟨RX3, "findSources", "()V"⟩
abbrev cX3_giverOfRegister : ByteArray := prog_5_method_12_code
def yX3_giverOfRegister : MethodName := ⟨RX3, "giverOfRegister", "(I)I"⟩
abbrev cX3_depthOf : ByteArray := prog_5_method_13_code
def yX3_depthOf : MethodName := ⟨RX3, "depthOf", "(I)I"⟩
abbrev cX3_moves : ByteArray := prog_5_method_14_code
def yX3_moves : MethodName := ⟨RX3, "moves", "(I)Z"⟩
abbrev cX3_ofKind : ByteArray := prog_5_method_15_code
def yX3_ofKind : MethodName := ⟨RX3, "ofKind", "(I)I"⟩
abbrev cX3_reckoned : ByteArray := prog_5_method_16_code
def yX3_reckoned : MethodName := ⟨RX3, "reckoned", "(III)I"⟩
abbrev cX3_placeBy : ByteArray := prog_5_method_17_code
def yX3_placeBy : MethodName := ⟨RX3, "placeBy", "(II)I"⟩
abbrev cX3_storedOf : ByteArray := prog_5_method_18_code
def yX3_storedOf : MethodName := ⟨RX3, "storedOf", "(II)I"⟩
def RX4 : String := "LoadsAhead$Report"
def TX4 : u_T := fun k => match k with
  | 0 => ("LoadsAhead$Report", "totals", "[I", true)
  | 1 => ("LoadsAhead$Report", "doneAt", "[I", true)
  | 2 => ("LoadsAhead$Report", "replays", "[I", true)
  | 3 => ("LoadsAhead$Report", "values", "[I", true)
  | 4 => ("LoadsAhead$Report", "places", "[I", true)
  | _ => ("LoadsAhead$Report", "givers", "[I", true)
def tyX4 : Nat → FieldType := fun k => match k with
  | 0 => .array .int
  | 1 => .array .int
  | 2 => .array .int
  | 3 => .array .int
  | 4 => .array .int
  | _ => .array .int
abbrev wsX40 : List Cond := u_ws RX4 TX4 6
theorem nmX4 : ∀ a, a < 6 → ∀ b, b < 6 → a ≠ b → (TX4 a).2.1 ≠ (TX4 b).2.1 := by decide +kernel
theorem tyX4_ok : ∀ k, k < 6 → parseFieldDescriptor (TX4 k).2.2.1 = some (tyX4 k) := by decide +kernel
abbrev cX4_init : ByteArray := prog_6_method_1_code
def yX4_init : MethodName := ⟨RX4, "<init>", "()V"⟩
abbrev cX4_clear : ByteArray := prog_6_method_2_code
def yX4_clear : MethodName := ⟨RX4, "clear", "()V"⟩
abbrev cX4_copyFrom : ByteArray := prog_6_method_3_code
def yX4_copyFrom : MethodName := ⟨RX4, "copyFrom", "(LLoadsAhead$Report;)V"⟩
def RX5 : String := "LoadsAhead$Rows"
def TX5 : u_T := fun k => match k with
  | 0 => ("LoadsAhead$Rows", "ops", "[[I", true)
  | 1 => ("LoadsAhead$Rows", "lengths", "[I", true)
  | _ => ("LoadsAhead$Rows", "misplaced", "I", false)
def tyX5 : Nat → FieldType := fun k => match k with
  | 0 => .array (.array .int)
  | 1 => .array .int
  | _ => .int
abbrev wsX50 : List Cond := u_ws RX5 TX5 3
theorem nmX5 : ∀ a, a < 3 → ∀ b, b < 3 → a ≠ b → (TX5 a).2.1 ≠ (TX5 b).2.1 := by decide +kernel
theorem tyX5_ok : ∀ k, k < 3 → parseFieldDescriptor (TX5 k).2.2.1 = some (tyX5 k) := by decide +kernel
abbrev cX5_init : ByteArray := prog_7_method_1_code
def yX5_init : MethodName := ⟨RX5, "<init>", "()V"⟩
abbrev cX5_clear : ByteArray := prog_7_method_2_code
def yX5_clear : MethodName := ⟨RX5, "clear", "()V"⟩
abbrev cX5_put : ByteArray := prog_7_method_3_code
def yX5_put : MethodName := ⟨RX5, "put", "(II)I"⟩
def RX6 : String := "LoadsAhead$State"
def TX6 : u_T := fun k => match k with
  | 0 => ("LoadsAhead$State", "registers", "[I", true)
  | 1 => ("LoadsAhead$State", "memory", "[I", true)
  | 2 => ("LoadsAhead$State", "sets", "[I", true)
  | 3 => ("LoadsAhead$State", "nextSet", "I", false)
  | 4 => ("LoadsAhead$State", "runs", "I", false)
  | _ => ("LoadsAhead$State", "x", "I", false)
def tyX6 : Nat → FieldType := fun k => match k with
  | 0 => .array .int
  | 1 => .array .int
  | 2 => .array .int
  | 3 => .int
  | 4 => .int
  | _ => .int
abbrev wsX60 : List Cond := u_ws RX6 TX6 6
theorem nmX6 : ∀ a, a < 6 → ∀ b, b < 6 → a ≠ b → (TX6 a).2.1 ≠ (TX6 b).2.1 := by decide +kernel
theorem tyX6_ok : ∀ k, k < 6 → parseFieldDescriptor (TX6 k).2.2.1 = some (tyX6 k) := by decide +kernel
abbrev cX6_init : ByteArray := prog_8_method_1_code
def yX6_init : MethodName := ⟨RX6, "<init>", "()V"⟩
abbrev cX6_copyFrom : ByteArray := prog_8_method_2_code
def yX6_copyFrom : MethodName := ⟨RX6, "copyFrom", "(LLoadsAhead$State;)V"⟩
abbrev cX6_copyCellsFrom : ByteArray := prog_8_method_3_code
def yX6_copyCellsFrom : MethodName := ⟨RX6, "copyCellsFrom", "(LLoadsAhead$State;)V"⟩
abbrev cX6_copySetsFrom : ByteArray := prog_8_method_4_code
def yX6_copySetsFrom : MethodName := ⟨RX6, "copySetsFrom", "(LLoadsAhead$State;)V"⟩
abbrev cX6_dropSets : ByteArray := prog_8_method_5_code
def yX6_dropSets : MethodName := ⟨RX6, "dropSets", "()V"⟩
abbrev cX6_withSet : ByteArray := prog_8_method_6_code
def yX6_withSet : MethodName := ⟨RX6, "withSet", "()I"⟩
abbrev cX6_bytesNotZero : ByteArray := prog_8_method_7_code
def yX6_bytesNotZero : MethodName := ⟨RX6, "bytesNotZero", "()I"⟩
abbrev cX6_draw : ByteArray := prog_8_method_8_code
def yX6_draw : MethodName := ⟨RX6, "draw", "()I"⟩
abbrev cX6_melt : ByteArray := prog_8_method_9_code
def yX6_melt : MethodName := ⟨RX6, "melt", "(II)V"⟩
abbrev cX6_putBytes : ByteArray := prog_8_method_10_code
def yX6_putBytes : MethodName := ⟨RX6, "putBytes", "(III)V"⟩
def RX7 : String := "LoadsAhead$Tape"
def TX7 : u_T := fun k => match k with
  | 0 => ("LoadsAhead$Tape", "bytes", "[I", true)
  | 1 => ("LoadsAhead$Tape", "length", "I", false)
  | 2 => ("LoadsAhead$Tape", "end", "I", false)
  | 3 => ("LoadsAhead$Tape", "at", "I", false)
  | _ => ("LoadsAhead$Tape", "fault", "I", false)
def tyX7 : Nat → FieldType := fun k => match k with
  | 0 => .array .int
  | 1 => .int
  | 2 => .int
  | 3 => .int
  | _ => .int
abbrev wsX70 : List Cond := u_ws RX7 TX7 5
theorem nmX7 : ∀ a, a < 5 → ∀ b, b < 5 → a ≠ b → (TX7 a).2.1 ≠ (TX7 b).2.1 := by decide +kernel
theorem tyX7_ok : ∀ k, k < 5 → parseFieldDescriptor (TX7 k).2.2.1 = some (tyX7 k) := by decide +kernel
abbrev cX7_init : ByteArray := prog_9_method_1_code
def yX7_init : MethodName := ⟨RX7, "<init>", "()V"⟩
abbrev cX7_add : ByteArray := prog_9_method_2_code
def yX7_add : MethodName := ⟨RX7, "add", "(I)V"⟩
abbrev cX7_clear : ByteArray := prog_9_method_3_code
def yX7_clear : MethodName := ⟨RX7, "clear", "()V"⟩
abbrev cX7_beginText : ByteArray := prog_9_method_4_code
def yX7_beginText : MethodName := ⟨RX7, "beginText", "(I)V"⟩
abbrev cX7_ended : ByteArray := prog_9_method_5_code
def yX7_ended : MethodName := ⟨RX7, "ended", "()Z"⟩
abbrev cX7_sign : ByteArray := prog_9_method_6_code
def yX7_sign : MethodName := ⟨RX7, "sign", "()I"⟩
abbrev cX7_digitNext : ByteArray := prog_9_method_7_code
def yX7_digitNext : MethodName := ⟨RX7, "digitNext", "()Z"⟩
abbrev cX7_step : ByteArray := prog_9_method_8_code
def yX7_step : MethodName := ⟨RX7, "step", "()V"⟩
abbrev cX7_accept : ByteArray := prog_9_method_9_code
def yX7_accept : MethodName := ⟨RX7, "accept", "(I)Z"⟩
abbrev cX7_fail : ByteArray := prog_9_method_10_code
def yX7_fail : MethodName := ⟨RX7, "fail", "(I)Z"⟩
abbrev cX7_fault : ByteArray := prog_9_method_11_code
def yX7_fault : MethodName := ⟨RX7, "fault", "()I"⟩
abbrev cX7_readDigits : ByteArray := prog_9_method_12_code
def yX7_readDigits : MethodName := ⟨RX7, "readDigits", "(I)I"⟩
abbrev cX7_readRegister : ByteArray := prog_9_method_13_code
def yX7_readRegister : MethodName := ⟨RX7, "readRegister", "()I"⟩
def RX8 : String := "LoadsAhead"
def TX8 : u_T := fun k => match k with
  | 0 => ("LoadsAhead", "tape", "LLoadsAhead$Tape;", true)
  | 1 => ("LoadsAhead", "machine", "LLoadsAhead$Machine;", true)
  | 2 => ("LoadsAhead", "spareProgram", "LLoadsAhead$Program;", true)
  | 3 => ("LoadsAhead", "spareLaw", "LLoadsAhead$Law;", true)
  | 4 => ("LoadsAhead", "inOrder", "LLoadsAhead$Plain;", true)
  | 5 => ("LoadsAhead", "last", "LLoadsAhead$Report;", true)
  | 6 => ("LoadsAhead", "kept", "LLoadsAhead$State;", true)
  | 7 => ("LoadsAhead", "rows", "LLoadsAhead$Rows;", true)
  | 8 => ("LoadsAhead", "hasLast", "Z", false)
  | 9 => ("LoadsAhead", "hasKept", "Z", false)
  | _ => ("LoadsAhead", "toldSinceKept", "Z", false)
def tyX8 : Nat → FieldType := fun k => match k with
  | 0 => .object "LoadsAhead$Tape"
  | 1 => .object "LoadsAhead$Machine"
  | 2 => .object "LoadsAhead$Program"
  | 3 => .object "LoadsAhead$Law"
  | 4 => .object "LoadsAhead$Plain"
  | 5 => .object "LoadsAhead$Report"
  | 6 => .object "LoadsAhead$State"
  | 7 => .object "LoadsAhead$Rows"
  | 8 => .boolean
  | 9 => .boolean
  | _ => .boolean
abbrev wsX80 : List Cond := u_ws RX8 TX8 11
theorem nmX8 : ∀ a, a < 11 → ∀ b, b < 11 → a ≠ b → (TX8 a).2.1 ≠ (TX8 b).2.1 := by decide +kernel
theorem tyX8_ok : ∀ k, k < 11 → parseFieldDescriptor (TX8 k).2.2.1 = some (tyX8 k) := by decide +kernel
abbrev cX8_init : ByteArray := prog_1_method_1_code
def yX8_init : MethodName := ⟨RX8, "<init>", "()V"⟩
abbrev cX8_register : ByteArray := prog_1_method_2_code
def yX8_register : MethodName := ⟨RX8, "register", "(II)Z"⟩
abbrev cX8_poke : ByteArray := prog_1_method_3_code
def yX8_poke : MethodName := ⟨RX8, "poke", "(II)Z"⟩
abbrev cX8_feed : ByteArray := prog_1_method_4_code
def yX8_feed : MethodName := ⟨RX8, "feed", "(IIIII)I"⟩
abbrev cX8_law : ByteArray := prog_1_method_5_code
def yX8_law : MethodName := ⟨RX8, "law", "(I)I"⟩
abbrev cX8_program : ByteArray := prog_1_method_6_code
def yX8_program : MethodName := ⟨RX8, "program", "(I)I"⟩
abbrev cX8_run : ByteArray := prog_1_method_7_code
def yX8_run : MethodName := ⟨RX8, "run", "(I)I"⟩
abbrev cX8_tried : ByteArray := prog_1_method_8_code
def yX8_tried : MethodName := ⟨RX8, "tried", "(II)I"⟩
abbrev cX8_lastRun : ByteArray := prog_1_method_9_code
def yX8_lastRun : MethodName := ⟨RX8, "lastRun", "(I)I"⟩
abbrev cX8_opIs : ByteArray := prog_1_method_10_code
def yX8_opIs : MethodName := ⟨RX8, "opIs", "(II)I"⟩
abbrev cX8_source : ByteArray := prog_1_method_11_code
def yX8_source : MethodName := ⟨RX8, "source", "(II)I"⟩
abbrev cX8_now : ByteArray := prog_1_method_12_code
def yX8_now : MethodName := ⟨RX8, "now", "(I)I"⟩
abbrev cX8_plain : ByteArray := prog_1_method_13_code
def yX8_plain : MethodName := ⟨RX8, "plain", "(I)I"⟩
abbrev cX8_unlike : ByteArray := prog_1_method_14_code
def yX8_unlike : MethodName := ⟨RX8, "unlike", "(I)I"⟩
abbrev cX8_fastest : ByteArray := prog_1_method_15_code
def yX8_fastest : MethodName := ⟨RX8, "fastest", "(I)I"⟩
abbrev cX8_cautious : ByteArray := prog_1_method_16_code
def yX8_cautious : MethodName := ⟨RX8, "cautious", "(II)I"⟩
abbrev cX8_worst : ByteArray := prog_1_method_17_code
def yX8_worst : MethodName := ⟨RX8, "worst", "(I)I"⟩
abbrev cX8_deep : ByteArray := prog_1_method_18_code
def yX8_deep : MethodName := ⟨RX8, "deep", "()I"⟩
abbrev cX8_mix : ByteArray := prog_1_method_19_code
def yX8_mix : MethodName := ⟨RX8, "mix", "()I"⟩
abbrev cX8_watch : ByteArray := prog_1_method_20_code
def yX8_watch : MethodName := ⟨RX8, "watch", "(II)I"⟩
abbrev cX8_watched : ByteArray := prog_1_method_21_code
def yX8_watched : MethodName := ⟨RX8, "watched", "(III)I"⟩
abbrev cX8_forget : ByteArray := prog_1_method_22_code
def yX8_forget : MethodName := ⟨RX8, "forget", "()I"⟩
abbrev cX8_seed : ByteArray := prog_1_method_23_code
def yX8_seed : MethodName := ⟨RX8, "seed", "(I)Z"⟩
abbrev cX8_keep : ByteArray := prog_1_method_24_code
def yX8_keep : MethodName := ⟨RX8, "keep", "()I"⟩
abbrev cX8_undo : ByteArray := prog_1_method_25_code
def yX8_undo : MethodName := ⟨RX8, "undo", "()Z"⟩
abbrev cX8_check : ByteArray := prog_1_method_26_code
def yX8_check : MethodName := ⟨RX8, "check", "(I)I"⟩
abbrev cX8_count : ByteArray := prog_1_method_27_code
def yX8_count : MethodName := ⟨RX8, "count", "(I)I"⟩
abbrev cX8_canRun : ByteArray := prog_1_method_28_code
def yX8_canRun : MethodName := ⟨RX8, "canRun", "(I)Z"⟩
abbrev cX8_isOp : ByteArray := prog_1_method_29_code
def yX8_isOp : MethodName := ⟨RX8, "isOp", "(I)Z"⟩
abbrev cX8_giverOf : ByteArray := prog_1_method_30_code
def yX8_giverOf : MethodName := ⟨RX8, "giverOf", "(II)I"⟩
abbrev cX8_isTotal : ByteArray := prog_1_method_31_code
def yX8_isTotal : MethodName := ⟨RX8, "isTotal", "(I)Z"⟩
abbrev cX8_isCell : ByteArray := prog_1_method_32_code
def yX8_isCell : MethodName := ⟨RX8, "isCell", "(I)Z"⟩
abbrev cX8_isByte : ByteArray := prog_1_method_33_code
def yX8_isByte : MethodName := ⟨RX8, "isByte", "(I)Z"⟩
abbrev cX8_orAbsent : ByteArray := prog_1_method_34_code
def yX8_orAbsent : MethodName := ⟨RX8, "orAbsent", "(I)I"⟩
abbrev cX8_differing : ByteArray := prog_1_method_35_code
def yX8_differing : MethodName := ⟨RX8, "differing", "([I[I)I"⟩
abbrev cX8_covers : ByteArray := prog_1_method_36_code
def yX8_covers : MethodName := ⟨RX8, "covers", "(III)Z"⟩
def RX9 : String := "LoadsAheadModel"
def TX9 : u_T := fun k => match k with
  | 0 => ("LoadsAheadModel", "lot", "I", false)
  | 1 => ("LoadsAheadModel", "runsSoFar", "I", false)
  | 2 => ("LoadsAheadModel", "ops", "I", false)
  | 3 => ("LoadsAheadModel", "nextSet", "I", false)
  | 4 => ("LoadsAheadModel", "misplaced", "I", false)
  | 5 => ("LoadsAheadModel", "programs", "I", false)
  | 6 => ("LoadsAheadModel", "registers", "[I", true)
  | 7 => ("LoadsAheadModel", "memory", "[I", true)
  | 8 => ("LoadsAheadModel", "opSet", "[I", true)
  | 9 => ("LoadsAheadModel", "opKind", "[I", true)
  | 10 => ("LoadsAheadModel", "opSign", "[I", true)
  | 11 => ("LoadsAheadModel", "opTo", "[I", true)
  | 12 => ("LoadsAheadModel", "opOne", "[I", true)
  | 13 => ("LoadsAheadModel", "opOther", "[I", true)
  | 14 => ("LoadsAheadModel", "opSize", "[I", true)
  | 15 => ("LoadsAheadModel", "opBase", "[I", true)
  | 16 => ("LoadsAheadModel", "opNumber", "[I", true)
  | 17 => ("LoadsAheadModel", "tape", "[B", true)
  | 18 => ("LoadsAheadModel", "taped", "I", false)
  | 19 => ("LoadsAheadModel", "place0", "I", false)
  | 20 => ("LoadsAheadModel", "length0", "I", false)
  | 21 => ("LoadsAheadModel", "fault", "I", false)
  | 22 => ("LoadsAheadModel", "number0", "I", false)
  | 23 => ("LoadsAheadModel", "open", "I", false)
  | 24 => ("LoadsAheadModel", "codeMany", "I", false)
  | 25 => ("LoadsAheadModel", "waiting", "I", false)
  | 26 => ("LoadsAheadModel", "saidMany", "I", false)
  | 27 => ("LoadsAheadModel", "clauses", "I", false)
  | 28 => ("LoadsAheadModel", "said", "[I", true)
  | 29 => ("LoadsAheadModel", "waitsAt", "[I", true)
  | 30 => ("LoadsAheadModel", "saidLetter", "[I", true)
  | 31 => ("LoadsAheadModel", "saidFrom", "[I", true)
  | 32 => ("LoadsAheadModel", "saidHalf", "[I", true)
  | 33 => ("LoadsAheadModel", "saidTo", "[I", true)
  | 34 => ("LoadsAheadModel", "codes", "[I", true)
  | 35 => ("LoadsAheadModel", "clauseOf", "[I", true)
  | 36 => ("LoadsAheadModel", "codeFrom", "[I", true)
  | 37 => ("LoadsAheadModel", "codeHalf", "[I", true)
  | 38 => ("LoadsAheadModel", "codeTo", "[I", true)
  | 39 => ("LoadsAheadModel", "stack", "[I", true)
  | 40 => ("LoadsAheadModel", "facts", "[I", true)
  | 41 => ("LoadsAheadModel", "newOps", "I", false)
  | 42 => ("LoadsAheadModel", "newKind", "[I", true)
  | 43 => ("LoadsAheadModel", "newSign", "[I", true)
  | 44 => ("LoadsAheadModel", "newTo", "[I", true)
  | 45 => ("LoadsAheadModel", "newOne", "[I", true)
  | 46 => ("LoadsAheadModel", "newOther", "[I", true)
  | 47 => ("LoadsAheadModel", "newSize", "[I", true)
  | 48 => ("LoadsAheadModel", "newBase", "[I", true)
  | 49 => ("LoadsAheadModel", "newNumber", "[I", true)
  | 50 => ("LoadsAheadModel", "stateOf", "[I", true)
  | 51 => ("LoadsAheadModel", "tillOf", "[I", true)
  | 52 => ("LoadsAheadModel", "valueOf", "[I", true)
  | 53 => ("LoadsAheadModel", "placeOf", "[I", true)
  | 54 => ("LoadsAheadModel", "doneOf", "[I", true)
  | 55 => ("LoadsAheadModel", "replayedOf", "[I", true)
  | 56 => ("LoadsAheadModel", "takenOf", "[I", true)
  | 57 => ("LoadsAheadModel", "before", "[I", true)
  | 58 => ("LoadsAheadModel", "isRetired", "[Z", true)
  | 59 => ("LoadsAheadModel", "memoryThen", "[I", true)
  | 60 => ("LoadsAheadModel", "memoryNow", "[I", true)
  | 61 => ("LoadsAheadModel", "setThen", "[I", true)
  | 62 => ("LoadsAheadModel", "endOf", "[I", true)
  | 63 => ("LoadsAheadModel", "cycles", "I", false)
  | 64 => ("LoadsAheadModel", "wrongs", "I", false)
  | 65 => ("LoadsAheadModel", "replays", "I", false)
  | 66 => ("LoadsAheadModel", "aheads", "I", false)
  | 67 => ("LoadsAheadModel", "undone", "I", false)
  | 68 => ("LoadsAheadModel", "waited", "I", false)
  | 69 => ("LoadsAheadModel", "nextThen", "I", false)
  | 70 => ("LoadsAheadModel", "isCareful", "Z", false)
  | 71 => ("LoadsAheadModel", "listOf", "[I", true)
  | 72 => ("LoadsAheadModel", "listed", "I", false)
  | 73 => ("LoadsAheadModel", "placeAt", "[I", true)
  | 74 => ("LoadsAheadModel", "wrongOf", "[I", true)
  | 75 => ("LoadsAheadModel", "hasLast", "Z", false)
  | 76 => ("LoadsAheadModel", "lastTold", "[I", true)
  | 77 => ("LoadsAheadModel", "lastDone", "[I", true)
  | 78 => ("LoadsAheadModel", "lastReplayed", "[I", true)
  | 79 => ("LoadsAheadModel", "lastValue", "[I", true)
  | 80 => ("LoadsAheadModel", "lastPlace", "[I", true)
  | 81 => ("LoadsAheadModel", "lastTaken", "[I", true)
  | 82 => ("LoadsAheadModel", "plainRegister", "[I", true)
  | 83 => ("LoadsAheadModel", "plainMemory", "[I", true)
  | 84 => ("LoadsAheadModel", "plainPlace", "[I", true)
  | 85 => ("LoadsAheadModel", "deepOf", "[I", true)
  | 86 => ("LoadsAheadModel", "watchedOf", "[I", true)
  | 87 => ("LoadsAheadModel", "watchedMany", "[I", true)
  | 88 => ("LoadsAheadModel", "isKept", "Z", false)
  | 89 => ("LoadsAheadModel", "keptPrograms", "I", false)
  | 90 => ("LoadsAheadModel", "keptNext", "I", false)
  | 91 => ("LoadsAheadModel", "keptRuns", "I", false)
  | 92 => ("LoadsAheadModel", "keptLot", "I", false)
  | 93 => ("LoadsAheadModel", "keptRegister", "[I", true)
  | 94 => ("LoadsAheadModel", "keptMemory", "[I", true)
  | _ => ("LoadsAheadModel", "keptSet", "[I", true)
def tyX9 : Nat → FieldType := fun k => match k with
  | 0 => .int
  | 1 => .int
  | 2 => .int
  | 3 => .int
  | 4 => .int
  | 5 => .int
  | 6 => .array .int
  | 7 => .array .int
  | 8 => .array .int
  | 9 => .array .int
  | 10 => .array .int
  | 11 => .array .int
  | 12 => .array .int
  | 13 => .array .int
  | 14 => .array .int
  | 15 => .array .int
  | 16 => .array .int
  | 17 => .array .byte
  | 18 => .int
  | 19 => .int
  | 20 => .int
  | 21 => .int
  | 22 => .int
  | 23 => .int
  | 24 => .int
  | 25 => .int
  | 26 => .int
  | 27 => .int
  | 28 => .array .int
  | 29 => .array .int
  | 30 => .array .int
  | 31 => .array .int
  | 32 => .array .int
  | 33 => .array .int
  | 34 => .array .int
  | 35 => .array .int
  | 36 => .array .int
  | 37 => .array .int
  | 38 => .array .int
  | 39 => .array .int
  | 40 => .array .int
  | 41 => .int
  | 42 => .array .int
  | 43 => .array .int
  | 44 => .array .int
  | 45 => .array .int
  | 46 => .array .int
  | 47 => .array .int
  | 48 => .array .int
  | 49 => .array .int
  | 50 => .array .int
  | 51 => .array .int
  | 52 => .array .int
  | 53 => .array .int
  | 54 => .array .int
  | 55 => .array .int
  | 56 => .array .int
  | 57 => .array .int
  | 58 => .array .boolean
  | 59 => .array .int
  | 60 => .array .int
  | 61 => .array .int
  | 62 => .array .int
  | 63 => .int
  | 64 => .int
  | 65 => .int
  | 66 => .int
  | 67 => .int
  | 68 => .int
  | 69 => .int
  | 70 => .boolean
  | 71 => .array .int
  | 72 => .int
  | 73 => .array .int
  | 74 => .array .int
  | 75 => .boolean
  | 76 => .array .int
  | 77 => .array .int
  | 78 => .array .int
  | 79 => .array .int
  | 80 => .array .int
  | 81 => .array .int
  | 82 => .array .int
  | 83 => .array .int
  | 84 => .array .int
  | 85 => .array .int
  | 86 => .array .int
  | 87 => .array .int
  | 88 => .boolean
  | 89 => .int
  | 90 => .int
  | 91 => .int
  | 92 => .int
  | 93 => .array .int
  | 94 => .array .int
  | _ => .array .int
abbrev wsX90 : List Cond := u_ws RX9 TX9 96
theorem nmX9 : ∀ a, a < 96 → ∀ b, b < 96 → a ≠ b → (TX9 a).2.1 ≠ (TX9 b).2.1 := by decide +kernel
theorem tyX9_ok : ∀ k, k < 96 → parseFieldDescriptor (TX9 k).2.2.1 = some (tyX9 k) := by decide +kernel
abbrev cX9_init : ByteArray := prog_11_method_1_code
def yX9_init : MethodName := ⟨RX9, "<init>", "()V"⟩
abbrev cX9_in : ByteArray := prog_11_method_2_code
def yX9_in : MethodName := ⟨RX9, "in", "(III)Z"⟩
abbrev cX9_max : ByteArray := prog_11_method_3_code
def yX9_max : MethodName := ⟨RX9, "max", "(II)I"⟩
abbrev cX9_min : ByteArray := prog_11_method_4_code
def yX9_min : MethodName := ⟨RX9, "min", "(II)I"⟩
abbrev cX9_isOp : ByteArray := prog_11_method_5_code
def yX9_isOp : MethodName := ⟨RX9, "isOp", "(I)Z"⟩
abbrev cX9_register : ByteArray := prog_11_method_6_code
def yX9_register : MethodName := ⟨RX9, "register", "(II)Z"⟩
abbrev cX9_poke : ByteArray := prog_11_method_7_code
def yX9_poke : MethodName := ⟨RX9, "poke", "(II)Z"⟩
abbrev cX9_types : ByteArray := prog_11_method_8_code
def yX9_types : MethodName := ⟨RX9, "types", "(I)V"⟩
abbrev cX9_feed : ByteArray := prog_11_method_9_code
def yX9_feed : MethodName := ⟨RX9, "feed", "(IIIII)I"⟩
abbrev cX9_octet : ByteArray := prog_11_method_10_code
def yX9_octet : MethodName := ⟨RX9, "octet", "(I)I"⟩
abbrev cX9_here : ByteArray := prog_11_method_11_code
def yX9_here : MethodName := ⟨RX9, "here", "()I"⟩
abbrev cX9_isDigit : ByteArray := prog_11_method_12_code
def yX9_isDigit : MethodName := ⟨RX9, "isDigit", "()Z"⟩
abbrev cX9_wrongAt : ByteArray := prog_11_method_13_code
def yX9_wrongAt : MethodName := ⟨RX9, "wrongAt", "(II)Z"⟩
abbrev cX9_takes : ByteArray := prog_11_method_14_code
def yX9_takes : MethodName := ⟨RX9, "takes", "(I)Z"⟩
abbrev cX9_readsNumber : ByteArray := prog_11_method_15_code
def yX9_readsNumber : MethodName := ⟨RX9, "readsNumber", "()Z"⟩
abbrev cX9_notes : ByteArray := prog_11_method_16_code
def yX9_notes : MethodName := ⟨RX9, "notes", "(II)V"⟩
abbrev cX9_opens : ByteArray := prog_11_method_17_code
def yX9_opens : MethodName := ⟨RX9, "opens", "(I)Z"⟩
abbrev cX9_waitTop : ByteArray := prog_11_method_18_code
def yX9_waitTop : MethodName := ⟨RX9, "waitTop", "()I"⟩
abbrev cX9_factOf : ByteArray := prog_11_method_19_code
def yX9_factOf : MethodName := ⟨RX9, "factOf", "(I)I"⟩
abbrev cX9_sumSign : ByteArray := prog_11_method_20_code
def yX9_sumSign : MethodName := ⟨RX9, "sumSign", "(I)I"⟩
abbrev cX9_closesSums : ByteArray := prog_11_method_21_code
def yX9_closesSums : MethodName := ⟨RX9, "closesSums", "(Z)V"⟩
abbrev cX9_readsFactor : ByteArray := prog_11_method_22_code
def yX9_readsFactor : MethodName := ⟨RX9, "readsFactor", "()Z"⟩
abbrev cX9_hasOpenSum : ByteArray := prog_11_method_23_code
def yX9_hasOpenSum : MethodName := ⟨RX9, "hasOpenSum", "(I)Z"⟩
abbrev cX9_readsSum : ByteArray := prog_11_method_24_code
def yX9_readsSum : MethodName := ⟨RX9, "readsSum", "()Z"⟩
abbrev cX9_endsPiece : ByteArray := prog_11_method_25_code
def yX9_endsPiece : MethodName := ⟨RX9, "endsPiece", "()V"⟩
abbrev cX9_lands : ByteArray := prog_11_method_26_code
def yX9_lands : MethodName := ⟨RX9, "lands", "(Z)V"⟩
abbrev cX9_jumps : ByteArray := prog_11_method_27_code
def yX9_jumps : MethodName := ⟨RX9, "jumps", "(I)V"⟩
abbrev cX9_readsCompared : ByteArray := prog_11_method_28_code
def yX9_readsCompared : MethodName := ⟨RX9, "readsCompared", "()Z"⟩
abbrev cX9_readsCondition : ByteArray := prog_11_method_29_code
def yX9_readsCondition : MethodName := ⟨RX9, "readsCondition", "()Z"⟩
abbrev cX9_readsRule : ByteArray := prog_11_method_30_code
def yX9_readsRule : MethodName := ⟨RX9, "readsRule", "()Z"⟩
abbrev cX9_beginsText : ByteArray := prog_11_method_31_code
def yX9_beginsText : MethodName := ⟨RX9, "beginsText", "(I)V"⟩
abbrev cX9_law : ByteArray := prog_11_method_32_code
def yX9_law : MethodName := ⟨RX9, "law", "(I)I"⟩
abbrev cX9_reckon : ByteArray := prog_11_method_33_code
def yX9_reckon : MethodName := ⟨RX9, "reckon", "(III)I"⟩
abbrev cX9_reckonsTo : ByteArray := prog_11_method_34_code
def yX9_reckonsTo : MethodName := ⟨RX9, "reckonsTo", "(II)I"⟩
abbrev cX9_delayOf : ByteArray := prog_11_method_35_code
def yX9_delayOf : MethodName := ⟨RX9, "delayOf", "(I)I"⟩
abbrev cX9_isHeldBack : ByteArray := prog_11_method_36_code
def yX9_isHeldBack : MethodName := ⟨RX9, "isHeldBack", "()Z"⟩
abbrev cX9_feels : ByteArray := prog_11_method_37_code
def yX9_feels : MethodName := ⟨RX9, "feels", "(III)V"⟩
abbrev cX9_readsRegister : ByteArray := prog_11_method_38_code
def yX9_readsRegister : MethodName := ⟨RX9, "readsRegister", "()Z"⟩
abbrev cX9_readsAmount : ByteArray := prog_11_method_39_code
def yX9_readsAmount : MethodName := ⟨RX9, "readsAmount", "()Z"⟩
abbrev cX9_kindBy : ByteArray := prog_11_method_40_code
def yX9_kindBy : MethodName := ⟨RX9, "kindBy", "(I)I"⟩
abbrev cX9_sizeBy : ByteArray := prog_11_method_41_code
def yX9_sizeBy : MethodName := ⟨RX9, "sizeBy", "(I)I"⟩
abbrev cX9_readsPlace : ByteArray := prog_11_method_42_code
def yX9_readsPlace : MethodName := ⟨RX9, "readsPlace", "(I)Z"⟩
abbrev cX9_readsOp : ByteArray := prog_11_method_43_code
def yX9_readsOp : MethodName := ⟨RX9, "readsOp", "()Z"⟩
abbrev cX9_program : ByteArray := prog_11_method_44_code
def yX9_program : MethodName := ⟨RX9, "program", "(I)I"⟩
abbrev cX9_gives : ByteArray := prog_11_method_45_code
def yX9_gives : MethodName := ⟨RX9, "gives", "(II)Z"⟩
abbrev cX9_doesRead : ByteArray := prog_11_method_46_code
def yX9_doesRead : MethodName := ⟨RX9, "doesRead", "(II)Z"⟩
abbrev cX9_giverOf : ByteArray := prog_11_method_47_code
def yX9_giverOf : MethodName := ⟨RX9, "giverOf", "(II)I"⟩
abbrev cX9_source : ByteArray := prog_11_method_48_code
def yX9_source : MethodName := ⟨RX9, "source", "(II)I"⟩
abbrev cX9_hasSource : ByteArray := prog_11_method_49_code
def yX9_hasSource : MethodName := ⟨RX9, "hasSource", "(II)Z"⟩
abbrev cX9_reckoned : ByteArray := prog_11_method_50_code
def yX9_reckoned : MethodName := ⟨RX9, "reckoned", "(III)I"⟩
abbrev cX9_cut : ByteArray := prog_11_method_51_code
def yX9_cut : MethodName := ⟨RX9, "cut", "(II)I"⟩
abbrev cX9_readBy : ByteArray := prog_11_method_52_code
def yX9_readBy : MethodName := ⟨RX9, "readBy", "(II)I"⟩
abbrev cX9_placeBy : ByteArray := prog_11_method_53_code
def yX9_placeBy : MethodName := ⟨RX9, "placeBy", "(I)I"⟩
abbrev cX9_covers : ByteArray := prog_11_method_54_code
def yX9_covers : MethodName := ⟨RX9, "covers", "(II)Z"⟩
abbrev cX9_byteOf : ByteArray := prog_11_method_55_code
def yX9_byteOf : MethodName := ⟨RX9, "byteOf", "(II)I"⟩
abbrev cX9_areSourcesDone : ByteArray := prog_11_method_56_code
def yX9_areSourcesDone : MethodName := ⟨RX9, "areSourcesDone", "(I)Z"⟩
abbrev cX9_areStoresDone : ByteArray := prog_11_method_57_code
def yX9_areStoresDone : MethodName := ⟨RX9, "areStoresDone", "(I)Z"⟩
abbrev cX9_isKeptBack : ByteArray := prog_11_method_58_code
def yX9_isKeptBack : MethodName := ⟨RX9, "isKeptBack", "(I)Z"⟩
abbrev cX9_melts : ByteArray := prog_11_method_59_code
def yX9_melts : MethodName := ⟨RX9, "melts", "(II)V"⟩
abbrev cX9_lists : ByteArray := prog_11_method_60_code
def yX9_lists : MethodName := ⟨RX9, "lists", "(I)V"⟩
abbrev cX9_tookFrom : ByteArray := prog_11_method_61_code
def yX9_tookFrom : MethodName := ⟨RX9, "tookFrom", "(II)Z"⟩
abbrev cX9_listsThoseBy : ByteArray := prog_11_method_62_code
def yX9_listsThoseBy : MethodName := ⟨RX9, "listsThoseBy", "(I)V"⟩
abbrev cX9_replaysAll : ByteArray := prog_11_method_63_code
def yX9_replaysAll : MethodName := ⟨RX9, "replaysAll", "(I)V"⟩
abbrev cX9_undoesTo : ByteArray := prog_11_method_64_code
def yX9_undoesTo : MethodName := ⟨RX9, "undoesTo", "(I)V"⟩
abbrev cX9_tookOld : ByteArray := prog_11_method_65_code
def yX9_tookOld : MethodName := ⟨RX9, "tookOld", "(II)Z"⟩
abbrev cX9_looksBack : ByteArray := prog_11_method_66_code
def yX9_looksBack : MethodName := ⟨RX9, "looksBack", "(I)V"⟩
abbrev cX9_loads : ByteArray := prog_11_method_67_code
def yX9_loads : MethodName := ⟨RX9, "loads", "(I)V"⟩
abbrev cX9_comesDone : ByteArray := prog_11_method_68_code
def yX9_comesDone : MethodName := ⟨RX9, "comesDone", "(II)V"⟩
abbrev cX9_goesOff : ByteArray := prog_11_method_69_code
def yX9_goesOff : MethodName := ⟨RX9, "goesOff", "(II)V"⟩
abbrev cX9_areAllDone : ByteArray := prog_11_method_70_code
def yX9_areAllDone : MethodName := ⟨RX9, "areAllDone", "(I)Z"⟩
abbrev cX9_oldestToRetire : ByteArray := prog_11_method_71_code
def yX9_oldestToRetire : MethodName := ⟨RX9, "oldestToRetire", "()I"⟩
abbrev cX9_retires : ByteArray := prog_11_method_72_code
def yX9_retires : MethodName := ⟨RX9, "retires", "(I)V"⟩
abbrev cX9_isOver : ByteArray := prog_11_method_73_code
def yX9_isOver : MethodName := ⟨RX9, "isOver", "()Z"⟩
abbrev cX9_cycleGoes : ByteArray := prog_11_method_74_code
def yX9_cycleGoes : MethodName := ⟨RX9, "cycleGoes", "(II)V"⟩
abbrev cX9_goesThrough : ByteArray := prog_11_method_75_code
def yX9_goesThrough : MethodName := ⟨RX9, "goesThrough", "(IZ)Z"⟩
abbrev cX9_putsSetsBack : ByteArray := prog_11_method_76_code
def yX9_putsSetsBack : MethodName := ⟨RX9, "putsSetsBack", "()V"⟩
abbrev cX9_isTried : ByteArray := prog_11_method_77_code
def yX9_isTried : MethodName := ⟨RX9, "isTried", "(IZ)Z"⟩
abbrev cX9_canRun : ByteArray := prog_11_method_78_code
def yX9_canRun : MethodName := ⟨RX9, "canRun", "(I)Z"⟩
abbrev cX9_toldOf : ByteArray := prog_11_method_79_code
def yX9_toldOf : MethodName := ⟨RX9, "toldOf", "(I)I"⟩
abbrev cX9_run : ByteArray := prog_11_method_80_code
def yX9_run : MethodName := ⟨RX9, "run", "(I)I"⟩
abbrev cX9_tried : ByteArray := prog_11_method_81_code
def yX9_tried : MethodName := ⟨RX9, "tried", "(II)I"⟩
abbrev cX9_cautious : ByteArray := prog_11_method_82_code
def yX9_cautious : MethodName := ⟨RX9, "cautious", "(II)I"⟩
abbrev cX9_fastest : ByteArray := prog_11_method_83_code
def yX9_fastest : MethodName := ⟨RX9, "fastest", "(I)I"⟩
abbrev cX9_lastRun : ByteArray := prog_11_method_84_code
def yX9_lastRun : MethodName := ⟨RX9, "lastRun", "(I)I"⟩
abbrev cX9_goesPlain : ByteArray := prog_11_method_85_code
def yX9_goesPlain : MethodName := ⟨RX9, "goesPlain", "()V"⟩
abbrev cX9_doesPlain : ByteArray := prog_11_method_86_code
def yX9_doesPlain : MethodName := ⟨RX9, "doesPlain", "(I)V"⟩
abbrev cX9_now : ByteArray := prog_11_method_87_code
def yX9_now : MethodName := ⟨RX9, "now", "(I)I"⟩
abbrev cX9_plain : ByteArray := prog_11_method_88_code
def yX9_plain : MethodName := ⟨RX9, "plain", "(I)I"⟩
abbrev cX9_unlike : ByteArray := prog_11_method_89_code
def yX9_unlike : MethodName := ⟨RX9, "unlike", "(I)I"⟩
abbrev cX9_haveByte : ByteArray := prog_11_method_90_code
def yX9_haveByte : MethodName := ⟨RX9, "haveByte", "(II)Z"⟩
abbrev cX9_mix : ByteArray := prog_11_method_91_code
def yX9_mix : MethodName := ⟨RX9, "mix", "()I"⟩
abbrev cX9_deep : ByteArray := prog_11_method_92_code
def yX9_deep : MethodName := ⟨RX9, "deep", "()I"⟩
abbrev cX9_toldOfOp : ByteArray := prog_11_method_93_code
def yX9_toldOfOp : MethodName := ⟨RX9, "toldOfOp", "(II)I"⟩
abbrev cX9_opIs : ByteArray := prog_11_method_94_code
def yX9_opIs : MethodName := ⟨RX9, "opIs", "(II)I"⟩
abbrev cX9_worstOp : ByteArray := prog_11_method_95_code
def yX9_worstOp : MethodName := ⟨RX9, "worstOp", "()I"⟩
abbrev cX9_worst : ByteArray := prog_11_method_96_code
def yX9_worst : MethodName := ⟨RX9, "worst", "(I)I"⟩
abbrev cX9_watch : ByteArray := prog_11_method_97_code
def yX9_watch : MethodName := ⟨RX9, "watch", "(II)I"⟩
abbrev cX9_watched : ByteArray := prog_11_method_98_code
def yX9_watched : MethodName := ⟨RX9, "watched", "(III)I"⟩
abbrev cX9_withSet : ByteArray := prog_11_method_99_code
def yX9_withSet : MethodName := ⟨RX9, "withSet", "()I"⟩
abbrev cX9_forget : ByteArray := prog_11_method_100_code
def yX9_forget : MethodName := ⟨RX9, "forget", "()I"⟩
abbrev cX9_seed : ByteArray := prog_11_method_101_code
def yX9_seed : MethodName := ⟨RX9, "seed", "(I)Z"⟩
abbrev cX9_keep : ByteArray := prog_11_method_102_code
def yX9_keep : MethodName := ⟨RX9, "keep", "()I"⟩
abbrev cX9_undo : ByteArray := prog_11_method_103_code
def yX9_undo : MethodName := ⟨RX9, "undo", "()Z"⟩
abbrev cX9_check : ByteArray := prog_11_method_104_code
def yX9_check : MethodName := ⟨RX9, "check", "(I)I"⟩
abbrev cX9_ofKind : ByteArray := prog_11_method_105_code
def yX9_ofKind : MethodName := ⟨RX9, "ofKind", "(I)I"⟩
abbrev cX9_bytesThere : ByteArray := prog_11_method_106_code
def yX9_bytesThere : MethodName := ⟨RX9, "bytesThere", "()I"⟩
abbrev cX9_count : ByteArray := prog_11_method_107_code
def yX9_count : MethodName := ⟨RX9, "count", "(I)I"⟩
def RJ11 : String := "java/lang/Character"
abbrev cJ11_isValidCodePoint_9a6ad : ByteArray := prog_12_method_11_code
def yJ11_isValidCodePoint_9a6ad : MethodName := ⟨RJ11, "isValidCodePoint", "(I)Z"⟩
abbrev cJ11_highSurrogate_5068e : ByteArray := prog_12_method_28_code
def yJ11_highSurrogate_5068e : MethodName := ⟨RJ11, "highSurrogate", "(I)C"⟩
abbrev cJ11_lowSurrogate_5068e : ByteArray := prog_12_method_29_code
def yJ11_lowSurrogate_5068e : MethodName := ⟨RJ11, "lowSurrogate", "(I)C"⟩
def RJ9 : String := "java/lang/Math"
abbrev cJ9_max_7cf53 : ByteArray := prog_13_method_65_code
def yJ9_max_7cf53 : MethodName := ⟨RJ9, "max", "(II)I"⟩
abbrev cJ9_min_7cf53 : ByteArray := prog_13_method_69_code
def yJ9_min_7cf53 : MethodName := ⟨RJ9, "min", "(II)I"⟩
def RJ0 : String := "java/lang/String"
abbrev cJ0_length_8abf5 : ByteArray := prog_14_method_54_code
def yJ0_length_8abf5 : MethodName := ⟨RJ0, "length", "()I"⟩
abbrev cJ0_indexOf_0f7a4 : ByteArray := prog_14_method_79_code
def yJ0_indexOf_0f7a4 : MethodName := ⟨RJ0, "indexOf", "(I)I"⟩
abbrev cJ0_indexOf_7cf53 : ByteArray := prog_14_method_80_code
def yJ0_indexOf_7cf53 : MethodName := ⟨RJ0, "indexOf", "(II)I"⟩
abbrev cJ0_coder_7d493 : ByteArray := prog_14_method_152_code
def yJ0_coder_7d493 : MethodName := ⟨RJ0, "coder", "()B"⟩
abbrev cJ0_isLatin1_aae02 : ByteArray := prog_14_method_154_code
def yJ0_isLatin1_aae02 : MethodName := ⟨RJ0, "isLatin1", "()Z"⟩
abbrev cJ0_checkBoundsBeginEnd_23922 : ByteArray := prog_14_method_158_code
def yJ0_checkBoundsBeginEnd_23922 : MethodName := ⟨RJ0, "checkBoundsBeginEnd", "(III)V"⟩
def RJ1 : String := "java/lang/StringLatin1"
abbrev cJ1_canEncode_9a6ad : ByteArray := prog_15_method_4_code
def yJ1_canEncode_9a6ad : MethodName := ⟨RJ1, "canEncode", "(I)Z"⟩
abbrev cJ1_indexOf_4cfef : ByteArray := prog_15_method_22_code
def yJ1_indexOf_4cfef : MethodName := ⟨RJ1, "indexOf", "([BIII)I"⟩
abbrev cJ1_indexOfChar_4cfef : ByteArray := prog_15_method_23_code
def yJ1_indexOfChar_4cfef : MethodName := ⟨RJ1, "indexOfChar", "([BIII)I"⟩
def RJ2 : String := "java/lang/StringUTF16"
abbrev cJ2_getChar_3b067 : ByteArray := prog_16_method_5_code
def yJ2_getChar_3b067 : MethodName := ⟨RJ2, "getChar", "([BI)C"⟩
abbrev cJ2_length_9d52b : ByteArray := prog_16_method_6_code
def yJ2_length_9d52b : MethodName := ⟨RJ2, "length", "([B)I"⟩
abbrev cJ2_indexOf_4cfef : ByteArray := prog_16_method_40_code
def yJ2_indexOf_4cfef : MethodName := ⟨RJ2, "indexOf", "([BIII)I"⟩
abbrev cJ2_indexOfChar_4cfef : ByteArray := prog_16_method_47_code
def yJ2_indexOfChar_4cfef : MethodName := ⟨RJ2, "indexOfChar", "([BIII)I"⟩
abbrev cJ2_indexOfCharUnsafe_4cfef : ByteArray := prog_16_method_48_code
def yJ2_indexOfCharUnsafe_4cfef : MethodName := ⟨RJ2, "indexOfCharUnsafe", "([BIII)I"⟩
abbrev cJ2_indexOfSupplementary_4cfef : ByteArray := prog_16_method_49_code
def yJ2_indexOfSupplementary_4cfef : MethodName := ⟨RJ2, "indexOfSupplementary", "([BIII)I"⟩
abbrev cJ2_checkBoundsBeginEnd_d044e : ByteArray := prog_16_method_93_code
def yJ2_checkBoundsBeginEnd_d044e : MethodName := ⟨RJ2, "checkBoundsBeginEnd", "(II[B)V"⟩
def RJ10 : String := "java/lang/System"
def RJ7 : String := "java/util/Arrays"
abbrev cJ7_fill_53178 : ByteArray := prog_18_method_103_code
def yJ7_fill_53178 : MethodName := ⟨RJ7, "fill", "([II)V"⟩
def RJ3 : String := "jdk/internal/util/Preconditions"
abbrev cJ3_checkFromToIndex_8c36e : ByteArray := prog_19_method_12_code
def yJ3_checkFromToIndex_8c36e : MethodName := ⟨RJ3, "checkFromToIndex", "(IIILjava/util/function/BiFunction;)I"⟩
def RL : String := "LoadsAheadLaw"
abbrev cL_law : ByteArray := code
def yL_law : MethodName := ⟨RL, "law", "([I)Z"⟩
abbrev vwCl : List vw_C := [(RX0, TX0, 9), (RX1, TX1, 12), (RX2, TX2, 2), (RX3, TX3, 13), (RX4, TX4, 6), (RX5, TX5, 3), (RX6, TX6, 6), (RX7, TX7, 5), (RX8, TX8, 11), (RX9, TX9, 96)]
end
section
theorem fb_rng (x : Int32) : -2147483648 ≤ x.toInt ∧ x.toInt < 2147483648 := ⟨x.le_toInt, x.toInt_lt⟩
theorem fb_bmod {z : Int} (h1 : -2147483648 ≤ z) (h2 : z < 2147483648) : z.bmod (2 ^ 32) = z := Int.bmod_eq_of_le (by omega) (by omega)
theorem fb_addI {x y : Int32} (h1 : -2147483648 ≤ x.toInt + y.toInt) (h2 : x.toInt + y.toInt < 2147483648) : (x + y).toInt = x.toInt + y.toInt := by rw [Int32.toInt_add]; exact fb_bmod h1 h2
theorem fb_subI {x y : Int32} (h1 : -2147483648 ≤ x.toInt - y.toInt) (h2 : x.toInt - y.toInt < 2147483648) : (x - y).toInt = x.toInt - y.toInt := by rw [Int32.toInt_sub]; exact fb_bmod h1 h2
theorem fb_mulI {x y : Int32} (h1 : -2147483648 ≤ x.toInt * y.toInt) (h2 : x.toInt * y.toInt < 2147483648) : (x * y).toInt = x.toInt * y.toInt := by rw [Int32.toInt_mul]; exact fb_bmod h1 h2
theorem fa_lt (a b : Int32) : a < b ↔ a.toInt < b.toInt := Int32.lt_iff_toInt_lt
theorem fa_le (a b : Int32) : a ≤ b ↔ a.toInt ≤ b.toInt := Int32.le_iff_toInt_le
theorem fa_eq (a b : Int32) : a = b ↔ a.toInt = b.toInt := ⟨fun h => by rw [h], fun h => Int32.toInt_inj.mp h⟩
abbrev en_V : Type := (Int × Int) ⊕ Nat
abbrev en_C : Type := (Nat × Nat × Int × Int) ⊕ (Nat × List en_V)
abbrev en_L : Type := List (Option en_V)
abbrev en_T : Type := List en_C
abbrev en_S : Type := Nat × en_L × List en_V × en_T × Nat × Nat
/-- what a number of bounds, a cell's number + 2, 1 (null), 0 (null or any cell) stand for -/
def en_v (N : Nat) (ad : Nat → Nat) (a : en_V) (x : Value) : Prop := match a with
  | .inl q => ∃ i : Int32, x = .int i ∧ q.1 ≤ i.toInt ∧ i.toInt ≤ q.2
  | .inr 0 => x = .null ∨ ∃ a : Nat, x = .ref a
  | .inr 1 => x = .null
  | .inr (k + 2) => x = .ref (ad k) ∧ k < N
def en_vs (N : Nat) (ad : Nat → Nat) : List en_V → List Value → Prop
  | [], [] => True
  | a :: as, x :: xs => en_v N ad a x ∧ en_vs N ad as xs
  | _, _ => False
def en_ty : Nat → FieldType
  | 0 => .int
  | 1 => .boolean
  | _ => .byte
def en_c (tys : List (ClassId × FieldType)) (N : Nat) (ad : Nat → Nat) (t : en_C) (e : va_E) : Prop := match t with
  | .inl q => ∃ (cA : ClassId) (f : Nat → Int32), e = .inl (cA, q.2.1, .inl f) ∧ tys[q.1]? = some (cA, en_ty q.1) ∧ ∀ j, j < q.2.1 → q.2.2.1 ≤ (f j).toInt ∧ (f j).toInt ≤ q.2.2.2
  | .inr q => ∃ vs : List Value, e = .inr (q.1, vs) ∧ en_vs N ad q.2 vs
def en_W (D : va_G) (tys : List (ClassId × FieldType)) (A : Nat → Prop) (T : en_T) (ad : Nat → Nat) (H : Heap) : Prop :=
  ∃ ws : va_W, ws.length = T.length ∧ (∀ (k : Nat) (t : en_C), T[k]? = some t → ∃ e : va_E, ws[k]? = some (ad k, e) ∧ en_c tys T.length ad t e) ∧ va_P D vwCl ws H ∧ va_D A ws
def en_l (N : Nat) (ad : Nat → Nat) (L : en_L) (nL : Nat) (ls : Array Slot) : Prop :=
  ls.size = nL ∧ lv_wf ls ∧ ∀ (i : Nat) (a : en_V), L[i]? = some (some a) → ∃ x : Value, ls[i]? = some (.val x) ∧ en_v N ad a x
theorem en_v_cat {N : Nat} {ad : Nat → Nat} {a : en_V} {x : Value} (h : en_v N ad a x) : x.category = 1 := by
  match a, h with
  | .inl q, ⟨i, e, _⟩ => subst e; rfl
  | .inr 0, h => rcases h with rfl | ⟨a, rfl⟩ <;> rfl
  | .inr 1, h => have h : x = .null := h; subst h; rfl
  | .inr (k + 2), h => have h : x = .ref (ad k) ∧ k < N := h; rw [h.1]; rfl
theorem en_v_r {N : Nat} {ad : Nat → Nat} {k : Nat} {x : Value} (h : en_v N ad (.inr k) x) : x = .null ∨ ∃ a : Nat, x = .ref a := by
  match k, h with
  | 0, h => exact h
  | 1, h => exact Or.inl h
  | k + 2, h => exact Or.inr ⟨_, h.1⟩
theorem en_v_mono {N M : Nat} {ad ad' : Nat → Nat} (hN : N ≤ M) (hq : ∀ k, k < N → ad' k = ad k) {a : en_V} {x : Value} (h : en_v N ad a x) : en_v M ad' a x := by
  match a, h with
  | .inl q, h => exact h
  | .inr 0, h => exact h
  | .inr 1, h => exact h
  | .inr (k + 2), h =>
    have h : x = .ref (ad k) ∧ k < N := h
    exact ⟨by rw [hq k h.2]; exact h.1, Nat.lt_of_lt_of_le h.2 hN⟩
theorem en_vs_mono {N M : Nat} {ad ad' : Nat → Nat} (hN : N ≤ M) (hq : ∀ k, k < N → ad' k = ad k) : ∀ {as : List en_V} {xs : List Value}, en_vs N ad as xs → en_vs M ad' as xs
  | [], [], _ => trivial
  | _ :: _, _ :: _, h => ⟨en_v_mono hN hq h.1, en_vs_mono hN hq h.2⟩
  | [], _ :: _, h => h.elim
  | _ :: _, [], h => h.elim
theorem en_c_mono {tys : List (ClassId × FieldType)} {N M : Nat} {ad ad' : Nat → Nat} (hN : N ≤ M) (hq : ∀ k, k < N → ad' k = ad k) {t : en_C} {e : va_E} (h : en_c tys N ad t e) : en_c tys M ad' t e := by
  match t, h with
  | .inl q, h => exact h
  | .inr q, ⟨vs, h1, h2⟩ => exact ⟨vs, h1, en_vs_mono hN hq h2⟩
theorem en_vs_len {N : Nat} {ad : Nat → Nat} : ∀ {as : List en_V} {xs : List Value}, en_vs N ad as xs → as.length = xs.length
  | [], [], _ => rfl
  | _ :: _, _ :: _, h => by rw [List.length_cons, List.length_cons, en_vs_len h.2]
  | [], _ :: _, h => h.elim
  | _ :: _, [], h => h.elim
theorem en_vs_cat {N : Nat} {ad : Nat → Nat} : ∀ {as : List en_V} {xs : List Value}, en_vs N ad as xs → (xs.map fun v => v.category).sum = as.length
  | [], [], _ => rfl
  | _ :: _, _ :: _, h => by rw [List.map_cons, List.sum_cons, en_vs_cat h.2, en_v_cat h.1, List.length_cons, Nat.add_comm]
  | [], _ :: _, h => h.elim
  | _ :: _, [], h => h.elim
theorem en_vs_get {N : Nat} {ad : Nat → Nat} : ∀ {as : List en_V} {xs : List Value} {k : Nat} {a : en_V}, en_vs N ad as xs → as[k]? = some a → ∃ x, xs[k]? = some x ∧ en_v N ad a x
  | [], [], k, a, _, hk => by simp at hk
  | a0 :: _, x0 :: _, 0, a, h, hk => by
    rw [List.getElem?_cons_zero] at hk
    cases hk
    exact ⟨x0, rfl, h.1⟩
  | _ :: _, _ :: _, k + 1, a, h, hk => by
    rw [List.getElem?_cons_succ] at hk
    obtain ⟨x, h1, h2⟩ := en_vs_get h.2 hk
    exact ⟨x, by rw [List.getElem?_cons_succ]; exact h1, h2⟩
  | [], _ :: _, _, _, h, _ => h.elim
  | _ :: _, [], _, _, h, _ => h.elim
theorem en_vs_set {N : Nat} {ad : Nat → Nat} {a : en_V} {x : Value} (hx : en_v N ad a x) : ∀ {as : List en_V} {xs : List Value} (k : Nat), en_vs N ad as xs → en_vs N ad (as.set k a) (xs.set k x)
  | [], [], _, _ => trivial
  | _ :: _, _ :: _, 0, h => ⟨hx, h.2⟩
  | _ :: _, _ :: _, k + 1, h => ⟨h.1, en_vs_set hx k h.2⟩
  | [], _ :: _, _, h => h.elim
  | _ :: _, [], _, h => h.elim
theorem en_vs_app {N : Nat} {ad : Nat → Nat} : ∀ {as bs : List en_V} {zs : List Value}, en_vs N ad (as ++ bs) zs → ∃ xs ys, zs = xs ++ ys ∧ en_vs N ad as xs ∧ en_vs N ad bs ys
  | [], bs, zs, h => ⟨[], zs, rfl, trivial, h⟩
  | a :: as, bs, z :: zs, h => by
    obtain ⟨xs, ys, h1, h2, h3⟩ := en_vs_app (as := as) h.2
    exact ⟨z :: xs, ys, by rw [h1]; rfl, ⟨h.1, h2⟩, h3⟩
  | _ :: _, _, [], h => h.elim
theorem en_vs_snoc {N : Nat} {ad : Nat → Nat} {b : en_V} {y : Value} (hb : en_v N ad b y) : ∀ {as : List en_V} {xs : List Value}, en_vs N ad as xs → en_vs N ad (as ++ [b]) (xs ++ [y])
  | [], [], _ => ⟨hb, trivial⟩
  | _ :: _, _ :: _, h => ⟨h.1, en_vs_snoc hb h.2⟩
  | [], _ :: _, h => h.elim
  | _ :: _, [], h => h.elim
theorem en_vs_rev {N : Nat} {ad : Nat → Nat} : ∀ {as : List en_V} {xs : List Value}, en_vs N ad as xs → en_vs N ad as.reverse xs.reverse
  | [], [], _ => trivial
  | a :: as, x :: xs, h => by
    rw [List.reverse_cons, List.reverse_cons]
    exact en_vs_snoc h.1 (en_vs_rev h.2)
  | [], _ :: _, h => h.elim
  | _ :: _, [], h => h.elim
/-- locals -/
theorem en_l_get {N : Nat} {ad : Nat → Nat} {L : en_L} {nL : Nat} {ls : Array Slot} (h : en_l N ad L nL ls) {i : Nat} {a : en_V} (hi : L[i]? = some (some a)) : ∃ x : Value, ls[i]? = some (.val x) ∧ en_v N ad a x := h.2.2 i a hi
theorem en_l_mono {N M : Nat} {ad ad' : Nat → Nat} (hN : N ≤ M) (hq : ∀ k, k < N → ad' k = ad k) {L : en_L} {nL : Nat} {ls : Array Slot} (h : en_l N ad L nL ls) : en_l M ad' L nL ls :=
  ⟨h.1, h.2.1, fun i a hi => by obtain ⟨x, h1, h2⟩ := h.2.2 i a hi; exact ⟨x, h1, en_v_mono hN hq h2⟩⟩
def en_lv (ls : Array Slot) : List (Nat × Value) := (List.range ls.size).filterMap (fun (i : Nat) => match (ls[i]? : Option Slot) with
  | some (Slot.val v) => some (i, v)
  | _ => none)
theorem en_lv_mem {ls : Array Slot} {i : Nat} {v : Value} : (i, v) ∈ en_lv ls ↔ ls[i]? = some (.val v) := by
  unfold en_lv
  rw [List.mem_filterMap]
  constructor
  · rintro ⟨j, hj, h⟩
    split at h
    · rename_i w hw
      cases h
      exact hw
    · cases h
  · intro h
    refine ⟨i, List.mem_range.mpr (lv_lt h), ?_⟩
    rw [h]
theorem en_lv_has {ls : Array Slot} {nL : Nat} (h1 : ls.size = nL) (h2 : lv_wf ls) : lv_has ls nL (en_lv ls) := ⟨h1, h2, fun q hq => en_lv_mem.mp hq⟩
theorem en_l_set {N : Nat} {ad : Nat → Nat} {L : en_L} {nL : Nat} {ls ls' : Array Slot} (h : en_l N ad L nL ls) {i : Nat} {a : en_V} {x : Value} (hx : en_v N ad a x)
    (h' : lv_has ls' nL ((i, x) :: (en_lv ls).filter (fun q => !(q.1 == i) && !(q.1 + 1 == i && q.2.category == 2)))) : en_l N ad (L.set i (some a)) nL ls' := by
  refine ⟨h'.1, h'.2.1, fun j b hj => ?_⟩
  by_cases hji : j = i
  · subst hji
    have hb : b = a := by
      by_cases hl : j < L.length
      · rw [List.getElem?_set_self hl] at hj
        exact (Option.some.inj (Option.some.inj hj)).symm
      · rw [List.getElem?_eq_none (by rw [List.length_set]; omega)] at hj
        cases hj
    subst hb
    exact ⟨x, h'.2.2 (j, x) List.mem_cons_self, hx⟩
  · rw [List.getElem?_set_ne (Ne.symm hji)] at hj
    obtain ⟨y, h1, h2⟩ := h.2.2 j b hj
    refine ⟨y, h'.2.2 (j, y) (List.mem_cons_of_mem _ (List.mem_filter.mpr ⟨en_lv_mem.mpr h1, ?_⟩)), h2⟩
    have hc := en_v_cat h2
    simp [hji, hc]
def en_le (a b : en_V) : Bool := match a, b with
  | .inl q, .inl r => decide (r.1 ≤ q.1) && decide (q.2 ≤ r.2)
  | .inr k, .inr j => j == 0 || k == j
  | _, _ => false
def en_all2 {α β : Type} (f : α → β → Bool) : List α → List β → Bool
  | [], [] => true
  | a :: as, b :: bs => f a b && en_all2 f as bs
  | _, _ => false
def en_cle (a b : en_C) : Bool := match a, b with
  | .inl q, .inl r => q.1 == r.1 && q.2.1 == r.2.1 && decide (r.2.2.1 ≤ q.2.2.1) && decide (q.2.2.2 ≤ r.2.2.2)
  | .inr q, .inr r => q.1 == r.1 && en_all2 en_le q.2 r.2
  | _, _ => false
theorem en_le_ok {N : Nat} {ad : Nat → Nat} {a b : en_V} {x : Value} (h : en_le a b = true) (hx : en_v N ad a x) : en_v N ad b x := by
  match a, b, h with
  | .inl q, .inl r, h =>
    simp only [en_le, Bool.and_eq_true, decide_eq_true_eq] at h
    obtain ⟨i, e, h1, h2⟩ := hx
    exact ⟨i, e, by omega, by omega⟩
  | .inr k, .inr j, h =>
    simp only [en_le, Bool.or_eq_true, beq_iff_eq] at h
    rcases h with h | h
    · subst h
      exact en_v_r hx
    · subst h
      exact hx
theorem en_all2_vs {N : Nat} {ad : Nat → Nat} : ∀ {as bs : List en_V} {xs : List Value}, en_all2 en_le as bs = true → en_vs N ad as xs → en_vs N ad bs xs
  | [], [], xs, _, h => h
  | a :: as, b :: bs, x :: xs, h, hx => by
    simp only [en_all2, Bool.and_eq_true] at h
    exact ⟨en_le_ok h.1 hx.1, en_all2_vs h.2 hx.2⟩
  | _ :: _, _ :: _, [], _, hx => hx.elim
  | [], _ :: _, _, h, _ => by simp [en_all2] at h
  | _ :: _, [], _, h, _ => by simp [en_all2] at h
theorem en_cle_ok {tys : List (ClassId × FieldType)} {N : Nat} {ad : Nat → Nat} {a b : en_C} {e : va_E} (h : en_cle a b = true) (hx : en_c tys N ad a e) : en_c tys N ad b e := by
  match a, b, h with
  | .inl q, .inl r, h =>
    simp only [en_cle, Bool.and_eq_true, decide_eq_true_eq, beq_iff_eq] at h
    obtain ⟨⟨⟨h1, h2⟩, h3⟩, h4⟩ := h
    obtain ⟨cA, f, e1, e2, e3⟩ := hx
    exact ⟨cA, f, by rw [← h2]; exact e1, by rw [← h1]; exact e2, fun j hj => by have := e3 j (by omega); omega⟩
  | .inr q, .inr r, h =>
    simp only [en_cle, Bool.and_eq_true, beq_iff_eq] at h
    obtain ⟨vs, e1, e2⟩ := hx
    exact ⟨vs, by rw [← h.1]; exact e1, en_all2_vs h.2 e2⟩
theorem en_all2_len {α β : Type} {f : α → β → Bool} : ∀ {as : List α} {bs : List β}, en_all2 f as bs = true → as.length = bs.length
  | [], [], _ => rfl
  | _ :: _, _ :: _, h => by
    simp only [en_all2, Bool.and_eq_true] at h
    rw [List.length_cons, List.length_cons, en_all2_len h.2]
  | [], _ :: _, h => by simp [en_all2] at h
  | _ :: _, [], h => by simp [en_all2] at h
theorem en_all2_get {α β : Type} {f : α → β → Bool} : ∀ {as : List α} {bs : List β} {k : Nat} {b : β}, en_all2 f as bs = true → bs[k]? = some b → ∃ a, as[k]? = some a ∧ f a b = true
  | [], [], k, b, _, hk => by simp at hk
  | a :: _, _ :: _, 0, b, h, hk => by
    simp only [en_all2, Bool.and_eq_true] at h
    rw [List.getElem?_cons_zero] at hk
    cases hk
    exact ⟨a, rfl, h.1⟩
  | _ :: _, _ :: _, k + 1, b, h, hk => by
    simp only [en_all2, Bool.and_eq_true] at h
    rw [List.getElem?_cons_succ] at hk
    obtain ⟨a, h1, h2⟩ := en_all2_get h.2 hk
    exact ⟨a, by rw [List.getElem?_cons_succ]; exact h1, h2⟩
  | [], _ :: _, _, _, h, _ => by simp [en_all2] at h
  | _ :: _, [], _, _, h, _ => by simp [en_all2] at h
section ENW
variable {D : va_G} {tys : List (ClassId × FieldType)} {A : Nat → Prop} {T T' : en_T} {ad ad' : Nat → Nat} {H H1 : Heap}
theorem en_W.le (h : en_W D tys A T ad H) (hT : en_all2 en_cle T T' = true) : en_W D tys A T' ad H := by
  obtain ⟨ws, h1, h2, h3, h4⟩ := h
  have hl := en_all2_len hT
  refine ⟨ws, h1.trans hl, fun k t hk => ?_, h3, h4⟩
  obtain ⟨a, g1, g2⟩ := en_all2_get hT hk
  obtain ⟨e, g3, g4⟩ := h2 k a g1
  exact ⟨e, g3, en_cle_ok g2 (by rw [← hl]; exact g4)⟩
theorem en_W.kept (h : en_W D tys A T ad H) (hq : ∀ q : Nat, q < H.size → H1[q]? = H[q]?) : en_W D tys A T ad H1 := by
  obtain ⟨ws, h1, h2, h3, h4⟩ := h
  exact ⟨ws, h1, h2, h3.kept (fun k q hk => hq q.1 ((h3 k q hk).lt)), h4⟩
theorem en_W.put {ws : va_W} {k : Nat} {e : va_E} {t : en_C} (h1 : ws.length = T.length) (h2 : ∀ (k : Nat) (t : en_C), T[k]? = some t → ∃ e : va_E, ws[k]? = some (ad k, e) ∧ en_c tys T.length ad t e)
    (hP : va_P D vwCl (ws.set k (ad k, e)) H1) (hD : va_D A (ws.set k (ad k, e))) (he : en_c tys T.length ad t e) : en_W D tys A (T.set k t) ad H1 := by
  refine ⟨ws.set k (ad k, e), by rw [List.length_set, List.length_set]; exact h1, fun j u hj => ?_, hP, hD⟩
  rw [List.length_set]
  by_cases hjk : j = k
  · subst hjk
    by_cases hl : j < T.length
    · rw [List.getElem?_set_self hl] at hj
      cases hj
      exact ⟨e, List.getElem?_set_self (by omega), he⟩
    · rw [List.getElem?_eq_none (by rw [List.length_set]; omega)] at hj
      cases hj
  · rw [List.getElem?_set_ne (Ne.symm hjk)] at hj
    rw [List.getElem?_set_ne (Ne.symm hjk)]
    exact h2 j u hj
/-- the addresses with one more -/
def en_up (ad : Nat → Nat) (n q : Nat) : Nat → Nat := fun k => if k = n then q else ad k
theorem en_up_lt {ad : Nat → Nat} {n q k : Nat} (h : k < n) : en_up ad n q k = ad k := if_neg (by omega)
theorem en_up_at {ad : Nat → Nat} {n q : Nat} : en_up ad n q n = q := if_pos rfl
theorem en_W.push {ws : va_W} {q : Nat} {e : va_E} {t : en_C} (h1 : ws.length = T.length) (h2 : ∀ (k : Nat) (t : en_C), T[k]? = some t → ∃ e : va_E, ws[k]? = some (ad k, e) ∧ en_c tys T.length ad t e)
    (hP : va_P D vwCl (ws ++ [(q, e)]) H1) (hD : va_D A (ws ++ [(q, e)])) (he : en_c tys T.length ad t e) : en_W D tys A (T ++ [t]) (en_up ad T.length q) H1 := by
  refine ⟨ws ++ [(q, e)], by rw [List.length_append, List.length_append, h1]; rfl, fun j u hj => ?_, hP, hD⟩
  rw [List.length_append]
  by_cases hl : j < T.length
  · rw [List.getElem?_append_left hl] at hj
    obtain ⟨e0, g1, g2⟩ := h2 j u hj
    refine ⟨e0, ?_, en_c_mono (Nat.le_add_right _ _) (fun k hk => en_up_lt hk) g2⟩
    rw [List.getElem?_append_left (by omega), en_up_lt hl]
    exact g1
  · rw [List.getElem?_append_right (by omega)] at hj
    have hz : j - T.length < 1 := (List.getElem?_eq_some_iff.mp hj).1
    have hj0 : j = T.length := by omega
    subst hj0
    rw [Nat.sub_self] at hj
    cases hj
    refine ⟨e, ?_, en_c_mono (Nat.le_add_right _ _) (fun k hk => en_up_lt hk) he⟩
    rw [List.getElem?_append_right (by omega), h1, Nat.sub_self, en_up_at]
    rfl
end ENW
end
section
def en_nm : Nat → String
  | 0 => RX0
  | 1 => RX1
  | 2 => RX2
  | 3 => RX3
  | 4 => RX4
  | 5 => RX5
  | 6 => RX6
  | 7 => RX7
  | 8 => RX8
  | 9 => RX9
  | 10 => RJ7
  | 11 => RJ9
  | 12 => RJ0
  | 13 => RL
  | _ => RJ10
theorem en_sub_1 : ∀ w ∈ tables_1_1, w ∈ lw_tbl := fun w h => List.mem_append_right _ (show w ∈ tables_1_1 ++ (tables_1_2 ++ (tables_1_3 ++ (tables_1_4 ++ (tables_1_5 ++ (tables_1_6 ++ (tables_1_7 ++ tables_1_8)))))) from (List.mem_append_left _ h))
theorem en_sub_2 : ∀ w ∈ tables_1_2, w ∈ lw_tbl := fun w h => List.mem_append_right _ (show w ∈ tables_1_1 ++ (tables_1_2 ++ (tables_1_3 ++ (tables_1_4 ++ (tables_1_5 ++ (tables_1_6 ++ (tables_1_7 ++ tables_1_8)))))) from List.mem_append_right _ ((List.mem_append_left _ h)))
theorem en_sub_3 : ∀ w ∈ tables_1_3, w ∈ lw_tbl := fun w h => List.mem_append_right _ (show w ∈ tables_1_1 ++ (tables_1_2 ++ (tables_1_3 ++ (tables_1_4 ++ (tables_1_5 ++ (tables_1_6 ++ (tables_1_7 ++ tables_1_8)))))) from List.mem_append_right _ (List.mem_append_right _ ((List.mem_append_left _ h))))
theorem en_sub_4 : ∀ w ∈ tables_1_4, w ∈ lw_tbl := fun w h => List.mem_append_right _ (show w ∈ tables_1_1 ++ (tables_1_2 ++ (tables_1_3 ++ (tables_1_4 ++ (tables_1_5 ++ (tables_1_6 ++ (tables_1_7 ++ tables_1_8)))))) from List.mem_append_right _ (List.mem_append_right _ (List.mem_append_right _ ((List.mem_append_left _ h)))))
theorem en_sub_5 : ∀ w ∈ tables_1_5, w ∈ lw_tbl := fun w h => List.mem_append_right _ (show w ∈ tables_1_1 ++ (tables_1_2 ++ (tables_1_3 ++ (tables_1_4 ++ (tables_1_5 ++ (tables_1_6 ++ (tables_1_7 ++ tables_1_8)))))) from List.mem_append_right _ (List.mem_append_right _ (List.mem_append_right _ (List.mem_append_right _ ((List.mem_append_left _ h))))))
theorem en_sub_6 : ∀ w ∈ tables_1_6, w ∈ lw_tbl := fun w h => List.mem_append_right _ (show w ∈ tables_1_1 ++ (tables_1_2 ++ (tables_1_3 ++ (tables_1_4 ++ (tables_1_5 ++ (tables_1_6 ++ (tables_1_7 ++ tables_1_8)))))) from List.mem_append_right _ (List.mem_append_right _ (List.mem_append_right _ (List.mem_append_right _ (List.mem_append_right _ ((List.mem_append_left _ h)))))))
theorem en_sub_7 : ∀ w ∈ tables_1_7, w ∈ lw_tbl := fun w h => List.mem_append_right _ (show w ∈ tables_1_1 ++ (tables_1_2 ++ (tables_1_3 ++ (tables_1_4 ++ (tables_1_5 ++ (tables_1_6 ++ (tables_1_7 ++ tables_1_8)))))) from List.mem_append_right _ (List.mem_append_right _ (List.mem_append_right _ (List.mem_append_right _ (List.mem_append_right _ (List.mem_append_right _ ((List.mem_append_left _ h))))))))
theorem en_sub_8 : ∀ w ∈ tables_1_8, w ∈ lw_tbl := fun w h => List.mem_append_right _ (show w ∈ tables_1_1 ++ (tables_1_2 ++ (tables_1_3 ++ (tables_1_4 ++ (tables_1_5 ++ (tables_1_6 ++ (tables_1_7 ++ tables_1_8)))))) from List.mem_append_right _ (List.mem_append_right _ (List.mem_append_right _ (List.mem_append_right _ (List.mem_append_right _ (List.mem_append_right _ (List.mem_append_right _ ((h)))))))))
def en_mw (r : MethodName × ByteArray × Nat × Option FieldType) : Cond := .code r.1 r.2.1 r.2.2.1 r.2.2.2
def en_ms_0 : List (MethodName × ByteArray × Nat × Option FieldType) := [(yX8_init, prog_1_method_1_code, 1, none), (yX7_init, prog_9_method_1_code, 1, none), (yX1_init, prog_3_method_1_code, 1, none), (yX3_init, prog_5_method_1_code, 1, none), (yX0_init, prog_2_method_1_code, 1, none), (yX6_init, prog_8_method_1_code, 1, none), (yJ7_fill_53178, prog_18_method_103_code, 4, none), (yX4_init, prog_6_method_1_code, 1, none), (yX2_init, prog_4_method_1_code, 1, none), (yX5_init, prog_7_method_1_code, 1, none), (yX8_register, prog_1_method_2_code, 3, some .boolean), (yX8_poke, prog_1_method_3_code, 3, some .boolean), (yX8_feed, prog_1_method_4_code, 6, some .int), (yX7_add, prog_9_method_2_code, 3, none), (yX8_law, prog_1_method_5_code, 3, some .int), (yX7_beginText, prog_9_method_4_code, 2, none), (yJ9_min_7cf53, prog_13_method_69_code, 2, some .int), (yX0_readFrom, prog_2_method_3_code, 3, some .int), (yX0_readRule, prog_2_method_4_code, 4, some .boolean), (yX7_sign, prog_9_method_6_code, 1, some .int)]
theorem en_mi_0 : en_mw (yX8_init, prog_1_method_1_code, 1, none) ∈ lw_tbl := en_sub_1 _ (List.mem_of_getElem? (i := 23) rfl)
theorem en_mi_1 : en_mw (yX7_init, prog_9_method_1_code, 1, none) ∈ lw_tbl := en_sub_1 _ (List.mem_of_getElem? (i := 31) rfl)
theorem en_mi_2 : en_mw (yX1_init, prog_3_method_1_code, 1, none) ∈ lw_tbl := en_sub_1 _ (List.mem_of_getElem? (i := 56) rfl)
theorem en_mi_3 : en_mw (yX3_init, prog_5_method_1_code, 1, none) ∈ lw_tbl := en_sub_1 _ (List.mem_of_getElem? (i := 62) rfl)
theorem en_mi_4 : en_mw (yX0_init, prog_2_method_1_code, 1, none) ∈ lw_tbl := en_sub_1 _ (List.mem_of_getElem? (i := 130) rfl)
theorem en_mi_5 : en_mw (yX6_init, prog_8_method_1_code, 1, none) ∈ lw_tbl := en_sub_1 _ (List.mem_of_getElem? (i := 177) rfl)
theorem en_mi_6 : en_mw (yJ7_fill_53178, prog_18_method_103_code, 4, none) ∈ lw_tbl := en_sub_1 _ (List.mem_of_getElem? (i := 181) rfl)
theorem en_mi_7 : en_mw (yX4_init, prog_6_method_1_code, 1, none) ∈ lw_tbl := en_sub_1 _ (List.mem_of_getElem? (i := 217) rfl)
theorem en_mi_8 : en_mw (yX2_init, prog_4_method_1_code, 1, none) ∈ lw_tbl := en_sub_2 _ (List.mem_of_getElem? (i := 61) rfl)
theorem en_mi_9 : en_mw (yX5_init, prog_7_method_1_code, 1, none) ∈ lw_tbl := en_sub_2 _ (List.mem_of_getElem? (i := 81) rfl)
theorem en_mi_10 : en_mw (yX8_register, prog_1_method_2_code, 3, some .boolean) ∈ lw_tbl := en_sub_2 _ (List.mem_of_getElem? (i := 134) rfl)
theorem en_mi_11 : en_mw (yX8_poke, prog_1_method_3_code, 3, some .boolean) ∈ lw_tbl := en_sub_2 _ (List.mem_of_getElem? (i := 138) rfl)
theorem en_mi_12 : en_mw (yX8_feed, prog_1_method_4_code, 6, some .int) ∈ lw_tbl := en_sub_2 _ (List.mem_of_getElem? (i := 142) rfl)
theorem en_mi_13 : en_mw (yX7_add, prog_9_method_2_code, 3, none) ∈ lw_tbl := en_sub_2 _ (List.mem_of_getElem? (i := 146) rfl)
theorem en_mi_14 : en_mw (yX8_law, prog_1_method_5_code, 3, some .int) ∈ lw_tbl := en_sub_2 _ (List.mem_of_getElem? (i := 150) rfl)
theorem en_mi_15 : en_mw (yX7_beginText, prog_9_method_4_code, 2, none) ∈ lw_tbl := en_sub_2 _ (List.mem_of_getElem? (i := 154) rfl)
theorem en_mi_16 : en_mw (yJ9_min_7cf53, prog_13_method_69_code, 2, some .int) ∈ lw_tbl := en_sub_2 _ (List.mem_of_getElem? (i := 157) rfl)
theorem en_mi_17 : en_mw (yX0_readFrom, prog_2_method_3_code, 3, some .int) ∈ lw_tbl := en_sub_2 _ (List.mem_of_getElem? (i := 161) rfl)
theorem en_mi_18 : en_mw (yX0_readRule, prog_2_method_4_code, 4, some .boolean) ∈ lw_tbl := en_sub_2 _ (List.mem_of_getElem? (i := 165) rfl)
theorem en_mi_19 : en_mw (yX7_sign, prog_9_method_6_code, 1, some .int) ∈ lw_tbl := en_sub_2 _ (List.mem_of_getElem? (i := 169) rfl)
theorem en_ms_in_0 : ∀ r ∈ en_ms_0, en_mw r ∈ lw_tbl := List.forall_mem_cons.mpr ⟨en_mi_0, List.forall_mem_cons.mpr ⟨en_mi_1, List.forall_mem_cons.mpr ⟨en_mi_2, List.forall_mem_cons.mpr ⟨en_mi_3, List.forall_mem_cons.mpr ⟨en_mi_4, List.forall_mem_cons.mpr ⟨en_mi_5, List.forall_mem_cons.mpr ⟨en_mi_6, List.forall_mem_cons.mpr ⟨en_mi_7, List.forall_mem_cons.mpr ⟨en_mi_8, List.forall_mem_cons.mpr ⟨en_mi_9, List.forall_mem_cons.mpr ⟨en_mi_10, List.forall_mem_cons.mpr ⟨en_mi_11, List.forall_mem_cons.mpr ⟨en_mi_12, List.forall_mem_cons.mpr ⟨en_mi_13, List.forall_mem_cons.mpr ⟨en_mi_14, List.forall_mem_cons.mpr ⟨en_mi_15, List.forall_mem_cons.mpr ⟨en_mi_16, List.forall_mem_cons.mpr ⟨en_mi_17, List.forall_mem_cons.mpr ⟨en_mi_18, List.forall_mem_cons.mpr ⟨en_mi_19, fun _ h => absurd h List.not_mem_nil⟩⟩⟩⟩⟩⟩⟩⟩⟩⟩⟩⟩⟩⟩⟩⟩⟩⟩⟩⟩
def en_ms_1 : List (MethodName × ByteArray × Nat × Option FieldType) := [(yX7_fail, prog_9_method_10_code, 2, some .boolean), (yX7_step, prog_9_method_8_code, 1, none), (yX0_readSum, prog_2_method_9_code, 5, some .boolean), (yX0_readProduct, prog_2_method_10_code, 5, some .boolean), (yX0_readFactor, prog_2_method_12_code, 5, some .boolean), (yX0_opens, prog_2_method_8_code, 2, some .boolean), (yX7_accept, prog_9_method_9_code, 2, some .boolean), (yX7_digitNext, prog_9_method_7_code, 1, some .boolean), (yX7_readDigits, prog_9_method_12_code, 4, some .int), (yX0_addStep, prog_2_method_13_code, 3, some .int), (yJ9_max_7cf53, prog_13_method_65_code, 2, some .int), (yX0_isOneOf, prog_2_method_11_code, 4, some .boolean), (yX0_readEither, prog_2_method_5_code, 5, some .boolean), (yX0_readBoth, prog_2_method_6_code, 5, some .boolean), (yX0_readTest, prog_2_method_7_code, 4, some .boolean), (yX0_skipToHere, prog_2_method_14_code, 2, none), (yX7_fault, prog_9_method_11_code, 1, some .int), (yX7_ended, prog_9_method_5_code, 1, some .boolean), (yX0_copyFrom, prog_2_method_2_code, 2, none), (yX7_clear, prog_9_method_3_code, 1, none)]
theorem en_mi_20 : en_mw (yX7_fail, prog_9_method_10_code, 2, some .boolean) ∈ lw_tbl := en_sub_2 _ (List.mem_of_getElem? (i := 173) rfl)
theorem en_mi_21 : en_mw (yX7_step, prog_9_method_8_code, 1, none) ∈ lw_tbl := en_sub_2 _ (List.mem_of_getElem? (i := 177) rfl)
theorem en_mi_22 : en_mw (yX0_readSum, prog_2_method_9_code, 5, some .boolean) ∈ lw_tbl := en_sub_2 _ (List.mem_of_getElem? (i := 181) rfl)
theorem en_mi_23 : en_mw (yX0_readProduct, prog_2_method_10_code, 5, some .boolean) ∈ lw_tbl := en_sub_2 _ (List.mem_of_getElem? (i := 185) rfl)
theorem en_mi_24 : en_mw (yX0_readFactor, prog_2_method_12_code, 5, some .boolean) ∈ lw_tbl := en_sub_2 _ (List.mem_of_getElem? (i := 189) rfl)
theorem en_mi_25 : en_mw (yX0_opens, prog_2_method_8_code, 2, some .boolean) ∈ lw_tbl := en_sub_2 _ (List.mem_of_getElem? (i := 192) rfl)
theorem en_mi_26 : en_mw (yX7_accept, prog_9_method_9_code, 2, some .boolean) ∈ lw_tbl := en_sub_2 _ (List.mem_of_getElem? (i := 196) rfl)
theorem en_mi_27 : en_mw (yX7_digitNext, prog_9_method_7_code, 1, some .boolean) ∈ lw_tbl := en_sub_2 _ (List.mem_of_getElem? (i := 202) rfl)
theorem en_mi_28 : en_mw (yX7_readDigits, prog_9_method_12_code, 4, some .int) ∈ lw_tbl := en_sub_2 _ (List.mem_of_getElem? (i := 206) rfl)
theorem en_mi_29 : en_mw (yX0_addStep, prog_2_method_13_code, 3, some .int) ∈ lw_tbl := en_sub_2 _ (List.mem_of_getElem? (i := 211) rfl)
theorem en_mi_30 : en_mw (yJ9_max_7cf53, prog_13_method_65_code, 2, some .int) ∈ lw_tbl := en_sub_2 _ (List.mem_of_getElem? (i := 233) rfl)
theorem en_mi_31 : en_mw (yX0_isOneOf, prog_2_method_11_code, 4, some .boolean) ∈ lw_tbl := en_sub_3 _ (List.mem_of_getElem? (i := 49) rfl)
theorem en_mi_32 : en_mw (yX0_readEither, prog_2_method_5_code, 5, some .boolean) ∈ lw_tbl := en_sub_3 _ (List.mem_of_getElem? (i := 53) rfl)
theorem en_mi_33 : en_mw (yX0_readBoth, prog_2_method_6_code, 5, some .boolean) ∈ lw_tbl := en_sub_3 _ (List.mem_of_getElem? (i := 57) rfl)
theorem en_mi_34 : en_mw (yX0_readTest, prog_2_method_7_code, 4, some .boolean) ∈ lw_tbl := en_sub_3 _ (List.mem_of_getElem? (i := 61) rfl)
theorem en_mi_35 : en_mw (yX0_skipToHere, prog_2_method_14_code, 2, none) ∈ lw_tbl := en_sub_3 _ (List.mem_of_getElem? (i := 65) rfl)
theorem en_mi_36 : en_mw (yX7_fault, prog_9_method_11_code, 1, some .int) ∈ lw_tbl := en_sub_3 _ (List.mem_of_getElem? (i := 69) rfl)
theorem en_mi_37 : en_mw (yX7_ended, prog_9_method_5_code, 1, some .boolean) ∈ lw_tbl := en_sub_3 _ (List.mem_of_getElem? (i := 73) rfl)
theorem en_mi_38 : en_mw (yX0_copyFrom, prog_2_method_2_code, 2, none) ∈ lw_tbl := en_sub_3 _ (List.mem_of_getElem? (i := 77) rfl)
theorem en_mi_39 : en_mw (yX7_clear, prog_9_method_3_code, 1, none) ∈ lw_tbl := en_sub_3 _ (List.mem_of_getElem? (i := 84) rfl)
theorem en_ms_in_1 : ∀ r ∈ en_ms_1, en_mw r ∈ lw_tbl := List.forall_mem_cons.mpr ⟨en_mi_20, List.forall_mem_cons.mpr ⟨en_mi_21, List.forall_mem_cons.mpr ⟨en_mi_22, List.forall_mem_cons.mpr ⟨en_mi_23, List.forall_mem_cons.mpr ⟨en_mi_24, List.forall_mem_cons.mpr ⟨en_mi_25, List.forall_mem_cons.mpr ⟨en_mi_26, List.forall_mem_cons.mpr ⟨en_mi_27, List.forall_mem_cons.mpr ⟨en_mi_28, List.forall_mem_cons.mpr ⟨en_mi_29, List.forall_mem_cons.mpr ⟨en_mi_30, List.forall_mem_cons.mpr ⟨en_mi_31, List.forall_mem_cons.mpr ⟨en_mi_32, List.forall_mem_cons.mpr ⟨en_mi_33, List.forall_mem_cons.mpr ⟨en_mi_34, List.forall_mem_cons.mpr ⟨en_mi_35, List.forall_mem_cons.mpr ⟨en_mi_36, List.forall_mem_cons.mpr ⟨en_mi_37, List.forall_mem_cons.mpr ⟨en_mi_38, List.forall_mem_cons.mpr ⟨en_mi_39, fun _ h => absurd h List.not_mem_nil⟩⟩⟩⟩⟩⟩⟩⟩⟩⟩⟩⟩⟩⟩⟩⟩⟩⟩⟩⟩
def en_ms_2 : List (MethodName × ByteArray × Nat × Option FieldType) := [(yX8_program, prog_1_method_6_code, 3, some .int), (yX3_readFrom, prog_5_method_3_code, 3, some .int), (yX3_readOp, prog_5_method_4_code, 5, some .boolean), (yX3_kindOf, prog_5_method_5_code, 1, some .int), (yX3_readGiven, prog_5_method_6_code, 3, some .boolean), (yX7_readRegister, prog_9_method_13_code, 2, some .int), (yX3_readNumber, prog_5_method_7_code, 3, some .boolean), (yX3_readReckoning, prog_5_method_8_code, 3, some .boolean), (yX3_readMove, prog_5_method_9_code, 3, some .boolean), (yX3_sizeOf, prog_5_method_10_code, 1, some .int), (yX3_findSources, prog_5_method_11_code, 2, none), (yX3_giverOfRegister, prog_5_method_12_code, 2, some .int), (yX8_isCell, prog_1_method_32_code, 1, some .boolean), (yX3_depthOf, prog_5_method_13_code, 2, some .int), (yX3_copyFrom, prog_5_method_2_code, 2, none), (yX6_dropSets, prog_8_method_5_code, 1, none), (yX5_clear, prog_7_method_2_code, 1, none), (yX8_run, prog_1_method_7_code, 3, some .int), (yX8_canRun, prog_1_method_28_code, 2, some .boolean), (yX1_go, prog_3_method_2_code, 4, some .int)]
theorem en_mi_40 : en_mw (yX8_program, prog_1_method_6_code, 3, some .int) ∈ lw_tbl := en_sub_3 _ (List.mem_of_getElem? (i := 88) rfl)
theorem en_mi_41 : en_mw (yX3_readFrom, prog_5_method_3_code, 3, some .int) ∈ lw_tbl := en_sub_3 _ (List.mem_of_getElem? (i := 92) rfl)
theorem en_mi_42 : en_mw (yX3_readOp, prog_5_method_4_code, 5, some .boolean) ∈ lw_tbl := en_sub_3 _ (List.mem_of_getElem? (i := 96) rfl)
theorem en_mi_43 : en_mw (yX3_kindOf, prog_5_method_5_code, 1, some .int) ∈ lw_tbl := en_sub_3 _ (List.mem_of_getElem? (i := 100) rfl)
theorem en_mi_44 : en_mw (yX3_readGiven, prog_5_method_6_code, 3, some .boolean) ∈ lw_tbl := en_sub_3 _ (List.mem_of_getElem? (i := 106) rfl)
theorem en_mi_45 : en_mw (yX7_readRegister, prog_9_method_13_code, 2, some .int) ∈ lw_tbl := en_sub_3 _ (List.mem_of_getElem? (i := 110) rfl)
theorem en_mi_46 : en_mw (yX3_readNumber, prog_5_method_7_code, 3, some .boolean) ∈ lw_tbl := en_sub_3 _ (List.mem_of_getElem? (i := 115) rfl)
theorem en_mi_47 : en_mw (yX3_readReckoning, prog_5_method_8_code, 3, some .boolean) ∈ lw_tbl := en_sub_3 _ (List.mem_of_getElem? (i := 120) rfl)
theorem en_mi_48 : en_mw (yX3_readMove, prog_5_method_9_code, 3, some .boolean) ∈ lw_tbl := en_sub_3 _ (List.mem_of_getElem? (i := 124) rfl)
theorem en_mi_49 : en_mw (yX3_sizeOf, prog_5_method_10_code, 1, some .int) ∈ lw_tbl := en_sub_3 _ (List.mem_of_getElem? (i := 127) rfl)
theorem en_mi_50 : en_mw (yX3_findSources, prog_5_method_11_code, 2, none) ∈ lw_tbl := en_sub_3 _ (List.mem_of_getElem? (i := 133) rfl)
theorem en_mi_51 : en_mw (yX3_giverOfRegister, prog_5_method_12_code, 2, some .int) ∈ lw_tbl := en_sub_3 _ (List.mem_of_getElem? (i := 138) rfl)
theorem en_mi_52 : en_mw (yX8_isCell, prog_1_method_32_code, 1, some .boolean) ∈ lw_tbl := en_sub_3 _ (List.mem_of_getElem? (i := 141) rfl)
theorem en_mi_53 : en_mw (yX3_depthOf, prog_5_method_13_code, 2, some .int) ∈ lw_tbl := en_sub_3 _ (List.mem_of_getElem? (i := 145) rfl)
theorem en_mi_54 : en_mw (yX3_copyFrom, prog_5_method_2_code, 2, none) ∈ lw_tbl := en_sub_3 _ (List.mem_of_getElem? (i := 150) rfl)
theorem en_mi_55 : en_mw (yX6_dropSets, prog_8_method_5_code, 1, none) ∈ lw_tbl := en_sub_3 _ (List.mem_of_getElem? (i := 155) rfl)
theorem en_mi_56 : en_mw (yX5_clear, prog_7_method_2_code, 1, none) ∈ lw_tbl := en_sub_3 _ (List.mem_of_getElem? (i := 159) rfl)
theorem en_mi_57 : en_mw (yX8_run, prog_1_method_7_code, 3, some .int) ∈ lw_tbl := en_sub_3 _ (List.mem_of_getElem? (i := 164) rfl)
theorem en_mi_58 : en_mw (yX8_canRun, prog_1_method_28_code, 2, some .boolean) ∈ lw_tbl := en_sub_3 _ (List.mem_of_getElem? (i := 168) rfl)
theorem en_mi_59 : en_mw (yX1_go, prog_3_method_2_code, 4, some .int) ∈ lw_tbl := en_sub_3 _ (List.mem_of_getElem? (i := 172) rfl)
theorem en_ms_in_2 : ∀ r ∈ en_ms_2, en_mw r ∈ lw_tbl := List.forall_mem_cons.mpr ⟨en_mi_40, List.forall_mem_cons.mpr ⟨en_mi_41, List.forall_mem_cons.mpr ⟨en_mi_42, List.forall_mem_cons.mpr ⟨en_mi_43, List.forall_mem_cons.mpr ⟨en_mi_44, List.forall_mem_cons.mpr ⟨en_mi_45, List.forall_mem_cons.mpr ⟨en_mi_46, List.forall_mem_cons.mpr ⟨en_mi_47, List.forall_mem_cons.mpr ⟨en_mi_48, List.forall_mem_cons.mpr ⟨en_mi_49, List.forall_mem_cons.mpr ⟨en_mi_50, List.forall_mem_cons.mpr ⟨en_mi_51, List.forall_mem_cons.mpr ⟨en_mi_52, List.forall_mem_cons.mpr ⟨en_mi_53, List.forall_mem_cons.mpr ⟨en_mi_54, List.forall_mem_cons.mpr ⟨en_mi_55, List.forall_mem_cons.mpr ⟨en_mi_56, List.forall_mem_cons.mpr ⟨en_mi_57, List.forall_mem_cons.mpr ⟨en_mi_58, List.forall_mem_cons.mpr ⟨en_mi_59, fun _ h => absurd h List.not_mem_nil⟩⟩⟩⟩⟩⟩⟩⟩⟩⟩⟩⟩⟩⟩⟩⟩⟩⟩⟩⟩
def en_ms_3 : List (MethodName × ByteArray × Nat × Option FieldType) := [(yX1_begin, prog_3_method_3_code, 2, none), (yX6_copyFrom, prog_8_method_2_code, 2, none), (yX6_copyCellsFrom, prog_8_method_3_code, 2, none), (yX6_copySetsFrom, prog_8_method_4_code, 2, none), (yX4_clear, prog_6_method_2_code, 1, none), (yX1_finishOps, prog_3_method_4_code, 4, none), (yX1_valueRead, prog_3_method_5_code, 3, some .int), (yX3_placeBy, prog_5_method_17_code, 3, some .int), (yX1_takeBytes, prog_3_method_6_code, 7, none), (yX1_youngestCovering, prog_3_method_7_code, 4, some .int), (yX8_covers, prog_1_method_36_code, 3, some .boolean), (yX1_storedAt, prog_3_method_8_code, 4, some .int), (yX3_storedOf, prog_5_method_18_code, 3, some .int), (yX1_lookBack, prog_3_method_9_code, 4, none), (yX1_tookTooOld, prog_3_method_10_code, 5, some .boolean), (yX6_melt, prog_8_method_9_code, 4, none), (yX1_replay, prog_3_method_11_code, 5, none), (yX1_makeWait, prog_3_method_13_code, 2, none), (yX1_undoDownTo, prog_3_method_14_code, 4, none), (yX1_dependsOn, prog_3_method_12_code, 4, some .boolean)]
theorem en_mi_60 : en_mw (yX1_begin, prog_3_method_3_code, 2, none) ∈ lw_tbl := en_sub_3 _ (List.mem_of_getElem? (i := 176) rfl)
theorem en_mi_61 : en_mw (yX6_copyFrom, prog_8_method_2_code, 2, none) ∈ lw_tbl := en_sub_3 _ (List.mem_of_getElem? (i := 180) rfl)
theorem en_mi_62 : en_mw (yX6_copyCellsFrom, prog_8_method_3_code, 2, none) ∈ lw_tbl := en_sub_3 _ (List.mem_of_getElem? (i := 184) rfl)
theorem en_mi_63 : en_mw (yX6_copySetsFrom, prog_8_method_4_code, 2, none) ∈ lw_tbl := en_sub_3 _ (List.mem_of_getElem? (i := 189) rfl)
theorem en_mi_64 : en_mw (yX4_clear, prog_6_method_2_code, 1, none) ∈ lw_tbl := en_sub_3 _ (List.mem_of_getElem? (i := 193) rfl)
theorem en_mi_65 : en_mw (yX1_finishOps, prog_3_method_4_code, 4, none) ∈ lw_tbl := en_sub_3 _ (List.mem_of_getElem? (i := 199) rfl)
theorem en_mi_66 : en_mw (yX1_valueRead, prog_3_method_5_code, 3, some .int) ∈ lw_tbl := en_sub_3 _ (List.mem_of_getElem? (i := 203) rfl)
theorem en_mi_67 : en_mw (yX3_placeBy, prog_5_method_17_code, 3, some .int) ∈ lw_tbl := en_sub_3 _ (List.mem_of_getElem? (i := 208) rfl)
theorem en_mi_68 : en_mw (yX1_takeBytes, prog_3_method_6_code, 7, none) ∈ lw_tbl := en_sub_3 _ (List.mem_of_getElem? (i := 212) rfl)
theorem en_mi_69 : en_mw (yX1_youngestCovering, prog_3_method_7_code, 4, some .int) ∈ lw_tbl := en_sub_3 _ (List.mem_of_getElem? (i := 216) rfl)
theorem en_mi_70 : en_mw (yX8_covers, prog_1_method_36_code, 3, some .boolean) ∈ lw_tbl := en_sub_3 _ (List.mem_of_getElem? (i := 219) rfl)
theorem en_mi_71 : en_mw (yX1_storedAt, prog_3_method_8_code, 4, some .int) ∈ lw_tbl := en_sub_3 _ (List.mem_of_getElem? (i := 223) rfl)
theorem en_mi_72 : en_mw (yX3_storedOf, prog_5_method_18_code, 3, some .int) ∈ lw_tbl := en_sub_3 _ (List.mem_of_getElem? (i := 227) rfl)
theorem en_mi_73 : en_mw (yX1_lookBack, prog_3_method_9_code, 4, none) ∈ lw_tbl := en_sub_3 _ (List.mem_of_getElem? (i := 231) rfl)
theorem en_mi_74 : en_mw (yX1_tookTooOld, prog_3_method_10_code, 5, some .boolean) ∈ lw_tbl := en_sub_3 _ (List.mem_of_getElem? (i := 235) rfl)
theorem en_mi_75 : en_mw (yX6_melt, prog_8_method_9_code, 4, none) ∈ lw_tbl := en_sub_3 _ (List.mem_of_getElem? (i := 239) rfl)
theorem en_mi_76 : en_mw (yX1_replay, prog_3_method_11_code, 5, none) ∈ lw_tbl := en_sub_4 _ (List.mem_of_getElem? (i := 5) rfl)
theorem en_mi_77 : en_mw (yX1_makeWait, prog_3_method_13_code, 2, none) ∈ lw_tbl := en_sub_4 _ (List.mem_of_getElem? (i := 9) rfl)
theorem en_mi_78 : en_mw (yX1_undoDownTo, prog_3_method_14_code, 4, none) ∈ lw_tbl := en_sub_4 _ (List.mem_of_getElem? (i := 13) rfl)
theorem en_mi_79 : en_mw (yX1_dependsOn, prog_3_method_12_code, 4, some .boolean) ∈ lw_tbl := en_sub_4 _ (List.mem_of_getElem? (i := 17) rfl)
theorem en_ms_in_3 : ∀ r ∈ en_ms_3, en_mw r ∈ lw_tbl := List.forall_mem_cons.mpr ⟨en_mi_60, List.forall_mem_cons.mpr ⟨en_mi_61, List.forall_mem_cons.mpr ⟨en_mi_62, List.forall_mem_cons.mpr ⟨en_mi_63, List.forall_mem_cons.mpr ⟨en_mi_64, List.forall_mem_cons.mpr ⟨en_mi_65, List.forall_mem_cons.mpr ⟨en_mi_66, List.forall_mem_cons.mpr ⟨en_mi_67, List.forall_mem_cons.mpr ⟨en_mi_68, List.forall_mem_cons.mpr ⟨en_mi_69, List.forall_mem_cons.mpr ⟨en_mi_70, List.forall_mem_cons.mpr ⟨en_mi_71, List.forall_mem_cons.mpr ⟨en_mi_72, List.forall_mem_cons.mpr ⟨en_mi_73, List.forall_mem_cons.mpr ⟨en_mi_74, List.forall_mem_cons.mpr ⟨en_mi_75, List.forall_mem_cons.mpr ⟨en_mi_76, List.forall_mem_cons.mpr ⟨en_mi_77, List.forall_mem_cons.mpr ⟨en_mi_78, List.forall_mem_cons.mpr ⟨en_mi_79, fun _ h => absurd h List.not_mem_nil⟩⟩⟩⟩⟩⟩⟩⟩⟩⟩⟩⟩⟩⟩⟩⟩⟩⟩⟩⟩
def en_ms_4 : List (MethodName × ByteArray × Nat × Option FieldType) := [(yX3_reckoned, prog_5_method_16_code, 4, some .int), (yX1_sendOff, prog_3_method_15_code, 5, none), (yX1_isDone, prog_3_method_16_code, 2, some .boolean), (yX1_mustWait, prog_3_method_17_code, 6, some .boolean), (yX6_draw, prog_8_method_8_code, 1, some .int), (yX1_tellLaw, prog_3_method_18_code, 4, none), (yX0_tell, prog_2_method_15_code, 8, none), (yX0_delay, prog_2_method_16_code, 4, some .int), (yX0_holds, prog_2_method_18_code, 2, some .boolean), (yX0_reckon, prog_2_method_19_code, 7, some .int), (yX0_joined, prog_2_method_20_code, 3, some .int), (yX1_retireOne, prog_3_method_19_code, 5, none), (yX1_oldestToRetire, prog_3_method_20_code, 2, some .int), (yX1_doneAhead, prog_3_method_21_code, 3, some .boolean), (yX0_holdsBack, prog_2_method_17_code, 2, some .boolean), (yX6_putBytes, prog_8_method_10_code, 5, none), (yX1_settled, prog_3_method_22_code, 2, some .boolean), (yX1_giveRegisters, prog_3_method_23_code, 2, none), (yX4_copyFrom, prog_6_method_3_code, 2, none), (yX8_tried, prog_1_method_8_code, 5, some .int)]
theorem en_mi_80 : en_mw (yX3_reckoned, prog_5_method_16_code, 4, some .int) ∈ lw_tbl := en_sub_4 _ (List.mem_of_getElem? (i := 21) rfl)
theorem en_mi_81 : en_mw (yX1_sendOff, prog_3_method_15_code, 5, none) ∈ lw_tbl := en_sub_4 _ (List.mem_of_getElem? (i := 25) rfl)
theorem en_mi_82 : en_mw (yX1_isDone, prog_3_method_16_code, 2, some .boolean) ∈ lw_tbl := en_sub_4 _ (List.mem_of_getElem? (i := 29) rfl)
theorem en_mi_83 : en_mw (yX1_mustWait, prog_3_method_17_code, 6, some .boolean) ∈ lw_tbl := en_sub_4 _ (List.mem_of_getElem? (i := 33) rfl)
theorem en_mi_84 : en_mw (yX6_draw, prog_8_method_8_code, 1, some .int) ∈ lw_tbl := en_sub_4 _ (List.mem_of_getElem? (i := 37) rfl)
theorem en_mi_85 : en_mw (yX1_tellLaw, prog_3_method_18_code, 4, none) ∈ lw_tbl := en_sub_4 _ (List.mem_of_getElem? (i := 42) rfl)
theorem en_mi_86 : en_mw (yX0_tell, prog_2_method_15_code, 8, none) ∈ lw_tbl := en_sub_4 _ (List.mem_of_getElem? (i := 46) rfl)
theorem en_mi_87 : en_mw (yX0_delay, prog_2_method_16_code, 4, some .int) ∈ lw_tbl := en_sub_4 _ (List.mem_of_getElem? (i := 50) rfl)
theorem en_mi_88 : en_mw (yX0_holds, prog_2_method_18_code, 2, some .boolean) ∈ lw_tbl := en_sub_4 _ (List.mem_of_getElem? (i := 54) rfl)
theorem en_mi_89 : en_mw (yX0_reckon, prog_2_method_19_code, 7, some .int) ∈ lw_tbl := en_sub_4 _ (List.mem_of_getElem? (i := 58) rfl)
theorem en_mi_90 : en_mw (yX0_joined, prog_2_method_20_code, 3, some .int) ∈ lw_tbl := en_sub_4 _ (List.mem_of_getElem? (i := 61) rfl)
theorem en_mi_91 : en_mw (yX1_retireOne, prog_3_method_19_code, 5, none) ∈ lw_tbl := en_sub_4 _ (List.mem_of_getElem? (i := 67) rfl)
theorem en_mi_92 : en_mw (yX1_oldestToRetire, prog_3_method_20_code, 2, some .int) ∈ lw_tbl := en_sub_4 _ (List.mem_of_getElem? (i := 71) rfl)
theorem en_mi_93 : en_mw (yX1_doneAhead, prog_3_method_21_code, 3, some .boolean) ∈ lw_tbl := en_sub_4 _ (List.mem_of_getElem? (i := 75) rfl)
theorem en_mi_94 : en_mw (yX0_holdsBack, prog_2_method_17_code, 2, some .boolean) ∈ lw_tbl := en_sub_4 _ (List.mem_of_getElem? (i := 79) rfl)
theorem en_mi_95 : en_mw (yX6_putBytes, prog_8_method_10_code, 5, none) ∈ lw_tbl := en_sub_4 _ (List.mem_of_getElem? (i := 83) rfl)
theorem en_mi_96 : en_mw (yX1_settled, prog_3_method_22_code, 2, some .boolean) ∈ lw_tbl := en_sub_4 _ (List.mem_of_getElem? (i := 87) rfl)
theorem en_mi_97 : en_mw (yX1_giveRegisters, prog_3_method_23_code, 2, none) ∈ lw_tbl := en_sub_4 _ (List.mem_of_getElem? (i := 91) rfl)
theorem en_mi_98 : en_mw (yX4_copyFrom, prog_6_method_3_code, 2, none) ∈ lw_tbl := en_sub_4 _ (List.mem_of_getElem? (i := 97) rfl)
theorem en_mi_99 : en_mw (yX8_tried, prog_1_method_8_code, 5, some .int) ∈ lw_tbl := en_sub_4 _ (List.mem_of_getElem? (i := 102) rfl)
theorem en_ms_in_4 : ∀ r ∈ en_ms_4, en_mw r ∈ lw_tbl := List.forall_mem_cons.mpr ⟨en_mi_80, List.forall_mem_cons.mpr ⟨en_mi_81, List.forall_mem_cons.mpr ⟨en_mi_82, List.forall_mem_cons.mpr ⟨en_mi_83, List.forall_mem_cons.mpr ⟨en_mi_84, List.forall_mem_cons.mpr ⟨en_mi_85, List.forall_mem_cons.mpr ⟨en_mi_86, List.forall_mem_cons.mpr ⟨en_mi_87, List.forall_mem_cons.mpr ⟨en_mi_88, List.forall_mem_cons.mpr ⟨en_mi_89, List.forall_mem_cons.mpr ⟨en_mi_90, List.forall_mem_cons.mpr ⟨en_mi_91, List.forall_mem_cons.mpr ⟨en_mi_92, List.forall_mem_cons.mpr ⟨en_mi_93, List.forall_mem_cons.mpr ⟨en_mi_94, List.forall_mem_cons.mpr ⟨en_mi_95, List.forall_mem_cons.mpr ⟨en_mi_96, List.forall_mem_cons.mpr ⟨en_mi_97, List.forall_mem_cons.mpr ⟨en_mi_98, List.forall_mem_cons.mpr ⟨en_mi_99, fun _ h => absurd h List.not_mem_nil⟩⟩⟩⟩⟩⟩⟩⟩⟩⟩⟩⟩⟩⟩⟩⟩⟩⟩⟩⟩
def en_ms_5 : List (MethodName × ByteArray × Nat × Option FieldType) := [(yX8_isTotal, prog_1_method_31_code, 1, some .boolean), (yX8_isByte, prog_1_method_33_code, 1, some .boolean), (yX8_lastRun, prog_1_method_9_code, 2, some .int), (yX8_opIs, prog_1_method_10_code, 3, some .int), (yX8_isOp, prog_1_method_29_code, 2, some .boolean), (yX8_giverOf, prog_1_method_30_code, 3, some .int), (yX8_orAbsent, prog_1_method_34_code, 1, some .int), (yX3_moves, prog_5_method_14_code, 2, some .boolean), (yX8_source, prog_1_method_11_code, 3, some .int), (yX8_now, prog_1_method_12_code, 2, some .int), (yX8_plain, prog_1_method_13_code, 2, some .int), (yX2_go, prog_4_method_2_code, 6, none), (yX2_valueIn, prog_4_method_3_code, 2, some .int), (yX2_loaded, prog_4_method_4_code, 5, some .int), (yX8_unlike, prog_1_method_14_code, 2, some .int), (yX8_differing, prog_1_method_35_code, 4, some .int), (yX8_fastest, prog_1_method_15_code, 6, some .int), (yX8_cautious, prog_1_method_16_code, 3, some .int), (yX8_worst, prog_1_method_17_code, 4, some .int), (yX8_deep, prog_1_method_18_code, 1, some .int)]
theorem en_mi_100 : en_mw (yX8_isTotal, prog_1_method_31_code, 1, some .boolean) ∈ lw_tbl := en_sub_4 _ (List.mem_of_getElem? (i := 105) rfl)
theorem en_mi_101 : en_mw (yX8_isByte, prog_1_method_33_code, 1, some .boolean) ∈ lw_tbl := en_sub_4 _ (List.mem_of_getElem? (i := 109) rfl)
theorem en_mi_102 : en_mw (yX8_lastRun, prog_1_method_9_code, 2, some .int) ∈ lw_tbl := en_sub_4 _ (List.mem_of_getElem? (i := 113) rfl)
theorem en_mi_103 : en_mw (yX8_opIs, prog_1_method_10_code, 3, some .int) ∈ lw_tbl := en_sub_4 _ (List.mem_of_getElem? (i := 117) rfl)
theorem en_mi_104 : en_mw (yX8_isOp, prog_1_method_29_code, 2, some .boolean) ∈ lw_tbl := en_sub_4 _ (List.mem_of_getElem? (i := 121) rfl)
theorem en_mi_105 : en_mw (yX8_giverOf, prog_1_method_30_code, 3, some .int) ∈ lw_tbl := en_sub_4 _ (List.mem_of_getElem? (i := 126) rfl)
theorem en_mi_106 : en_mw (yX8_orAbsent, prog_1_method_34_code, 1, some .int) ∈ lw_tbl := en_sub_4 _ (List.mem_of_getElem? (i := 129) rfl)
theorem en_mi_107 : en_mw (yX3_moves, prog_5_method_14_code, 2, some .boolean) ∈ lw_tbl := en_sub_4 _ (List.mem_of_getElem? (i := 133) rfl)
theorem en_mi_108 : en_mw (yX8_source, prog_1_method_11_code, 3, some .int) ∈ lw_tbl := en_sub_4 _ (List.mem_of_getElem? (i := 137) rfl)
theorem en_mi_109 : en_mw (yX8_now, prog_1_method_12_code, 2, some .int) ∈ lw_tbl := en_sub_4 _ (List.mem_of_getElem? (i := 141) rfl)
theorem en_mi_110 : en_mw (yX8_plain, prog_1_method_13_code, 2, some .int) ∈ lw_tbl := en_sub_4 _ (List.mem_of_getElem? (i := 145) rfl)
theorem en_mi_111 : en_mw (yX2_go, prog_4_method_2_code, 6, none) ∈ lw_tbl := en_sub_4 _ (List.mem_of_getElem? (i := 149) rfl)
theorem en_mi_112 : en_mw (yX2_valueIn, prog_4_method_3_code, 2, some .int) ∈ lw_tbl := en_sub_4 _ (List.mem_of_getElem? (i := 154) rfl)
theorem en_mi_113 : en_mw (yX2_loaded, prog_4_method_4_code, 5, some .int) ∈ lw_tbl := en_sub_4 _ (List.mem_of_getElem? (i := 161) rfl)
theorem en_mi_114 : en_mw (yX8_unlike, prog_1_method_14_code, 2, some .int) ∈ lw_tbl := en_sub_4 _ (List.mem_of_getElem? (i := 166) rfl)
theorem en_mi_115 : en_mw (yX8_differing, prog_1_method_35_code, 4, some .int) ∈ lw_tbl := en_sub_4 _ (List.mem_of_getElem? (i := 169) rfl)
theorem en_mi_116 : en_mw (yX8_fastest, prog_1_method_15_code, 6, some .int) ∈ lw_tbl := en_sub_4 _ (List.mem_of_getElem? (i := 173) rfl)
theorem en_mi_117 : en_mw (yX8_cautious, prog_1_method_16_code, 3, some .int) ∈ lw_tbl := en_sub_4 _ (List.mem_of_getElem? (i := 177) rfl)
theorem en_mi_118 : en_mw (yX8_worst, prog_1_method_17_code, 4, some .int) ∈ lw_tbl := en_sub_4 _ (List.mem_of_getElem? (i := 181) rfl)
theorem en_mi_119 : en_mw (yX8_deep, prog_1_method_18_code, 1, some .int) ∈ lw_tbl := en_sub_4 _ (List.mem_of_getElem? (i := 185) rfl)
theorem en_ms_in_5 : ∀ r ∈ en_ms_5, en_mw r ∈ lw_tbl := List.forall_mem_cons.mpr ⟨en_mi_100, List.forall_mem_cons.mpr ⟨en_mi_101, List.forall_mem_cons.mpr ⟨en_mi_102, List.forall_mem_cons.mpr ⟨en_mi_103, List.forall_mem_cons.mpr ⟨en_mi_104, List.forall_mem_cons.mpr ⟨en_mi_105, List.forall_mem_cons.mpr ⟨en_mi_106, List.forall_mem_cons.mpr ⟨en_mi_107, List.forall_mem_cons.mpr ⟨en_mi_108, List.forall_mem_cons.mpr ⟨en_mi_109, List.forall_mem_cons.mpr ⟨en_mi_110, List.forall_mem_cons.mpr ⟨en_mi_111, List.forall_mem_cons.mpr ⟨en_mi_112, List.forall_mem_cons.mpr ⟨en_mi_113, List.forall_mem_cons.mpr ⟨en_mi_114, List.forall_mem_cons.mpr ⟨en_mi_115, List.forall_mem_cons.mpr ⟨en_mi_116, List.forall_mem_cons.mpr ⟨en_mi_117, List.forall_mem_cons.mpr ⟨en_mi_118, List.forall_mem_cons.mpr ⟨en_mi_119, fun _ h => absurd h List.not_mem_nil⟩⟩⟩⟩⟩⟩⟩⟩⟩⟩⟩⟩⟩⟩⟩⟩⟩⟩⟩⟩
def en_ms_6 : List (MethodName × ByteArray × Nat × Option FieldType) := [(yX8_mix, prog_1_method_19_code, 1, some .int), (yX2_sharedBytes, prog_4_method_5_code, 5, some .int), (yX2_meet, prog_4_method_6_code, 4, some .boolean), (yX8_watch, prog_1_method_20_code, 3, some .int), (yX5_put, prog_7_method_3_code, 3, some .int), (yX8_watched, prog_1_method_21_code, 5, some .int), (yX8_forget, prog_1_method_22_code, 2, some .int), (yX6_withSet, prog_8_method_6_code, 3, some .int), (yX8_seed, prog_1_method_23_code, 2, some .boolean), (yX8_keep, prog_1_method_24_code, 1, some .int), (yX8_undo, prog_1_method_25_code, 1, some .boolean), (yX8_check, prog_1_method_26_code, 4, some .int), (yX8_count, prog_1_method_27_code, 2, some .int), (yX3_ofKind, prog_5_method_15_code, 4, some .int), (yX6_bytesNotZero, prog_8_method_7_code, 3, some .int), (yX9_init, prog_11_method_1_code, 1, none), (yX9_register, prog_11_method_6_code, 3, some .boolean), (yX9_in, prog_11_method_2_code, 3, some .boolean), (yX9_poke, prog_11_method_7_code, 3, some .boolean), (yX9_feed, prog_11_method_9_code, 6, some .int)]
theorem en_mi_120 : en_mw (yX8_mix, prog_1_method_19_code, 1, some .int) ∈ lw_tbl := en_sub_4 _ (List.mem_of_getElem? (i := 189) rfl)
theorem en_mi_121 : en_mw (yX2_sharedBytes, prog_4_method_5_code, 5, some .int) ∈ lw_tbl := en_sub_4 _ (List.mem_of_getElem? (i := 193) rfl)
theorem en_mi_122 : en_mw (yX2_meet, prog_4_method_6_code, 4, some .boolean) ∈ lw_tbl := en_sub_4 _ (List.mem_of_getElem? (i := 197) rfl)
theorem en_mi_123 : en_mw (yX8_watch, prog_1_method_20_code, 3, some .int) ∈ lw_tbl := en_sub_4 _ (List.mem_of_getElem? (i := 202) rfl)
theorem en_mi_124 : en_mw (yX5_put, prog_7_method_3_code, 3, some .int) ∈ lw_tbl := en_sub_4 _ (List.mem_of_getElem? (i := 206) rfl)
theorem en_mi_125 : en_mw (yX8_watched, prog_1_method_21_code, 5, some .int) ∈ lw_tbl := en_sub_4 _ (List.mem_of_getElem? (i := 210) rfl)
theorem en_mi_126 : en_mw (yX8_forget, prog_1_method_22_code, 2, some .int) ∈ lw_tbl := en_sub_4 _ (List.mem_of_getElem? (i := 215) rfl)
theorem en_mi_127 : en_mw (yX6_withSet, prog_8_method_6_code, 3, some .int) ∈ lw_tbl := en_sub_4 _ (List.mem_of_getElem? (i := 219) rfl)
theorem en_mi_128 : en_mw (yX8_seed, prog_1_method_23_code, 2, some .boolean) ∈ lw_tbl := en_sub_4 _ (List.mem_of_getElem? (i := 223) rfl)
theorem en_mi_129 : en_mw (yX8_keep, prog_1_method_24_code, 1, some .int) ∈ lw_tbl := en_sub_4 _ (List.mem_of_getElem? (i := 228) rfl)
theorem en_mi_130 : en_mw (yX8_undo, prog_1_method_25_code, 1, some .boolean) ∈ lw_tbl := en_sub_4 _ (List.mem_of_getElem? (i := 232) rfl)
theorem en_mi_131 : en_mw (yX8_check, prog_1_method_26_code, 4, some .int) ∈ lw_tbl := en_sub_4 _ (List.mem_of_getElem? (i := 238) rfl)
theorem en_mi_132 : en_mw (yX8_count, prog_1_method_27_code, 2, some .int) ∈ lw_tbl := en_sub_5 _ (List.mem_of_getElem? (i := 2) rfl)
theorem en_mi_133 : en_mw (yX3_ofKind, prog_5_method_15_code, 4, some .int) ∈ lw_tbl := en_sub_5 _ (List.mem_of_getElem? (i := 6) rfl)
theorem en_mi_134 : en_mw (yX6_bytesNotZero, prog_8_method_7_code, 3, some .int) ∈ lw_tbl := en_sub_5 _ (List.mem_of_getElem? (i := 10) rfl)
theorem en_mi_135 : en_mw (yX9_init, prog_11_method_1_code, 1, none) ∈ lw_tbl := en_sub_5 _ (List.mem_of_getElem? (i := 15) rfl)
theorem en_mi_136 : en_mw (yX9_register, prog_11_method_6_code, 3, some .boolean) ∈ lw_tbl := en_sub_6 _ (List.mem_of_getElem? (i := 69) rfl)
theorem en_mi_137 : en_mw (yX9_in, prog_11_method_2_code, 3, some .boolean) ∈ lw_tbl := en_sub_6 _ (List.mem_of_getElem? (i := 72) rfl)
theorem en_mi_138 : en_mw (yX9_poke, prog_11_method_7_code, 3, some .boolean) ∈ lw_tbl := en_sub_6 _ (List.mem_of_getElem? (i := 76) rfl)
theorem en_mi_139 : en_mw (yX9_feed, prog_11_method_9_code, 6, some .int) ∈ lw_tbl := en_sub_6 _ (List.mem_of_getElem? (i := 80) rfl)
theorem en_ms_in_6 : ∀ r ∈ en_ms_6, en_mw r ∈ lw_tbl := List.forall_mem_cons.mpr ⟨en_mi_120, List.forall_mem_cons.mpr ⟨en_mi_121, List.forall_mem_cons.mpr ⟨en_mi_122, List.forall_mem_cons.mpr ⟨en_mi_123, List.forall_mem_cons.mpr ⟨en_mi_124, List.forall_mem_cons.mpr ⟨en_mi_125, List.forall_mem_cons.mpr ⟨en_mi_126, List.forall_mem_cons.mpr ⟨en_mi_127, List.forall_mem_cons.mpr ⟨en_mi_128, List.forall_mem_cons.mpr ⟨en_mi_129, List.forall_mem_cons.mpr ⟨en_mi_130, List.forall_mem_cons.mpr ⟨en_mi_131, List.forall_mem_cons.mpr ⟨en_mi_132, List.forall_mem_cons.mpr ⟨en_mi_133, List.forall_mem_cons.mpr ⟨en_mi_134, List.forall_mem_cons.mpr ⟨en_mi_135, List.forall_mem_cons.mpr ⟨en_mi_136, List.forall_mem_cons.mpr ⟨en_mi_137, List.forall_mem_cons.mpr ⟨en_mi_138, List.forall_mem_cons.mpr ⟨en_mi_139, fun _ h => absurd h List.not_mem_nil⟩⟩⟩⟩⟩⟩⟩⟩⟩⟩⟩⟩⟩⟩⟩⟩⟩⟩⟩⟩
def en_ms_7 : List (MethodName × ByteArray × Nat × Option FieldType) := [(yX9_types, prog_11_method_8_code, 3, none), (yX9_law, prog_11_method_32_code, 4, some .int), (yX9_beginsText, prog_11_method_31_code, 2, none), (yX9_readsRule, prog_11_method_30_code, 2, some .boolean), (yX9_here, prog_11_method_11_code, 1, some .int), (yX9_wrongAt, prog_11_method_13_code, 3, some .boolean), (yX9_readsSum, prog_11_method_24_code, 3, some .boolean), (yX9_readsFactor, prog_11_method_22_code, 2, some .boolean), (yX9_opens, prog_11_method_17_code, 2, some .boolean), (yX9_isDigit, prog_11_method_12_code, 1, some .boolean), (yX9_readsNumber, prog_11_method_15_code, 2, some .boolean), (yX9_notes, prog_11_method_16_code, 3, none), (yX9_factOf, prog_11_method_19_code, 1, some .int), (yX9_sumSign, prog_11_method_20_code, 1, some .int), (yX9_closesSums, prog_11_method_21_code, 2, none), (yX9_waitTop, prog_11_method_18_code, 1, some .int), (yX9_hasOpenSum, prog_11_method_23_code, 3, some .boolean), (yX9_readsCondition, prog_11_method_29_code, 1, some .boolean), (yX9_readsCompared, prog_11_method_28_code, 2, some .boolean), (yX9_endsPiece, prog_11_method_25_code, 1, none)]
theorem en_mi_140 : en_mw (yX9_types, prog_11_method_8_code, 3, none) ∈ lw_tbl := en_sub_6 _ (List.mem_of_getElem? (i := 84) rfl)
theorem en_mi_141 : en_mw (yX9_law, prog_11_method_32_code, 4, some .int) ∈ lw_tbl := en_sub_6 _ (List.mem_of_getElem? (i := 88) rfl)
theorem en_mi_142 : en_mw (yX9_beginsText, prog_11_method_31_code, 2, none) ∈ lw_tbl := en_sub_6 _ (List.mem_of_getElem? (i := 92) rfl)
theorem en_mi_143 : en_mw (yX9_readsRule, prog_11_method_30_code, 2, some .boolean) ∈ lw_tbl := en_sub_6 _ (List.mem_of_getElem? (i := 96) rfl)
theorem en_mi_144 : en_mw (yX9_here, prog_11_method_11_code, 1, some .int) ∈ lw_tbl := en_sub_6 _ (List.mem_of_getElem? (i := 100) rfl)
theorem en_mi_145 : en_mw (yX9_wrongAt, prog_11_method_13_code, 3, some .boolean) ∈ lw_tbl := en_sub_6 _ (List.mem_of_getElem? (i := 104) rfl)
theorem en_mi_146 : en_mw (yX9_readsSum, prog_11_method_24_code, 3, some .boolean) ∈ lw_tbl := en_sub_6 _ (List.mem_of_getElem? (i := 108) rfl)
theorem en_mi_147 : en_mw (yX9_readsFactor, prog_11_method_22_code, 2, some .boolean) ∈ lw_tbl := en_sub_6 _ (List.mem_of_getElem? (i := 112) rfl)
theorem en_mi_148 : en_mw (yX9_opens, prog_11_method_17_code, 2, some .boolean) ∈ lw_tbl := en_sub_6 _ (List.mem_of_getElem? (i := 116) rfl)
theorem en_mi_149 : en_mw (yX9_isDigit, prog_11_method_12_code, 1, some .boolean) ∈ lw_tbl := en_sub_6 _ (List.mem_of_getElem? (i := 121) rfl)
theorem en_mi_150 : en_mw (yX9_readsNumber, prog_11_method_15_code, 2, some .boolean) ∈ lw_tbl := en_sub_6 _ (List.mem_of_getElem? (i := 125) rfl)
theorem en_mi_151 : en_mw (yX9_notes, prog_11_method_16_code, 3, none) ∈ lw_tbl := en_sub_6 _ (List.mem_of_getElem? (i := 129) rfl)
theorem en_mi_152 : en_mw (yX9_factOf, prog_11_method_19_code, 1, some .int) ∈ lw_tbl := en_sub_6 _ (List.mem_of_getElem? (i := 132) rfl)
theorem en_mi_153 : en_mw (yX9_sumSign, prog_11_method_20_code, 1, some .int) ∈ lw_tbl := en_sub_6 _ (List.mem_of_getElem? (i := 135) rfl)
theorem en_mi_154 : en_mw (yX9_closesSums, prog_11_method_21_code, 2, none) ∈ lw_tbl := en_sub_6 _ (List.mem_of_getElem? (i := 139) rfl)
theorem en_mi_155 : en_mw (yX9_waitTop, prog_11_method_18_code, 1, some .int) ∈ lw_tbl := en_sub_6 _ (List.mem_of_getElem? (i := 143) rfl)
theorem en_mi_156 : en_mw (yX9_hasOpenSum, prog_11_method_23_code, 3, some .boolean) ∈ lw_tbl := en_sub_6 _ (List.mem_of_getElem? (i := 147) rfl)
theorem en_mi_157 : en_mw (yX9_readsCondition, prog_11_method_29_code, 1, some .boolean) ∈ lw_tbl := en_sub_6 _ (List.mem_of_getElem? (i := 151) rfl)
theorem en_mi_158 : en_mw (yX9_readsCompared, prog_11_method_28_code, 2, some .boolean) ∈ lw_tbl := en_sub_6 _ (List.mem_of_getElem? (i := 155) rfl)
theorem en_mi_159 : en_mw (yX9_endsPiece, prog_11_method_25_code, 1, none) ∈ lw_tbl := en_sub_6 _ (List.mem_of_getElem? (i := 159) rfl)
theorem en_ms_in_7 : ∀ r ∈ en_ms_7, en_mw r ∈ lw_tbl := List.forall_mem_cons.mpr ⟨en_mi_140, List.forall_mem_cons.mpr ⟨en_mi_141, List.forall_mem_cons.mpr ⟨en_mi_142, List.forall_mem_cons.mpr ⟨en_mi_143, List.forall_mem_cons.mpr ⟨en_mi_144, List.forall_mem_cons.mpr ⟨en_mi_145, List.forall_mem_cons.mpr ⟨en_mi_146, List.forall_mem_cons.mpr ⟨en_mi_147, List.forall_mem_cons.mpr ⟨en_mi_148, List.forall_mem_cons.mpr ⟨en_mi_149, List.forall_mem_cons.mpr ⟨en_mi_150, List.forall_mem_cons.mpr ⟨en_mi_151, List.forall_mem_cons.mpr ⟨en_mi_152, List.forall_mem_cons.mpr ⟨en_mi_153, List.forall_mem_cons.mpr ⟨en_mi_154, List.forall_mem_cons.mpr ⟨en_mi_155, List.forall_mem_cons.mpr ⟨en_mi_156, List.forall_mem_cons.mpr ⟨en_mi_157, List.forall_mem_cons.mpr ⟨en_mi_158, List.forall_mem_cons.mpr ⟨en_mi_159, fun _ h => absurd h List.not_mem_nil⟩⟩⟩⟩⟩⟩⟩⟩⟩⟩⟩⟩⟩⟩⟩⟩⟩⟩⟩⟩
def en_ms_8 : List (MethodName × ByteArray × Nat × Option FieldType) := [(yX9_lands, prog_11_method_26_code, 3, none), (yX9_jumps, prog_11_method_27_code, 2, none), (yX9_takes, prog_11_method_14_code, 2, some .boolean), (yX9_program, prog_11_method_44_code, 4, some .int), (yX9_readsOp, prog_11_method_43_code, 3, some .boolean), (yX9_kindBy, prog_11_method_40_code, 1, some .int), (yX9_sizeBy, prog_11_method_41_code, 1, some .int), (yX9_readsRegister, prog_11_method_38_code, 1, some .boolean), (yX9_readsPlace, prog_11_method_42_code, 2, some .boolean), (yX9_readsAmount, prog_11_method_39_code, 2, some .boolean), (yX9_source, prog_11_method_48_code, 4, some .int), (yX9_isOp, prog_11_method_5_code, 2, some .boolean), (yX9_doesRead, prog_11_method_46_code, 3, some .boolean), (yX9_giverOf, prog_11_method_47_code, 4, some .int), (yX9_gives, prog_11_method_45_code, 3, some .boolean), (yX9_run, prog_11_method_80_code, 3, some .int), (yX9_canRun, prog_11_method_78_code, 2, some .boolean), (yX9_goesThrough, prog_11_method_75_code, 4, some .boolean), (yX9_cycleGoes, prog_11_method_74_code, 5, none), (yX9_comesDone, prog_11_method_68_code, 3, none)]
theorem en_mi_160 : en_mw (yX9_lands, prog_11_method_26_code, 3, none) ∈ lw_tbl := en_sub_6 _ (List.mem_of_getElem? (i := 163) rfl)
theorem en_mi_161 : en_mw (yX9_jumps, prog_11_method_27_code, 2, none) ∈ lw_tbl := en_sub_6 _ (List.mem_of_getElem? (i := 167) rfl)
theorem en_mi_162 : en_mw (yX9_takes, prog_11_method_14_code, 2, some .boolean) ∈ lw_tbl := en_sub_6 _ (List.mem_of_getElem? (i := 171) rfl)
theorem en_mi_163 : en_mw (yX9_program, prog_11_method_44_code, 4, some .int) ∈ lw_tbl := en_sub_6 _ (List.mem_of_getElem? (i := 175) rfl)
theorem en_mi_164 : en_mw (yX9_readsOp, prog_11_method_43_code, 3, some .boolean) ∈ lw_tbl := en_sub_6 _ (List.mem_of_getElem? (i := 179) rfl)
theorem en_mi_165 : en_mw (yX9_kindBy, prog_11_method_40_code, 1, some .int) ∈ lw_tbl := en_sub_6 _ (List.mem_of_getElem? (i := 182) rfl)
theorem en_mi_166 : en_mw (yX9_sizeBy, prog_11_method_41_code, 1, some .int) ∈ lw_tbl := en_sub_6 _ (List.mem_of_getElem? (i := 185) rfl)
theorem en_mi_167 : en_mw (yX9_readsRegister, prog_11_method_38_code, 1, some .boolean) ∈ lw_tbl := en_sub_6 _ (List.mem_of_getElem? (i := 189) rfl)
theorem en_mi_168 : en_mw (yX9_readsPlace, prog_11_method_42_code, 2, some .boolean) ∈ lw_tbl := en_sub_6 _ (List.mem_of_getElem? (i := 193) rfl)
theorem en_mi_169 : en_mw (yX9_readsAmount, prog_11_method_39_code, 2, some .boolean) ∈ lw_tbl := en_sub_6 _ (List.mem_of_getElem? (i := 197) rfl)
theorem en_mi_170 : en_mw (yX9_source, prog_11_method_48_code, 4, some .int) ∈ lw_tbl := en_sub_6 _ (List.mem_of_getElem? (i := 201) rfl)
theorem en_mi_171 : en_mw (yX9_isOp, prog_11_method_5_code, 2, some .boolean) ∈ lw_tbl := en_sub_6 _ (List.mem_of_getElem? (i := 205) rfl)
theorem en_mi_172 : en_mw (yX9_doesRead, prog_11_method_46_code, 3, some .boolean) ∈ lw_tbl := en_sub_6 _ (List.mem_of_getElem? (i := 209) rfl)
theorem en_mi_173 : en_mw (yX9_giverOf, prog_11_method_47_code, 4, some .int) ∈ lw_tbl := en_sub_6 _ (List.mem_of_getElem? (i := 213) rfl)
theorem en_mi_174 : en_mw (yX9_gives, prog_11_method_45_code, 3, some .boolean) ∈ lw_tbl := en_sub_6 _ (List.mem_of_getElem? (i := 217) rfl)
theorem en_mi_175 : en_mw (yX9_run, prog_11_method_80_code, 3, some .int) ∈ lw_tbl := en_sub_6 _ (List.mem_of_getElem? (i := 221) rfl)
theorem en_mi_176 : en_mw (yX9_canRun, prog_11_method_78_code, 2, some .boolean) ∈ lw_tbl := en_sub_6 _ (List.mem_of_getElem? (i := 225) rfl)
theorem en_mi_177 : en_mw (yX9_goesThrough, prog_11_method_75_code, 4, some .boolean) ∈ lw_tbl := en_sub_6 _ (List.mem_of_getElem? (i := 229) rfl)
theorem en_mi_178 : en_mw (yX9_cycleGoes, prog_11_method_74_code, 5, none) ∈ lw_tbl := en_sub_6 _ (List.mem_of_getElem? (i := 233) rfl)
theorem en_mi_179 : en_mw (yX9_comesDone, prog_11_method_68_code, 3, none) ∈ lw_tbl := en_sub_6 _ (List.mem_of_getElem? (i := 237) rfl)
theorem en_ms_in_8 : ∀ r ∈ en_ms_8, en_mw r ∈ lw_tbl := List.forall_mem_cons.mpr ⟨en_mi_160, List.forall_mem_cons.mpr ⟨en_mi_161, List.forall_mem_cons.mpr ⟨en_mi_162, List.forall_mem_cons.mpr ⟨en_mi_163, List.forall_mem_cons.mpr ⟨en_mi_164, List.forall_mem_cons.mpr ⟨en_mi_165, List.forall_mem_cons.mpr ⟨en_mi_166, List.forall_mem_cons.mpr ⟨en_mi_167, List.forall_mem_cons.mpr ⟨en_mi_168, List.forall_mem_cons.mpr ⟨en_mi_169, List.forall_mem_cons.mpr ⟨en_mi_170, List.forall_mem_cons.mpr ⟨en_mi_171, List.forall_mem_cons.mpr ⟨en_mi_172, List.forall_mem_cons.mpr ⟨en_mi_173, List.forall_mem_cons.mpr ⟨en_mi_174, List.forall_mem_cons.mpr ⟨en_mi_175, List.forall_mem_cons.mpr ⟨en_mi_176, List.forall_mem_cons.mpr ⟨en_mi_177, List.forall_mem_cons.mpr ⟨en_mi_178, List.forall_mem_cons.mpr ⟨en_mi_179, fun _ h => absurd h List.not_mem_nil⟩⟩⟩⟩⟩⟩⟩⟩⟩⟩⟩⟩⟩⟩⟩⟩⟩⟩⟩⟩
def en_ms_9 : List (MethodName × ByteArray × Nat × Option FieldType) := [(yX9_readBy, prog_11_method_52_code, 4, some .int), (yX9_reckoned, prog_11_method_50_code, 3, some .int), (yX9_placeBy, prog_11_method_53_code, 3, some .int), (yX9_loads, prog_11_method_67_code, 6, none), (yX9_covers, prog_11_method_54_code, 3, some .boolean), (yX9_byteOf, prog_11_method_55_code, 2, some .int), (yX9_cut, prog_11_method_51_code, 2, some .int), (yX9_looksBack, prog_11_method_66_code, 4, none), (yX9_tookOld, prog_11_method_65_code, 4, some .boolean), (yX9_melts, prog_11_method_59_code, 6, none), (yX9_min, prog_11_method_4_code, 2, some .int), (yX9_replaysAll, prog_11_method_63_code, 4, none), (yX9_lists, prog_11_method_60_code, 2, none), (yX9_listsThoseBy, prog_11_method_62_code, 4, none), (yX9_tookFrom, prog_11_method_61_code, 4, some .boolean), (yX9_hasSource, prog_11_method_49_code, 4, some .boolean), (yX9_undoesTo, prog_11_method_64_code, 4, none), (yX9_areSourcesDone, prog_11_method_56_code, 4, some .boolean), (yX9_isKeptBack, prog_11_method_58_code, 3, some .boolean), (yX9_areStoresDone, prog_11_method_57_code, 3, some .boolean)]
theorem en_mi_180 : en_mw (yX9_readBy, prog_11_method_52_code, 4, some .int) ∈ lw_tbl := en_sub_7 _ (List.mem_of_getElem? (i := 1) rfl)
theorem en_mi_181 : en_mw (yX9_reckoned, prog_11_method_50_code, 3, some .int) ∈ lw_tbl := en_sub_7 _ (List.mem_of_getElem? (i := 4) rfl)
theorem en_mi_182 : en_mw (yX9_placeBy, prog_11_method_53_code, 3, some .int) ∈ lw_tbl := en_sub_7 _ (List.mem_of_getElem? (i := 8) rfl)
theorem en_mi_183 : en_mw (yX9_loads, prog_11_method_67_code, 6, none) ∈ lw_tbl := en_sub_7 _ (List.mem_of_getElem? (i := 12) rfl)
theorem en_mi_184 : en_mw (yX9_covers, prog_11_method_54_code, 3, some .boolean) ∈ lw_tbl := en_sub_7 _ (List.mem_of_getElem? (i := 16) rfl)
theorem en_mi_185 : en_mw (yX9_byteOf, prog_11_method_55_code, 2, some .int) ∈ lw_tbl := en_sub_7 _ (List.mem_of_getElem? (i := 19) rfl)
theorem en_mi_186 : en_mw (yX9_cut, prog_11_method_51_code, 2, some .int) ∈ lw_tbl := en_sub_7 _ (List.mem_of_getElem? (i := 22) rfl)
theorem en_mi_187 : en_mw (yX9_looksBack, prog_11_method_66_code, 4, none) ∈ lw_tbl := en_sub_7 _ (List.mem_of_getElem? (i := 27) rfl)
theorem en_mi_188 : en_mw (yX9_tookOld, prog_11_method_65_code, 4, some .boolean) ∈ lw_tbl := en_sub_7 _ (List.mem_of_getElem? (i := 31) rfl)
theorem en_mi_189 : en_mw (yX9_melts, prog_11_method_59_code, 6, none) ∈ lw_tbl := en_sub_7 _ (List.mem_of_getElem? (i := 35) rfl)
theorem en_mi_190 : en_mw (yX9_min, prog_11_method_4_code, 2, some .int) ∈ lw_tbl := en_sub_7 _ (List.mem_of_getElem? (i := 38) rfl)
theorem en_mi_191 : en_mw (yX9_replaysAll, prog_11_method_63_code, 4, none) ∈ lw_tbl := en_sub_7 _ (List.mem_of_getElem? (i := 42) rfl)
theorem en_mi_192 : en_mw (yX9_lists, prog_11_method_60_code, 2, none) ∈ lw_tbl := en_sub_7 _ (List.mem_of_getElem? (i := 46) rfl)
theorem en_mi_193 : en_mw (yX9_listsThoseBy, prog_11_method_62_code, 4, none) ∈ lw_tbl := en_sub_7 _ (List.mem_of_getElem? (i := 50) rfl)
theorem en_mi_194 : en_mw (yX9_tookFrom, prog_11_method_61_code, 4, some .boolean) ∈ lw_tbl := en_sub_7 _ (List.mem_of_getElem? (i := 54) rfl)
theorem en_mi_195 : en_mw (yX9_hasSource, prog_11_method_49_code, 4, some .boolean) ∈ lw_tbl := en_sub_7 _ (List.mem_of_getElem? (i := 58) rfl)
theorem en_mi_196 : en_mw (yX9_undoesTo, prog_11_method_64_code, 4, none) ∈ lw_tbl := en_sub_7 _ (List.mem_of_getElem? (i := 62) rfl)
theorem en_mi_197 : en_mw (yX9_areSourcesDone, prog_11_method_56_code, 4, some .boolean) ∈ lw_tbl := en_sub_7 _ (List.mem_of_getElem? (i := 66) rfl)
theorem en_mi_198 : en_mw (yX9_isKeptBack, prog_11_method_58_code, 3, some .boolean) ∈ lw_tbl := en_sub_7 _ (List.mem_of_getElem? (i := 70) rfl)
theorem en_mi_199 : en_mw (yX9_areStoresDone, prog_11_method_57_code, 3, some .boolean) ∈ lw_tbl := en_sub_7 _ (List.mem_of_getElem? (i := 74) rfl)
theorem en_ms_in_9 : ∀ r ∈ en_ms_9, en_mw r ∈ lw_tbl := List.forall_mem_cons.mpr ⟨en_mi_180, List.forall_mem_cons.mpr ⟨en_mi_181, List.forall_mem_cons.mpr ⟨en_mi_182, List.forall_mem_cons.mpr ⟨en_mi_183, List.forall_mem_cons.mpr ⟨en_mi_184, List.forall_mem_cons.mpr ⟨en_mi_185, List.forall_mem_cons.mpr ⟨en_mi_186, List.forall_mem_cons.mpr ⟨en_mi_187, List.forall_mem_cons.mpr ⟨en_mi_188, List.forall_mem_cons.mpr ⟨en_mi_189, List.forall_mem_cons.mpr ⟨en_mi_190, List.forall_mem_cons.mpr ⟨en_mi_191, List.forall_mem_cons.mpr ⟨en_mi_192, List.forall_mem_cons.mpr ⟨en_mi_193, List.forall_mem_cons.mpr ⟨en_mi_194, List.forall_mem_cons.mpr ⟨en_mi_195, List.forall_mem_cons.mpr ⟨en_mi_196, List.forall_mem_cons.mpr ⟨en_mi_197, List.forall_mem_cons.mpr ⟨en_mi_198, List.forall_mem_cons.mpr ⟨en_mi_199, fun _ h => absurd h List.not_mem_nil⟩⟩⟩⟩⟩⟩⟩⟩⟩⟩⟩⟩⟩⟩⟩⟩⟩⟩⟩⟩
def en_ms_10 : List (MethodName × ByteArray × Nat × Option FieldType) := [(yX9_goesOff, prog_11_method_69_code, 3, none), (yX9_feels, prog_11_method_37_code, 4, none), (yX9_delayOf, prog_11_method_35_code, 4, some .int), (yX9_reckonsTo, prog_11_method_34_code, 8, some .int), (yX9_reckon, prog_11_method_33_code, 3, some .int), (yX9_retires, prog_11_method_72_code, 6, none), (yX9_oldestToRetire, prog_11_method_71_code, 2, some .int), (yX9_areAllDone, prog_11_method_70_code, 3, some .boolean), (yX9_isHeldBack, prog_11_method_36_code, 2, some .boolean), (yX9_isOver, prog_11_method_73_code, 2, some .boolean), (yX9_putsSetsBack, prog_11_method_76_code, 2, none), (yX9_toldOf, prog_11_method_79_code, 2, some .int), (yX9_tried, prog_11_method_81_code, 5, some .int), (yX9_isTried, prog_11_method_77_code, 5, some .boolean), (yX9_cautious, prog_11_method_82_code, 3, some .int), (yX9_fastest, prog_11_method_83_code, 5, some .int), (yX9_lastRun, prog_11_method_84_code, 2, some .int), (yX9_now, prog_11_method_87_code, 2, some .int), (yX9_plain, prog_11_method_88_code, 2, some .int), (yX9_goesPlain, prog_11_method_85_code, 2, none)]
theorem en_mi_200 : en_mw (yX9_goesOff, prog_11_method_69_code, 3, none) ∈ lw_tbl := en_sub_7 _ (List.mem_of_getElem? (i := 78) rfl)
theorem en_mi_201 : en_mw (yX9_feels, prog_11_method_37_code, 4, none) ∈ lw_tbl := en_sub_7 _ (List.mem_of_getElem? (i := 83) rfl)
theorem en_mi_202 : en_mw (yX9_delayOf, prog_11_method_35_code, 4, some .int) ∈ lw_tbl := en_sub_7 _ (List.mem_of_getElem? (i := 87) rfl)
theorem en_mi_203 : en_mw (yX9_reckonsTo, prog_11_method_34_code, 8, some .int) ∈ lw_tbl := en_sub_7 _ (List.mem_of_getElem? (i := 91) rfl)
theorem en_mi_204 : en_mw (yX9_reckon, prog_11_method_33_code, 3, some .int) ∈ lw_tbl := en_sub_7 _ (List.mem_of_getElem? (i := 94) rfl)
theorem en_mi_205 : en_mw (yX9_retires, prog_11_method_72_code, 6, none) ∈ lw_tbl := en_sub_7 _ (List.mem_of_getElem? (i := 98) rfl)
theorem en_mi_206 : en_mw (yX9_oldestToRetire, prog_11_method_71_code, 2, some .int) ∈ lw_tbl := en_sub_7 _ (List.mem_of_getElem? (i := 102) rfl)
theorem en_mi_207 : en_mw (yX9_areAllDone, prog_11_method_70_code, 3, some .boolean) ∈ lw_tbl := en_sub_7 _ (List.mem_of_getElem? (i := 106) rfl)
theorem en_mi_208 : en_mw (yX9_isHeldBack, prog_11_method_36_code, 2, some .boolean) ∈ lw_tbl := en_sub_7 _ (List.mem_of_getElem? (i := 110) rfl)
theorem en_mi_209 : en_mw (yX9_isOver, prog_11_method_73_code, 2, some .boolean) ∈ lw_tbl := en_sub_7 _ (List.mem_of_getElem? (i := 114) rfl)
theorem en_mi_210 : en_mw (yX9_putsSetsBack, prog_11_method_76_code, 2, none) ∈ lw_tbl := en_sub_7 _ (List.mem_of_getElem? (i := 118) rfl)
theorem en_mi_211 : en_mw (yX9_toldOf, prog_11_method_79_code, 2, some .int) ∈ lw_tbl := en_sub_7 _ (List.mem_of_getElem? (i := 122) rfl)
theorem en_mi_212 : en_mw (yX9_tried, prog_11_method_81_code, 5, some .int) ∈ lw_tbl := en_sub_7 _ (List.mem_of_getElem? (i := 126) rfl)
theorem en_mi_213 : en_mw (yX9_isTried, prog_11_method_77_code, 5, some .boolean) ∈ lw_tbl := en_sub_7 _ (List.mem_of_getElem? (i := 130) rfl)
theorem en_mi_214 : en_mw (yX9_cautious, prog_11_method_82_code, 3, some .int) ∈ lw_tbl := en_sub_7 _ (List.mem_of_getElem? (i := 134) rfl)
theorem en_mi_215 : en_mw (yX9_fastest, prog_11_method_83_code, 5, some .int) ∈ lw_tbl := en_sub_7 _ (List.mem_of_getElem? (i := 138) rfl)
theorem en_mi_216 : en_mw (yX9_lastRun, prog_11_method_84_code, 2, some .int) ∈ lw_tbl := en_sub_7 _ (List.mem_of_getElem? (i := 142) rfl)
theorem en_mi_217 : en_mw (yX9_now, prog_11_method_87_code, 2, some .int) ∈ lw_tbl := en_sub_7 _ (List.mem_of_getElem? (i := 146) rfl)
theorem en_mi_218 : en_mw (yX9_plain, prog_11_method_88_code, 2, some .int) ∈ lw_tbl := en_sub_7 _ (List.mem_of_getElem? (i := 151) rfl)
theorem en_mi_219 : en_mw (yX9_goesPlain, prog_11_method_85_code, 2, none) ∈ lw_tbl := en_sub_7 _ (List.mem_of_getElem? (i := 155) rfl)
theorem en_ms_in_10 : ∀ r ∈ en_ms_10, en_mw r ∈ lw_tbl := List.forall_mem_cons.mpr ⟨en_mi_200, List.forall_mem_cons.mpr ⟨en_mi_201, List.forall_mem_cons.mpr ⟨en_mi_202, List.forall_mem_cons.mpr ⟨en_mi_203, List.forall_mem_cons.mpr ⟨en_mi_204, List.forall_mem_cons.mpr ⟨en_mi_205, List.forall_mem_cons.mpr ⟨en_mi_206, List.forall_mem_cons.mpr ⟨en_mi_207, List.forall_mem_cons.mpr ⟨en_mi_208, List.forall_mem_cons.mpr ⟨en_mi_209, List.forall_mem_cons.mpr ⟨en_mi_210, List.forall_mem_cons.mpr ⟨en_mi_211, List.forall_mem_cons.mpr ⟨en_mi_212, List.forall_mem_cons.mpr ⟨en_mi_213, List.forall_mem_cons.mpr ⟨en_mi_214, List.forall_mem_cons.mpr ⟨en_mi_215, List.forall_mem_cons.mpr ⟨en_mi_216, List.forall_mem_cons.mpr ⟨en_mi_217, List.forall_mem_cons.mpr ⟨en_mi_218, List.forall_mem_cons.mpr ⟨en_mi_219, fun _ h => absurd h List.not_mem_nil⟩⟩⟩⟩⟩⟩⟩⟩⟩⟩⟩⟩⟩⟩⟩⟩⟩⟩⟩⟩
def en_ms_11 : List (MethodName × ByteArray × Nat × Option FieldType) := [(yX9_doesPlain, prog_11_method_86_code, 6, none), (yX9_unlike, prog_11_method_89_code, 4, some .int), (yX9_mix, prog_11_method_91_code, 4, some .int), (yX9_haveByte, prog_11_method_90_code, 4, some .boolean), (yX9_deep, prog_11_method_92_code, 4, some .int), (yX9_max, prog_11_method_3_code, 2, some .int), (yX9_opIs, prog_11_method_94_code, 4, some .int), (yX9_toldOfOp, prog_11_method_93_code, 3, some .int), (yX9_worst, prog_11_method_96_code, 2, some .int), (yX9_worstOp, prog_11_method_95_code, 3, some .int), (yX9_watch, prog_11_method_97_code, 4, some .int), (yX9_watched, prog_11_method_98_code, 5, some .int), (yX9_forget, prog_11_method_100_code, 3, some .int), (yX9_withSet, prog_11_method_99_code, 3, some .int), (yX9_seed, prog_11_method_101_code, 2, some .boolean), (yX9_keep, prog_11_method_102_code, 2, some .int), (yX9_undo, prog_11_method_103_code, 2, some .boolean), (yX9_check, prog_11_method_104_code, 3, some .int), (yX9_octet, prog_11_method_10_code, 2, some .int), (yX9_count, prog_11_method_107_code, 2, some .int)]
theorem en_mi_220 : en_mw (yX9_doesPlain, prog_11_method_86_code, 6, none) ∈ lw_tbl := en_sub_7 _ (List.mem_of_getElem? (i := 159) rfl)
theorem en_mi_221 : en_mw (yX9_unlike, prog_11_method_89_code, 4, some .int) ∈ lw_tbl := en_sub_7 _ (List.mem_of_getElem? (i := 163) rfl)
theorem en_mi_222 : en_mw (yX9_mix, prog_11_method_91_code, 4, some .int) ∈ lw_tbl := en_sub_7 _ (List.mem_of_getElem? (i := 167) rfl)
theorem en_mi_223 : en_mw (yX9_haveByte, prog_11_method_90_code, 4, some .boolean) ∈ lw_tbl := en_sub_7 _ (List.mem_of_getElem? (i := 171) rfl)
theorem en_mi_224 : en_mw (yX9_deep, prog_11_method_92_code, 4, some .int) ∈ lw_tbl := en_sub_7 _ (List.mem_of_getElem? (i := 175) rfl)
theorem en_mi_225 : en_mw (yX9_max, prog_11_method_3_code, 2, some .int) ∈ lw_tbl := en_sub_7 _ (List.mem_of_getElem? (i := 178) rfl)
theorem en_mi_226 : en_mw (yX9_opIs, prog_11_method_94_code, 4, some .int) ∈ lw_tbl := en_sub_7 _ (List.mem_of_getElem? (i := 182) rfl)
theorem en_mi_227 : en_mw (yX9_toldOfOp, prog_11_method_93_code, 3, some .int) ∈ lw_tbl := en_sub_7 _ (List.mem_of_getElem? (i := 186) rfl)
theorem en_mi_228 : en_mw (yX9_worst, prog_11_method_96_code, 2, some .int) ∈ lw_tbl := en_sub_7 _ (List.mem_of_getElem? (i := 190) rfl)
theorem en_mi_229 : en_mw (yX9_worstOp, prog_11_method_95_code, 3, some .int) ∈ lw_tbl := en_sub_7 _ (List.mem_of_getElem? (i := 194) rfl)
theorem en_mi_230 : en_mw (yX9_watch, prog_11_method_97_code, 4, some .int) ∈ lw_tbl := en_sub_7 _ (List.mem_of_getElem? (i := 198) rfl)
theorem en_mi_231 : en_mw (yX9_watched, prog_11_method_98_code, 5, some .int) ∈ lw_tbl := en_sub_7 _ (List.mem_of_getElem? (i := 202) rfl)
theorem en_mi_232 : en_mw (yX9_forget, prog_11_method_100_code, 3, some .int) ∈ lw_tbl := en_sub_7 _ (List.mem_of_getElem? (i := 206) rfl)
theorem en_mi_233 : en_mw (yX9_withSet, prog_11_method_99_code, 3, some .int) ∈ lw_tbl := en_sub_7 _ (List.mem_of_getElem? (i := 210) rfl)
theorem en_mi_234 : en_mw (yX9_seed, prog_11_method_101_code, 2, some .boolean) ∈ lw_tbl := en_sub_7 _ (List.mem_of_getElem? (i := 214) rfl)
theorem en_mi_235 : en_mw (yX9_keep, prog_11_method_102_code, 2, some .int) ∈ lw_tbl := en_sub_7 _ (List.mem_of_getElem? (i := 218) rfl)
theorem en_mi_236 : en_mw (yX9_undo, prog_11_method_103_code, 2, some .boolean) ∈ lw_tbl := en_sub_7 _ (List.mem_of_getElem? (i := 222) rfl)
theorem en_mi_237 : en_mw (yX9_check, prog_11_method_104_code, 3, some .int) ∈ lw_tbl := en_sub_7 _ (List.mem_of_getElem? (i := 226) rfl)
theorem en_mi_238 : en_mw (yX9_octet, prog_11_method_10_code, 2, some .int) ∈ lw_tbl := en_sub_7 _ (List.mem_of_getElem? (i := 230) rfl)
theorem en_mi_239 : en_mw (yX9_count, prog_11_method_107_code, 2, some .int) ∈ lw_tbl := en_sub_7 _ (List.mem_of_getElem? (i := 234) rfl)
theorem en_ms_in_11 : ∀ r ∈ en_ms_11, en_mw r ∈ lw_tbl := List.forall_mem_cons.mpr ⟨en_mi_220, List.forall_mem_cons.mpr ⟨en_mi_221, List.forall_mem_cons.mpr ⟨en_mi_222, List.forall_mem_cons.mpr ⟨en_mi_223, List.forall_mem_cons.mpr ⟨en_mi_224, List.forall_mem_cons.mpr ⟨en_mi_225, List.forall_mem_cons.mpr ⟨en_mi_226, List.forall_mem_cons.mpr ⟨en_mi_227, List.forall_mem_cons.mpr ⟨en_mi_228, List.forall_mem_cons.mpr ⟨en_mi_229, List.forall_mem_cons.mpr ⟨en_mi_230, List.forall_mem_cons.mpr ⟨en_mi_231, List.forall_mem_cons.mpr ⟨en_mi_232, List.forall_mem_cons.mpr ⟨en_mi_233, List.forall_mem_cons.mpr ⟨en_mi_234, List.forall_mem_cons.mpr ⟨en_mi_235, List.forall_mem_cons.mpr ⟨en_mi_236, List.forall_mem_cons.mpr ⟨en_mi_237, List.forall_mem_cons.mpr ⟨en_mi_238, List.forall_mem_cons.mpr ⟨en_mi_239, fun _ h => absurd h List.not_mem_nil⟩⟩⟩⟩⟩⟩⟩⟩⟩⟩⟩⟩⟩⟩⟩⟩⟩⟩⟩⟩
def en_ms_12 : List (MethodName × ByteArray × Nat × Option FieldType) := [(yX9_ofKind, prog_11_method_105_code, 4, some .int), (yX9_bytesThere, prog_11_method_106_code, 3, some .int)]
theorem en_mi_240 : en_mw (yX9_ofKind, prog_11_method_105_code, 4, some .int) ∈ lw_tbl := en_sub_7 _ (List.mem_of_getElem? (i := 238) rfl)
theorem en_mi_241 : en_mw (yX9_bytesThere, prog_11_method_106_code, 3, some .int) ∈ lw_tbl := en_sub_8 _ (List.mem_of_getElem? (i := 2) rfl)
theorem en_ms_in_12 : ∀ r ∈ en_ms_12, en_mw r ∈ lw_tbl := List.forall_mem_cons.mpr ⟨en_mi_240, List.forall_mem_cons.mpr ⟨en_mi_241, fun _ h => absurd h List.not_mem_nil⟩⟩
def en_ms : List (MethodName × ByteArray × Nat × Option FieldType) := en_ms_0 ++ (en_ms_1 ++ (en_ms_2 ++ (en_ms_3 ++ (en_ms_4 ++ (en_ms_5 ++ (en_ms_6 ++ (en_ms_7 ++ (en_ms_8 ++ (en_ms_9 ++ (en_ms_10 ++ (en_ms_11 ++ (en_ms_12))))))))))))
theorem en_ms_in : ∀ r ∈ en_ms, Cond.code r.1 r.2.1 r.2.2.1 r.2.2.2 ∈ lw_tbl := by
  intro q hq
  unfold en_ms at hq
  rcases List.mem_append.mp hq with hq | hq
  · exact en_ms_in_0 q hq
  rcases List.mem_append.mp hq with hq | hq
  · exact en_ms_in_1 q hq
  rcases List.mem_append.mp hq with hq | hq
  · exact en_ms_in_2 q hq
  rcases List.mem_append.mp hq with hq | hq
  · exact en_ms_in_3 q hq
  rcases List.mem_append.mp hq with hq | hq
  · exact en_ms_in_4 q hq
  rcases List.mem_append.mp hq with hq | hq
  · exact en_ms_in_5 q hq
  rcases List.mem_append.mp hq with hq | hq
  · exact en_ms_in_6 q hq
  rcases List.mem_append.mp hq with hq | hq
  · exact en_ms_in_7 q hq
  rcases List.mem_append.mp hq with hq | hq
  · exact en_ms_in_8 q hq
  rcases List.mem_append.mp hq with hq | hq
  · exact en_ms_in_9 q hq
  rcases List.mem_append.mp hq with hq | hq
  · exact en_ms_in_10 q hq
  rcases List.mem_append.mp hq with hq | hq
  · exact en_ms_in_11 q hq
  exact en_ms_in_12 q hq
def en_fl : List (Nat × Nat × Nat × Nat) := [(7, 9, 7, 0), (8, 257, 7, 0), (7, 15, 7, 1), (8, 85, 7, 1), (7, 25, 7, 2), (7, 28, 7, 3), (7, 31, 7, 4), (3, 9, 3, 0), (2, 46, 3, 0), (1, 124, 3, 0), (8, 175, 3, 0), (3, 15, 3, 1), (3, 18, 3, 2), (2, 49, 3, 2), (1, 157, 3, 2), (8, 267, 3, 2), (3, 21, 3, 3), (2, 56, 3, 3), (1, 240, 3, 3), (3, 24, 3, 4), (2, 32, 3, 4), (1, 111, 3, 4), (8, 200, 3, 4), (3, 27, 3, 5), (2, 39, 3, 5), (1, 121, 3, 5), (8, 206, 3, 5), (3, 30, 3, 6), (3, 33, 3, 7), (1, 108, 3, 7), (8, 203, 3, 7), (3, 36, 3, 8), (1, 118, 3, 8), (8, 209, 3, 8), (3, 39, 3, 9), (3, 42, 3, 10), (2, 26, 3, 11), (3, 51, 3, 11), (1, 102, 3, 11), (8, 222, 3, 11), (3, 55, 3, 12), (8, 223, 3, 12), (0, 9, 0, 0), (0, 15, 0, 1), (0, 18, 0, 2), (0, 21, 0, 3), (0, 24, 0, 4), (0, 35, 0, 5), (0, 38, 0, 6), (0, 47, 0, 7), (8, 263, 0, 7), (0, 50, 0, 8), (6, 9, 6, 0), (8, 78, 6, 0), (2, 63, 6, 0), (1, 154, 6, 0), (6, 15, 6, 1), (8, 82, 6, 1), (2, 73, 6, 1), (1, 163, 6, 1), (6, 18, 6, 2), (8, 178, 6, 2), (1, 217, 6, 2), (6, 27, 6, 3), (8, 120, 6, 3), (6, 31, 6, 4), (8, 141, 6, 4), (1, 220, 6, 4), (6, 34, 6, 5), (8, 135, 6, 5), (4, 9, 4, 0), (1, 83, 4, 0), (8, 165, 4, 0), (4, 15, 4, 1), (1, 105, 4, 1), (8, 185, 4, 1), (4, 18, 4, 2), (8, 188, 4, 2), (1, 193, 4, 2), (4, 21, 4, 3), (1, 137, 4, 3), (8, 191, 4, 3), (4, 24, 4, 4), (1, 127, 4, 4), (8, 197, 4, 4), (4, 27, 4, 5), (1, 169, 4, 5), (8, 270, 4, 5), (1, 12, 1, 0), (8, 111, 1, 0), (1, 21, 1, 1), (8, 100, 1, 1), (1, 28, 1, 2), (8, 75, 1, 2), (1, 32, 1, 3), (8, 132, 1, 3), (1, 38, 1, 4), (8, 150, 1, 4), (1, 42, 1, 5), (1, 46, 1, 6), (1, 49, 1, 7), (1, 53, 1, 8), (1, 56, 1, 9), (1, 59, 1, 10), (1, 65, 1, 11), (2, 12, 2, 0), (8, 215, 2, 0), (2, 18, 2, 1), (5, 11, 5, 0), (8, 239, 5, 0), (5, 16, 5, 1), (8, 230, 5, 1), (8, 233, 5, 2), (8, 10, 8, 0), (8, 19, 8, 1), (8, 26, 8, 2), (8, 33, 8, 3), (8, 40, 8, 4), (8, 47, 8, 5), (8, 54, 8, 6), (8, 61, 8, 7), (8, 65, 8, 8), (8, 69, 8, 9), (8, 72, 8, 10), (9, 204, 9, 0), (9, 328, 9, 1), (9, 208, 9, 2), (9, 352, 9, 3), (9, 529, 9, 4), (9, 359, 9, 5), (9, 7, 9, 6), (9, 13, 9, 7), (9, 16, 9, 8), (9, 19, 9, 9), (9, 22, 9, 10), (9, 25, 9, 11), (9, 28, 9, 12), (9, 31, 9, 13), (9, 34, 9, 14), (9, 37, 9, 15), (9, 40, 9, 16), (9, 43, 9, 17), (9, 215, 9, 18), (9, 222, 9, 19), (9, 225, 9, 20), (9, 232, 9, 21), (9, 239, 9, 22), (9, 250, 9, 23), (9, 246, 9, 24), (9, 253, 9, 25), (9, 302, 9, 26), (9, 317, 9, 27), (9, 47, 9, 28), (9, 50, 9, 29), (9, 53, 9, 30), (9, 56, 9, 31), (9, 59, 9, 32), (9, 62, 9, 33), (9, 65, 9, 34), (9, 68, 9, 35), (9, 71, 9, 36), (9, 74, 9, 37), (9, 77, 9, 38), (9, 80, 9, 39), (9, 83, 9, 40), (9, 340, 9, 41), (9, 86, 9, 42), (9, 89, 9, 43), (9, 92, 9, 44), (9, 95, 9, 45), (9, 98, 9, 46), (9, 101, 9, 47), (9, 104, 9, 48), (9, 107, 9, 49), (9, 110, 9, 50), (9, 113, 9, 51), (9, 116, 9, 52), (9, 119, 9, 53), (9, 122, 9, 54), (9, 125, 9, 55), (9, 128, 9, 56), (9, 131, 9, 57), (9, 134, 9, 58), (9, 138, 9, 59), (9, 141, 9, 60), (9, 144, 9, 61), (9, 147, 9, 62), (9, 482, 9, 63), (9, 417, 9, 64), (9, 402, 9, 65), (9, 461, 9, 66), (9, 408, 9, 67), (9, 473, 9, 68), (9, 485, 9, 69), (9, 378, 9, 70), (9, 150, 9, 71), (9, 387, 9, 72), (9, 153, 9, 73), (9, 156, 9, 74), (9, 355, 9, 75), (9, 159, 9, 76), (9, 162, 9, 77), (9, 165, 9, 78), (9, 168, 9, 79), (9, 171, 9, 80), (9, 174, 9, 81), (9, 177, 9, 82), (9, 180, 9, 83), (9, 183, 9, 84), (9, 186, 9, 85), (9, 189, 9, 86), (9, 192, 9, 87), (9, 535, 9, 88), (9, 538, 9, 89), (9, 541, 9, 90), (9, 544, 9, 91), (9, 547, 9, 92), (9, 195, 9, 93), (9, 198, 9, 94), (9, 201, 9, 95)]
def en_nw : List (Nat × Nat × Nat) := [(13, 7, 8), (8, 7, 7), (8, 16, 1), (1, 9, 3), (1, 18, 0), (1, 25, 6), (1, 35, 4), (8, 23, 3), (8, 30, 0), (8, 37, 2), (2, 9, 6), (8, 44, 4), (8, 51, 6), (8, 58, 5), (13, 10, 9)]
def en_kc : List (Nat × Nat × Int) := [(6, 50, 65535), (8, 171, -100000), (8, 250, 65536), (9, 249, 1048576), (9, 374, 65535), (9, 444, 65536), (9, 513, -100000)]
def en_fw (q : Nat × Nat × Nat × Nat) : Cond := match vwCl[q.2.2.1]? with
  | some r => .fieldLink (en_nm q.1) q.2.1 (r.2.1 q.2.2.2).1 (r.2.1 q.2.2.2).2.1 (r.2.1 q.2.2.2).2.2.1
  | none => .fieldLink "" 0 "" "" ""
theorem en_fl_in : ∀ w ∈ en_fl.map en_fw, w ∈ lw_tbl := fun w h => (goodIn_r (big := lw_tbl) (en_fl.map en_fw) [148, 149, 150, 151, 152, 153, 154, 179, 180, 181, 182, 183, 184, 185, 186, 187, 188, 189, 190, 191, 192, 193, 194, 195, 196, 197, 198, 199, 200, 201, 202, 203, 204, 205, 206, 207, 208, 209, 210, 211, 212, 213, 258, 259, 260, 261, 262, 263, 264, 265, 266, 267, 297, 298, 299, 300, 301, 302, 303, 304, 305, 306, 307, 308, 309, 310, 311, 312, 313, 314, 334, 335, 336, 337, 338, 339, 340, 341, 342, 343, 344, 345, 346, 347, 348, 349, 350, 351, 365, 366, 367, 368, 369, 370, 371, 372, 373, 374, 375, 376, 377, 378, 379, 380, 381, 420, 421, 422, 440, 441, 442, 443, 444, 452, 453, 454, 455, 456, 457, 458, 459, 460, 461, 462, 1092, 1093, 1094, 1095, 1096, 1097, 1098, 1099, 1100, 1101, 1102, 1103, 1104, 1105, 1106, 1107, 1108, 1109, 1110, 1111, 1112, 1113, 1114, 1115, 1116, 1117, 1118, 1119, 1120, 1121, 1122, 1123, 1124, 1125, 1126, 1127, 1128, 1129, 1130, 1131, 1132, 1133, 1134, 1135, 1136, 1137, 1138, 1139, 1140, 1141, 1142, 1143, 1144, 1145, 1146, 1147, 1148, 1149, 1150, 1151, 1152, 1153, 1154, 1155, 1156, 1157, 1158, 1159, 1160, 1161, 1162, 1163, 1164, 1165, 1166, 1167, 1168, 1169, 1170, 1171, 1172, 1173, 1174, 1175, 1176, 1177, 1178, 1179, 1180, 1181, 1182, 1183, 1184, 1185, 1186, 1187] (by decide +kernel) (by decide +kernel) w h).1
def en_nww (q : Nat × Nat × Nat) : List Cond := match vwCl[q.2.2]? with
  | some r => [.classLink (en_nm q.1) q.2.1 r.1, .instantiable r.1 r.2.2, .initialized r.1]
  | none => []
theorem en_nw_in : ∀ w ∈ en_nw.flatMap en_nww, w ∈ lw_tbl := fun w h => (goodIn_r (big := lw_tbl) (en_nw.flatMap en_nww) [134, 135, 116, 142, 143, 117, 167, 168, 118, 173, 174, 119, 241, 242, 120, 288, 289, 122, 328, 329, 124, 408, 174, 119, 410, 242, 120, 412, 413, 125, 418, 289, 122, 428, 329, 124, 430, 289, 122, 432, 433, 126, 1086, 1087, 127] (by decide +kernel) (by decide +kernel) w h).1
theorem en_kc_in : ∀ w ∈ en_kc.map (fun q => Cond.constant (en_nm q.1) q.2.1 (Int32.ofInt q.2.2)), w ∈ lw_tbl := fun w h => (goodIn_r (big := lw_tbl) (en_kc.map (fun q => Cond.constant (en_nm q.1) q.2.1 (Int32.ofInt q.2.2))) [873, 957, 1059, 1432, 1578, 1634, 1702] (by decide +kernel) (by decide +kernel) w h).1
def en_cw (q : Nat × Nat × Nat × Nat × Nat) : List Cond := match en_ms[q.2.2.2.1]? with
  | some r => match q.2.2.1 with
    | 0 => [.methodLink (en_nm q.1) q.2.1 r.1, .instanceMethod r.1, .selects r.1.cls r.1 r.1, .initialized r.1.cls]
    | 1 => [.methodLink (en_nm q.1) q.2.1 r.1, .static r.1, .initialized r.1.cls]
    | 2 => [.static r.1, .initialized r.1.cls]
    | 3 => [.methodLink (en_nm q.1) q.2.1 r.1, .instanceMethod r.1, .initialized r.1.cls]
    | _ => [.instanceMethod r.1, .initialized r.1.cls]
  | none => []
def en_cl_0 : List (Nat × Nat × Nat × Nat × Nat) := [(13, 9, 3, 0, 0), (8, 9, 4, 1, 0), (8, 18, 4, 2, 0), (1, 11, 4, 3, 0), (1, 20, 4, 4, 0), (1, 27, 3, 5, 0), (6, 21, 1, 6, 2), (1, 37, 4, 7, 0), (8, 25, 4, 3, 0), (8, 32, 4, 4, 0), (8, 39, 4, 8, 0), (2, 11, 3, 5, 0), (8, 46, 4, 7, 0), (8, 53, 3, 5, 0), (8, 60, 4, 9, 0), (13, 13, 0, 10, 2), (13, 18, 0, 11, 2), (13, 22, 0, 12, 5), (8, 89, 0, 13, 1), (13, 27, 0, 14, 1), (8, 93, 0, 15, 1), (7, 19, 1, 16, 2), (8, 96, 0, 17, 1), (0, 53, 0, 18, 2), (0, 70, 0, 19, 0), (0, 73, 0, 20, 1), (0, 76, 0, 21, 0), (0, 79, 0, 22, 2), (0, 102, 0, 23, 2), (0, 109, 0, 24, 2), (0, 99, 1, 25, 2), (0, 66, 0, 26, 1), (7, 34, 0, 19, 0), (7, 38, 0, 20, 1), (0, 112, 0, 27, 0), (0, 115, 0, 28, 1), (7, 42, 0, 27, 0), (0, 88, 0, 29, 2), (0, 105, 1, 31, 4), (0, 82, 0, 32, 2), (0, 85, 0, 33, 2), (0, 96, 0, 34, 2), (0, 92, 0, 35, 1), (0, 57, 0, 36, 0), (0, 62, 0, 37, 0), (8, 103, 0, 38, 1), (8, 107, 0, 39, 0), (13, 32, 0, 40, 1), (8, 110, 0, 41, 1), (3, 58, 0, 42, 2)]
set_option maxRecDepth 100000 in
theorem en_cl_in_0 : ∀ w ∈ en_cl_0.flatMap en_cw, w ∈ lw_tbl := fun w h => (goodIn_r (big := lw_tbl) (en_cl_0.flatMap en_cw) [136, 137, 116, 145, 117, 170, 118, 176, 119, 244, 120, 290, 291, 122, 294, 295, 123, 331, 124, 176, 119, 244, 120, 415, 125, 419, 291, 122, 331, 124, 431, 291, 122, 435, 126, 486, 487, 488, 116, 490, 491, 492, 116, 494, 495, 496, 116, 498, 499, 500, 117, 502, 503, 504, 116, 506, 507, 508, 117, 510, 511, 128, 513, 514, 515, 120, 517, 519, 0, 120, 521, 522, 523, 117, 525, 526, 527, 117, 529, 530, 531, 117, 533, 535, 1, 120, 537, 539, 2, 120, 541, 543, 3, 120, 545, 546, 120, 548, 549, 550, 117, 552, 522, 523, 117, 553, 526, 527, 117, 554, 555, 556, 117, 558, 559, 560, 117, 562, 555, 556, 117, 563, 565, 4, 120, 642, 643, 120, 645, 647, 5, 120, 649, 651, 6, 120, 653, 655, 7, 120, 657, 659, 8, 120, 661, 662, 663, 117, 665, 666, 667, 117, 669, 670, 671, 120, 676, 677, 678, 117, 680, 681, 682, 116, 684, 685, 686, 119, 688, 690, 9, 119] (by decide +kernel) (by decide +kernel) w h).1
def en_cl_1 : List (Nat × Nat × Nat × Nat × Nat) := [(3, 79, 0, 19, 0), (3, 82, 1, 43, 1), (3, 86, 0, 20, 1), (3, 89, 0, 21, 0), (3, 92, 0, 44, 2), (3, 104, 0, 45, 0), (3, 75, 0, 26, 1), (3, 95, 0, 46, 2), (3, 107, 0, 28, 1), (3, 98, 0, 47, 2), (3, 101, 0, 48, 2), (3, 110, 1, 49, 1), (3, 62, 0, 36, 0), (3, 68, 0, 37, 0), (3, 72, 0, 50, 0), (3, 113, 1, 6, 2), (3, 119, 0, 51, 1), (3, 131, 2, 52, 1), (3, 122, 0, 53, 1), (3, 125, 1, 30, 2), (8, 114, 0, 54, 1), (8, 117, 0, 55, 0), (8, 123, 0, 56, 0), (5, 20, 1, 6, 2), (13, 36, 0, 57, 1), (8, 124, 0, 58, 1), (8, 128, 0, 59, 2), (1, 62, 0, 60, 0), (1, 89, 0, 61, 1), (6, 37, 0, 62, 1), (6, 41, 0, 63, 1), (1, 93, 0, 64, 0), (4, 30, 1, 6, 2), (1, 96, 1, 6, 2), (1, 69, 0, 65, 0), (1, 114, 0, 66, 2), (1, 150, 2, 52, 1), (1, 130, 0, 67, 2), (1, 133, 0, 68, 1), (1, 160, 0, 69, 2), (1, 172, 2, 70, 3), (1, 166, 0, 71, 2), (1, 140, 0, 72, 2), (1, 143, 0, 73, 1), (1, 176, 0, 74, 2), (1, 180, 0, 75, 2), (6, 51, 1, 16, 2), (6, 57, 1, 30, 2), (1, 184, 0, 76, 1), (1, 187, 0, 77, 1)]
set_option maxRecDepth 100000 in
theorem en_cl_in_1 : ∀ w ∈ en_cl_1.flatMap en_cw, w ∈ lw_tbl := fun w h => (goodIn_r (big := lw_tbl) (en_cl_1.flatMap en_cw) [692, 522, 523, 117, 693, 694, 119, 696, 526, 527, 117, 697, 530, 531, 117, 698, 700, 10, 119, 702, 703, 704, 117, 706, 549, 550, 117, 707, 709, 11, 119, 711, 559, 560, 117, 712, 714, 12, 119, 716, 718, 13, 119, 720, 721, 119, 723, 662, 663, 117, 724, 666, 667, 117, 725, 727, 14, 119, 729, 295, 123, 730, 732, 15, 119, 735, 116, 737, 739, 16, 119, 741, 587, 128, 742, 743, 744, 119, 747, 748, 749, 122, 751, 752, 753, 126, 755, 295, 123, 756, 757, 758, 116, 760, 762, 17, 116, 764, 765, 766, 118, 768, 770, 18, 118, 772, 773, 774, 122, 776, 777, 778, 122, 781, 782, 783, 122, 785, 786, 787, 124, 789, 295, 123, 790, 295, 123, 791, 793, 19, 118, 795, 797, 20, 118, 735, 116, 800, 801, 802, 119, 804, 806, 21, 118, 808, 810, 22, 118, 813, 116, 815, 817, 23, 118, 819, 820, 821, 119, 823, 825, 24, 118, 827, 829, 25, 118, 831, 832, 833, 122, 835, 511, 128, 836, 587, 128, 837, 839, 26, 118, 841, 843, 27, 118] (by decide +kernel) (by decide +kernel) w h).1
def en_cl_2 : List (Nat × Nat × Nat × Nat × Nat) := [(1, 196, 0, 78, 1), (1, 190, 0, 79, 2), (1, 146, 0, 80, 3), (1, 72, 0, 81, 2), (1, 199, 0, 82, 1), (1, 202, 0, 83, 2), (1, 206, 0, 84, 0), (1, 210, 0, 85, 2), (1, 223, 0, 86, 7), (1, 213, 0, 87, 1), (0, 122, 0, 88, 1), (0, 125, 0, 89, 2), (0, 136, 1, 90, 3), (0, 128, 1, 16, 2), (0, 133, 1, 30, 2), (1, 76, 0, 91, 0), (1, 227, 0, 92, 0), (1, 230, 0, 93, 1), (1, 233, 0, 94, 0), (1, 236, 0, 95, 3), (1, 79, 0, 96, 0), (1, 86, 0, 97, 0), (8, 138, 0, 61, 1), (8, 144, 1, 16, 2), (8, 153, 0, 98, 1), (13, 40, 0, 99, 2), (8, 156, 1, 100, 1), (8, 159, 1, 52, 1), (8, 162, 1, 101, 1), (13, 45, 0, 102, 1), (13, 49, 0, 103, 2), (8, 168, 0, 104, 1), (8, 172, 0, 105, 2), (8, 181, 1, 106, 1), (8, 194, 0, 107, 1), (13, 53, 0, 108, 2), (13, 57, 0, 109, 1), (13, 61, 0, 110, 1), (8, 212, 0, 111, 2), (2, 22, 0, 61, 1), (2, 35, 0, 112, 1), (2, 59, 2, 52, 1), (2, 42, 0, 67, 2), (2, 52, 0, 95, 3), (2, 66, 0, 113, 2), (2, 69, 0, 80, 3), (13, 65, 0, 114, 1), (8, 218, 1, 115, 2), (13, 69, 0, 116, 1), (13, 73, 0, 117, 2)]
set_option maxRecDepth 100000 in
theorem en_cl_in_2 : ∀ w ∈ en_cl_2.flatMap en_cw, w ∈ lw_tbl := fun w h => (goodIn_r (big := lw_tbl) (en_cl_2.flatMap en_cw) [845, 847, 28, 118, 849, 851, 29, 118, 853, 854, 855, 119, 857, 859, 30, 118, 861, 863, 31, 118, 865, 867, 32, 118, 869, 870, 871, 122, 874, 876, 33, 118, 878, 879, 880, 120, 882, 883, 884, 120, 886, 888, 34, 120, 890, 892, 35, 120, 894, 895, 120, 897, 511, 128, 898, 587, 128, 899, 901, 36, 118, 903, 905, 37, 118, 907, 909, 38, 118, 911, 912, 913, 120, 915, 916, 917, 122, 919, 921, 39, 118, 923, 925, 40, 118, 927, 773, 774, 122, 928, 511, 128, 929, 930, 931, 124, 934, 935, 936, 116, 938, 939, 116, 941, 735, 116, 942, 943, 116, 945, 946, 947, 116, 949, 950, 951, 116, 953, 955, 41, 116, 958, 960, 42, 116, 962, 963, 116, 965, 966, 967, 119, 969, 970, 971, 116, 973, 974, 975, 116, 977, 978, 979, 116, 981, 982, 983, 125, 985, 773, 774, 122, 986, 988, 43, 125, 735, 116, 991, 801, 802, 119, 992, 916, 917, 122, 993, 995, 44, 125, 997, 854, 855, 119, 998, 999, 1000, 116, 1002, 1003, 116, 1005, 1006, 1007, 116, 1009, 1010, 1011, 116] (by decide +kernel) (by decide +kernel) w h).1
def en_cl_3 : List (Nat × Nat × Nat × Nat × Nat) := [(13, 77, 0, 118, 1), (13, 81, 0, 119, 0), (13, 86, 0, 120, 0), (8, 226, 0, 121, 1), (2, 76, 0, 122, 3), (2, 80, 2, 70, 3), (13, 90, 0, 123, 2), (8, 236, 0, 124, 2), (13, 94, 0, 125, 3), (8, 243, 0, 103, 2), (13, 99, 0, 126, 0), (8, 246, 0, 127, 0), (13, 103, 0, 128, 1), (13, 108, 0, 129, 0), (13, 112, 0, 130, 0), (8, 251, 0, 62, 1), (8, 254, 0, 63, 1), (13, 117, 0, 131, 1), (13, 121, 0, 132, 1), (8, 260, 0, 133, 1), (8, 264, 0, 134, 0), (13, 12, 3, 135, 0), (13, 17, 0, 136, 2), (9, 211, 1, 137, 3), (13, 21, 0, 138, 2), (13, 26, 0, 139, 5), (9, 218, 0, 140, 1), (13, 31, 0, 141, 1), (9, 308, 0, 142, 1), (9, 311, 0, 143, 0), (9, 228, 0, 144, 0), (9, 235, 0, 145, 2), (9, 287, 0, 146, 0), (9, 274, 0, 147, 0), (9, 263, 0, 148, 1), (9, 242, 0, 149, 0), (9, 267, 0, 150, 0), (9, 259, 0, 151, 2), (9, 270, 1, 152, 1), (9, 277, 1, 153, 1), (9, 280, 0, 154, 1), (9, 256, 0, 155, 0), (9, 284, 0, 156, 1), (9, 305, 0, 157, 0), (9, 293, 0, 158, 0), (9, 290, 0, 159, 0), (9, 296, 0, 160, 1), (9, 299, 0, 161, 1), (9, 314, 0, 162, 1), (13, 35, 0, 163, 1)]
set_option maxRecDepth 100000 in
theorem en_cl_in_3 : ∀ w ∈ en_cl_3.flatMap en_cw, w ∈ lw_tbl := fun w h => (goodIn_r (big := lw_tbl) (en_cl_3.flatMap en_cw) [1013, 1014, 1015, 116, 1017, 1018, 1019, 116, 1021, 1022, 1023, 116, 1025, 1026, 1027, 125, 1029, 1031, 45, 125, 813, 116, 1034, 1035, 1036, 116, 1038, 1039, 1040, 126, 1042, 1043, 1044, 116, 1046, 950, 951, 116, 1047, 1048, 1049, 116, 1051, 1052, 1053, 122, 1055, 1056, 1057, 116, 1060, 1061, 1062, 116, 1064, 1065, 1066, 116, 1068, 777, 778, 122, 1069, 782, 783, 122, 1070, 1071, 1072, 116, 1074, 1075, 1076, 116, 1078, 1079, 1080, 119, 1082, 1083, 1084, 122, 1088, 1089, 127, 1381, 1382, 1383, 127, 1385, 1386, 127, 1388, 1389, 1390, 127, 1392, 1393, 1394, 127, 1396, 1398, 46, 127, 1400, 1401, 1402, 127, 1404, 1406, 47, 127, 1408, 1410, 48, 127, 1412, 1414, 49, 127, 1416, 1418, 50, 127, 1420, 1422, 51, 127, 1424, 1426, 52, 127, 1428, 1430, 53, 127, 1433, 1435, 54, 127, 1437, 1439, 55, 127, 1441, 1443, 56, 127, 1445, 1446, 127, 1448, 1449, 127, 1451, 1453, 57, 127, 1455, 1457, 58, 127, 1459, 1461, 59, 127, 1463, 1465, 60, 127, 1467, 1469, 61, 127, 1471, 1473, 62, 127, 1475, 1477, 63, 127, 1479, 1481, 64, 127, 1483, 1485, 65, 127, 1487, 1488, 1489, 127] (by decide +kernel) (by decide +kernel) w h).1
def en_cl_4 : List (Nat × Nat × Nat × Nat × Nat) := [(9, 349, 0, 164, 0), (9, 337, 1, 165, 1), (9, 343, 1, 166, 1), (9, 331, 0, 167, 0), (9, 346, 0, 168, 1), (9, 334, 0, 169, 0), (13, 56, 0, 170, 2), (9, 365, 0, 171, 1), (9, 368, 0, 172, 2), (9, 371, 0, 173, 2), (9, 362, 0, 174, 2), (13, 39, 0, 175, 1), (9, 501, 0, 176, 1), (9, 494, 0, 177, 2), (9, 488, 0, 178, 2), (9, 464, 0, 179, 2), (9, 375, 0, 180, 2), (9, 429, 1, 181, 3), (9, 432, 0, 182, 1), (9, 435, 0, 183, 1), (9, 411, 0, 184, 2), (9, 426, 1, 185, 2), (9, 438, 1, 186, 2), (9, 441, 0, 187, 1), (9, 414, 0, 188, 2), (9, 420, 0, 189, 2), (9, 384, 1, 190, 2), (9, 423, 0, 191, 1), (9, 396, 0, 192, 1), (9, 399, 0, 193, 1), (9, 390, 0, 194, 2), (9, 393, 0, 195, 2), (9, 405, 0, 196, 1), (9, 467, 0, 197, 1), (9, 470, 0, 198, 1), (9, 381, 0, 199, 1), (9, 476, 0, 200, 2), (9, 445, 0, 201, 3), (9, 449, 0, 202, 1), (9, 324, 0, 203, 2), (9, 320, 1, 204, 3), (9, 479, 0, 205, 1), (9, 452, 0, 206, 0), (9, 455, 0, 207, 1), (9, 458, 0, 208, 0), (9, 491, 0, 209, 0), (9, 498, 0, 210, 0), (9, 504, 0, 211, 1), (13, 44, 0, 212, 2), (9, 507, 0, 213, 2)]
set_option maxRecDepth 100000 in
theorem en_cl_in_4 : ∀ w ∈ en_cl_4.flatMap en_cw, w ∈ lw_tbl := fun w h => (goodIn_r (big := lw_tbl) (en_cl_4.flatMap en_cw) [1491, 1493, 66, 127, 1495, 1496, 127, 1498, 1499, 127, 1501, 1503, 67, 127, 1505, 1507, 68, 127, 1509, 1511, 69, 127, 1513, 1514, 1515, 127, 1517, 1519, 70, 127, 1521, 1523, 71, 127, 1525, 1527, 72, 127, 1529, 1531, 73, 127, 1533, 1534, 1535, 127, 1537, 1539, 74, 127, 1541, 1543, 75, 127, 1545, 1547, 76, 127, 1549, 1551, 77, 127, 1553, 1555, 78, 127, 1557, 1558, 127, 1560, 1562, 79, 127, 1564, 1566, 80, 127, 1568, 1570, 81, 127, 1572, 1573, 127, 1575, 1576, 127, 1579, 1581, 82, 127, 1583, 1585, 83, 127, 1587, 1589, 84, 127, 1591, 1592, 127, 1594, 1596, 85, 127, 1598, 1600, 86, 127, 1602, 1604, 87, 127, 1606, 1608, 88, 127, 1610, 1612, 89, 127, 1614, 1616, 90, 127, 1618, 1620, 91, 127, 1622, 1624, 92, 127, 1626, 1628, 93, 127, 1630, 1632, 94, 127, 1635, 1637, 95, 127, 1639, 1641, 96, 127, 1643, 1645, 97, 127, 1647, 1648, 127, 1650, 1652, 98, 127, 1654, 1656, 99, 127, 1658, 1660, 100, 127, 1662, 1664, 101, 127, 1666, 1668, 102, 127, 1670, 1672, 103, 127, 1674, 1676, 104, 127, 1678, 1679, 1680, 127, 1682, 1684, 105, 127] (by decide +kernel) (by decide +kernel) w h).1
def en_cl_5 : List (Nat × Nat × Nat × Nat × Nat) := [(13, 76, 0, 214, 2), (13, 72, 0, 215, 1), (13, 48, 0, 216, 1), (13, 60, 0, 217, 1), (13, 64, 0, 218, 1), (9, 514, 0, 219, 0), (9, 510, 0, 220, 1), (13, 68, 0, 221, 1), (13, 89, 0, 222, 0), (9, 517, 0, 223, 2), (13, 85, 0, 224, 0), (9, 520, 1, 225, 2), (13, 52, 0, 226, 2), (9, 523, 0, 227, 2), (13, 80, 0, 228, 1), (9, 526, 0, 229, 0), (13, 93, 0, 230, 2), (13, 98, 0, 231, 3), (13, 102, 0, 232, 0), (9, 532, 0, 233, 0), (13, 107, 0, 234, 1), (13, 111, 0, 235, 0), (13, 116, 0, 236, 0), (13, 120, 0, 237, 1), (9, 550, 0, 238, 1), (13, 124, 0, 239, 1), (9, 553, 0, 240, 1), (9, 556, 0, 241, 0)]
set_option maxRecDepth 100000 in
theorem en_cl_in_5 : ∀ w ∈ en_cl_5.flatMap en_cw, w ∈ lw_tbl := fun w h => (goodIn_r (big := lw_tbl) (en_cl_5.flatMap en_cw) [1686, 1687, 1688, 127, 1690, 1691, 1692, 127, 1694, 1695, 1696, 127, 1698, 1699, 1700, 127, 1703, 1704, 1705, 127, 1707, 1709, 106, 127, 1711, 1713, 107, 127, 1715, 1716, 1717, 127, 1719, 1720, 1721, 127, 1723, 1725, 108, 127, 1727, 1728, 1729, 127, 1731, 1732, 127, 1734, 1735, 1736, 127, 1738, 1740, 109, 127, 1742, 1743, 1744, 127, 1746, 1748, 110, 127, 1750, 1751, 1752, 127, 1754, 1755, 1756, 127, 1758, 1759, 1760, 127, 1762, 1764, 111, 127, 1766, 1767, 1768, 127, 1770, 1771, 1772, 127, 1774, 1775, 1776, 127, 1778, 1779, 1780, 127, 1782, 1784, 112, 127, 1786, 1787, 1788, 127, 1790, 1792, 113, 127, 1794, 1796, 114, 127] (by decide +kernel) (by decide +kernel) w h).1
def en_cl : List (Nat × Nat × Nat × Nat × Nat) := en_cl_0 ++ (en_cl_1 ++ (en_cl_2 ++ (en_cl_3 ++ (en_cl_4 ++ (en_cl_5)))))
theorem en_cl_in : ∀ q ∈ en_cl, ∀ w ∈ en_cw q, w ∈ lw_tbl := by
  intro q hq w hw
  unfold en_cl at hq
  rcases List.mem_append.mp hq with hq | hq
  · exact en_cl_in_0 w (List.mem_flatMap.mpr ⟨q, hq, hw⟩)
  rcases List.mem_append.mp hq with hq | hq
  · exact en_cl_in_1 w (List.mem_flatMap.mpr ⟨q, hq, hw⟩)
  rcases List.mem_append.mp hq with hq | hq
  · exact en_cl_in_2 w (List.mem_flatMap.mpr ⟨q, hq, hw⟩)
  rcases List.mem_append.mp hq with hq | hq
  · exact en_cl_in_3 w (List.mem_flatMap.mpr ⟨q, hq, hw⟩)
  rcases List.mem_append.mp hq with hq | hq
  · exact en_cl_in_4 w (List.mem_flatMap.mpr ⟨q, hq, hw⟩)
  exact en_cl_in_5 w (List.mem_flatMap.mpr ⟨q, hq, hw⟩)
def en_mok (r : MethodName × ByteArray × Nat × Option FieldType) : Bool := decide (r.1.cls ≠ "java/lang/invoke/MethodHandle") && decide (r.1.cls ≠ "java/lang/invoke/VarHandle")
def en_cok (q : Nat × Nat × Nat × Nat × Nat) : Bool := match en_ms[q.2.2.2.1]? with
  | some r => en_mok r && decide ((parseMethodDescriptor r.1.desc).map (fun d => d.parameters.length) = some q.2.2.2.2) && (decide (q.2.2.1 < 3) || (decide (r.1.name = "<init>") && decide (r.2.2.2 = none)))
  | none => false
theorem en_cl_ok_0 : en_cl_0.all en_cok = true := by decide +kernel
theorem en_cl_ok_1 : en_cl_1.all en_cok = true := by decide +kernel
theorem en_cl_ok_2 : en_cl_2.all en_cok = true := by decide +kernel
theorem en_cl_ok_3 : en_cl_3.all en_cok = true := by decide +kernel
theorem en_cl_ok_4 : en_cl_4.all en_cok = true := by decide +kernel
theorem en_cl_ok_5 : en_cl_5.all en_cok = true := by decide +kernel
theorem en_cl_ok : ∀ q ∈ en_cl, en_cok q = true := by
  intro q hq
  unfold en_cl at hq
  rcases List.mem_append.mp hq with hq | hq
  · exact List.all_eq_true.mp en_cl_ok_0 q hq
  rcases List.mem_append.mp hq with hq | hq
  · exact List.all_eq_true.mp en_cl_ok_1 q hq
  rcases List.mem_append.mp hq with hq | hq
  · exact List.all_eq_true.mp en_cl_ok_2 q hq
  rcases List.mem_append.mp hq with hq | hq
  · exact List.all_eq_true.mp en_cl_ok_3 q hq
  rcases List.mem_append.mp hq with hq | hq
  · exact List.all_eq_true.mp en_cl_ok_4 q hq
  exact List.all_eq_true.mp en_cl_ok_5 q hq
def en_nest : List Cond := (en_cl.filter (fun q => q.2.2.1 == 2 || q.2.2.1 == 4)).flatMap (fun q => match en_ms[q.2.2.2.1]? with
  | some r => [Cond.methodLinkNest (en_nm q.1) q.2.1 r.1 "LoadsAhead"]
  | none => [])
theorem en_nest_in : ∀ w ∈ en_nest, w ∈ lw_tbl := by
  have h : en_nest = ([144, 169, 175, 243, 330, 409, 411, 414, 429, 434, 734, 799, 812, 990, 1033] : List Nat).filterMap (fun i => lw_tbl[i]?) := by decide +kernel
  intro w hw
  rw [h] at hw
  obtain ⟨i, -, hi⟩ := List.mem_filterMap.mp hw
  exact List.mem_of_getElem? hi
def en_oi : List (Nat × Nat) := [(8, 1), (7, 3), (1, 3), (3, 3), (0, 3), (6, 3), (4, 3), (2, 3), (5, 3), (9, 1)]
theorem en_oi_in : ∀ w ∈ en_oi.map (fun q => Cond.methodLink (en_nm q.1) q.2 objectInit), w ∈ lw_tbl := fun w h => (goodIn_r (big := lw_tbl) (en_oi.map (fun q => Cond.methodLink (en_nm q.1) q.2 objectInit)) [139, 147, 172, 178, 246, 293, 333, 417, 437, 1091] (by decide +kernel) (by decide +kernel) w h).1
theorem en_oi_c : ∀ w ∈ ([.instanceMethod objectInit, .code objectInit ⟨#[0xb1]⟩ 1 none] : List Cond), w ∈ lw_tbl := fun w h => (goodIn_r (big := lw_tbl) _ [140, 141] (by decide +kernel) (by decide +kernel) w h).1
def en_ac : List (Nat × Nat) := [(0, 41), (3, 45), (6, 44), (4, 36)]
theorem en_ac_in : ∀ w ∈ en_ac.map (fun q => Cond.methodLink (en_nm q.1) q.2 arraycopyName), w ∈ lw_tbl := fun w h => (goodIn_r (big := lw_tbl) (en_ac.map (fun q => Cond.methodLink (en_nm q.1) q.2 arraycopyName)) [673, 746, 780, 933] (by decide +kernel) (by decide +kernel) w h).1
theorem en_ac_c : ∀ w ∈ ([.native arraycopyName, .static arraycopyName, .initialized "java/lang/System"] : List Cond), w ∈ lw_tbl := by
  have h : ([.native arraycopyName, .static arraycopyName, .initialized "java/lang/System"] : List Cond) = ([675, 674, 133] : List Nat).filterMap (fun i => lw_tbl[i]?) := by decide +kernel
  intro w hw
  rw [h] at hw
  obtain ⟨i, -, hi⟩ := List.mem_filterMap.mp hw
  exact List.mem_of_getElem? hi
theorem en_arr_in : ∀ w ∈ ([.arrayClass .int, .arrayClass .boolean, .arrayClass .byte] : List Cond), w ∈ lw_tbl := fun w h => (goodIn_r (big := lw_tbl) _ [166, 407, 287] (by decide +kernel) (by decide +kernel) w h).1
set_option maxRecDepth 100000 in
theorem inX0 : ∀ w ∈ wsX00, w ∈ lw_tbl := fun w h => (goodIn_r (big := lw_tbl) wsX00 [268, 270, 272, 274, 276, 278, 280, 282, 284] (by decide +kernel) (by decide +kernel) w h).1
set_option maxRecDepth 100000 in
theorem inX1 : ∀ w ∈ wsX10, w ∈ lw_tbl := fun w h => (goodIn_r (big := lw_tbl) wsX10 [382, 384, 386, 388, 390, 392, 394, 396, 398, 400, 402, 404] (by decide +kernel) (by decide +kernel) w h).1
set_option maxRecDepth 100000 in
theorem inX2 : ∀ w ∈ wsX20, w ∈ lw_tbl := fun w h => (goodIn_r (big := lw_tbl) wsX20 [423, 425] (by decide +kernel) (by decide +kernel) w h).1
set_option maxRecDepth 100000 in
theorem inX3 : ∀ w ∈ wsX30, w ∈ lw_tbl := fun w h => (goodIn_r (big := lw_tbl) wsX30 [214, 216, 218, 220, 222, 224, 226, 228, 230, 232, 234, 236, 238] (by decide +kernel) (by decide +kernel) w h).1
set_option maxRecDepth 100000 in
theorem inX4 : ∀ w ∈ wsX40, w ∈ lw_tbl := fun w h => (goodIn_r (big := lw_tbl) wsX40 [352, 354, 356, 358, 360, 362] (by decide +kernel) (by decide +kernel) w h).1
set_option maxRecDepth 100000 in
theorem inX5 : ∀ w ∈ wsX50, w ∈ lw_tbl := fun w h => (goodIn_r (big := lw_tbl) wsX50 [445, 447, 449] (by decide +kernel) (by decide +kernel) w h).1
set_option maxRecDepth 100000 in
theorem inX6 : ∀ w ∈ wsX60, w ∈ lw_tbl := fun w h => (goodIn_r (big := lw_tbl) wsX60 [315, 317, 319, 321, 323, 325] (by decide +kernel) (by decide +kernel) w h).1
set_option maxRecDepth 100000 in
theorem inX7 : ∀ w ∈ wsX70, w ∈ lw_tbl := fun w h => (goodIn_r (big := lw_tbl) wsX70 [155, 157, 159, 161, 163] (by decide +kernel) (by decide +kernel) w h).1
set_option maxRecDepth 100000 in
theorem inX8 : ∀ w ∈ wsX80, w ∈ lw_tbl := fun w h => (goodIn_r (big := lw_tbl) wsX80 [463, 465, 467, 469, 471, 473, 475, 477, 479, 481, 483] (by decide +kernel) (by decide +kernel) w h).1
set_option maxRecDepth 100000 in
theorem inX9 : ∀ w ∈ wsX90, w ∈ lw_tbl := fun w h => (goodIn_r (big := lw_tbl) wsX90 [1188, 1190, 1192, 1194, 1196, 1198, 1200, 1202, 1204, 1206, 1208, 1210, 1212, 1214, 1216, 1218, 1220, 1222, 1224, 1226, 1228, 1230, 1232, 1234, 1236, 1238, 1240, 1242, 1244, 1246, 1248, 1250, 1252, 1254, 1256, 1258, 1260, 1262, 1264, 1266, 1268, 1270, 1272, 1274, 1276, 1278, 1280, 1282, 1284, 1286, 1288, 1290, 1292, 1294, 1296, 1298, 1300, 1302, 1304, 1306, 1308, 1310, 1312, 1314, 1316, 1318, 1320, 1322, 1324, 1326, 1328, 1330, 1332, 1334, 1336, 1338, 1340, 1342, 1344, 1346, 1348, 1350, 1352, 1354, 1356, 1358, 1360, 1362, 1364, 1366, 1368, 1370, 1372, 1374, 1376, 1378] (by decide +kernel) (by decide +kernel) w h).1
def en_tyX : Nat → Nat → FieldType
  | 0 => tyX0
  | 1 => tyX1
  | 2 => tyX2
  | 3 => tyX3
  | 4 => tyX4
  | 5 => tyX5
  | 6 => tyX6
  | 7 => tyX7
  | 8 => tyX8
  | _ => tyX9
theorem en_cls : ∀ (ci : Nat) (r : vw_C), vwCl[ci]? = some r → (∀ w ∈ u_ws r.1 r.2.1 r.2.2, w ∈ lw_tbl) ∧ (∀ k, k < r.2.2 → parseFieldDescriptor (r.2.1 k).2.2.1 = some (en_tyX ci k)) ∧ (∀ a, a < r.2.2 → ∀ b, b < r.2.2 → a ≠ b → (r.2.1 a).2.1 ≠ (r.2.1 b).2.1) := by
  intro ci r h
  match ci, h with
  | 0, h => cases h; exact ⟨inX0, tyX0_ok, nmX0⟩
  | 1, h => cases h; exact ⟨inX1, tyX1_ok, nmX1⟩
  | 2, h => cases h; exact ⟨inX2, tyX2_ok, nmX2⟩
  | 3, h => cases h; exact ⟨inX3, tyX3_ok, nmX3⟩
  | 4, h => cases h; exact ⟨inX4, tyX4_ok, nmX4⟩
  | 5, h => cases h; exact ⟨inX5, tyX5_ok, nmX5⟩
  | 6, h => cases h; exact ⟨inX6, tyX6_ok, nmX6⟩
  | 7, h => cases h; exact ⟨inX7, tyX7_ok, nmX7⟩
  | 8, h => cases h; exact ⟨inX8, tyX8_ok, nmX8⟩
  | 9, h => cases h; exact ⟨inX9, tyX9_ok, nmX9⟩
  | k + 10, h => simp [vwCl] at h
end
section
def en_ws : List Cond := lw_tbl.filter goodWord
theorem en_ws_in {w : Cond} (h : w ∈ lw_tbl) (hg : goodWord w = true) : w ∈ en_ws := List.mem_filter.mpr ⟨h, hg⟩
theorem en_ws_good (big : List Cond) (h : ∀ w ∈ en_ws, w ∈ big) : GoodIn big en_ws := fun w hw => ⟨h w hw, good_of_word (List.mem_filter.mp hw).2⟩
def en_X (b0 aK aV : Nat) (U : State) : Prop := (∀ w ∈ en_nest, va_Nw w U) ∧ vk_R "LoadsAhead$Law" 27 "ikcsnrw" aK U ∧ vk_S 1 [7] [[105, 107, 99, 115, 110, 114, 119]] (fun _ => aK) (fun _ => aV) (fun q => b0 ≤ q) U U.heap ∧ va_Z "java/lang/String" "COMPACT_STRINGS" "Z" (.int 1) (fun q => b0 ≤ q) U U.heap ∧ (Cond.arrayOver (.array .int)).before #[] U = true
theorem en_nest_w {w : Cond} (h : w ∈ en_nest) : ∃ (a : String) (i : Nat) (x : MethodName) (t : String), w = .methodLinkNest a i x t := by
  unfold en_nest at h
  obtain ⟨q, -, hq⟩ := List.mem_flatMap.mp h
  split at hq
  · rw [List.mem_singleton] at hq
    exact ⟨_, _, _, _, hq⟩
  · exact absurd hq List.not_mem_nil
theorem en_X.call {b0 aK aV : Nat} {U : State} {g : JFrame} {mk : MethodId} {a : Array Value} (h : en_X b0 aK aV U) : en_X b0 aK aV (U.calling g mk a) := by
  obtain ⟨h1, h2, h3, h4, h5⟩ := h
  refine ⟨fun w hw => ?_, vk_R.same rfl h2, ?_, ?_, over_moved (u := U) (Vm.Alike.refl U.vm) h5⟩
  · obtain ⟨a0, i, x, t, e⟩ := en_nest_w hw
    subst e
    exact va_Nw.same (u := U) rfl rfl (h1 _ hw)
  · exact vk_S.moved (u := U) (Vm.Alike.refl U.vm) h3
  · exact va_Z.moved (u := U) (Vm.Alike.refl U.vm) h4
theorem en_X.go {b0 b1 aK aV : Nat} {s U : State} {H : Heap} {locs : List Loc} (hb : b0 ≤ b1) (h : en_X b0 aK aV s) (hS : va_S (fun q => b0 ≤ q) s.heap H locs) (hU : U.heap = H) (hW : s.WarmedH U.vm) : en_X b1 aK aV U := by
  obtain ⟨h1, h2, h3, h4, h5⟩ := h
  refine ⟨fun w hw => ?_, vk_R.warm hW h2, ?_, ?_, over_moved hW.alike h5⟩
  · obtain ⟨a0, i, x, t, e⟩ := en_nest_w hw
    subst e
    exact va_Nw.warmM hW (h1 _ hw)
  · rw [hU]
    exact ((h3.kept hS.2.1).moved hW.alike).narrow (fun q hq => Nat.le_trans hb hq)
  · rw [hU]
    exact ((h4.kept hS.2.1).moved hW.alike).narrow (fun q hq => Nat.le_trans hb hq)
abbrev en_K : Type := Nat × List en_V × en_T × Option en_V × en_T × Nat × Nat × Nat × Nat
def k_T0 (κ : en_K) : en_T := κ.2.2.1
def k_rv (κ : en_K) : Option en_V := κ.2.2.2.1
def k_T1 (κ : en_K) : en_T := κ.2.2.2.2.1
def k_fr (κ : en_K) : Nat := κ.2.2.2.2.2.1
def k_lo (κ : en_K) : Nat := κ.2.2.2.2.2.2.1
def k_mc (κ : en_K) : Nat := κ.2.2.2.2.2.2.2.1
def k_ms (κ : en_K) : Nat := κ.2.2.2.2.2.2.2.2
def en_rm (κ : en_K) : Room := { frames := k_fr κ, cells := k_mc κ, slots := k_ms κ, locals := k_lo κ }
def en_tok (tys : List (ClassId × FieldType)) : Prop := ∀ t, t < 3 → ∃ cA : ClassId, tys[t]? = some (cA, en_ty t)
def en_pc (D : va_G) (tys : List (ClassId × FieldType)) (aK aV b0 : Nat) (T : en_T) (ad : Nat → Nat) (as : List Value) : Array Value → State → Prop := va_Pc as (fun U => b0 ≤ U.heap.size ∧ en_W D tys (fun q => b0 ≤ q) T ad U.heap ∧ va_K D vwCl tys U ∧ en_X b0 aK aV U)
def en_qc (D : va_G) (tys : List (ClassId × FieldType)) (b0 N0 : Nat) (ad : Nat → Nat) (rv : Option en_V) (T1 : en_T) : Array Value → State → Outcome → State → Prop := match rv with
  | some r => va_Qi (S := Nat → Nat) (fun x ad' => en_v T1.length ad' r (.int x) ∧ N0 ≤ T1.length ∧ ∀ k, k < N0 → ad' k = ad k) (fun ad' t => en_W D tys (fun q => b0 ≤ q) T1 ad' t.heap) (fun q => b0 ≤ q)
  | none => va_Qv (S := Nat → Nat) (fun ad' => N0 ≤ T1.length ∧ ∀ k, k < N0 → ad' k = ad k) (fun ad' t => en_W D tys (fun q => b0 ≤ q) T1 ad' t.heap) (fun q => b0 ≤ q)
def en_ok (l : Launch) (κ : en_K) : Prop := ∀ r, en_ms[κ.1]? = some r → ∀ (D : va_G) (tys : List (ClassId × FieldType)) (aK aV b0 : Nat), en_tok tys → ∀ (as : List Value) (ad : Nat → Nat), en_vs (k_T0 κ).length ad κ.2.1 as →
  Met l r.1 (Cond.code r.1 r.2.1 r.2.2.1 r.2.2.2 :: en_ws) (en_rm κ) (en_pc D tys aK aV b0 (k_T0 κ) ad as) (en_qc D tys b0 (k_T0 κ).length ad (k_rv κ) (k_T1 κ)) (k_mc κ) (k_ms κ) (fun q => b0 ≤ q)
theorem en_pc_blind {D : va_G} {tys : List (ClassId × FieldType)} {aK aV b0 : Nat} {T : en_T} {ad : Nat → Nat} {as : List Value} : FrameBlind (en_pc D tys aK aV b0 T ad as) := by
  intro a U g mk h
  obtain ⟨h1, h2, h3, h4, h5⟩ := h
  exact ⟨h1, h2, h3, va_K.moved (u := U) (U := U.calling g mk a) (Vm.Alike.refl U.vm) h4, h5.call⟩
def en_g {α : Type} (b : Bool) (x : Option α) : Option α := match b with
  | true => x
  | false => none
theorem en_g_some {α : Type} {b : Bool} {x : Option α} {y : α} (h : en_g b x = some y) : b = true ∧ x = some y := by
  cases b
  · cases h
  · exact ⟨rfl, h⟩
def en_find {β : Type} (o i : Nat) : List (Nat × Nat × β) → Option β
  | [] => none
  | q :: r => match q.1 == o && q.2.1 == i with
    | true => some q.2.2
    | false => en_find o i r
theorem en_find_mem {β : Type} {o i : Nat} {b : β} : ∀ {t : List (Nat × Nat × β)}, en_find o i t = some b → (o, i, b) ∈ t
  | [], h => by cases h
  | q :: r, h => by
    unfold en_find at h
    split at h
    · rename_i hq
      simp only [Bool.and_eq_true, beq_iff_eq] at hq
      cases h
      obtain ⟨h1, h2⟩ := hq
      subst h1
      subst h2
      exact List.mem_cons_self
    · exact List.mem_cons_of_mem _ (en_find_mem h)
def en_full : Int × Int := (-2147483648, 2147483647)
def en_clip (a b : Int) : Int × Int := match decide (-2147483648 ≤ a) && decide (b ≤ 2147483647) with
  | true => (a, b)
  | false => en_full
def en_add (q r : Int × Int) : Int × Int := en_clip (q.1 + r.1) (q.2 + r.2)
def en_sub (q r : Int × Int) : Int × Int := en_clip (q.1 - r.2) (q.2 - r.1)
def en_mul (q r : Int × Int) : Int × Int := match decide (0 ≤ q.1) && decide (0 ≤ r.1) with
  | true => en_clip (q.1 * r.1) (q.2 * r.2)
  | false => en_full
def en_and (q r : Int × Int) : Int × Int := match decide (0 ≤ r.1) with
  | true => (0, r.2)
  | false => match decide (0 ≤ q.1) with
    | true => (0, q.2)
    | false => en_full
def en_in (q : Int × Int) (x : Int32) : Prop := q.1 ≤ x.toInt ∧ x.toInt ≤ q.2
theorem en_full_in (x : Int32) : en_in en_full x := by
  have := fb_rng x
  exact ⟨this.1, by show x.toInt ≤ 2147483647; omega⟩
theorem en_add_in {q r : Int × Int} {x y : Int32} (hx : en_in q x) (hy : en_in r y) : en_in (en_add q r) (x + y) := by
  unfold en_add en_clip
  split
  · rename_i h
    simp only [Bool.and_eq_true, decide_eq_true_eq] at h
    obtain ⟨h1, h2⟩ := hx
    obtain ⟨h3, h4⟩ := hy
    have e := fb_addI (x := x) (y := y) (by omega) (by omega)
    exact ⟨by rw [e]; show q.1 + r.1 ≤ _; omega, by rw [e]; show _ ≤ q.2 + r.2; omega⟩
  · exact en_full_in _
theorem en_sub_in {q r : Int × Int} {x y : Int32} (hx : en_in q x) (hy : en_in r y) : en_in (en_sub q r) (x - y) := by
  unfold en_sub en_clip
  split
  · rename_i h
    simp only [Bool.and_eq_true, decide_eq_true_eq] at h
    obtain ⟨h1, h2⟩ := hx
    obtain ⟨h3, h4⟩ := hy
    have e := fb_subI (x := x) (y := y) (by omega) (by omega)
    exact ⟨by rw [e]; show q.1 - r.2 ≤ _; omega, by rw [e]; show _ ≤ q.2 - r.1; omega⟩
  · exact en_full_in _
theorem en_mul_in {q r : Int × Int} {x y : Int32} (hx : en_in q x) (hy : en_in r y) : en_in (en_mul q r) (x * y) := by
  unfold en_mul en_clip
  split
  · rename_i h0
    split
    · rename_i h
      simp only [Bool.and_eq_true, decide_eq_true_eq] at h h0
      obtain ⟨h1, h2⟩ := hx
      obtain ⟨h3, h4⟩ := hy
      have a1 : q.1 * r.1 ≤ x.toInt * y.toInt := Int.mul_le_mul h1 h3 h0.2 (Int.le_trans h0.1 h1)
      have a2 : x.toInt * y.toInt ≤ q.2 * r.2 := Int.mul_le_mul h2 h4 (Int.le_trans h0.2 h3) (Int.le_trans (Int.le_trans h0.1 h1) h2)
      have e := fb_mulI (x := x) (y := y) (by omega) (by omega)
      exact ⟨by rw [e]; exact a1, by rw [e]; exact a2⟩
    · exact en_full_in _
  · exact en_full_in _
theorem en_and_r (x y : Int32) (h : 0 ≤ y.toInt) : 0 ≤ (x &&& y).toInt ∧ (x &&& y).toInt ≤ y.toInt := by
  have e : (x &&& y).toBitVec = x.toBitVec &&& y.toBitVec := rfl
  have hy : y.toInt = (y.toBitVec.toNat : Int) := by
    have h1 : y.toInt = y.toBitVec.toInt := rfl
    rw [h1, BitVec.toInt_eq_toNat_cond] at h ⊢
    split at h
    · rename_i h2
      rw [if_pos h2]
    · have := y.toBitVec.isLt
      omega
  have hle : (x &&& y).toBitVec.toNat ≤ y.toBitVec.toNat := by
    rw [e, BitVec.toNat_and]
    exact Nat.and_le_right
  have hylt : 2 * y.toBitVec.toNat < 2 ^ 32 := by
    have := fb_rng y
    omega
  have h2 : (x &&& y).toInt = ((x &&& y).toBitVec.toNat : Int) := by
    show (x &&& y).toBitVec.toInt = _
    rw [BitVec.toInt_eq_toNat_cond, if_pos (by omega)]
  rw [h2, hy]
  omega
theorem en_and_in {q r : Int × Int} {x y : Int32} (hx : en_in q x) (hy : en_in r y) : en_in (en_and q r) (x &&& y) := by
  obtain ⟨h1, h2⟩ := hx
  obtain ⟨h3, h4⟩ := hy
  unfold en_and
  split
  · rename_i h
    simp only [decide_eq_true_eq] at h
    have := en_and_r x y (by omega)
    exact ⟨this.1, by show _ ≤ r.2; omega⟩
  · split
    · rename_i h
      simp only [decide_eq_true_eq] at h
      have := en_and_r y x (by omega)
      rw [Int32.and_comm] at this
      exact ⟨this.1, by show _ ≤ q.2; omega⟩
    · exact en_full_in _
theorem en_i2b_in (x : Int32) : en_in (-128, 127) (x.toInt8.toInt32) := by
  have e : (x.toInt8.toInt32).toInt = x.toInt8.toInt := by simp
  have h1 := x.toInt8.le_toInt
  have h2 := x.toInt8.toInt_lt
  exact ⟨by rw [e]; show -128 ≤ _; omega, by rw [e]; show _ ≤ 127; omega⟩
def en_may (cd : Jvm.ClassFile.Cond) (q r : Int × Int) : Bool × Bool := match cd with
  | .lt => (decide (q.1 < r.2), decide (r.1 ≤ q.2))
  | .ge => (decide (r.1 ≤ q.2), decide (q.1 < r.2))
  | .gt => (decide (r.1 < q.2), decide (q.1 ≤ r.2))
  | .le => (decide (q.1 ≤ r.2), decide (r.1 < q.2))
  | .eq => (decide (q.1 ≤ r.2) && decide (r.1 ≤ q.2), !(decide (q.1 = q.2) && decide (r.1 = r.2) && decide (q.1 = r.1)))
  | .ne => (!(decide (q.1 = q.2) && decide (r.1 = r.2) && decide (q.1 = r.1)), decide (q.1 ≤ r.2) && decide (r.1 ≤ q.2))
def en_br (b : Bool × Bool) (t f : en_S) : List en_S := match b with
  | (true, true) => [t, f]
  | (true, false) => [t]
  | (false, true) => [f]
  | (false, false) => []
theorem en_br_t {b : Bool × Bool} {t f : en_S} (h : b.1 = true) : t ∈ en_br b t f := by
  obtain ⟨b1, b2⟩ := b
  cases h
  cases b2 <;> simp [en_br]
theorem en_br_f {b : Bool × Bool} {t f : en_S} (h : b.2 = true) : f ∈ en_br b t f := by
  obtain ⟨b1, b2⟩ := b
  cases h
  cases b1 <;> simp [en_br]
def en_put (ty : FieldType) (a : en_V) : Bool := match ty, a with
  | .int, .inl _ => true
  | .boolean, .inl q => decide (0 ≤ q.1) && decide (q.2 ≤ 1)
  | .object _, .inr _ => true
  | .array _, .inr _ => true
  | _, _ => false
theorem en_put_ok {N : Nat} {ad : Nat → Nat} {ty : FieldType} {a : en_V} {x : Value} (h : en_put ty a = true) (hx : en_v N ad a x) : narrow ty x = x ∧ fits ty x = true := by
  unfold en_put at h
  split at h
  · obtain ⟨i, e, -⟩ := hx
    subst e
    exact ⟨rfl, rfl⟩
  · obtain ⟨i, e, h1, h2⟩ := hx
    subst e
    simp only [Bool.and_eq_true, decide_eq_true_eq] at h
    have hi : i = 0 ∨ i = 1 := by
      rcases (show i.toInt = 0 ∨ i.toInt = 1 by omega) with q | q
      · exact Or.inl ((fa_eq _ _).mpr q)
      · exact Or.inr ((fa_eq _ _).mpr q)
    rcases hi with rfl | rfl <;> exact ⟨rfl, rfl⟩
  · rcases en_v_r hx with rfl | ⟨a, rfl⟩ <;> exact ⟨rfl, rfl⟩
  · rcases en_v_r hx with rfl | ⟨a, rfl⟩ <;> exact ⟨rfl, rfl⟩
  · cases h
def en_dv (ty : FieldType) : en_V := match ty with
  | .object _ => .inr 1
  | .array _ => .inr 1
  | _ => .inl (0, 0)
def en_dok (ty : FieldType) : Bool := match ty with
  | .object _ => true
  | .array _ => true
  | .int => true
  | .boolean => true
  | _ => false
theorem en_dv_ok {N : Nat} {ad : Nat → Nat} {ty : FieldType} (h : en_dok ty = true) : en_v N ad (en_dv ty) (defaultValue ty) := by
  unfold en_dok at h
  split at h
  · exact rfl
  · exact rfl
  · exact ⟨0, rfl, by decide, by decide⟩
  · exact ⟨0, rfl, by decide, by decide⟩
  · cases h
def en_df (ci n : Nat) : List en_V := (List.range n).map (fun j => en_dv (en_tyX ci j))
end
section
def en_cx (p : Program) (s : State) (m : MethodId) (args : Array Value) (meth : Method) (c : Code) (cc : ByteArray) (nL o : Nat) (D : va_G) (tys : List (ClassId × FieldType)) (aK aV b0 : Nat) : Prop :=
  p.tables.exec = Jvm.exec ∧ c.code = cc ∧ c.maxLocals = nL ∧ s.vm.findClass (en_nm o) = some m.cls ∧ (∀ w ∈ en_ws, w.before args s = true) ∧ va_K D vwCl tys s ∧ en_tok tys ∧ b0 ≤ s.heap.size ∧ en_X b0 aK aV s ∧ meth.locks = false
def en_at (s : State) (D : va_G) (tys : List (ClassId × FieldType)) (b0 nL N0 : Nat) (ad0 : Nat → Nat) (L : en_L) (S : List en_V) (T : en_T) (H : Heap) (locs : List Loc) (ls : Array Slot) (stk : List Value) (ad : Nat → Nat) : Prop :=
  en_l T.length ad L nL ls ∧ L.length = nL ∧ en_vs T.length ad S stk ∧ en_W D tys (fun q => b0 ≤ q) T ad H ∧ va_S (fun q => b0 ≤ q) s.heap H locs ∧ N0 ≤ T.length ∧ ∀ k, k < N0 → ad k = ad0 k
def en_go (p : Program) (l : Launch) (e : Env) (R : Room) (s : State) (m : MethodId) (args : Array Value) (below : List Frame) (meth : Method) (c : Code) (Q : State → Prop) (D : va_G) (tys : List (ClassId × FieldType)) (b0 nL N0 : Nat) (ad0 : Nat → Nat) (st : en_S) : Prop :=
  ∀ (H : Heap) (locs : List Loc) (ls : Array Slot) (stk : List Value) (ad : Nat → Nat), en_at s D tys b0 nL N0 ad0 st.2.1 st.2.2.1 st.2.2.2.1 H locs ls stk ad → W p l e R s m args below meth c H locs st.2.2.2.2.1 st.2.2.2.2.2 Q (F0 m st.1 ls stk)
theorem en_vs_cons {N : Nat} {ad : Nat → Nat} {a : en_V} {as : List en_V} {xs : List Value} (h : en_vs N ad (a :: as) xs) : ∃ x ys, xs = x :: ys ∧ en_v N ad a x ∧ en_vs N ad as ys := by
  cases xs with
  | nil => exact h.elim
  | cons x ys => exact ⟨x, ys, rfl, h.1, h.2⟩
section ENI
variable {p : Program} {l : Launch} {e : Env} {R : Room} {s : State} {m : MethodId} {args : Array Value} {below : List Frame} {meth : Method} {c : Code} {Q : State → Prop} {cc : ByteArray} {D : va_G} {tys : List (ClassId × FieldType)} {aK aV b0 nL o N0 : Nat} {ad0 : Nat → Nat}
variable {pc : Nat} {L : en_L} {S : List en_V} {T : en_T} {cs sl : Nat}
theorem es_push {pc' : Nat} {v : Int32} {q : Int × Int} (hq : en_in q v) (row : ∀ (H : Heap) (locs : List Loc) (ls : Array Slot) (rest : List Value), W p l e R s m args below meth c H locs cs sl Q (F0 m pc' ls (.int v :: rest)) → W p l e R s m args below meth c H locs cs sl Q (F0 m pc ls rest))
    (k : en_go p l e R s m args below meth c Q D tys b0 nL N0 ad0 (pc', L, .inl q :: S, T, cs, sl)) : en_go p l e R s m args below meth c Q D tys b0 nL N0 ad0 (pc, L, S, T, cs, sl) := by
  intro H locs ls stk ad h
  dsimp only at h
  obtain ⟨hl, hn, hs, hr⟩ := h
  exact row H locs ls stk (k H locs ls (.int v :: stk) ad ⟨hl, hn, ⟨⟨v, rfl, hq⟩, hs⟩, hr⟩)
theorem en_in_self (v : Int32) : en_in (v.toInt, v.toInt) v := ⟨Int.le_refl _, Int.le_refl _⟩
theorem es_iconst (C : en_cx p s m args meth c cc nL o D tys aK aV b0) {n : Int} (hd : decode cc pc = .ok (.iconst n, 1)) (k : en_go p l e R s m args below meth c Q D tys b0 nL N0 ad0 (pc + 1, L, .inl ((Int32.ofInt n).toInt, (Int32.ofInt n).toInt) :: S, T, cs, sl)) : en_go p l e R s m args below meth c Q D tys b0 nL N0 ad0 (pc, L, S, T, cs, sl) :=
  es_push (en_in_self _) (fun H locs ls rest k => lv_iconst C.1 C.2.1 hd rfl k) k
theorem es_bipush (C : en_cx p s m args meth c cc nL o D tys aK aV b0) {n : Int} (hd : decode cc pc = .ok (.bipush n, 2)) (k : en_go p l e R s m args below meth c Q D tys b0 nL N0 ad0 (pc + 2, L, .inl ((Int8.ofInt n).toInt32.toInt, (Int8.ofInt n).toInt32.toInt) :: S, T, cs, sl)) : en_go p l e R s m args below meth c Q D tys b0 nL N0 ad0 (pc, L, S, T, cs, sl) :=
  es_push (en_in_self _) (fun H locs ls rest k => lv_bipush C.1 C.2.1 hd rfl k) k
theorem es_sipush (C : en_cx p s m args meth c cc nL o D tys aK aV b0) {n : Int} (hd : decode cc pc = .ok (.sipush n, 3)) (k : en_go p l e R s m args below meth c Q D tys b0 nL N0 ad0 (pc + 3, L, .inl ((Int16.ofInt n).toInt32.toInt, (Int16.ofInt n).toInt32.toInt) :: S, T, cs, sl)) : en_go p l e R s m args below meth c Q D tys b0 nL N0 ad0 (pc, L, S, T, cs, sl) :=
  es_push (en_in_self _) (fun H locs ls rest k => lv_sipush C.1 C.2.1 hd rfl k) k
theorem es_ldc (C : en_cx p s m args meth c cc nL o D tys aK aV b0) {i : Nat} {v : Int} (hf : en_find o i en_kc = some v) (hd : decode cc pc = .ok (.ldc i, 2)) (k : en_go p l e R s m args below meth c Q D tys b0 nL N0 ad0 (pc + 2, L, .inl ((Int32.ofInt v).toInt, (Int32.ofInt v).toInt) :: S, T, cs, sl)) : en_go p l e R s m args below meth c Q D tys b0 nL N0 ad0 (pc, L, S, T, cs, sl) := by
  have hw : Cond.constant (en_nm o) i (Int32.ofInt v) ∈ en_ws := en_ws_in (en_kc_in _ (List.mem_map.mpr ⟨(o, i, v), en_find_mem hf, rfl⟩)) rfl
  exact es_push (en_in_self _) (fun H locs ls rest k => lv_ldc C.1 C.2.1 C.2.2.2.1 (C.2.2.2.2.1 _ hw) hd k) k
theorem es_ldcw (C : en_cx p s m args meth c cc nL o D tys aK aV b0) {i : Nat} {v : Int} (hf : en_find o i en_kc = some v) (hd : decode cc pc = .ok (.ldc_w i, 3)) (k : en_go p l e R s m args below meth c Q D tys b0 nL N0 ad0 (pc + 3, L, .inl ((Int32.ofInt v).toInt, (Int32.ofInt v).toInt) :: S, T, cs, sl)) : en_go p l e R s m args below meth c Q D tys b0 nL N0 ad0 (pc, L, S, T, cs, sl) := by
  have hw : Cond.constant (en_nm o) i (Int32.ofInt v) ∈ en_ws := en_ws_in (en_kc_in _ (List.mem_map.mpr ⟨(o, i, v), en_find_mem hf, rfl⟩)) rfl
  exact es_push (en_in_self _) (fun H locs ls rest k => lv_ldcw C.1 C.2.1 C.2.2.2.1 (C.2.2.2.2.1 _ hw) hd k) k
theorem es_load {pc' i : Nat} {q : Int × Int} (hL : L[i]? = some (some (.inl q))) (row : ∀ (H : Heap) (locs : List Loc) (ls : Array Slot) (rest : List Value) (v : Int32), ls[i]? = some (.val (.int v)) → W p l e R s m args below meth c H locs cs sl Q (F0 m pc' ls (.int v :: rest)) → W p l e R s m args below meth c H locs cs sl Q (F0 m pc ls rest))
    (k : en_go p l e R s m args below meth c Q D tys b0 nL N0 ad0 (pc', L, .inl q :: S, T, cs, sl)) : en_go p l e R s m args below meth c Q D tys b0 nL N0 ad0 (pc, L, S, T, cs, sl) := by
  intro H locs ls stk ad h
  dsimp only at h
  obtain ⟨hl, hn, hs, hr⟩ := h
  obtain ⟨x, h1, v, rfl, hv⟩ := hl.2.2 i _ hL
  exact row H locs ls stk v h1 (k H locs ls (.int v :: stk) ad ⟨hl, hn, ⟨⟨v, rfl, hv⟩, hs⟩, hr⟩)
theorem es_iload_n (C : en_cx p s m args meth c cc nL o D tys aK aV b0) {i : Fin 4} {q : Int × Int} (hL : L[(i : Nat)]? = some (some (.inl q))) (hd : decode cc pc = .ok (.iload_n i, 1)) (k : en_go p l e R s m args below meth c Q D tys b0 nL N0 ad0 (pc + 1, L, .inl q :: S, T, cs, sl)) : en_go p l e R s m args below meth c Q D tys b0 nL N0 ad0 (pc, L, S, T, cs, sl) :=
  es_load hL (fun H locs ls rest v h k => lv_iload_n C.1 C.2.1 hd rfl h k) k
theorem es_iload (C : en_cx p s m args meth c cc nL o D tys aK aV b0) {i : Nat} {q : Int × Int} (hL : L[i]? = some (some (.inl q))) (hd : decode cc pc = .ok (.iload i, 2)) (k : en_go p l e R s m args below meth c Q D tys b0 nL N0 ad0 (pc + 2, L, .inl q :: S, T, cs, sl)) : en_go p l e R s m args below meth c Q D tys b0 nL N0 ad0 (pc, L, S, T, cs, sl) :=
  es_load hL (fun H locs ls rest v h k => lv_iload C.1 C.2.1 hd h k) k
theorem es_loada {pc' i j : Nat} (hL : L[i]? = some (some (.inr (j + 2)))) (row : ∀ (H : Heap) (locs : List Loc) (ls : Array Slot) (rest : List Value) (v : Nat), ls[i]? = some (.val (.ref v)) → W p l e R s m args below meth c H locs cs sl Q (F0 m pc' ls (.ref v :: rest)) → W p l e R s m args below meth c H locs cs sl Q (F0 m pc ls rest))
    (k : en_go p l e R s m args below meth c Q D tys b0 nL N0 ad0 (pc', L, .inr (j + 2) :: S, T, cs, sl)) : en_go p l e R s m args below meth c Q D tys b0 nL N0 ad0 (pc, L, S, T, cs, sl) := by
  intro H locs ls stk ad h
  dsimp only at h
  obtain ⟨hl, hn, hs, hr⟩ := h
  obtain ⟨x, h1, h2⟩ := hl.2.2 i _ hL
  have h2 : x = .ref (ad j) ∧ j < T.length := h2
  obtain ⟨rfl, hv⟩ := h2
  exact row H locs ls stk (ad j) h1 (k H locs ls (.ref (ad j) :: stk) ad ⟨hl, hn, ⟨⟨rfl, hv⟩, hs⟩, hr⟩)
theorem es_aload_n (C : en_cx p s m args meth c cc nL o D tys aK aV b0) {i : Fin 4} {j : Nat} (hL : L[(i : Nat)]? = some (some (.inr (j + 2)))) (hd : decode cc pc = .ok (.aload_n i, 1)) (k : en_go p l e R s m args below meth c Q D tys b0 nL N0 ad0 (pc + 1, L, .inr (j + 2) :: S, T, cs, sl)) : en_go p l e R s m args below meth c Q D tys b0 nL N0 ad0 (pc, L, S, T, cs, sl) :=
  es_loada hL (fun H locs ls rest v h k => lv_aload_n C.1 C.2.1 hd rfl h k) k
theorem es_aload (C : en_cx p s m args meth c cc nL o D tys aK aV b0) {i j : Nat} (hL : L[i]? = some (some (.inr (j + 2)))) (hd : decode cc pc = .ok (.aload i, 2)) (k : en_go p l e R s m args below meth c Q D tys b0 nL N0 ad0 (pc + 2, L, .inr (j + 2) :: S, T, cs, sl)) : en_go p l e R s m args below meth c Q D tys b0 nL N0 ad0 (pc, L, S, T, cs, sl) :=
  es_loada hL (fun H locs ls rest v h k => lv_aload C.1 C.2.1 hd h k) k
theorem es_istore_n (C : en_cx p s m args meth c cc nL o D tys aK aV b0) {i : Fin 4} {q : Int × Int} (hi : (i : Nat) < L.length) (hd : decode cc pc = .ok (.istore_n i, 1)) (k : en_go p l e R s m args below meth c Q D tys b0 nL N0 ad0 (pc + 1, L.set i (some (.inl q)), S, T, cs, sl)) : en_go p l e R s m args below meth c Q D tys b0 nL N0 ad0 (pc, L, .inl q :: S, T, cs, sl) := by
  intro H locs ls stk ad h
  dsimp only at h
  obtain ⟨hl, hn, hs, hr⟩ := h
  obtain ⟨x, ys, rfl, ⟨v, rfl, hv⟩, hs1⟩ := en_vs_cons hs
  refine lv_istore_n C.1 C.2.1 hd rfl (en_lv_has hl.1 hl.2.1) (by omega) rfl (fun ls' hl' => ?_)
  exact k H locs ls' ys ad ⟨en_l_set hl ⟨v, rfl, hv⟩ hl', by rw [List.length_set]; exact hn, hs1, hr⟩
theorem es_istore (C : en_cx p s m args meth c cc nL o D tys aK aV b0) {i : Nat} {q : Int × Int} (hi : i < L.length) (hd : decode cc pc = .ok (.istore i, 2)) (k : en_go p l e R s m args below meth c Q D tys b0 nL N0 ad0 (pc + 2, L.set i (some (.inl q)), S, T, cs, sl)) : en_go p l e R s m args below meth c Q D tys b0 nL N0 ad0 (pc, L, .inl q :: S, T, cs, sl) := by
  intro H locs ls stk ad h
  dsimp only at h
  obtain ⟨hl, hn, hs, hr⟩ := h
  obtain ⟨x, ys, rfl, ⟨v, rfl, hv⟩, hs1⟩ := en_vs_cons hs
  refine lv_istore C.1 C.2.1 hd (en_lv_has hl.1 hl.2.1) (by omega) rfl (fun ls' hl' => ?_)
  exact k H locs ls' ys ad ⟨en_l_set hl ⟨v, rfl, hv⟩ hl', by rw [List.length_set]; exact hn, hs1, hr⟩
theorem es_astore_n (C : en_cx p s m args meth c cc nL o D tys aK aV b0) {i : Fin 4} {j : Nat} (hi : (i : Nat) < L.length) (hd : decode cc pc = .ok (.astore_n i, 1)) (k : en_go p l e R s m args below meth c Q D tys b0 nL N0 ad0 (pc + 1, L.set i (some (.inr (j + 2))), S, T, cs, sl)) : en_go p l e R s m args below meth c Q D tys b0 nL N0 ad0 (pc, L, .inr (j + 2) :: S, T, cs, sl) := by
  intro H locs ls stk ad h
  dsimp only at h
  obtain ⟨hl, hn, hs, hr⟩ := h
  obtain ⟨x, ys, rfl, hv, hs1⟩ := en_vs_cons hs
  obtain ⟨rfl, hv2⟩ : x = .ref (ad j) ∧ j < T.length := hv
  refine lv_astore_n C.1 C.2.1 hd rfl (en_lv_has hl.1 hl.2.1) (by omega) rfl (fun ls' hl' => ?_)
  exact k H locs ls' ys ad ⟨en_l_set hl (a := .inr (j + 2)) ⟨rfl, hv2⟩ hl', by rw [List.length_set]; exact hn, hs1, hr⟩
theorem es_astore (C : en_cx p s m args meth c cc nL o D tys aK aV b0) {i j : Nat} (hi : i < L.length) (hd : decode cc pc = .ok (.astore i, 2)) (k : en_go p l e R s m args below meth c Q D tys b0 nL N0 ad0 (pc + 2, L.set i (some (.inr (j + 2))), S, T, cs, sl)) : en_go p l e R s m args below meth c Q D tys b0 nL N0 ad0 (pc, L, .inr (j + 2) :: S, T, cs, sl) := by
  intro H locs ls stk ad h
  dsimp only at h
  obtain ⟨hl, hn, hs, hr⟩ := h
  obtain ⟨x, ys, rfl, hv, hs1⟩ := en_vs_cons hs
  obtain ⟨rfl, hv2⟩ : x = .ref (ad j) ∧ j < T.length := hv
  refine lv_astore C.1 C.2.1 hd (en_lv_has hl.1 hl.2.1) (by omega) rfl (fun ls' hl' => ?_)
  exact k H locs ls' ys ad ⟨en_l_set hl (a := .inr (j + 2)) ⟨rfl, hv2⟩ hl', by rw [List.length_set]; exact hn, hs1, hr⟩
theorem es_iinc (C : en_cx p s m args meth c cc nL o D tys aK aV b0) {i : Nat} {n : Int} {q : Int × Int} (hL : L[i]? = some (some (.inl q))) (hd : decode cc pc = .ok (.iinc i n, 3)) (k : en_go p l e R s m args below meth c Q D tys b0 nL N0 ad0 (pc + 3, L.set i (some (.inl (en_add q ((Int32.ofInt n).toInt, (Int32.ofInt n).toInt)))), S, T, cs, sl)) : en_go p l e R s m args below meth c Q D tys b0 nL N0 ad0 (pc, L, S, T, cs, sl) := by
  intro H locs ls stk ad h
  dsimp only at h
  obtain ⟨hl, hn, hs, hr⟩ := h
  obtain ⟨x, h1, v, rfl, hv⟩ := hl.2.2 i _ hL
  obtain ⟨j, hj⟩ := List.getElem?_of_mem (en_lv_mem.mpr h1)
  have hi : i < L.length := (List.getElem?_eq_some_iff.mp hL).1
  refine lv_iinc C.1 C.2.1 hd (en_lv_has hl.1 hl.2.1) hj rfl (by omega) rfl (fun ls' hl' => ?_)
  exact k H locs ls' stk ad ⟨en_l_set hl ⟨_, rfl, en_add_in hv (en_in_self _)⟩ hl', by rw [List.length_set]; exact hn, hs, hr⟩
theorem es_bin {pc' : Nat} (f : Int × Int → Int × Int → Int × Int) (g : Int32 → Int32 → Int32) (hfg : ∀ (q r : Int × Int) (x y : Int32), en_in q x → en_in r y → en_in (f q r) (g x y)) {q r : Int × Int}
    (row : ∀ (H : Heap) (locs : List Loc) (ls : Array Slot) (rest : List Value) (x y : Int32), W p l e R s m args below meth c H locs cs sl Q (F0 m pc' ls (.int (g x y) :: rest)) → W p l e R s m args below meth c H locs cs sl Q (F0 m pc ls (.int y :: .int x :: rest)))
    (k : en_go p l e R s m args below meth c Q D tys b0 nL N0 ad0 (pc', L, .inl (f q r) :: S, T, cs, sl)) : en_go p l e R s m args below meth c Q D tys b0 nL N0 ad0 (pc, L, .inl r :: .inl q :: S, T, cs, sl) := by
  intro H locs ls stk ad h
  dsimp only at h
  obtain ⟨hl, hn, hs, hr⟩ := h
  obtain ⟨y0, ys, rfl, ⟨y, rfl, hy⟩, hs1⟩ := en_vs_cons hs
  obtain ⟨x0, zs, rfl, ⟨x, rfl, hx⟩, hs2⟩ := en_vs_cons hs1
  exact row H locs ls zs x y (k H locs ls (.int (g x y) :: zs) ad ⟨hl, hn, ⟨⟨_, rfl, hfg q r x y hx hy⟩, hs2⟩, hr⟩)
theorem es_un {pc' : Nat} {q r : Int × Int} (g : Int32 → Int32) (hg : ∀ x, en_in q x → en_in r (g x))
    (row : ∀ (H : Heap) (locs : List Loc) (ls : Array Slot) (rest : List Value) (x : Int32), W p l e R s m args below meth c H locs cs sl Q (F0 m pc' ls (.int (g x) :: rest)) → W p l e R s m args below meth c H locs cs sl Q (F0 m pc ls (.int x :: rest)))
    (k : en_go p l e R s m args below meth c Q D tys b0 nL N0 ad0 (pc', L, .inl r :: S, T, cs, sl)) : en_go p l e R s m args below meth c Q D tys b0 nL N0 ad0 (pc, L, .inl q :: S, T, cs, sl) := by
  intro H locs ls stk ad h
  dsimp only at h
  obtain ⟨hl, hn, hs, hr⟩ := h
  obtain ⟨y0, ys, rfl, ⟨y, rfl, hy⟩, hs1⟩ := en_vs_cons hs
  exact row H locs ls ys y (k H locs ls (.int (g y) :: ys) ad ⟨hl, hn, ⟨⟨_, rfl, hg y hy⟩, hs1⟩, hr⟩)
theorem es_dup (C : en_cx p s m args meth c cc nL o D tys aK aV b0) {a : en_V} (hd : decode cc pc = .ok (.dup, 1)) (k : en_go p l e R s m args below meth c Q D tys b0 nL N0 ad0 (pc + 1, L, a :: a :: S, T, cs, sl)) : en_go p l e R s m args below meth c Q D tys b0 nL N0 ad0 (pc, L, a :: S, T, cs, sl) := by
  intro H locs ls stk ad h
  dsimp only at h
  obtain ⟨hl, hn, hs, hr⟩ := h
  obtain ⟨x, ys, rfl, hx, hs1⟩ := en_vs_cons hs
  exact lv_dup C.1 C.2.1 hd (en_v_cat hx) (k H locs ls (x :: x :: ys) ad ⟨hl, hn, ⟨hx, hx, hs1⟩, hr⟩)
theorem es_pop (C : en_cx p s m args meth c cc nL o D tys aK aV b0) {a : en_V} (hd : decode cc pc = .ok (.pop, 1)) (k : en_go p l e R s m args below meth c Q D tys b0 nL N0 ad0 (pc + 1, L, S, T, cs, sl)) : en_go p l e R s m args below meth c Q D tys b0 nL N0 ad0 (pc, L, a :: S, T, cs, sl) := by
  intro H locs ls stk ad h
  dsimp only at h
  obtain ⟨hl, hn, hs, hr⟩ := h
  obtain ⟨x, ys, rfl, hx, hs1⟩ := en_vs_cons hs
  exact lv_pop C.1 C.2.1 hd (en_v_cat hx) (k H locs ls ys ad ⟨hl, hn, hs1, hr⟩)
theorem en_tgt {pc : Nat} {off : Int} (h : decide (0 ≤ (pc : Int) + off) = true) : (pc : Int) + off = ((((pc : Int) + off).toNat : Nat) : Int) := by
  simp only [decide_eq_true_eq] at h
  omega
theorem es_goto (C : en_cx p s m args meth c cc nL o D tys aK aV b0) {off : Int} (ht : decide (0 ≤ (pc : Int) + off) = true) (hd : decode cc pc = .ok (.goto off, 3)) (k : en_go p l e R s m args below meth c Q D tys b0 nL N0 ad0 (((pc : Int) + off).toNat, L, S, T, cs, sl)) : en_go p l e R s m args below meth c Q D tys b0 nL N0 ad0 (pc, L, S, T, cs, sl) := by
  intro H locs ls stk ad h
  exact lv_goto C.1 C.2.1 hd (en_tgt ht) (k H locs ls stk ad h)
theorem es_icmp (C : en_cx p s m args meth c cc nL o D tys aK aV b0) {cd : Jvm.ClassFile.Cond} {off : Int} {q r : Int × Int} (ht : decide (0 ≤ (pc : Int) + off) = true) (hd : decode cc pc = .ok (.if_icmp cd off, 3))
    (k : ∀ st ∈ en_br (en_may cd q r) ((((pc : Int) + off).toNat, L, S, T, cs, sl) : en_S) (pc + 3, L, S, T, cs, sl), en_go p l e R s m args below meth c Q D tys b0 nL N0 ad0 st) : en_go p l e R s m args below meth c Q D tys b0 nL N0 ad0 (pc, L, .inl r :: .inl q :: S, T, cs, sl) := by
  intro H locs ls stk ad h
  dsimp only at h
  obtain ⟨hl, hn, hs, hr⟩ := h
  obtain ⟨y0, ys, rfl, ⟨y, rfl, hy⟩, hs1⟩ := en_vs_cons hs
  obtain ⟨x0, zs, rfl, ⟨x, rfl, hx⟩, hs2⟩ := en_vs_cons hs1
  have kt : (en_may cd q r).1 = true → W p l e R s m args below meth c H locs cs sl Q (F0 m ((pc : Int) + off).toNat ls zs) := fun h => k _ (en_br_t h) H locs ls zs ad ⟨hl, hn, hs2, hr⟩
  have kf : (en_may cd q r).2 = true → W p l e R s m args below meth c H locs cs sl Q (F0 m (pc + 3) ls zs) := fun h => k _ (en_br_f h) H locs ls zs ad ⟨hl, hn, hs2, hr⟩
  cases cd
  · refine lv_icmp_eq C.1 C.2.1 hd (en_tgt ht) (fun h => kt ?_) (fun h => kf ?_) <;> rw [fa_eq] at h <;> simp only [en_may, Bool.and_eq_true, Bool.not_eq_true', Bool.and_eq_false_iff, decide_eq_true_eq, decide_eq_false_iff_not] <;> omega
  · refine lv_icmp_ne C.1 C.2.1 hd (en_tgt ht) (fun h => kt ?_) (fun h => kf ?_) <;> rw [fa_eq] at h <;> simp only [en_may, Bool.and_eq_true, Bool.not_eq_true', Bool.and_eq_false_iff, decide_eq_true_eq, decide_eq_false_iff_not] <;> omega
  · refine lv_icmp_lt C.1 C.2.1 hd (en_tgt ht) (fun h => kt ?_) (fun h => kf ?_) <;> rw [fa_lt] at h <;> simp only [en_may, decide_eq_true_eq] <;> omega
  · refine lv_icmp_ge C.1 C.2.1 hd (en_tgt ht) (fun h => kt ?_) (fun h => kf ?_) <;> rw [fa_le] at h <;> simp only [en_may, decide_eq_true_eq] <;> omega
  · refine lv_icmp_gt C.1 C.2.1 hd (en_tgt ht) (fun h => kt ?_) (fun h => kf ?_) <;> rw [fa_lt] at h <;> simp only [en_may, decide_eq_true_eq] <;> omega
  · refine lv_icmp_le C.1 C.2.1 hd (en_tgt ht) (fun h => kt ?_) (fun h => kf ?_) <;> rw [fa_le] at h <;> simp only [en_may, decide_eq_true_eq] <;> omega
theorem es_if (C : en_cx p s m args meth c cc nL o D tys aK aV b0) {cd : Jvm.ClassFile.Cond} {off : Int} {q : Int × Int} (ht : decide (0 ≤ (pc : Int) + off) = true) (hd : decode cc pc = .ok (.ifCond cd off, 3))
    (k : ∀ st ∈ en_br (en_may cd q (0, 0)) ((((pc : Int) + off).toNat, L, S, T, cs, sl) : en_S) (pc + 3, L, S, T, cs, sl), en_go p l e R s m args below meth c Q D tys b0 nL N0 ad0 st) : en_go p l e R s m args below meth c Q D tys b0 nL N0 ad0 (pc, L, .inl q :: S, T, cs, sl) := by
  intro H locs ls stk ad h
  dsimp only at h
  obtain ⟨hl, hn, hs, hr⟩ := h
  obtain ⟨x0, zs, rfl, ⟨x, rfl, hx⟩, hs1⟩ := en_vs_cons hs
  have kt : (en_may cd q (0, 0)).1 = true → W p l e R s m args below meth c H locs cs sl Q (F0 m ((pc : Int) + off).toNat ls zs) := fun h => k _ (en_br_t h) H locs ls zs ad ⟨hl, hn, hs1, hr⟩
  have kf : (en_may cd q (0, 0)).2 = true → W p l e R s m args below meth c H locs cs sl Q (F0 m (pc + 3) ls zs) := fun h => k _ (en_br_f h) H locs ls zs ad ⟨hl, hn, hs1, hr⟩
  have z0 : (0 : Int32).toInt = 0 := rfl
  cases cd
  · refine lv_if_eq C.1 C.2.1 hd (en_tgt ht) (fun h => kt ?_) (fun h => kf ?_) <;> rw [fa_eq, z0] at h <;> simp only [en_may, Bool.and_eq_true, Bool.not_eq_true', Bool.and_eq_false_iff, decide_eq_true_eq, decide_eq_false_iff_not] <;> omega
  · refine lv_if_ne C.1 C.2.1 hd (en_tgt ht) (fun h => kt ?_) (fun h => kf ?_) <;> rw [fa_eq, z0] at h <;> simp only [en_may, Bool.and_eq_true, Bool.not_eq_true', Bool.and_eq_false_iff, decide_eq_true_eq, decide_eq_false_iff_not] <;> omega
  · refine lv_if_lt C.1 C.2.1 hd (en_tgt ht) (fun h => kt ?_) (fun h => kf ?_) <;> rw [fa_lt, z0] at h <;> simp only [en_may, decide_eq_true_eq] <;> omega
  · refine lv_if_ge C.1 C.2.1 hd (en_tgt ht) (fun h => kt ?_) (fun h => kf ?_) <;> rw [fa_le, z0] at h <;> simp only [en_may, decide_eq_true_eq] <;> omega
  · refine lv_if_gt C.1 C.2.1 hd (en_tgt ht) (fun h => kt ?_) (fun h => kf ?_) <;> rw [fa_lt, z0] at h <;> simp only [en_may, decide_eq_true_eq] <;> omega
  · refine lv_if_le C.1 C.2.1 hd (en_tgt ht) (fun h => kt ?_) (fun h => kf ?_) <;> rw [fa_le, z0] at h <;> simp only [en_may, decide_eq_true_eq] <;> omega
def en_tsw (pc : Nat) (d lo hi : Int) (offs : Array Int) (q : Int × Int) : Option Int := match decide (q.2 < lo) || decide (hi < q.1) with
  | true => some ((pc : Int) + d)
  | false => match decide (q.1 = q.2) && decide (lo ≤ q.1) && decide (q.1 ≤ hi) with
    | true => (offs[(q.1 - lo).toNat]?).map (fun off => (pc : Int) + off)
    | false => none
theorem es_tsw (C : en_cx p s m args meth c cc nL o D tys aK aV b0) {d lo hi : Int} {offs : Array Int} {len : Nat} {q : Int × Int} {t : Int} (hq : en_tsw pc d lo hi offs q = some t) (ht : decide (0 ≤ t) = true) (hd : decode cc pc = .ok (.tableswitch d lo hi offs, len))
    (k : en_go p l e R s m args below meth c Q D tys b0 nL N0 ad0 (t.toNat, L, S, T, cs, sl)) : en_go p l e R s m args below meth c Q D tys b0 nL N0 ad0 (pc, L, .inl q :: S, T, cs, sl) := by
  intro H locs ls stk ad h
  dsimp only at h
  obtain ⟨hl, hn, hs, hr⟩ := h
  obtain ⟨x0, zs, rfl, ⟨x, rfl, hx⟩, hs1⟩ := en_vs_cons hs
  have k := k H locs ls zs ad ⟨hl, hn, hs1, hr⟩
  simp only [decide_eq_true_eq] at ht
  unfold en_tsw at hq
  split at hq
  · rename_i hb
    simp only [Bool.or_eq_true, decide_eq_true_eq] at hb
    cases hq
    exact lv_tableOut C.1 C.2.1 hd (by omega) (by omega) k
  · split at hq
    · rename_i hb
      simp only [Bool.and_eq_true, decide_eq_true_eq] at hb
      have e : x.toInt = q.1 := by omega
      cases ho : offs[(q.1 - lo).toNat]? with
      | none => rw [ho] at hq; cases hq
      | some off =>
        rw [ho] at hq
        have hq2 : (pc : Int) + off = t := Option.some.inj hq
        exact lv_tableIn C.1 C.2.1 hd (by omega) (by omega) (off := off) (tgt := t.toNat) (by rw [e]; exact ho) (by omega) k
    · cases hq
end ENI
end
section
theorem en_clamp {i : Int32} {n : Nat} (h0 : 0 ≤ i.toInt) (h : i.toInt < n) : i.toNatClampNeg < n := by
  show i.toInt.toNat < n
  omega
def en_hull (a b : Int × Int) : Int × Int := (if a.1 ≤ b.1 then a.1 else b.1, if a.2 ≤ b.2 then b.2 else a.2)
theorem en_hull_l {a b : Int × Int} {x : Int32} (h : en_in a x) : en_in (en_hull a b) x := by
  obtain ⟨h1, h2⟩ := h
  unfold en_hull en_in
  dsimp only
  constructor
  · split <;> omega
  · split <;> omega
theorem en_hull_r {a b : Int × Int} {x : Int32} (h : en_in b x) : en_in (en_hull a b) x := by
  obtain ⟨h1, h2⟩ := h
  unfold en_hull en_in
  dsimp only
  constructor
  · split <;> omega
  · split <;> omega
theorem en_upd_in {f : Nat → Int32} {a b : Int × Int} {n k : Nat} {x : Int32} (h : ∀ j, j < n → en_in a (f j)) (hx : en_in b x) : ∀ j, j < n → en_in (en_hull a b) (upd f k x j) := by
  intro j hj
  unfold upd
  split
  · exact en_hull_r hx
  · exact en_hull_l (h j hj)
theorem en_vp_nar {ty : FieldType} {x : Int32} (h : narrow ty (.int x) = .int x) : vp_nar ty x = x := by
  unfold vp_nar
  rw [h]
theorem en_nar_z {x : Int32} (h1 : 0 ≤ x.toInt) (h2 : x.toInt ≤ 1) : narrow .boolean (.int x) = .int x := by
  rcases (show x.toInt = 0 ∨ x.toInt = 1 by omega) with q | q
  · rw [show x = 0 from (fa_eq _ _).mpr q]; rfl
  · rw [show x = 1 from (fa_eq _ _).mpr q]; rfl
theorem en_nar_b {x : Int32} (h1 : -128 ≤ x.toInt) (h2 : x.toInt ≤ 127) : vp_nar .byte x = x := by
  rw [vp_nar_byte, fa_eq]
  have e : (x.toInt8.toInt32).toInt = x.toInt8.toInt := by simp
  rw [e]
  have e2 : x.toInt8.toInt = x.toInt.bmod (2 ^ 8) := by simp
  rw [e2]
  exact Int.bmod_eq_of_le (by omega) (by omega)
theorem en_fl_w {o i ci f : Nat} {r : vw_C} (h : en_find o i en_fl = some (ci, f)) (hr : vwCl[ci]? = some r) : Cond.fieldLink (en_nm o) i (r.2.1 f).1 (r.2.1 f).2.1 (r.2.1 f).2.2.1 ∈ en_ws := by
  have h1 := en_fl_in _ (List.mem_map.mpr ⟨(o, i, ci, f), en_find_mem h, rfl⟩)
  have h2 : en_fw (o, i, ci, f) = Cond.fieldLink (en_nm o) i (r.2.1 f).1 (r.2.1 f).2.1 (r.2.1 f).2.2.1 := by
    show (match vwCl[ci]? with
      | some r => _
      | none => _) = _
    rw [hr]
  rw [h2] at h1
  exact en_ws_in h1 rfl
theorem en_lay_good (C : String) (F : u_T) (k : Nat) : goodWord (u_lay C F k) = true := by
  unfold u_lay
  split <;> rfl
theorem en_cls_ws {ci : Nat} {r : vw_C} (h : vwCl[ci]? = some r) : ∀ w ∈ u_ws r.1 r.2.1 r.2.2, w ∈ en_ws := fun w hw => en_ws_in ((en_cls ci r h).1 w hw) (by
  obtain ⟨k, -, rfl⟩ := List.mem_map.mp hw
  exact en_lay_good _ _ _)
section ENH
variable {p : Program} {l : Launch} {e : Env} {R : Room} {s : State} {m : MethodId} {args : Array Value} {below : List Frame} {meth : Method} {c : Code} {Q : State → Prop} {cc : ByteArray} {D : va_G} {tys : List (ClassId × FieldType)} {aK aV b0 nL o N0 : Nat} {ad0 : Nat → Nat}
variable {pc : Nat} {L : en_L} {S : List en_V} {T : en_T} {cs sl : Nat}
theorem es_alen (C : en_cx p s m args meth c cc nL o D tys aK aV b0) {j : Nat} {t : Nat × Nat × Int × Int} (ht : T[j]? = some (.inl t)) (hn : t.2.1 < 2147483648) (hd : decode cc pc = .ok (.arraylength, 1)) (k : en_go p l e R s m args below meth c Q D tys b0 nL N0 ad0 (pc + 1, L, .inl ((t.2.1 : Int), (t.2.1 : Int)) :: S, T, cs, sl)) : en_go p l e R s m args below meth c Q D tys b0 nL N0 ad0 (pc, L, .inr (j + 2) :: S, T, cs, sl) := by
  intro H locs ls stk ad h
  dsimp only at h
  obtain ⟨hl, hn0, hs, hW, hr⟩ := h
  obtain ⟨x, ys, rfl, hx, hs1⟩ := en_vs_cons hs
  obtain ⟨rfl, hj⟩ : x = .ref (ad j) ∧ j < T.length := hx
  have hW0 := hW
  obtain ⟨ws, w1, w2, w3, w4⟩ := hW
  obtain ⟨e0, g1, cA, f, rfl, g2, g3⟩ := w2 j _ ht
  refine va_alen C.1 C.2.1 C.2.2.2.2.2.1 w3 j t.1 g1 g2 (v := nI t.2.1) rfl hd ?_
  exact k H locs ls (.int (nI t.2.1) :: ys) ad ⟨hl, hn0, ⟨⟨_, rfl, by rw [nI_toInt hn]; exact ⟨Int.le_refl _, Int.le_refl _⟩⟩, hs1⟩, hW0, hr⟩
theorem es_ald {j : Nat} {t : Nat × Nat × Int × Int} {q : Int × Int} (ht : T[j]? = some (.inl t)) (h0 : 0 ≤ q.1) (h1 : q.2 < t.2.1)
    (row : ∀ (H : Heap) (locs : List Loc) (ls : Array Slot) (rest : List Value) (ws : va_W) (a : Nat) (cA : ClassId) (f : Nat → Int32) (i : Int32), va_P D vwCl ws H → ws[j]? = some (a, .inl (cA, t.2.1, .inl f)) → tys[t.1]? = some (cA, en_ty t.1) → vp_in i t.2.1 → W p l e R s m args below meth c H locs cs sl Q (F0 m (pc + 1) ls (.int (f i.toNatClampNeg) :: rest)) → W p l e R s m args below meth c H locs cs sl Q (F0 m pc ls (.int i :: .ref a :: rest)))
    (k : en_go p l e R s m args below meth c Q D tys b0 nL N0 ad0 (pc + 1, L, .inl t.2.2 :: S, T, cs, sl)) : en_go p l e R s m args below meth c Q D tys b0 nL N0 ad0 (pc, L, .inl q :: .inr (j + 2) :: S, T, cs, sl) := by
  intro H locs ls stk ad h
  dsimp only at h
  obtain ⟨hl, hn0, hs, hW, hr⟩ := h
  obtain ⟨x0, ys, rfl, ⟨i, rfl, hi⟩, hs1⟩ := en_vs_cons hs
  obtain ⟨x, zs, rfl, hx, hs2⟩ := en_vs_cons hs1
  obtain ⟨rfl, hj⟩ : x = .ref (ad j) ∧ j < T.length := hx
  have hW0 := hW
  obtain ⟨ws, w1, w2, w3, w4⟩ := hW
  obtain ⟨e0, g1, cA, f, rfl, g2, g3⟩ := w2 j _ ht
  have i0 : 0 ≤ i.toInt := by omega
  have i1 : i.toInt < t.2.1 := by omega
  exact row H locs ls zs ws (ad j) cA f i w3 g1 g2 (vp_in_iff.mpr ⟨i0, i1⟩) (k H locs ls (.int (f i.toNatClampNeg) :: zs) ad ⟨hl, hn0, ⟨⟨_, rfl, g3 _ (en_clamp i0 i1)⟩, hs2⟩, hW0, hr⟩)
theorem es_iald (C : en_cx p s m args meth c cc nL o D tys aK aV b0) {j : Nat} {t : Nat × Nat × Int × Int} {q : Int × Int} (ht : T[j]? = some (.inl t)) (ht0 : t.1 = 0) (h0 : 0 ≤ q.1) (h1 : q.2 < t.2.1) (hd : decode cc pc = .ok (.iaload, 1)) (k : en_go p l e R s m args below meth c Q D tys b0 nL N0 ad0 (pc + 1, L, .inl t.2.2 :: S, T, cs, sl)) : en_go p l e R s m args below meth c Q D tys b0 nL N0 ad0 (pc, L, .inl q :: .inr (j + 2) :: S, T, cs, sl) :=
  es_ald ht h0 h1 (fun H locs ls rest ws a cA f i hP ha hty hin k => va_iald C.1 C.2.1 C.2.2.2.2.2.1 hP j t.1 ha (by rw [hty, ht0]; rfl) hin hd k) k
theorem es_zald (C : en_cx p s m args meth c cc nL o D tys aK aV b0) {j : Nat} {t : Nat × Nat × Int × Int} {q : Int × Int} (ht : T[j]? = some (.inl t)) (ht0 : t.1 = 1) (h0 : 0 ≤ q.1) (h1 : q.2 < t.2.1) (hd : decode cc pc = .ok (.baload, 1)) (k : en_go p l e R s m args below meth c Q D tys b0 nL N0 ad0 (pc + 1, L, .inl t.2.2 :: S, T, cs, sl)) : en_go p l e R s m args below meth c Q D tys b0 nL N0 ad0 (pc, L, .inl q :: .inr (j + 2) :: S, T, cs, sl) :=
  es_ald ht h0 h1 (fun H locs ls rest ws a cA f i hP ha hty hin k => va_zald C.1 C.2.1 C.2.2.2.2.2.1 hP j t.1 ha (by rw [hty, ht0]; rfl) hin hd k) k
theorem es_bald (C : en_cx p s m args meth c cc nL o D tys aK aV b0) {j : Nat} {t : Nat × Nat × Int × Int} {q : Int × Int} (ht : T[j]? = some (.inl t)) (ht0 : t.1 = 2) (h0 : 0 ≤ q.1) (h1 : q.2 < t.2.1) (hd : decode cc pc = .ok (.baload, 1)) (k : en_go p l e R s m args below meth c Q D tys b0 nL N0 ad0 (pc + 1, L, .inl t.2.2 :: S, T, cs, sl)) : en_go p l e R s m args below meth c Q D tys b0 nL N0 ad0 (pc, L, .inl q :: .inr (j + 2) :: S, T, cs, sl) :=
  es_ald ht h0 h1 (fun H locs ls rest ws a cA f i hP ha hty hin k => va_bald C.1 C.2.1 C.2.2.2.2.2.1 hP j t.1 ha (by rw [hty, ht0]; rfl) hin hd k) k
theorem es_ast {j : Nat} {t : Nat × Nat × Int × Int} {q v : Int × Int} (ht : T[j]? = some (.inl t)) (h0 : 0 ≤ q.1) (h1 : q.2 < t.2.1)
    (row : ∀ (H : Heap) (locs : List Loc) (ls : Array Slot) (rest : List Value) (ws : va_W) (a : Nat) (cA : ClassId) (f : Nat → Int32) (i x : Int32), en_in v x → va_P D vwCl ws H → va_D (fun q => b0 ≤ q) ws → va_S (fun q => b0 ≤ q) s.heap H locs → ws[j]? = some (a, .inl (cA, t.2.1, .inl f)) → tys[t.1]? = some (cA, en_ty t.1) → vp_in i t.2.1 →
      (∀ (H1 : Heap) (locs1 : List Loc), va_P D vwCl (ws.set j (a, .inl (cA, t.2.1, .inl (upd f i.toNatClampNeg x)))) H1 → va_D (fun q => b0 ≤ q) (ws.set j (a, .inl (cA, t.2.1, .inl (upd f i.toNatClampNeg x)))) → va_S (fun q => b0 ≤ q) s.heap H1 locs1 → W p l e R s m args below meth c H1 locs1 cs sl Q (F0 m (pc + 1) ls rest)) → W p l e R s m args below meth c H locs cs sl Q (F0 m pc ls (.int x :: .int i :: .ref a :: rest)))
    (k : en_go p l e R s m args below meth c Q D tys b0 nL N0 ad0 (pc + 1, L, S, T.set j (.inl (t.1, t.2.1, en_hull t.2.2 v)), cs, sl)) : en_go p l e R s m args below meth c Q D tys b0 nL N0 ad0 (pc, L, .inl v :: .inl q :: .inr (j + 2) :: S, T, cs, sl) := by
  intro H locs ls stk ad h
  dsimp only at h
  obtain ⟨hl, hn0, hs, hW, hS, hr⟩ := h
  obtain ⟨x9, us, rfl, ⟨v1, rfl, hv⟩, hs0⟩ := en_vs_cons hs
  obtain ⟨x0, ys, rfl, ⟨i, rfl, hi⟩, hs1⟩ := en_vs_cons hs0
  obtain ⟨x, zs, rfl, hx, hs2⟩ := en_vs_cons hs1
  obtain ⟨rfl, hj⟩ : x = .ref (ad j) ∧ j < T.length := hx
  obtain ⟨ws, w1, w2, w3, w4⟩ := hW
  obtain ⟨e0, g1, cA, f, rfl, g2, g3⟩ := w2 j _ ht
  have i0 : 0 ≤ i.toInt := by omega
  have i1 : i.toInt < t.2.1 := by omega
  refine row H locs ls zs ws (ad j) cA f i v1 hv w3 w4 hS g1 g2 (vp_in_iff.mpr ⟨i0, i1⟩) (fun H1 locs1 hP hD hS1 => ?_)
  have hT : (T.set j (.inl (t.1, t.2.1, en_hull t.2.2 v))).length = T.length := List.length_set
  refine k H1 locs1 ls zs ad ⟨by dsimp only; rw [hT]; exact hl, hn0, by dsimp only; rw [hT]; exact hs2, en_W.put w1 w2 hP hD ⟨cA, _, rfl, g2, ?_⟩, hS1, by dsimp only; rw [hT]; exact hr⟩
  exact en_upd_in g3 hv
theorem es_iast (C : en_cx p s m args meth c cc nL o D tys aK aV b0) {j : Nat} {t : Nat × Nat × Int × Int} {q v : Int × Int} (ht : T[j]? = some (.inl t)) (ht0 : t.1 = 0) (h0 : 0 ≤ q.1) (h1 : q.2 < t.2.1) (hd : decode cc pc = .ok (.iastore, 1)) (k : en_go p l e R s m args below meth c Q D tys b0 nL N0 ad0 (pc + 1, L, S, T.set j (.inl (t.1, t.2.1, en_hull t.2.2 v)), cs, sl)) : en_go p l e R s m args below meth c Q D tys b0 nL N0 ad0 (pc, L, .inl v :: .inl q :: .inr (j + 2) :: S, T, cs, sl) :=
  es_ast ht h0 h1 (fun H locs ls rest ws a cA f i x _ hP hD hS ha hty hin k => va_iast C.1 C.2.1 C.2.2.2.2.2.1 hP hD hS j t.1 ha (by rw [hty, ht0]; rfl) hin hd k) k
theorem es_bast (C : en_cx p s m args meth c cc nL o D tys aK aV b0) {j : Nat} {t : Nat × Nat × Int × Int} {q v : Int × Int} (ht : T[j]? = some (.inl t)) (ht0 : t.1 = 2) (h0 : 0 ≤ q.1) (h1 : q.2 < t.2.1) (hv0 : -128 ≤ v.1) (hv1 : v.2 ≤ 127) (hd : decode cc pc = .ok (.bastore, 1)) (k : en_go p l e R s m args below meth c Q D tys b0 nL N0 ad0 (pc + 1, L, S, T.set j (.inl (t.1, t.2.1, en_hull t.2.2 v)), cs, sl)) : en_go p l e R s m args below meth c Q D tys b0 nL N0 ad0 (pc, L, .inl v :: .inl q :: .inr (j + 2) :: S, T, cs, sl) :=
  es_ast ht h0 h1 (fun H locs ls rest ws a cA f i x hx hP hD hS ha hty hin k => va_bast C.1 C.2.1 C.2.2.2.2.2.1 hP hD hS j t.1 ha (by rw [hty, ht0]; rfl) hin hd (by obtain ⟨hx1, hx2⟩ := hx; rw [en_nar_b (by omega) (by omega)]; exact k)) k
theorem es_zast (C : en_cx p s m args meth c cc nL o D tys aK aV b0) {j : Nat} {t : Nat × Nat × Int × Int} {q v : Int × Int} (ht : T[j]? = some (.inl t)) (ht0 : t.1 = 1) (h0 : 0 ≤ q.1) (h1 : q.2 < t.2.1) (hv0 : 0 ≤ v.1) (hv1 : v.2 ≤ 1) (hd : decode cc pc = .ok (.bastore, 1)) (k : en_go p l e R s m args below meth c Q D tys b0 nL N0 ad0 (pc + 1, L, S, T.set j (.inl (t.1, t.2.1, en_hull t.2.2 v)), cs, sl)) : en_go p l e R s m args below meth c Q D tys b0 nL N0 ad0 (pc, L, .inl v :: .inl q :: .inr (j + 2) :: S, T, cs, sl) :=
  es_ast ht h0 h1 (fun H locs ls rest ws a cA f i x hx hP hD hS ha hty hin k => va_zast C.1 C.2.1 C.2.2.2.2.2.1 hP hD hS j t.1 ha (by rw [hty, ht0]; rfl) hin hd (by obtain ⟨hx1, hx2⟩ := hx; rw [en_vp_nar (en_nar_z (by omega) (by omega))]; exact k)) k
theorem es_getf (C : en_cx p s m args meth c cc nL o D tys aK aV b0) {i ci f j : Nat} {fs : List en_V} {a : en_V} {r : vw_C} (hf : en_find o i en_fl = some (ci, f)) (hr0 : vwCl[ci]? = some r) (hfN : f < r.2.2) (ht : T[j]? = some (.inr (ci, fs))) (ha : fs[f]? = some a) (hd : decode cc pc = .ok (.getfield i, 3)) (k : en_go p l e R s m args below meth c Q D tys b0 nL N0 ad0 (pc + 3, L, a :: S, T, cs, sl)) : en_go p l e R s m args below meth c Q D tys b0 nL N0 ad0 (pc, L, .inr (j + 2) :: S, T, cs, sl) := by
  intro H locs ls stk ad h
  dsimp only at h
  obtain ⟨hl, hn0, hs, hW, hr⟩ := h
  obtain ⟨x, ys, rfl, hx, hs1⟩ := en_vs_cons hs
  obtain ⟨rfl, hj⟩ : x = .ref (ad j) ∧ j < T.length := hx
  have hW0 := hW
  obtain ⟨ws, w1, w2, w3, w4⟩ := hW
  obtain ⟨e0, g1, vs, rfl, g2⟩ := w2 j _ ht
  obtain ⟨v, g3, g4⟩ := en_vs_get g2 ha
  refine va_get (C := r.1) (T := r.2.1) (N := r.2.2) C.1 C.2.1 C.2.2.2.2.1 (en_cls_ws hr0) C.2.2.2.1 C.2.2.2.2.2.1 w3 j g1 hr0 f hfN (C.2.2.2.2.1 _ (en_fl_w hf hr0)) (fun x h => h) g3 hd ?_
  exact k H locs ls (v :: ys) ad ⟨hl, hn0, ⟨g4, hs1⟩, hW0, hr⟩
theorem es_putf (C : en_cx p s m args meth c cc nL o D tys aK aV b0) {i ci f j : Nat} {fs : List en_V} {a : en_V} {r : vw_C} (hf : en_find o i en_fl = some (ci, f)) (hr0 : vwCl[ci]? = some r) (hfN : f < r.2.2) (ht : T[j]? = some (.inr (ci, fs))) (hlen : f < fs.length) (hput : en_put (en_tyX ci f) a = true)
    (hfin : (r.2.1 f).2.2.2 = false ∨ (meth.name = "<init>" ∧ (r.2.1 f).1 = en_nm o)) (hd : decode cc pc = .ok (.putfield i, 3)) (k : en_go p l e R s m args below meth c Q D tys b0 nL N0 ad0 (pc + 3, L, S, T.set j (.inr (ci, fs.set f a)), cs, sl)) : en_go p l e R s m args below meth c Q D tys b0 nL N0 ad0 (pc, L, a :: .inr (j + 2) :: S, T, cs, sl) := by
  intro H locs ls stk ad h
  dsimp only at h
  obtain ⟨hl, hn0, hs, hW, hS, hr⟩ := h
  obtain ⟨v, us, rfl, hv, hs0⟩ := en_vs_cons hs
  obtain ⟨x, ys, rfl, hx, hs1⟩ := en_vs_cons hs0
  obtain ⟨rfl, hj⟩ : x = .ref (ad j) ∧ j < T.length := hx
  obtain ⟨ws, w1, w2, w3, w4⟩ := hW
  obtain ⟨e0, g1, vs, rfl, g2⟩ := w2 j _ ht
  obtain ⟨q1, q2⟩ := en_put_ok hput hv
  have hc := en_cls ci r hr0
  have hT : (T.set j (.inr (ci, fs.set f a))).length = T.length := List.length_set
  have kk : ∀ (H1 : Heap) (locs1 : List Loc), va_P D vwCl (ws.set j (ad j, .inr (ci, vs.set f v))) H1 → va_D (fun q => b0 ≤ q) (ws.set j (ad j, .inr (ci, vs.set f v))) → va_S (fun q => b0 ≤ q) s.heap H1 locs1 → W p l e R s m args below meth c H1 locs1 cs sl Q (F0 m (pc + 3) ls ys) := fun H1 locs1 hP hD hS1 =>
    k H1 locs1 ls ys ad ⟨by dsimp only; rw [hT]; exact hl, hn0, by dsimp only; rw [hT]; exact hs1, en_W.put w1 w2 hP hD ⟨_, rfl, en_vs_set hv f g2⟩, hS1, by dsimp only; rw [hT]; exact hr⟩
  have hle : f < vs.length := by rw [← en_vs_len g2]; exact hlen
  rcases hfin with hfin | ⟨h1, h2⟩
  · exact va_put (C := r.1) (T := r.2.1) (N := r.2.2) C.1 C.2.1 C.2.2.2.2.1 (en_cls_ws hr0) (en_tyX ci) hc.2.1 hc.2.2 C.2.2.2.1 C.2.2.2.2.2.1 w3 w4 hS j g1 hr0 f hfN (C.2.2.2.2.1 _ (en_fl_w hf hr0)) (fun x h => h) hfin (hc.2.1 f hfN) q1 q2 hle hd kk
  · cases hz : (r.2.1 f).2.2.2 with
    | false => exact va_put (C := r.1) (T := r.2.1) (N := r.2.2) C.1 C.2.1 C.2.2.2.2.1 (en_cls_ws hr0) (en_tyX ci) hc.2.1 hc.2.2 C.2.2.2.1 C.2.2.2.2.2.1 w3 w4 hS j g1 hr0 f hfN (C.2.2.2.2.1 _ (en_fl_w hf hr0)) (fun x h => h) hz (hc.2.1 f hfN) q1 q2 hle hd kk
    | true => exact va_putF (C := r.1) (T := r.2.1) (N := r.2.2) C.1 C.2.1 C.2.2.2.2.1 (en_cls_ws hr0) (en_tyX ci) hc.2.1 hc.2.2 C.2.2.2.1 C.2.2.2.2.2.1 w3 w4 hS j g1 hr0 f hfN (C.2.2.2.2.1 _ (en_fl_w hf hr0)) (fun x h => h) hz h1 h2 (hc.2.1 f hfN) q1 q2 hle hd kk
theorem en_map_vs {N : Nat} {ad : Nat → Nat} {α : Type} {f : α → en_V} {g : α → Value} : ∀ (xs : List α), (∀ x ∈ xs, en_v N ad (f x) (g x)) → en_vs N ad (xs.map f) (xs.map g)
  | [], _ => trivial
  | x :: xs, h => ⟨h x List.mem_cons_self, en_map_vs xs (fun y hy => h y (List.mem_cons_of_mem _ hy))⟩
theorem es_new (C : en_cx p s m args meth c cc nL o D tys aK aV b0) {i ci : Nat} {r : vw_C} (hf : en_find o i en_nw = some ci) (hr0 : vwCl[ci]? = some r) (hdk : (List.range r.2.2).all (fun j => en_dok (en_tyX ci j)) = true) (hc1 : cs + 1 ≤ R.cells) (hc2 : sl + r.2.2 ≤ R.slots) (hd : decode cc pc = .ok (.new i, 3))
    (k : en_go p l e R s m args below meth c Q D tys b0 nL N0 ad0 (pc + 3, L, .inr (T.length + 2) :: S, T ++ [.inr (ci, en_df ci r.2.2)], cs + 1, sl + r.2.2)) : en_go p l e R s m args below meth c Q D tys b0 nL N0 ad0 (pc, L, S, T, cs, sl) := by
  intro H locs ls stk ad h
  dsimp only at h
  obtain ⟨hl, hn0, hs, hW, hS, hr, hr2⟩ := h
  obtain ⟨ws, w1, w2, w3, w4⟩ := hW
  have hin := en_nw_in
  have hmem : ∀ w ∈ en_nww (o, i, ci), w ∈ lw_tbl := fun w hw => en_nw_in w (List.mem_flatMap.mpr ⟨(o, i, ci), en_find_mem hf, hw⟩)
  have hlist : en_nww (o, i, ci) = [.classLink (en_nm o) i r.1, .instantiable r.1 r.2.2, .initialized r.1] := by
    show (match vwCl[ci]? with
      | some r => _
      | none => _) = _
    rw [hr0]
  rw [hlist] at hmem
  have hA : ∀ q : Nat, s.heap.size ≤ q → (fun q : Nat => b0 ≤ q) q := fun q hq => Nat.le_trans C.2.2.2.2.2.2.2.1 hq
  have hdk1 : ∀ j, j < r.2.2 → en_dok (en_tyX ci j) = true := fun j hj => List.all_eq_true.mp hdk j (List.mem_range.mpr hj)
  refine va_new (C := r.1) (T := r.2.1) (N := r.2.2) (fs := (List.range r.2.2).map (fun j => defaultValue (en_tyX ci j))) C.1 C.2.1 C.2.2.2.2.1 (en_cls_ws hr0) (en_tyX ci) (en_cls ci r hr0).2.1 C.2.2.2.1 (C.2.2.2.2.1 _ (en_ws_in (hmem _ List.mem_cons_self) rfl)) (C.2.2.2.2.1 _ (en_ws_in (hmem _ (List.mem_cons_of_mem _ List.mem_cons_self)) rfl)) (C.2.2.2.2.1 _ (en_ws_in (hmem _ (List.mem_cons_of_mem _ (List.mem_cons_of_mem _ List.mem_cons_self))) rfl)) C.2.2.2.2.2.1 w3 w4 hS hA hr0 ?_ hc1 hc2 hd (fun q H1 hP hD hS1 => ?_)
  · intro j hj
    unfold vp_V
    rw [List.getD_eq_getElem?_getD, List.getElem?_map, List.getElem?_range hj]
    rfl
  · have hN : (T ++ [.inr (ci, en_df ci r.2.2)] : en_T).length = T.length + 1 := by rw [List.length_append]; rfl
    have hle : T.length ≤ T.length + 1 := Nat.le_succ _
    have hag : ∀ k, k < T.length → en_up ad T.length q k = ad k := fun k hk => en_up_lt hk
    refine k H1 locs ls (.ref q :: stk) (en_up ad T.length q) ⟨by dsimp only; rw [hN]; exact en_l_mono hle hag hl, hn0, by dsimp only; rw [hN]; exact ⟨⟨by rw [en_up_at], Nat.lt_succ_self _⟩, en_vs_mono hle hag hs⟩, en_W.push w1 w2 hP hD ⟨_, rfl, ?_⟩, hS1, by dsimp only; rw [hN]; omega, fun k hk => by rw [hag k (by omega)]; exact hr2 k hk⟩
    exact en_map_vs _ (fun j hj => en_dv_ok (hdk1 j (List.mem_range.mp hj)))
theorem es_newa (C : en_cx p s m args meth c cc nL o D tys aK aV b0) {at0 : ArrayType} {t n : Nat} (hty : newarray.typeOf at0 = en_ty t) (ht : t < 3) (hn : n ≤ 100000) (hc1 : cs + 1 ≤ R.cells) (hc2 : sl + n ≤ R.slots) (hd : decode cc pc = .ok (.newarray at0, 2))
    (k : en_go p l e R s m args below meth c Q D tys b0 nL N0 ad0 (pc + 2, L, .inr (T.length + 2) :: S, T ++ [.inl (t, n, 0, 0)], cs + 1, sl + n)) : en_go p l e R s m args below meth c Q D tys b0 nL N0 ad0 (pc, L, .inl ((n : Int), (n : Int)) :: S, T, cs, sl) := by
  intro H locs ls stk ad h
  dsimp only at h
  obtain ⟨hl, hn0, hs, hW, hS, hr, hr2⟩ := h
  obtain ⟨ws, w1, w2, w3, w4⟩ := hW
  obtain ⟨x0, ys, rfl, ⟨i, rfl, hi⟩, hs1⟩ := en_vs_cons hs
  have hi0 : i.toInt = (n : Int) := by dsimp only at hi; omega
  have hA : ∀ q : Nat, s.heap.size ≤ q → (fun q : Nat => b0 ≤ q) q := fun q hq => Nat.le_trans C.2.2.2.2.2.2.2.1 hq
  have hK := C.2.2.2.2.2.1
  obtain ⟨cA0, hcA0⟩ := C.2.2.2.2.2.2.1 t ht
  have harr : (Cond.arrayClass (newarray.typeOf at0)).before args s = true := by
    rw [hty]
    refine C.2.2.2.2.1 _ (en_ws_in (en_arr_in _ ?_) rfl)
    match t, ht with
    | 0, _ => exact List.mem_cons_self
    | 1, _ => exact List.mem_cons_of_mem _ List.mem_cons_self
    | 2, _ => exact List.mem_cons_of_mem _ (List.mem_cons_of_mem _ List.mem_cons_self)
    | k + 3, h => omega
  have hdv : ∀ cA : ClassId, vp_cell cA (n, .inl (fun _ => 0)) = arrV cA n (fun _ => defaultValue (en_ty t)) := fun cA => by
    rw [vp_cell_i]
    match t, ht with
    | 0, _ => rfl
    | 1, _ => rfl
    | 2, _ => rfl
    | k + 3, h => omega
  have hcb : n * componentBytes (en_ty t) ≤ 536870912 := by
    have hb4 : componentBytes (en_ty t) ≤ 4 := by
      match t, ht with
      | 0, _ => decide
      | 1, _ => decide
      | 2, _ => decide
      | k + 3, h => omega
    exact Nat.le_trans (Nat.mul_le_mul hn hb4) (by decide)
  refine va_newa C.1 C.2.1 harr hty hK w3 w4 hS hA (N' := n) (a0 := (n, .inl (fun _ => 0))) hdv (by rw [fa_lt]; show ¬ i.toInt < 0; omega) (by show i.toInt.toNat = n; omega) hcb hc1 hc2 hd (fun q cA H1 hK1 hP hD hS1 => ?_)
  have hcA : tys[t]? = some (cA, en_ty t) := by
    have h1 := (hK.2 t _ hcA0).2
    have h2 := (hK1.2 tys.length (cA, en_ty t) (by rw [List.getElem?_append_right (Nat.le_refl _), Nat.sub_self]; rfl)).2
    have h3 : cA0 = cA := by
      match t, ht, h1, h2 with
      | 0, _, h1, h2 => exact Option.some.inj (h1.symm.trans h2)
      | 1, _, h1, h2 => exact Option.some.inj (h1.symm.trans h2)
      | 2, _, h1, h2 => exact Option.some.inj (h1.symm.trans h2)
      | k + 3, h, _, _ => omega
    rw [← h3]
    exact hcA0
  have hN : (T ++ [.inl (t, n, 0, 0)] : en_T).length = T.length + 1 := by rw [List.length_append]; rfl
  have hle : T.length ≤ T.length + 1 := Nat.le_succ _
  have hag : ∀ k, k < T.length → en_up ad T.length q k = ad k := fun k hk => en_up_lt hk
  exact k H1 locs ls (.ref q :: ys) (en_up ad T.length q) ⟨by dsimp only; rw [hN]; exact en_l_mono hle hag hl, hn0, by dsimp only; rw [hN]; exact ⟨⟨by rw [en_up_at], Nat.lt_succ_self _⟩, en_vs_mono hle hag hs1⟩, en_W.push w1 w2 hP hD ⟨cA, _, rfl, hcA, fun j hj => ⟨Int.le_refl _, Int.le_refl _⟩⟩, hS1, by dsimp only; rw [hN]; omega, fun k hk => by rw [hag k (by omega)]; exact hr2 k hk⟩
theorem es_oi (C : en_cx p s m args meth c cc nL o D tys aK aV b0) {i j : Nat} (hf : (o, i) ∈ en_oi) (hfr : 1 ≤ R.frames) (hlo : S.length + 12 ≤ R.locals) (hd : decode cc pc = .ok (.invokespecial i, 3)) (k : en_go p l e R s m args below meth c Q D tys b0 nL N0 ad0 (pc + 3, L, S, T, cs, sl)) : en_go p l e R s m args below meth c Q D tys b0 nL N0 ad0 (pc, L, .inr (j + 2) :: S, T, cs, sl) := by
  intro H locs ls stk ad h
  dsimp only at h
  obtain ⟨hl, hn0, hs, hr⟩ := h
  obtain ⟨x, ys, rfl, hx, hs1⟩ := en_vs_cons hs
  obtain ⟨rfl, hj⟩ : x = .ref (ad j) ∧ j < T.length := hx
  have h1 : Cond.methodLink (en_nm o) i objectInit ∈ en_ws := en_ws_in (en_oi_in _ (List.mem_map.mpr ⟨(o, i), hf, rfl⟩)) rfl
  have h2 : Cond.instanceMethod objectInit ∈ en_ws := en_ws_in (en_oi_c _ List.mem_cons_self) rfl
  have h3 : Cond.code objectInit ⟨#[0xb1]⟩ 1 none ∈ en_ws := en_ws_in (en_oi_c _ (List.mem_cons_of_mem _ List.mem_cons_self)) rfl
  refine W.objInit C.1 C.2.1 C.2.2.2.1 (C.2.2.2.2.1 _ h1) (C.2.2.2.2.1 _ h2) (C.2.2.2.2.1 _ h3) (g := F0 m pc ls (.ref (ad j) :: ys)) rfl (hl.1.trans C.2.2.1.symm) rfl hd hfr ?_ ?_
  · rw [en_vs_cat hs1]
    show 2 * 0 + _ + 12 ≤ _
    omega
  · exact k H locs ls ys ad ⟨hl, hn0, hs1, hr⟩
def en_acb (t0 t1 : Nat × Nat × Int × Int) (n : Nat) : Int × Int := match n == t1.2.1 with
  | true => t0.2.2
  | false => en_hull t1.2.2 t0.2.2
theorem es_copy (C : en_cx p s m args meth c cc nL o D tys aK aV b0) {i j0 j1 n : Nat} {t0 t1 : Nat × Nat × Int × Int} (hf : (o, i) ∈ en_ac) (ht0 : T[j0]? = some (.inl t0)) (ht1 : T[j1]? = some (.inl t1)) (hy0 : t0.1 = 0) (hy1 : t1.1 = 0) (hn0 : n ≤ t0.2.1) (hn1 : n ≤ t1.2.1) (hn : n < 2147483648)
    (hfr : 1 ≤ R.frames) (hlo : S.length + (nativeFrameWords "java/lang/System" "arraycopy" 5 + 11) ≤ R.locals) (hd : decode cc pc = .ok (.invokestatic i, 3)) (k : en_go p l e R s m args below meth c Q D tys b0 nL N0 ad0 (pc + 3, L, S, T.set j1 (.inl (0, t1.2.1, en_acb t0 t1 n)), cs, sl)) :
    en_go p l e R s m args below meth c Q D tys b0 nL N0 ad0 (pc, L, .inl ((n : Int), (n : Int)) :: .inl (0, 0) :: .inr (j1 + 2) :: .inl (0, 0) :: .inr (j0 + 2) :: S, T, cs, sl) := by
  intro H locs ls stk ad h
  dsimp only at h
  obtain ⟨hl, hn9, hs, hW, hS, hr⟩ := h
  obtain ⟨x1, u1, rfl, ⟨nn, rfl, hnn⟩, hs1⟩ := en_vs_cons hs
  obtain ⟨x2, u2, rfl, ⟨dp, rfl, hdp⟩, hs2⟩ := en_vs_cons hs1
  obtain ⟨x3, u3, rfl, hx3, hs3⟩ := en_vs_cons hs2
  obtain ⟨rfl, hj1⟩ : x3 = .ref (ad j1) ∧ j1 < T.length := hx3
  obtain ⟨x4, u4, rfl, ⟨sp, rfl, hsp⟩, hs4⟩ := en_vs_cons hs3
  obtain ⟨x5, u5, rfl, hx5, hs5⟩ := en_vs_cons hs4
  obtain ⟨rfl, hj0⟩ : x5 = .ref (ad j0) ∧ j0 < T.length := hx5
  obtain ⟨ws, w1, w2, w3, w4⟩ := hW
  obtain ⟨e0, g1, cA, f, rfl, g2, g3⟩ := w2 j0 _ ht0
  obtain ⟨e1, q1, cB, g, rfl, q2, q3⟩ := w2 j1 _ ht1
  dsimp only at hnn hdp hsp
  have z1 : sp.toInt = 0 := by omega
  have z2 : dp.toInt = 0 := by omega
  have z3 : nn.toInt = (n : Int) := by omega
  have c1 : sp.toNatClampNeg = 0 := by show sp.toInt.toNat = 0; omega
  have c2 : dp.toNatClampNeg = 0 := by show dp.toInt.toNat = 0; omega
  have c3 : nn.toNatClampNeg = n := by show nn.toInt.toNat = n; omega
  have hw : ∀ w ∈ ([.native arraycopyName, .static arraycopyName, .initialized "java/lang/System"] : List Cond), w ∈ en_ws := fun w hw => en_ws_in (en_ac_c w hw) (by
    rcases List.mem_cons.mp hw with rfl | hw
    · rfl
    · rcases List.mem_cons.mp hw with rfl | hw
      · rfl
      · rw [List.mem_singleton.mp hw]; rfl)
  have hT : (T.set j1 (.inl (0, t1.2.1, en_acb t0 t1 n))).length = T.length := List.length_set
  refine va_copyi C.1 C.2.1 (C.2.2.1.trans hl.1.symm) C.2.2.2.1 (C.2.2.2.2.1 _ (en_ws_in (en_ac_in _ (List.mem_map.mpr ⟨(o, i), hf, rfl⟩)) rfl)) (C.2.2.2.2.1 _ (hw _ List.mem_cons_self)) (C.2.2.2.2.1 _ (hw _ (List.mem_cons_of_mem _ List.mem_cons_self))) (C.2.2.2.2.1 _ (hw _ (List.mem_cons_of_mem _ (List.mem_cons_of_mem _ List.mem_cons_self)))) C.2.2.2.2.2.1 w3 w4 hS j0 j1 t0.1 t1.1 g1 q1 (ty := .int) (by rw [g2, hy0]; rfl) (by rw [q2, hy1]; rfl) rfl
    (by rw [fa_lt]; show ¬ sp.toInt < 0; omega) (by rw [fa_lt]; show ¬ dp.toInt < 0; omega) (by rw [fa_lt]; show ¬ nn.toInt < 0; omega) (by omega) (by omega) (fun _ _ => rfl) hfr (by rw [en_vs_cat hs5]; exact hlo) hd (fun H1 locs1 hP hD hS1 => ?_)
  refine k H1 locs1 ls u5 ad ⟨by dsimp only; rw [hT]; exact hl, hn9, by dsimp only; rw [hT]; exact hs5, en_W.put w1 w2 hP hD ⟨cB, _, rfl, by rw [hy1] at q2; exact q2, fun j hj => ?_⟩, hS1, by dsimp only; rw [hT]; exact hr⟩
  show en_in (en_acb t0 t1 n) _
  rw [c1, c2, c3]
  have hj : j < t1.2.1 := hj
  unfold en_acb
  by_cases hjn : j < n
  · rw [pk_cpy_in (Nat.zero_le _) (by omega)]
    have := g3 (0 + (j - 0)) (by omega)
    split
    · exact this
    · exact en_hull_r this
  · rw [pk_cpy_out (Or.inr (by omega))]
    split
    · rename_i hb
      simp only [beq_iff_eq] at hb
      omega
    · exact en_hull_l (q3 j hj)
end ENH
end
section
def en_mo : List Nat := [8, 7, 1, 3, 0, 6, 10, 4, 2, 5, 8, 8, 8, 7, 8, 7, 11, 0, 0, 7, 7, 7, 0, 0, 0, 0, 7, 7, 7, 0, 11, 0, 0, 0, 0, 0, 7, 7, 0, 7, 8, 3, 3, 3, 3, 7, 3, 3, 3, 3, 3, 3, 8, 3, 3, 6, 5, 8, 8, 1, 1, 6, 6, 6, 4, 1, 1, 3, 1, 1, 8, 1, 3, 1, 1, 6, 1, 1, 1, 1, 3, 1, 1, 1, 6, 1, 0, 0, 0, 0, 0, 1, 1, 1, 0, 6, 1, 1, 4, 8, 8, 8, 8, 8, 8, 8, 8, 3, 8, 8, 8, 2, 2, 2, 8, 8, 8, 8, 8, 8, 8, 2, 2, 8, 5, 8, 8, 6, 8, 8, 8, 8, 8, 3, 6, 9, 9, 9, 9, 9, 9, 9, 9, 9, 9, 9, 9, 9, 9, 9, 9, 9, 9, 9, 9, 9, 9, 9, 9, 9, 9, 9, 9, 9, 9, 9, 9, 9, 9, 9, 9, 9, 9, 9, 9, 9, 9, 9, 9, 9, 9, 9, 9, 9, 9, 9, 9, 9, 9, 9, 9, 9, 9, 9, 9, 9, 9, 9, 9, 9, 9, 9, 9, 9, 9, 9, 9, 9, 9, 9, 9, 9, 9, 9, 9, 9, 9, 9, 9, 9, 9, 9, 9, 9, 9, 9, 9, 9, 9, 9, 9, 9, 9, 9, 9, 9, 9, 9, 9, 9, 9, 9]
theorem en_mo_all : en_ms.length = en_mo.length ∧ (en_ms.zip en_mo).all (fun q => decide (en_nm q.2 = q.1.1.cls)) = true := by decide +kernel
theorem en_mo_ok {i ci : Nat} {r : MethodName × ByteArray × Nat × Option FieldType} (hr : en_ms[i]? = some r) (hc : en_mo[i]? = some ci) : en_nm ci = r.1.cls := by
  have h := List.all_eq_true.mp en_mo_all.2 (r, ci) (List.mem_of_getElem? (i := i) (by rw [List.getElem?_zip_eq_some]; exact ⟨hr, hc⟩))
  simpa using h
theorem en_nm_cl {ci : Nat} {r : vw_C} (h : vwCl[ci]? = some r) : r.1 = en_nm ci := by
  match ci, h with
  | 0, h => cases h; rfl
  | 1, h => cases h; rfl
  | 2, h => cases h; rfl
  | 3, h => cases h; rfl
  | 4, h => cases h; rfl
  | 5, h => cases h; rfl
  | 6, h => cases h; rfl
  | 7, h => cases h; rfl
  | 8, h => cases h; rfl
  | 9, h => cases h; rfl
  | k + 10, h => simp [vwCl] at h
theorem en_v_int {N M : Nat} {ad ad' : Nat → Nat} {r : en_V} {x : Int32} (h : en_v N ad r (.int x)) : en_v M ad' r (.int x) := by
  match r, h with
  | .inl q, h => exact h
  | .inr 0, h => rcases h with h | ⟨a, h⟩ <;> cases h
  | .inr 1, h => cases h
  | .inr (k + 2), h => cases h.1
def en_isI (a : en_V) : Bool := match a with
  | .inl _ => true
  | _ => false
theorem en_vs_ints {N M : Nat} {ad ad' : Nat → Nat} : ∀ {as : List en_V} {xs : List Value}, as.all en_isI = true → en_vs N ad as xs → en_vs M ad' as xs
  | [], [], _, _ => trivial
  | a :: as, x :: xs, h, hx => by
    simp only [List.all_cons, Bool.and_eq_true] at h
    refine ⟨?_, en_vs_ints h.2 hx.2⟩
    match a, h.1, hx.1 with
    | .inl q, _, hx => exact hx
  | [], _ :: _, _, h => h.elim
  | _ :: _, [], _, h => h.elim
theorem en_codeG {mi : Nat} {r : MethodName × ByteArray × Nat × Option FieldType} (hr : en_ms[mi]? = some r) : GoodIn en_ws (Cond.code r.1 r.2.1 r.2.2.1 r.2.2.2 :: en_ws) := by
  intro w hw
  rcases List.mem_cons.mp hw with rfl | hw
  · exact ⟨en_ws_in (en_ms_in r (List.mem_of_getElem? hr)) rfl, good_of_word rfl⟩
  · exact ⟨hw, good_of_word (List.mem_filter.mp hw).2⟩
theorem en_clD {o i kd mi n : Nat} {r : MethodName × ByteArray × Nat × Option FieldType} (hf : en_find o i en_cl = some (kd, mi, n)) (hr : en_ms[mi]? = some r) : (r.1.cls ≠ "java/lang/invoke/MethodHandle" ∧ r.1.cls ≠ "java/lang/invoke/VarHandle" ∧ (parseMethodDescriptor r.1.desc).map (fun d => d.parameters.length) = some n) ∧ (3 ≤ kd → r.1.name = "<init>" ∧ r.2.2.2 = none) := by
  have h := en_cl_ok _ (en_find_mem hf)
  have e : en_cok (o, i, kd, mi, n) = (en_mok r && decide ((parseMethodDescriptor r.1.desc).map (fun d => d.parameters.length) = some n) && (decide (kd < 3) || (decide (r.1.name = "<init>") && decide (r.2.2.2 = none)))) := by
    show (match en_ms[mi]? with
      | some r => _
      | none => _) = _
    rw [hr]
  rw [e] at h
  simp only [en_mok, Bool.and_eq_true, Bool.or_eq_true, decide_eq_true_eq] at h
  obtain ⟨⟨⟨h1, h2⟩, h3⟩, h4⟩ := h
  exact ⟨⟨h1, h2, h3⟩, fun hk => by
    rcases h4 with h4 | h4
    · omega
    · exact h4⟩
theorem en_clW {o i kd mi n : Nat} {r : MethodName × ByteArray × Nat × Option FieldType} (hf : en_find o i en_cl = some (kd, mi, n)) (hr : en_ms[mi]? = some r) : ∀ w ∈ (match kd with
    | 0 => [.methodLink (en_nm o) i r.1, .instanceMethod r.1, .selects r.1.cls r.1 r.1, .initialized r.1.cls]
    | 1 => [.methodLink (en_nm o) i r.1, .static r.1, .initialized r.1.cls]
    | 2 => [.static r.1, .initialized r.1.cls]
    | 3 => [.methodLink (en_nm o) i r.1, .instanceMethod r.1, .initialized r.1.cls]
    | _ => [.instanceMethod r.1, .initialized r.1.cls] : List Cond), w ∈ lw_tbl := by
  intro w hw
  refine en_cl_in _ (en_find_mem hf) w ?_
  show w ∈ (match en_ms[mi]? with
      | some r => _
      | none => _)
  rw [hr]
  exact hw
theorem en_clN {o i kd mi n : Nat} {r : MethodName × ByteArray × Nat × Option FieldType} (hf : en_find o i en_cl = some (kd, mi, n)) (hr : en_ms[mi]? = some r) (hk : kd = 2 ∨ kd = 4) : Cond.methodLinkNest (en_nm o) i r.1 "LoadsAhead" ∈ en_nest := by
  unfold en_nest
  refine List.mem_flatMap.mpr ⟨(o, i, kd, mi, n), List.mem_filter.mpr ⟨en_find_mem hf, by rcases hk with rfl | rfl <;> rfl⟩, ?_⟩
  show _ ∈ (match en_ms[mi]? with
      | some r => _
      | none => _)
  rw [hr]
  exact List.mem_singleton.mpr rfl
section ENC
variable {p : Program} {l : Launch} {e : Env} {R : Room} {s : State} {m : MethodId} {args : Array Value} {below : List Frame} {meth : Method} {c : Code} {Q : State → Prop} {cc : ByteArray} {D : va_G} {tys : List (ClassId × FieldType)} {aK aV b0 nL o N0 : Nat} {ad0 : Nat → Nat}
variable {pc : Nat} {L : en_L} {S : List en_V} {T : en_T} {cs sl : Nat} {κ : en_K}
theorem es_after {H : Heap} {locs : List Loc} {ls : Array Slot} {stk rest : List Value} {ad : Nat → Nat} {av : Array Value} (hlen : T.length = (k_T0 κ).length) (hl : en_l T.length ad L nL ls) (hn : L.length = nL) (hs : en_vs T.length ad S rest) (hS : va_S (fun q => b0 ≤ q) s.heap H locs) (hr : N0 ≤ T.length) (hr2 : ∀ k, k < N0 → ad k = ad0 k)
    (hrun : va_Run p l e R s m args below meth c H locs cs sl (k_mc κ) (k_ms κ) (F0 m pc ls stk) rest (en_qc D tys b0 (k_T0 κ).length ad (k_rv κ) (k_T1 κ) av) (fun q => b0 ≤ q))
    (k : en_go p l e R s m args below meth c Q D tys b0 nL N0 ad0 (pc + 3, L, (k_rv κ).toList ++ S, k_T1 κ, cs + k_mc κ, sl + k_ms κ)) : W p l e R s m args below meth c H locs cs sl Q (F0 m pc ls stk) := by
  cases hrv : k_rv κ with
  | none =>
    rw [hrv] at hrun k
    refine va_callv (a := av) hrun hS (fun q _ h => h) (fun q h => h) (fun u t H1 locs1 ht _ hpost hB _ _ hS1 => ?_)
    obtain ⟨p1, p2⟩ := hpost
    subst ht
    exact k t.heap locs1 ls rest u ⟨en_l_mono (by dsimp only; omega) (fun k hk => p2 k (by omega)) hl, hn, en_vs_mono (by dsimp only; omega) (fun k hk => p2 k (by omega)) hs, hB, hS1, by dsimp only; omega, fun k hk => by rw [p2 k (by omega)]; exact hr2 k hk⟩
  | some r =>
    rw [hrv] at hrun k
    refine va_calli (a := av) hrun hS (fun q _ h => h) (fun q h => h) (fun x u t H1 locs1 ht _ hpost hB _ _ hS1 => ?_)
    obtain ⟨p0, p1, p2⟩ := hpost
    subst ht
    exact k t.heap locs1 ls (.int x :: rest) u ⟨en_l_mono (by dsimp only; omega) (fun k hk => p2 k (by omega)) hl, hn, ⟨p0, en_vs_mono (by dsimp only; omega) (fun k hk => p2 k (by omega)) hs⟩, hB, hS1, by dsimp only; omega, fun k hk => by rw [p2 k (by omega)]; exact hr2 k hk⟩
theorem es_afterP (C : en_cx p s m args meth c cc nL o D tys aK aV b0) {H : Heap} {locs : List Loc} {ls : Array Slot} {stk rest : List Value} {ad : Nat → Nat} {av : Array Value} {n0 : Nat} (hl : en_l T.length ad L nL ls) (hn : L.length = nL) (hs : en_vs T.length ad S rest) (hW : en_W D tys (fun q => b0 ≤ q) T ad H) (hS : va_S (fun q => b0 ≤ q) s.heap H locs) (hr : N0 ≤ T.length) (hr2 : ∀ k, k < N0 → ad k = ad0 k)
    (hrun : va_Run p l e R s m args below meth c H locs cs sl (k_mc κ) (k_ms κ) (F0 m pc ls stk) rest (en_qc D tys H.size n0 ad (k_rv κ) (k_T1 κ) av) (fun q => H.size ≤ q))
    (k : en_go p l e R s m args below meth c Q D tys b0 nL N0 ad0 (pc + 3, L, (k_rv κ).toList ++ S, T, cs + k_mc κ, sl + k_ms κ)) : W p l e R s m args below meth c H locs cs sl Q (F0 m pc ls stk) := by
  have hsz := hS.1
  have hb := C.2.2.2.2.2.2.2.1
  cases hrv : k_rv κ with
  | none =>
    rw [hrv] at hrun k
    refine va_callv (a := av) hrun hS (fun q h1 h2 => absurd h2 (by omega)) (fun q (h : H.size ≤ q) => by show b0 ≤ q; omega) (fun u t H1 locs1 ht _ hpost hB _ hfr hS1 => ?_)
    exact k H1 locs1 ls rest ad ⟨hl, hn, hs, hW.kept (fun q hq => hfr q hq (by omega)), hS1, hr, hr2⟩
  | some r =>
    rw [hrv] at hrun k
    refine va_calli (a := av) hrun hS (fun q h1 h2 => absurd h2 (by omega)) (fun q (h : H.size ≤ q) => by show b0 ≤ q; omega) (fun x u t H1 locs1 ht _ hpost hB _ hfr hS1 => ?_)
    exact k H1 locs1 ls (.int x :: rest) ad ⟨hl, hn, ⟨en_v_int hpost.1, hs⟩, hW.kept (fun q hq => hfr q hq (by omega)), hS1, hr, hr2⟩
theorem en_pre (C : en_cx p s m args meth c cc nL o D tys aK aV b0) {H : Heap} {locs : List Loc} {ad : Nat → Nat} {as : List Value} (hW : en_W D tys (fun q => b0 ≤ q) T ad H) (hS : va_S (fun q => b0 ≤ q) s.heap H locs) (hT : en_all2 en_cle T (k_T0 κ) = true) : ∀ U : State, U.heap = H → s.WarmedH U.vm → en_pc D tys aK aV b0 (k_T0 κ) ad as as.toArray U := by
  intro U hU hw
  refine ⟨rfl, ?_, by rw [hU]; exact hW.le hT, va_K.moved hw.alike C.2.2.2.2.2.1, C.2.2.2.2.2.2.2.2.1.go (Nat.le_refl _) hS hU hw⟩
  rw [hU]
  exact Nat.le_trans C.2.2.2.2.2.2.2.1 hS.1
theorem en_preP (C : en_cx p s m args meth c cc nL o D tys aK aV b0) {H : Heap} {locs : List Loc} {ad : Nat → Nat} {as : List Value} (hS : va_S (fun q => b0 ≤ q) s.heap H locs) : ∀ U : State, U.heap = H → s.WarmedH U.vm → en_pc D tys aK aV H.size [] ad as as.toArray U := by
  intro U hU hw
  refine ⟨rfl, by rw [hU]; exact Nat.le_refl _, ⟨[], rfl, fun k t h => by simp at h, fun k q h => by simp at h, ⟨fun i j p q h => by simp at h, fun k q h => by simp at h⟩⟩, va_K.moved hw.alike C.2.2.2.2.2.1, C.2.2.2.2.2.2.2.2.1.go (Nat.le_trans C.2.2.2.2.2.2.2.1 hS.1) hS hU hw⟩
theorem en_args {N : Nat} {ad : Nat → Nat} {A B : List en_V} {xs : List Value} (h : en_vs N ad A xs) (hA : en_all2 en_le A.reverse B = true) : en_vs N ad B xs.reverse := en_all2_vs hA (en_vs_rev h)
theorem es_callV (C : en_cx p s m args meth c cc nL o D tys aK aV b0) {i mi n j ci : Nat} {r : MethodName × ByteArray × Nat × Option FieldType} {A fs : List en_V} {rc : vw_C} (hf : en_find o i en_cl = some (0, mi, n)) (hr : en_ms[mi]? = some r) (hκ : en_ok l κ) (hm : κ.1 = mi) (hA : A.length = n) (hav : en_all2 en_le (.inr (j + 2) :: A.reverse) κ.2.1 = true) (hT : en_all2 en_cle T (k_T0 κ) = true)
    (hj : T[j]? = some (.inr (ci, fs))) (hrc : vwCl[ci]? = some rc) (hmo : en_mo[mi]? = some ci) (hfr : k_fr κ + 1 ≤ R.frames) (hlo : 8 + (r.2.2.1 + 11) + k_lo κ ≤ R.locals) (hc1 : cs + k_mc κ ≤ R.cells) (hc2 : sl + k_ms κ ≤ R.slots) (hS8 : S.length ≤ 8) (hd : decode cc pc = .ok (.invokevirtual i, 3))
    (k : en_go p l e R s m args below meth c Q D tys b0 nL N0 ad0 (pc + 3, L, (k_rv κ).toList ++ S, k_T1 κ, cs + k_mc κ, sl + k_ms κ)) : en_go p l e R s m args below meth c Q D tys b0 nL N0 ad0 (pc, L, A ++ .inr (j + 2) :: S, T, cs, sl) := by
  intro H locs ls stk ad h
  dsimp only at h
  obtain ⟨hl, hn0, hs, hW, hS, hr1, hr2⟩ := h
  obtain ⟨xs, us, rfl, hs1, hs2⟩ := en_vs_app hs
  obtain ⟨x, ys, rfl, hx, hs3⟩ := en_vs_cons hs2
  have hx0 := hx
  obtain ⟨rfl, hjl⟩ : x = .ref (ad j) ∧ j < T.length := hx
  subst hm
  have hlen := en_all2_len hT
  have hW0 := hW
  obtain ⟨ws, w1, w2, w3, w4⟩ := hW
  obtain ⟨e0, g1, vs, rfl, g2⟩ := w2 j _ hj
  have hM := hκ r hr D tys aK aV b0 C.2.2.2.2.2.2.1 (Value.ref (ad j) :: xs.reverse) ad (by rw [← hlen]; exact en_all2_vs hav ⟨hx0, en_vs_rev hs1⟩)
  have hD := (en_clD hf hr).1
  have hw := en_clW hf hr
  have hts := C.2.2.2.2.1
  have hB := callB_of (own := en_nm o) (index := i) (R := R) (rm := en_rm κ) (mc := k_mc κ) (ms := k_ms κ) n hts (en_codeG hr) rfl rfl rfl (hts _ (en_ws_in (hw (.initialized r.1.cls) (by simp)) rfl)) (hts _ (en_ws_in (hw (.methodLink (en_nm o) i r.1) (by simp)) rfl)) hD ⟨hfr, hlo⟩
  have hrecv := va_recv C.2.2.2.2.2.1 w3 hrc g1
  rw [(en_nm_cl hrc).trans (en_mo_ok hr hmo)] at hrecv
  refine es_after hlen hl hn0 hs3 hS hr1 hr2 (va_runV (C := r.1.cls) (As := xs.reverse) (rest := ys) ⟨C.1, C.2.1, C.2.2.1, C.2.2.2.1, hts⟩ hM ⟨hB, hts _ (en_ws_in (hw (.instanceMethod r.1) (by simp)) rfl), hts _ (en_ws_in (hw (.selects r.1.cls r.1 r.1) (by simp)) rfl)⟩ ⟨en_pc_blind, hrecv, en_pre C hW0 hS hT⟩ rfl (by rw [List.length_reverse, ← en_vs_len hs1]; exact hA) hl.1 (by rw [List.reverse_reverse]) (lv_room (by rw [en_vs_cat hs3]; exact hS8)) hd ⟨hc1, hc2⟩) k
theorem es_callI (C : en_cx p s m args meth c cc nL o D tys aK aV b0) {i mi n j kd : Nat} {r : MethodName × ByteArray × Nat × Option FieldType} {A : List en_V} (hf : en_find o i en_cl = some (kd, mi, n)) (hkd : kd = 3 ∨ kd = 4) (hr : en_ms[mi]? = some r) (hκ : en_ok l κ) (hm : κ.1 = mi) (hA : A.length = n) (hav : en_all2 en_le (.inr (j + 2) :: A.reverse) κ.2.1 = true) (hT : en_all2 en_cle T (k_T0 κ) = true)
    (hfr : k_fr κ + 1 ≤ R.frames) (hlo : 8 + (r.2.2.1 + 11) + k_lo κ ≤ R.locals) (hc1 : cs + k_mc κ ≤ R.cells) (hc2 : sl + k_ms κ ≤ R.slots) (hS8 : S.length ≤ 8) (hd : decode cc pc = .ok (.invokespecial i, 3))
    (k : en_go p l e R s m args below meth c Q D tys b0 nL N0 ad0 (pc + 3, L, (k_rv κ).toList ++ S, k_T1 κ, cs + k_mc κ, sl + k_ms κ)) : en_go p l e R s m args below meth c Q D tys b0 nL N0 ad0 (pc, L, A ++ .inr (j + 2) :: S, T, cs, sl) := by
  intro H locs ls stk ad h
  dsimp only at h
  obtain ⟨hl, hn0, hs, hW, hS, hr1, hr2⟩ := h
  obtain ⟨xs, us, rfl, hs1, hs2⟩ := en_vs_app hs
  obtain ⟨x, ys, rfl, hx, hs3⟩ := en_vs_cons hs2
  have hx0 := hx
  obtain ⟨rfl, hjl⟩ : x = .ref (ad j) ∧ j < T.length := hx
  subst hm
  have hlen := en_all2_len hT
  have hM := hκ r hr D tys aK aV b0 C.2.2.2.2.2.2.1 (Value.ref (ad j) :: xs.reverse) ad (by rw [← hlen]; exact en_all2_vs hav ⟨hx0, en_vs_rev hs1⟩)
  have hD := (en_clD hf hr).1
  obtain ⟨hnm, hret⟩ := (en_clD hf hr).2 (by omega)
  have hw := en_clW hf hr
  have hts := C.2.2.2.2.1
  have hG := en_codeG hr
  obtain ⟨y, code, ml, rt⟩ := r
  dsimp only at hret hnm hM hD hw hG hlo
  subst hret
  rcases hkd with rfl | rfl
  · have hB := callB_of (own := en_nm o) (index := i) (R := R) (rm := en_rm κ) (mc := k_mc κ) (ms := k_ms κ) n hts hG rfl rfl rfl (hts _ (en_ws_in (hw (.initialized y.cls) (by simp)) rfl)) (hts _ (en_ws_in (hw (.methodLink (en_nm o) i y) (by simp)) rfl)) hD ⟨hfr, hlo⟩
    exact es_after hlen hl hn0 hs3 hS hr1 hr2 (va_runI (As := xs.reverse) (rest := ys) ⟨C.1, C.2.1, C.2.2.1, C.2.2.2.1, hts⟩ hM ⟨hB, hnm, hts _ (en_ws_in (hw (.instanceMethod y) (by simp)) rfl)⟩ ⟨en_pc_blind, en_pre C hW hS hT⟩ rfl (by rw [List.length_reverse, ← en_vs_len hs1]; exact hA) hl.1 (by rw [List.reverse_reverse]) (lv_room (by rw [en_vs_cat hs3]; exact hS8)) hd ⟨hc1, hc2⟩) k
  · have hB := va_cnB (own := en_nm o) (host := "LoadsAhead") (index := i) (R := R) (rm := en_rm κ) (mc := k_mc κ) (ms := k_ms κ) n hts hG rfl rfl rfl (C.2.2.2.2.2.2.2.2.1.1 _ (en_clN hf hr (Or.inr rfl))) (hts _ (en_ws_in (hw (.initialized y.cls) (by simp)) rfl)) hD ⟨hfr, hlo⟩
    exact es_after hlen hl hn0 hs3 hS hr1 hr2 (va_runIN (host := "LoadsAhead") (As := xs.reverse) (rest := ys) ⟨C.1, C.2.1, C.2.2.1, C.2.2.2.1, hts⟩ hM ⟨hB, hnm, hts _ (en_ws_in (hw (.instanceMethod y) (by simp)) rfl)⟩ ⟨en_pc_blind, en_pre C hW hS hT⟩ rfl (by rw [List.length_reverse, ← en_vs_len hs1]; exact hA) hl.1 (by rw [List.reverse_reverse]) (lv_room (by rw [en_vs_cat hs3]; exact hS8)) hd ⟨hc1, hc2⟩) k
theorem es_callS (C : en_cx p s m args meth c cc nL o D tys aK aV b0) {i mi n kd : Nat} {r : MethodName × ByteArray × Nat × Option FieldType} {A : List en_V} (hf : en_find o i en_cl = some (kd, mi, n)) (hkd : kd = 1 ∨ kd = 2) (hr : en_ms[mi]? = some r) (hκ : en_ok l κ) (hm : κ.1 = mi) (hA : A.length = n) (hav : en_all2 en_le A.reverse κ.2.1 = true) (hT : en_all2 en_cle T (k_T0 κ) = true)
    (hfr : k_fr κ + 1 ≤ R.frames) (hlo : 8 + (r.2.2.1 + 11) + k_lo κ ≤ R.locals) (hc1 : cs + k_mc κ ≤ R.cells) (hc2 : sl + k_ms κ ≤ R.slots) (hS8 : S.length ≤ 8) (hd : decode cc pc = .ok (.invokestatic i, 3))
    (k : en_go p l e R s m args below meth c Q D tys b0 nL N0 ad0 (pc + 3, L, (k_rv κ).toList ++ S, k_T1 κ, cs + k_mc κ, sl + k_ms κ)) : en_go p l e R s m args below meth c Q D tys b0 nL N0 ad0 (pc, L, A ++ S, T, cs, sl) := by
  intro H locs ls stk ad h
  dsimp only at h
  obtain ⟨hl, hn0, hs, hW, hS, hr1, hr2⟩ := h
  obtain ⟨xs, ys, rfl, hs1, hs3⟩ := en_vs_app hs
  subst hm
  have hlen := en_all2_len hT
  have hM := hκ r hr D tys aK aV b0 C.2.2.2.2.2.2.1 xs.reverse ad (by rw [← hlen]; exact en_args hs1 hav)
  have hD := (en_clD hf hr).1
  have hw := en_clW hf hr
  have hts := C.2.2.2.2.1
  rcases hkd with rfl | rfl
  · have hB := callB_of (own := en_nm o) (index := i) (R := R) (rm := en_rm κ) (mc := k_mc κ) (ms := k_ms κ) n hts (en_codeG hr) rfl rfl rfl (hts _ (en_ws_in (hw (.initialized r.1.cls) (by simp)) rfl)) (hts _ (en_ws_in (hw (.methodLink (en_nm o) i r.1) (by simp)) rfl)) hD ⟨hfr, hlo⟩
    exact es_after hlen hl hn0 hs3 hS hr1 hr2 (va_runS (As := xs.reverse) (rest := ys) ⟨C.1, C.2.1, C.2.2.1, C.2.2.2.1, hts⟩ hM ⟨hB, hts _ (en_ws_in (hw (.static r.1) (by simp)) rfl)⟩ ⟨en_pc_blind, en_pre C hW hS hT⟩ rfl (by rw [List.length_reverse, ← en_vs_len hs1]; exact hA) hl.1 (by rw [List.reverse_reverse]) (lv_room (by rw [en_vs_cat hs3]; exact hS8)) hd ⟨hc1, hc2⟩) k
  · have hB := va_cnB (own := en_nm o) (host := "LoadsAhead") (index := i) (R := R) (rm := en_rm κ) (mc := k_mc κ) (ms := k_ms κ) n hts (en_codeG hr) rfl rfl rfl (C.2.2.2.2.2.2.2.2.1.1 _ (en_clN hf hr (Or.inl rfl))) (hts _ (en_ws_in (hw (.initialized r.1.cls) (by simp)) rfl)) hD ⟨hfr, hlo⟩
    exact es_after hlen hl hn0 hs3 hS hr1 hr2 (va_runSN (host := "LoadsAhead") (As := xs.reverse) (rest := ys) ⟨C.1, C.2.1, C.2.2.1, C.2.2.2.1, hts⟩ hM ⟨hB, hts _ (en_ws_in (hw (.static r.1) (by simp)) rfl), trivial⟩ ⟨en_pc_blind, en_pre C hW hS hT⟩ rfl (by rw [List.length_reverse, ← en_vs_len hs1]; exact hA) hl.1 (by rw [List.reverse_reverse]) (lv_room (by rw [en_vs_cat hs3]; exact hS8)) hd ⟨hc1, hc2⟩) k
theorem es_callP (C : en_cx p s m args meth c cc nL o D tys aK aV b0) {i mi n kd : Nat} {r : MethodName × ByteArray × Nat × Option FieldType} {A : List en_V} (hf : en_find o i en_cl = some (kd, mi, n)) (hkd : kd = 1 ∨ kd = 2) (hr : en_ms[mi]? = some r) (hκ : en_ok l κ) (hm : κ.1 = mi) (hA : A.length = n) (hav : en_all2 en_le A.reverse κ.2.1 = true) (hT : k_T0 κ = []) (hI : κ.2.1.all en_isI = true)
    (hfr : k_fr κ + 1 ≤ R.frames) (hlo : 8 + (r.2.2.1 + 11) + k_lo κ ≤ R.locals) (hc1 : cs + k_mc κ ≤ R.cells) (hc2 : sl + k_ms κ ≤ R.slots) (hS8 : S.length ≤ 8) (hd : decode cc pc = .ok (.invokestatic i, 3))
    (k : en_go p l e R s m args below meth c Q D tys b0 nL N0 ad0 (pc + 3, L, (k_rv κ).toList ++ S, T, cs + k_mc κ, sl + k_ms κ)) : en_go p l e R s m args below meth c Q D tys b0 nL N0 ad0 (pc, L, A ++ S, T, cs, sl) := by
  intro H locs ls stk ad h
  dsimp only at h
  obtain ⟨hl, hn0, hs, hW, hS, hr1, hr2⟩ := h
  obtain ⟨xs, ys, rfl, hs1, hs3⟩ := en_vs_app hs
  subst hm
  have hM := hκ r hr D tys aK aV H.size C.2.2.2.2.2.2.1 xs.reverse ad (en_vs_ints hI (en_args hs1 hav))
  have hD := (en_clD hf hr).1
  have hw := en_clW hf hr
  have hts := C.2.2.2.2.1
  rw [hT] at hM
  rcases hkd with rfl | rfl
  · have hB := callB_of (own := en_nm o) (index := i) (R := R) (rm := en_rm κ) (mc := k_mc κ) (ms := k_ms κ) n hts (en_codeG hr) rfl rfl rfl (hts _ (en_ws_in (hw (.initialized r.1.cls) (by simp)) rfl)) (hts _ (en_ws_in (hw (.methodLink (en_nm o) i r.1) (by simp)) rfl)) hD ⟨hfr, hlo⟩
    exact es_afterP C hl hn0 hs3 hW hS hr1 hr2 (va_runS (As := xs.reverse) (rest := ys) ⟨C.1, C.2.1, C.2.2.1, C.2.2.2.1, hts⟩ hM ⟨hB, hts _ (en_ws_in (hw (.static r.1) (by simp)) rfl)⟩ ⟨en_pc_blind, en_preP C hS⟩ rfl (by rw [List.length_reverse, ← en_vs_len hs1]; exact hA) hl.1 (by rw [List.reverse_reverse]) (lv_room (by rw [en_vs_cat hs3]; exact hS8)) hd ⟨hc1, hc2⟩) k
  · have hB := va_cnB (own := en_nm o) (host := "LoadsAhead") (index := i) (R := R) (rm := en_rm κ) (mc := k_mc κ) (ms := k_ms κ) n hts (en_codeG hr) rfl rfl rfl (C.2.2.2.2.2.2.2.2.1.1 _ (en_clN hf hr (Or.inl rfl))) (hts _ (en_ws_in (hw (.initialized r.1.cls) (by simp)) rfl)) hD ⟨hfr, hlo⟩
    exact es_afterP C hl hn0 hs3 hW hS hr1 hr2 (va_runSN (host := "LoadsAhead") (As := xs.reverse) (rest := ys) ⟨C.1, C.2.1, C.2.2.1, C.2.2.2.1, hts⟩ hM ⟨hB, hts _ (en_ws_in (hw (.static r.1) (by simp)) rfl), trivial⟩ ⟨en_pc_blind, en_preP C hS⟩ rfl (by rw [List.length_reverse, ← en_vs_len hs1]; exact hA) hl.1 (by rw [List.reverse_reverse]) (lv_room (by rw [en_vs_cat hs3]; exact hS8)) hd ⟨hc1, hc2⟩) k
end ENC
end
section
def en_pick (K : List en_K) (mi : Nat) (as : List en_V) (T : en_T) : Option en_K := K.find? (fun κ => κ.1 == mi && (en_all2 en_le as κ.2.1 && en_all2 en_cle T (k_T0 κ)))
def en_pickP (K : List en_K) (mi : Nat) (as : List en_V) : Option en_K := K.find? (fun κ => κ.1 == mi && ((k_T0 κ).isEmpty && (en_all2 en_le as κ.2.1 && κ.2.1.all en_isI)))
def en_room (rm : Nat × Nat × Nat × Nat) (κ : en_K) (ml cs sl n : Nat) : Bool := decide (k_fr κ + 1 ≤ rm.1) && (decide (8 + (ml + 11) + k_lo κ ≤ rm.2.1) && (decide (cs + k_mc κ ≤ rm.2.2.1) && (decide (sl + k_ms κ ≤ rm.2.2.2) && decide (n ≤ 8))))
def en_cV (o : Nat) (K : List en_K) (rm : Nat × Nat × Nat × Nat) (i len pc : Nat) (L : en_L) (S : List en_V) (T : en_T) (cs sl : Nat) : Option (List en_S) := match en_find o i en_cl with
  | some (kd, mi, n) => match S.drop n with
    | .inr (j + 2) :: S' => match T[j]? with
      | some (.inr q) => match en_ms[mi]? with
        | some r => match en_mo[mi]? with
          | some ci => match vwCl[ci]? with
            | some _ => match en_pick K mi (.inr (j + 2) :: (S.take n).reverse) T with
              | some κ => en_g (kd == 0 && (len == 3 && (q.1 == ci && ((S.take n).length == n && en_room rm κ r.2.2.1 cs sl S'.length)))) (some [(pc + 3, L, (k_rv κ).toList ++ S', k_T1 κ, cs + k_mc κ, sl + k_ms κ)])
              | none => none
            | none => none
          | none => none
        | none => none
      | _ => none
    | _ => none
  | none => none
def en_cI (o : Nat) (K : List en_K) (rm : Nat × Nat × Nat × Nat) (i len pc : Nat) (L : en_L) (S : List en_V) (T : en_T) (cs sl : Nat) : Option (List en_S) := match en_find o i en_cl with
  | some (kd, mi, n) => match S.drop n with
    | .inr (j + 2) :: S' => match en_ms[mi]? with
      | some r => match en_pick K mi (.inr (j + 2) :: (S.take n).reverse) T with
        | some κ => en_g ((kd == 3 || kd == 4) && (len == 3 && ((S.take n).length == n && en_room rm κ r.2.2.1 cs sl S'.length))) (some [(pc + 3, L, (k_rv κ).toList ++ S', k_T1 κ, cs + k_mc κ, sl + k_ms κ)])
        | none => none
      | none => none
    | _ => none
  | none => match S with
    | .inr (_ + 2) :: S' => en_g (en_oi.contains (o, i) && (len == 3 && (decide (1 ≤ rm.1) && decide (S'.length + 12 ≤ rm.2.1)))) (some [(pc + 3, L, S', T, cs, sl)])
    | _ => none
def en_cS (o : Nat) (K : List en_K) (rm : Nat × Nat × Nat × Nat) (i len pc : Nat) (L : en_L) (S : List en_V) (T : en_T) (cs sl : Nat) : Option (List en_S) := match en_find o i en_cl with
  | some (kd, mi, n) => match en_ms[mi]? with
    | some r => match en_pickP K mi (S.take n).reverse with
      | some κ => en_g ((kd == 1 || kd == 2) && (len == 3 && ((S.take n).length == n && en_room rm κ r.2.2.1 cs sl (S.drop n).length))) (some [(pc + 3, L, (k_rv κ).toList ++ S.drop n, T, cs + k_mc κ, sl + k_ms κ)])
      | none => match en_pick K mi (S.take n).reverse T with
        | some κ => en_g ((kd == 1 || kd == 2) && (len == 3 && ((S.take n).length == n && en_room rm κ r.2.2.1 cs sl (S.drop n).length))) (some [(pc + 3, L, (k_rv κ).toList ++ S.drop n, k_T1 κ, cs + k_mc κ, sl + k_ms κ)])
        | none => none
    | none => none
  | none => match S with
    | .inl n :: .inl d :: .inr (j1 + 2) :: .inl a :: .inr (j0 + 2) :: S' => match T[j0]? with
      | some (.inl t0) => match T[j1]? with
        | some (.inl t1) => en_g (en_ac.contains (o, i) && (len == 3 && (decide (n.1 = n.2) && (decide (0 ≤ n.1) && (decide (d = (0, 0)) && (decide (a = (0, 0)) && (t0.1 == 0 && (t1.1 == 0 && (decide (n.1.toNat ≤ t0.2.1) && (decide (n.1.toNat ≤ t1.2.1) && (decide (n.1.toNat < 2147483648) && (decide (1 ≤ rm.1) && decide (S'.length + (nativeFrameWords "java/lang/System" "arraycopy" 5 + 11) ≤ rm.2.1))))))))))))) (some [(pc + 3, L, S', T.set j1 (.inl (0, t1.2.1, en_acb t0 t1 n.1.toNat)), cs, sl)])
        | _ => none
      | _ => none
    | _ => none
def en_bn (f : Int × Int → Int × Int → Int × Int) (len pc : Nat) (L : en_L) (S : List en_V) (T : en_T) (cs sl : Nat) : Option (List en_S) := match S with
  | .inl r :: .inl q :: S' => en_g (len == 1) (some [(pc + 1, L, .inl (f q r) :: S', T, cs, sl)])
  | _ => none
def en_st (k i len pc : Nat) (L : en_L) (S : List en_V) (T : en_T) (cs sl : Nat) : Option (List en_S) := match S with
  | .inl q :: S' => en_g (len == k && decide (i < L.length)) (some [(pc + k, L.set i (some (.inl q)), S', T, cs, sl)])
  | _ => none
def en_sa (k i len pc : Nat) (L : en_L) (S : List en_V) (T : en_T) (cs sl : Nat) : Option (List en_S) := match S with
  | .inr (j + 2) :: S' => en_g (len == k && decide (i < L.length)) (some [(pc + k, L.set i (some (.inr (j + 2))), S', T, cs, sl)])
  | _ => none
def en_ld (k i len pc : Nat) (L : en_L) (S : List en_V) (T : en_T) (cs sl : Nat) : Option (List en_S) := match L[i]? with
  | some (some (.inl q)) => en_g (len == k) (some [(pc + k, L, .inl q :: S, T, cs, sl)])
  | _ => none
def en_la (k i len pc : Nat) (L : en_L) (S : List en_V) (T : en_T) (cs sl : Nat) : Option (List en_S) := match L[i]? with
  | some (some (.inr (j + 2))) => en_g (len == k) (some [(pc + k, L, .inr (j + 2) :: S, T, cs, sl)])
  | _ => none
def en_kn (k : Nat) (v : Int32) (len pc : Nat) (L : en_L) (S : List en_V) (T : en_T) (cs sl : Nat) : Option (List en_S) := en_g (len == k) (some [(pc + k, L, .inl (v.toInt, v.toInt) :: S, T, cs, sl)])
def en_al (i0 i1 len pc : Nat) (L : en_L) (S : List en_V) (T : en_T) (cs sl : Nat) : Option (List en_S) := match S with
  | .inl q :: .inr (j + 2) :: S' => match T[j]? with
    | some (.inl t) => en_g ((t.1 == i0 || t.1 == i1) && (len == 1 && (decide (0 ≤ q.1) && decide (q.2 < t.2.1)))) (some [(pc + 1, L, .inl t.2.2 :: S', T, cs, sl)])
    | _ => none
  | _ => none
def en_as (b : Bool) (len pc : Nat) (L : en_L) (S : List en_V) (T : en_T) (cs sl : Nat) : Option (List en_S) := match S with
  | .inl v :: .inl q :: .inr (j + 2) :: S' => match T[j]? with
    | some (.inl t) => en_g ((match b with
        | true => t.1 == 0
        | false => (t.1 == 2 && (decide (-128 ≤ v.1) && decide (v.2 ≤ 127))) || (t.1 == 1 && (decide (0 ≤ v.1) && decide (v.2 ≤ 1)))) && (len == 1 && (decide (0 ≤ q.1) && decide (q.2 < t.2.1)))) (some [(pc + 1, L, S', T.set j (.inl (t.1, t.2.1, en_hull t.2.2 v)), cs, sl)])
    | _ => none
  | _ => none
def en_op (o : Nat) (K : List en_K) (rm : Nat × Nat × Nat × Nat) (ini : Bool) (op : Instr) (len pc : Nat) (L : en_L) (S : List en_V) (T : en_T) (cs sl : Nat) : Option (List en_S) := match op with
  | .iconst n => en_kn 1 (Int32.ofInt n) len pc L S T cs sl
  | .bipush n => en_kn 2 (Int8.ofInt n).toInt32 len pc L S T cs sl
  | .sipush n => en_kn 3 (Int16.ofInt n).toInt32 len pc L S T cs sl
  | .ldc i => match en_find o i en_kc with
    | some v => en_kn 2 (Int32.ofInt v) len pc L S T cs sl
    | none => none
  | .ldc_w i => match en_find o i en_kc with
    | some v => en_kn 3 (Int32.ofInt v) len pc L S T cs sl
    | none => none
  | .iload_n k => en_ld 1 k.val len pc L S T cs sl
  | .iload i => en_ld 2 i len pc L S T cs sl
  | .aload_n k => en_la 1 k.val len pc L S T cs sl
  | .aload i => en_la 2 i len pc L S T cs sl
  | .istore_n k => en_st 1 k.val len pc L S T cs sl
  | .istore i => en_st 2 i len pc L S T cs sl
  | .astore_n k => en_sa 1 k.val len pc L S T cs sl
  | .astore i => en_sa 2 i len pc L S T cs sl
  | .iinc i n => match L[i]? with
    | some (some (.inl q)) => en_g (len == 3) (some [(pc + 3, L.set i (some (.inl (en_add q ((Int32.ofInt n).toInt, (Int32.ofInt n).toInt)))), S, T, cs, sl)])
    | _ => none
  | .iadd => en_bn en_add len pc L S T cs sl
  | .isub => en_bn en_sub len pc L S T cs sl
  | .imul => en_bn en_mul len pc L S T cs sl
  | .iand => en_bn en_and len pc L S T cs sl
  | .ishr => en_bn (fun _ _ => en_full) len pc L S T cs sl
  | .iushr => en_bn (fun _ _ => en_full) len pc L S T cs sl
  | .i2b => match S with
    | .inl _ :: S' => en_g (len == 1) (some [(pc + 1, L, .inl (-128, 127) :: S', T, cs, sl)])
    | _ => none
  | .dup => match S with
    | a :: S' => en_g (len == 1) (some [(pc + 1, L, a :: a :: S', T, cs, sl)])
    | _ => none
  | .pop => match S with
    | _ :: S' => en_g (len == 1) (some [(pc + 1, L, S', T, cs, sl)])
    | _ => none
  | .goto off => en_g (len == 3 && decide (0 ≤ (pc : Int) + off)) (some [(((pc : Int) + off).toNat, L, S, T, cs, sl)])
  | .if_icmp cd off => match S with
    | .inl r :: .inl q :: S' => en_g (len == 3 && decide (0 ≤ (pc : Int) + off)) (some (en_br (en_may cd q r) (((pc : Int) + off).toNat, L, S', T, cs, sl) (pc + 3, L, S', T, cs, sl)))
    | _ => none
  | .ifCond cd off => match S with
    | .inl q :: S' => en_g (len == 3 && decide (0 ≤ (pc : Int) + off)) (some (en_br (en_may cd q (0, 0)) (((pc : Int) + off).toNat, L, S', T, cs, sl) (pc + 3, L, S', T, cs, sl)))
    | _ => none
  | .tableswitch d lo hi offs => match S with
    | .inl q :: S' => match en_tsw pc d lo hi offs q with
      | some t => en_g (decide (0 ≤ t)) (some [(t.toNat, L, S', T, cs, sl)])
      | none => none
    | _ => none
  | .arraylength => match S with
    | .inr (j + 2) :: S' => match T[j]? with
      | some (.inl t) => en_g (len == 1 && decide (t.2.1 < 2147483648)) (some [(pc + 1, L, .inl ((t.2.1 : Int), (t.2.1 : Int)) :: S', T, cs, sl)])
      | _ => none
    | _ => none
  | .iaload => en_al 0 0 len pc L S T cs sl
  | .baload => en_al 1 2 len pc L S T cs sl
  | .iastore => en_as true len pc L S T cs sl
  | .bastore => en_as false len pc L S T cs sl
  | .getfield i => match en_find o i en_fl with
    | some (ci, f) => match S with
      | .inr (j + 2) :: S' => match T[j]? with
        | some (.inr q) => match vwCl[ci]? with
          | some r => match q.2[f]? with
            | some a => en_g (len == 3 && (q.1 == ci && decide (f < r.2.2))) (some [(pc + 3, L, a :: S', T, cs, sl)])
            | none => none
          | none => none
        | _ => none
      | _ => none
    | none => none
  | .putfield i => match en_find o i en_fl with
    | some (ci, f) => match S with
      | a :: .inr (j + 2) :: S' => match T[j]? with
        | some (.inr q) => match vwCl[ci]? with
          | some r => en_g (len == 3 && (q.1 == ci && (decide (f < r.2.2) && (decide (f < q.2.length) && (en_put (en_tyX ci f) a && (!(r.2.1 f).2.2.2 || (ini && o == ci))))))) (some [(pc + 3, L, S', T.set j (.inr (ci, q.2.set f a)), cs, sl)])
          | none => none
        | _ => none
      | _ => none
    | none => none
  | .new i => match en_find o i en_nw with
    | some ci => match vwCl[ci]? with
      | some r => en_g (len == 3 && ((List.range r.2.2).all (fun j => en_dok (en_tyX ci j)) && (decide (cs + 1 ≤ rm.2.2.1) && decide (sl + r.2.2 ≤ rm.2.2.2)))) (some [(pc + 3, L, .inr (T.length + 2) :: S, T ++ [.inr (ci, en_df ci r.2.2)], cs + 1, sl + r.2.2)])
      | none => none
    | none => none
  | .newarray at0 => match S with
    | .inl q :: S' => match (match at0 with
        | .int => some 0
        | .boolean => some 1
        | .byte => some 2
        | _ => none : Option Nat) with
      | some t => en_g (len == 2 && (decide (q.1 = q.2) && (decide (0 ≤ q.1) && (decide (q.1.toNat ≤ 100000) && (decide (cs + 1 ≤ rm.2.2.1) && decide (sl + q.1.toNat ≤ rm.2.2.2)))))) (some [(pc + 2, L, .inr (T.length + 2) :: S', T ++ [.inl (t, q.1.toNat, 0, 0)], cs + 1, sl + q.1.toNat)])
      | none => none
    | _ => none
  | .invokevirtual i => en_cV o K rm i len pc L S T cs sl
  | .invokespecial i => en_cI o K rm i len pc L S T cs sl
  | .invokestatic i => en_cS o K rm i len pc L S T cs sl
  | _ => none
section END
variable {p : Program} {l : Launch} {e : Env} {R : Room} {s : State} {m : MethodId} {args : Array Value} {below : List Frame} {meth : Method} {c : Code} {Q : State → Prop} {cc : ByteArray} {D : va_G} {tys : List (ClassId × FieldType)} {aK aV b0 nL o N0 : Nat} {ad0 : Nat → Nat}
variable {pc len : Nat} {L : en_L} {S : List en_V} {T : en_T} {cs sl : Nat} {ss : List en_S} {K : List en_K} {rm : Nat × Nat × Nat × Nat} {ini : Bool}
theorem en_one {st : en_S} {x : Option (List en_S)} {b : Bool} (h : en_g b (some [st]) = some ss) (k : ∀ st ∈ ss, en_go p l e R s m args below meth c Q D tys b0 nL N0 ad0 st) : b = true ∧ en_go p l e R s m args below meth c Q D tys b0 nL N0 ad0 st := by
  obtain ⟨h1, h2⟩ := en_g_some h
  cases h2
  exact ⟨h1, k _ List.mem_cons_self⟩
theorem ok_kn {j : Nat} {v : Int32} (h : en_kn j v len pc L S T cs sl = some ss) (k : ∀ st ∈ ss, en_go p l e R s m args below meth c Q D tys b0 nL N0 ad0 st) : len = j ∧ en_go p l e R s m args below meth c Q D tys b0 nL N0 ad0 (pc + j, L, .inl (v.toInt, v.toInt) :: S, T, cs, sl) := by
  obtain ⟨h1, h2⟩ := en_one (x := none) h k
  exact ⟨by simpa using h1, h2⟩
theorem ok_ld {j i : Nat} (h : en_ld j i len pc L S T cs sl = some ss) (k : ∀ st ∈ ss, en_go p l e R s m args below meth c Q D tys b0 nL N0 ad0 st) : len = j ∧ ∃ q, L[i]? = some (some (.inl q)) ∧ en_go p l e R s m args below meth c Q D tys b0 nL N0 ad0 (pc + j, L, .inl q :: S, T, cs, sl) := by
  unfold en_ld at h
  split at h
  · rename_i q hq
    obtain ⟨h1, h2⟩ := en_one (x := none) h k
    exact ⟨by simpa using h1, q, hq, h2⟩
  · cases h
theorem ok_la {j i : Nat} (h : en_la j i len pc L S T cs sl = some ss) (k : ∀ st ∈ ss, en_go p l e R s m args below meth c Q D tys b0 nL N0 ad0 st) : len = j ∧ ∃ q, L[i]? = some (some (.inr (q + 2))) ∧ en_go p l e R s m args below meth c Q D tys b0 nL N0 ad0 (pc + j, L, .inr (q + 2) :: S, T, cs, sl) := by
  unfold en_la at h
  split at h
  · rename_i q hq
    obtain ⟨h1, h2⟩ := en_one (x := none) h k
    exact ⟨by simpa using h1, q, hq, h2⟩
  · cases h
theorem ok_st {j i : Nat} (h : en_st j i len pc L S T cs sl = some ss) (k : ∀ st ∈ ss, en_go p l e R s m args below meth c Q D tys b0 nL N0 ad0 st) : len = j ∧ i < L.length ∧ ∃ q S', S = .inl q :: S' ∧ en_go p l e R s m args below meth c Q D tys b0 nL N0 ad0 (pc + j, L.set i (some (.inl q)), S', T, cs, sl) := by
  unfold en_st at h
  split at h
  · rename_i q S'
    obtain ⟨h1, h2⟩ := en_one (x := none) h k
    simp only [Bool.and_eq_true, beq_iff_eq, decide_eq_true_eq] at h1
    exact ⟨h1.1, h1.2, q, S', rfl, h2⟩
  · cases h
theorem ok_sa {j i : Nat} (h : en_sa j i len pc L S T cs sl = some ss) (k : ∀ st ∈ ss, en_go p l e R s m args below meth c Q D tys b0 nL N0 ad0 st) : len = j ∧ i < L.length ∧ ∃ q S', S = .inr (q + 2) :: S' ∧ en_go p l e R s m args below meth c Q D tys b0 nL N0 ad0 (pc + j, L.set i (some (.inr (q + 2))), S', T, cs, sl) := by
  unfold en_sa at h
  split at h
  · rename_i q S'
    obtain ⟨h1, h2⟩ := en_one (x := none) h k
    simp only [Bool.and_eq_true, beq_iff_eq, decide_eq_true_eq] at h1
    exact ⟨h1.1, h1.2, q, S', rfl, h2⟩
  · cases h
theorem ok_bn {f : Int × Int → Int × Int → Int × Int} (h : en_bn f len pc L S T cs sl = some ss) (k : ∀ st ∈ ss, en_go p l e R s m args below meth c Q D tys b0 nL N0 ad0 st) : len = 1 ∧ ∃ r q S', S = .inl r :: .inl q :: S' ∧ en_go p l e R s m args below meth c Q D tys b0 nL N0 ad0 (pc + 1, L, .inl (f q r) :: S', T, cs, sl) := by
  unfold en_bn at h
  split at h
  · rename_i r q S'
    obtain ⟨h1, h2⟩ := en_one (x := none) h k
    exact ⟨by simpa using h1, r, q, S', rfl, h2⟩
  · cases h
theorem ok_al {i0 i1 : Nat} (h : en_al i0 i1 len pc L S T cs sl = some ss) (k : ∀ st ∈ ss, en_go p l e R s m args below meth c Q D tys b0 nL N0 ad0 st) : len = 1 ∧ ∃ q j S' t, S = .inl q :: .inr (j + 2) :: S' ∧ T[j]? = some (.inl t) ∧ (t.1 = i0 ∨ t.1 = i1) ∧ 0 ≤ q.1 ∧ q.2 < t.2.1 ∧ en_go p l e R s m args below meth c Q D tys b0 nL N0 ad0 (pc + 1, L, .inl t.2.2 :: S', T, cs, sl) := by
  unfold en_al at h
  split at h
  · rename_i q j S'
    split at h
    · rename_i t ht
      obtain ⟨h1, h2⟩ := en_one (x := none) h k
      simp only [Bool.and_eq_true, Bool.or_eq_true, beq_iff_eq, decide_eq_true_eq] at h1
      exact ⟨h1.2.1, q, j, S', t, rfl, ht, h1.1, h1.2.2.1, h1.2.2.2, h2⟩
    · cases h
  · cases h
theorem en_pick_ok {mi : Nat} {as : List en_V} {κ : en_K} (h : en_pick K mi as T = some κ) : κ ∈ K ∧ κ.1 = mi ∧ en_all2 en_le as κ.2.1 = true ∧ en_all2 en_cle T (k_T0 κ) = true := by
  have h1 := List.find?_some h
  simp only [Bool.and_eq_true, beq_iff_eq] at h1
  exact ⟨List.mem_of_find?_eq_some h, h1.1, h1.2.1, h1.2.2⟩
theorem en_pickP_ok {mi : Nat} {as : List en_V} {κ : en_K} (h : en_pickP K mi as = some κ) : κ ∈ K ∧ κ.1 = mi ∧ k_T0 κ = [] ∧ en_all2 en_le as κ.2.1 = true ∧ κ.2.1.all en_isI = true := by
  have h1 := List.find?_some h
  simp only [Bool.and_eq_true, beq_iff_eq, List.isEmpty_iff] at h1
  exact ⟨List.mem_of_find?_eq_some h, h1.1, h1.2.1, h1.2.2.1, h1.2.2.2⟩
theorem en_room_ok {κ : en_K} {ml n : Nat} (h : en_room rm κ ml cs sl n = true) (hR : R.frames = rm.1 ∧ R.locals = rm.2.1 ∧ R.cells = rm.2.2.1 ∧ R.slots = rm.2.2.2) : k_fr κ + 1 ≤ R.frames ∧ 8 + (ml + 11) + k_lo κ ≤ R.locals ∧ cs + k_mc κ ≤ R.cells ∧ sl + k_ms κ ≤ R.slots ∧ n ≤ 8 := by
  unfold en_room at h
  simp only [Bool.and_eq_true, decide_eq_true_eq] at h
  obtain ⟨h1, h2, h3, h4⟩ := hR
  rw [h1, h2, h3, h4]
  exact h
theorem ok_cV (C : en_cx p s m args meth c cc nL o D tys aK aV b0) (hK : ∀ κ ∈ K, en_ok l κ) (hR : R.frames = rm.1 ∧ R.locals = rm.2.1 ∧ R.cells = rm.2.2.1 ∧ R.slots = rm.2.2.2) {i : Nat} (hd : decode cc pc = .ok (.invokevirtual i, len)) (h : en_cV o K rm i len pc L S T cs sl = some ss) (k : ∀ st ∈ ss, en_go p l e R s m args below meth c Q D tys b0 nL N0 ad0 st) : en_go p l e R s m args below meth c Q D tys b0 nL N0 ad0 (pc, L, S, T, cs, sl) := by
  unfold en_cV at h
  split at h
  · rename_i kd mi n hf
    split at h
    · rename_i j S' hdrop
      split at h
      · rename_i q hq
        split at h
        · rename_i r hr
          split at h
          · rename_i ci hmo
            split at h
            · rename_i rc hrc
              split at h
              · rename_i κ hκ
                obtain ⟨h1, h2⟩ := en_one (x := none) h k
                simp only [Bool.and_eq_true, beq_iff_eq] at h1
                obtain ⟨a1, a2, a3, a4, a5⟩ := h1
                subst a1
                subst a2
                obtain ⟨r1, r2, r3, r4, r5⟩ := en_room_ok a5 hR
                obtain ⟨p1, p2, p3, p4⟩ := en_pick_ok hκ
                have hS : S = S.take n ++ .inr (j + 2) :: S' := by rw [← hdrop, List.take_append_drop]
                rw [hS]
                obtain ⟨q1, q2⟩ := q
                dsimp only at a3
                subst a3
                exact es_callV C hf hr (hK κ p1) p2 a4 p3 p4 hq hrc hmo r1 r2 r3 r4 r5 hd h2
              · cases h
            · cases h
          · cases h
        · cases h
      · cases h
    · cases h
  · cases h
theorem ok_cI (C : en_cx p s m args meth c cc nL o D tys aK aV b0) (hK : ∀ κ ∈ K, en_ok l κ) (hR : R.frames = rm.1 ∧ R.locals = rm.2.1 ∧ R.cells = rm.2.2.1 ∧ R.slots = rm.2.2.2) {i : Nat} (hd : decode cc pc = .ok (.invokespecial i, len)) (h : en_cI o K rm i len pc L S T cs sl = some ss) (k : ∀ st ∈ ss, en_go p l e R s m args below meth c Q D tys b0 nL N0 ad0 st) : en_go p l e R s m args below meth c Q D tys b0 nL N0 ad0 (pc, L, S, T, cs, sl) := by
  unfold en_cI at h
  split at h
  · rename_i kd mi n hf
    split at h
    · rename_i j S' hdrop
      split at h
      · rename_i r hr
        split at h
        · rename_i κ hκ
          obtain ⟨h1, h2⟩ := en_one (x := none) h k
          simp only [Bool.and_eq_true, Bool.or_eq_true, beq_iff_eq] at h1
          obtain ⟨a1, a2, a4, a5⟩ := h1
          subst a2
          obtain ⟨r1, r2, r3, r4, r5⟩ := en_room_ok a5 hR
          obtain ⟨p1, p2, p3, p4⟩ := en_pick_ok hκ
          have hS : S = S.take n ++ .inr (j + 2) :: S' := by rw [← hdrop, List.take_append_drop]
          rw [hS]
          exact es_callI C hf a1 hr (hK κ p1) p2 a4 p3 p4 r1 r2 r3 r4 r5 hd h2
        · cases h
      · cases h
    · cases h
  · split at h
    · obtain ⟨h1, h2⟩ := en_one (x := none) h k
      simp only [Bool.and_eq_true, beq_iff_eq, decide_eq_true_eq, List.contains_iff_mem] at h1
      obtain ⟨a1, a2, a3, a4⟩ := h1
      subst a2
      exact es_oi C a1 (by rw [hR.1]; exact a3) (by rw [hR.2.1]; exact a4) hd h2
    · cases h
theorem ok_cS (C : en_cx p s m args meth c cc nL o D tys aK aV b0) (hK : ∀ κ ∈ K, en_ok l κ) (hR : R.frames = rm.1 ∧ R.locals = rm.2.1 ∧ R.cells = rm.2.2.1 ∧ R.slots = rm.2.2.2) {i : Nat} (hd : decode cc pc = .ok (.invokestatic i, len)) (h : en_cS o K rm i len pc L S T cs sl = some ss) (k : ∀ st ∈ ss, en_go p l e R s m args below meth c Q D tys b0 nL N0 ad0 st) : en_go p l e R s m args below meth c Q D tys b0 nL N0 ad0 (pc, L, S, T, cs, sl) := by
  unfold en_cS at h
  split at h
  · rename_i kd mi n hf
    split at h
    · rename_i r hr
      have hS : S = S.take n ++ S.drop n := (List.take_append_drop n S).symm
      split at h
      · rename_i κ hκ
        obtain ⟨h1, h2⟩ := en_one (x := none) h k
        simp only [Bool.and_eq_true, Bool.or_eq_true, beq_iff_eq] at h1
        obtain ⟨a1, a2, a4, a5⟩ := h1
        subst a2
        obtain ⟨r1, r2, r3, r4, r5⟩ := en_room_ok a5 hR
        obtain ⟨p1, p2, p3, p4, p5⟩ := en_pickP_ok hκ
        rw [hS]
        exact es_callP C hf a1 hr (hK κ p1) p2 a4 p4 p3 p5 r1 r2 r3 r4 r5 hd h2
      · split at h
        · rename_i κ hκ
          obtain ⟨h1, h2⟩ := en_one (x := none) h k
          simp only [Bool.and_eq_true, Bool.or_eq_true, beq_iff_eq] at h1
          obtain ⟨a1, a2, a4, a5⟩ := h1
          subst a2
          obtain ⟨r1, r2, r3, r4, r5⟩ := en_room_ok a5 hR
          obtain ⟨p1, p2, p3, p4⟩ := en_pick_ok hκ
          rw [hS]
          exact es_callS C hf a1 hr (hK κ p1) p2 a4 p3 p4 r1 r2 r3 r4 r5 hd h2
        · cases h
    · cases h
  · split at h
    · rename_i n d j1 a j0 S'
      split at h
      · rename_i t0 ht0
        split at h
        · rename_i t1 ht1
          obtain ⟨h1, h2⟩ := en_one (x := none) h k
          simp only [Bool.and_eq_true, beq_iff_eq, decide_eq_true_eq, List.contains_iff_mem] at h1
          obtain ⟨a1, a2, a3, a4, a5, a6, a7, a8, a9, b1, b2, b3, b4⟩ := h1
          subst a2
          subst a5
          subst a6
          have hn : n = ((n.1.toNat : Int), (n.1.toNat : Int)) := by
            obtain ⟨n1, n2⟩ := n
            dsimp only at a3 a4 ⊢
            subst a3
            have : n1 = (n1.toNat : Int) := by omega
            rw [← this]
          rw [hn]
          exact es_copy C a1 ht0 ht1 a7 a8 a9 b1 b2 (by rw [hR.1]; exact b3) (by rw [hR.2.1]; exact b4) hd h2
        · cases h
      · cases h
    · cases h
end END
end
section
theorem en_decl : ∀ (ci : Nat) (r : vw_C), vwCl[ci]? = some r → ∀ f, f < r.2.2 → (r.2.1 f).1 = en_nm ci := by
  intro ci r h
  match ci, h with
  | 0, h => cases h; exact (by decide +kernel : ∀ f, f < 9 → (TX0 f).1 = RX0)
  | 1, h => cases h; exact (by decide +kernel : ∀ f, f < 12 → (TX1 f).1 = RX1)
  | 2, h => cases h; exact (by decide +kernel : ∀ f, f < 2 → (TX2 f).1 = RX2)
  | 3, h => cases h; exact (by decide +kernel : ∀ f, f < 13 → (TX3 f).1 = RX3)
  | 4, h => cases h; exact (by decide +kernel : ∀ f, f < 6 → (TX4 f).1 = RX4)
  | 5, h => cases h; exact (by decide +kernel : ∀ f, f < 3 → (TX5 f).1 = RX5)
  | 6, h => cases h; exact (by decide +kernel : ∀ f, f < 6 → (TX6 f).1 = RX6)
  | 7, h => cases h; exact (by decide +kernel : ∀ f, f < 5 → (TX7 f).1 = RX7)
  | 8, h => cases h; exact (by decide +kernel : ∀ f, f < 11 → (TX8 f).1 = RX8)
  | 9, h => cases h; exact (by decide +kernel : ∀ f, f < 96 → (TX9 f).1 = RX9)
  | k + 10, h => simp [vwCl] at h
section ENO
variable {p : Program} {l : Launch} {e : Env} {R : Room} {s : State} {m : MethodId} {args : Array Value} {below : List Frame} {meth : Method} {c : Code} {Q : State → Prop} {cc : ByteArray} {D : va_G} {tys : List (ClassId × FieldType)} {aK aV b0 nL o N0 : Nat} {ad0 : Nat → Nat}
variable {pc len : Nat} {L : en_L} {S : List en_V} {T : en_T} {cs sl : Nat} {ss : List en_S} {K : List en_K} {rm : Nat × Nat × Nat × Nat} {ini : Bool}
set_option maxHeartbeats 4000000 in
theorem en_op_ok (C : en_cx p s m args meth c cc nL o D tys aK aV b0) (hK : ∀ κ ∈ K, en_ok l κ) (hR : R.frames = rm.1 ∧ R.locals = rm.2.1 ∧ R.cells = rm.2.2.1 ∧ R.slots = rm.2.2.2) (hini : ini = true → meth.name = "<init>") {op : Instr} (hd : decode cc pc = .ok (op, len)) (h : en_op o K rm ini op len pc L S T cs sl = some ss) (k : ∀ st ∈ ss, en_go p l e R s m args below meth c Q D tys b0 nL N0 ad0 st) : en_go p l e R s m args below meth c Q D tys b0 nL N0 ad0 (pc, L, S, T, cs, sl) := by
  cases op with
  | iconst n =>
    obtain ⟨rfl, h2⟩ := ok_kn (h : en_kn 1 (Int32.ofInt n) len pc L S T cs sl = some ss) k
    exact es_iconst C hd h2
  | bipush n =>
    obtain ⟨rfl, h2⟩ := ok_kn (h : en_kn 2 (Int8.ofInt n).toInt32 len pc L S T cs sl = some ss) k
    exact es_bipush C hd h2
  | sipush n =>
    obtain ⟨rfl, h2⟩ := ok_kn (h : en_kn 3 (Int16.ofInt n).toInt32 len pc L S T cs sl = some ss) k
    exact es_sipush C hd h2
  | ldc i =>
    dsimp only [en_op] at h
    split at h
    · rename_i v hv
      obtain ⟨rfl, h2⟩ := ok_kn h k
      exact es_ldc C hv hd h2
    · cases h
  | ldc_w i =>
    dsimp only [en_op] at h
    split at h
    · rename_i v hv
      obtain ⟨rfl, h2⟩ := ok_kn h k
      exact es_ldcw C hv hd h2
    · cases h
  | iload_n i =>
    obtain ⟨rfl, q, h1, h2⟩ := ok_ld (h : en_ld 1 i.val len pc L S T cs sl = some ss) k
    exact es_iload_n C h1 hd h2
  | iload i =>
    obtain ⟨rfl, q, h1, h2⟩ := ok_ld (h : en_ld 2 i len pc L S T cs sl = some ss) k
    exact es_iload C h1 hd h2
  | aload_n i =>
    obtain ⟨rfl, q, h1, h2⟩ := ok_la (h : en_la 1 i.val len pc L S T cs sl = some ss) k
    exact es_aload_n C h1 hd h2
  | aload i =>
    obtain ⟨rfl, q, h1, h2⟩ := ok_la (h : en_la 2 i len pc L S T cs sl = some ss) k
    exact es_aload C h1 hd h2
  | istore_n i =>
    obtain ⟨rfl, h1, q, S', rfl, h2⟩ := ok_st (h : en_st 1 i.val len pc L S T cs sl = some ss) k
    exact es_istore_n C h1 hd h2
  | istore i =>
    obtain ⟨rfl, h1, q, S', rfl, h2⟩ := ok_st (h : en_st 2 i len pc L S T cs sl = some ss) k
    exact es_istore C h1 hd h2
  | astore_n i =>
    obtain ⟨rfl, h1, q, S', rfl, h2⟩ := ok_sa (h : en_sa 1 i.val len pc L S T cs sl = some ss) k
    exact es_astore_n C h1 hd h2
  | astore i =>
    obtain ⟨rfl, h1, q, S', rfl, h2⟩ := ok_sa (h : en_sa 2 i len pc L S T cs sl = some ss) k
    exact es_astore C h1 hd h2
  | iinc i n =>
    dsimp only [en_op] at h
    split at h
    · rename_i q hq
      obtain ⟨h1, h2⟩ := en_one (x := none) h k
      simp only [beq_iff_eq] at h1
      subst h1
      exact es_iinc C hq hd h2
    · cases h
  | iadd =>
    obtain ⟨rfl, r, q, S', rfl, h2⟩ := ok_bn (h : en_bn en_add len pc L S T cs sl = some ss) k
    exact es_bin en_add (fun x y => x + y) (fun q r x y => en_add_in) (fun H locs ls rest x y k => lv_iadd C.1 C.2.1 hd k) h2
  | isub =>
    obtain ⟨rfl, r, q, S', rfl, h2⟩ := ok_bn (h : en_bn en_sub len pc L S T cs sl = some ss) k
    exact es_bin en_sub (fun x y => x - y) (fun q r x y => en_sub_in) (fun H locs ls rest x y k => lv_isub C.1 C.2.1 hd k) h2
  | imul =>
    obtain ⟨rfl, r, q, S', rfl, h2⟩ := ok_bn (h : en_bn en_mul len pc L S T cs sl = some ss) k
    exact es_bin en_mul (fun x y => x * y) (fun q r x y => en_mul_in) (fun H locs ls rest x y k => lv_imul C.1 C.2.1 hd k) h2
  | iand =>
    obtain ⟨rfl, r, q, S', rfl, h2⟩ := ok_bn (h : en_bn en_and len pc L S T cs sl = some ss) k
    exact es_bin en_and (fun x y => x &&& y) (fun q r x y => en_and_in) (fun H locs ls rest x y k => lv_iand C.1 C.2.1 hd k) h2
  | ishr =>
    obtain ⟨rfl, r, q, S', rfl, h2⟩ := ok_bn (h : en_bn (fun _ _ => en_full) len pc L S T cs sl = some ss) k
    exact es_bin (fun _ _ => en_full) (fun x y => x >>> (y &&& 31)) (fun q r x y _ _ => en_full_in _) (fun H locs ls rest x y k => lv_ishr C.1 C.2.1 hd k) h2
  | iushr =>
    obtain ⟨rfl, r, q, S', rfl, h2⟩ := ok_bn (h : en_bn (fun _ _ => en_full) len pc L S T cs sl = some ss) k
    exact es_bin (fun _ _ => en_full) (fun x y => (x.toUInt32 >>> (y.toUInt32 &&& Int32.toUInt32 31)).toInt32) (fun q r x y _ _ => en_full_in _) (fun H locs ls rest x y k => lv_iushr C.1 C.2.1 hd rfl k) h2
  | i2b =>
    dsimp only [en_op] at h
    split at h
    · obtain ⟨h1, h2⟩ := en_one (x := none) h k
      simp only [beq_iff_eq] at h1
      subst h1
      exact es_un (fun x => x.toInt8.toInt32) (fun x _ => en_i2b_in x) (fun H locs ls rest x k => lv_i2b C.1 C.2.1 hd rfl k) h2
    · cases h
  | dup =>
    dsimp only [en_op] at h
    split at h
    · obtain ⟨h1, h2⟩ := en_one (x := none) h k
      simp only [beq_iff_eq] at h1
      subst h1
      exact es_dup C hd h2
    · cases h
  | pop =>
    dsimp only [en_op] at h
    split at h
    · obtain ⟨h1, h2⟩ := en_one (x := none) h k
      simp only [beq_iff_eq] at h1
      subst h1
      exact es_pop C hd h2
    · cases h
  | goto off =>
    dsimp only [en_op] at h
    obtain ⟨h1, h2⟩ := en_one (x := none) h k
    simp only [Bool.and_eq_true, beq_iff_eq] at h1
    obtain ⟨rfl, h1⟩ := h1
    exact es_goto C h1 hd h2
  | if_icmp cd off =>
    dsimp only [en_op] at h
    split at h
    · obtain ⟨h1, h2⟩ := en_g_some h
      simp only [Bool.and_eq_true, beq_iff_eq] at h1
      obtain ⟨rfl, h1⟩ := h1
      cases h2
      exact es_icmp C h1 hd k
    · cases h
  | ifCond cd off =>
    dsimp only [en_op] at h
    split at h
    · obtain ⟨h1, h2⟩ := en_g_some h
      simp only [Bool.and_eq_true, beq_iff_eq] at h1
      obtain ⟨rfl, h1⟩ := h1
      cases h2
      exact es_if C h1 hd k
    · cases h
  | tableswitch d lo hi offs =>
    dsimp only [en_op] at h
    split at h
    · split at h
      · rename_i t ht
        obtain ⟨h1, h2⟩ := en_one (x := none) h k
        exact es_tsw C ht h1 hd h2
      · cases h
    · cases h
  | arraylength =>
    dsimp only [en_op] at h
    split at h
    · split at h
      · rename_i t ht
        obtain ⟨h1, h2⟩ := en_one (x := none) h k
        simp only [Bool.and_eq_true, beq_iff_eq, decide_eq_true_eq] at h1
        obtain ⟨rfl, h1⟩ := h1
        exact es_alen C ht h1 hd h2
      · cases h
    · cases h
  | iaload =>
    obtain ⟨rfl, q, j, S', t, rfl, h1, h3, h4, h5, h2⟩ := ok_al (h : en_al 0 0 len pc L S T cs sl = some ss) k
    exact es_iald C h1 (h3.elim id id) h4 h5 hd h2
  | baload =>
    obtain ⟨rfl, q, j, S', t, rfl, h1, h3, h4, h5, h2⟩ := ok_al (h : en_al 1 2 len pc L S T cs sl = some ss) k
    rcases h3 with h3 | h3
    · exact es_zald C h1 h3 h4 h5 hd h2
    · exact es_bald C h1 h3 h4 h5 hd h2
  | iastore =>
    dsimp only [en_op] at h
    unfold en_as at h
    split at h
    · split at h
      · rename_i t ht
        obtain ⟨h1, h2⟩ := en_one (x := none) h k
        simp only [Bool.and_eq_true, beq_iff_eq, decide_eq_true_eq] at h1
        obtain ⟨h3, rfl, h4, h5⟩ := h1
        exact es_iast C ht h3 h4 h5 hd h2
      · cases h
    · cases h
  | bastore =>
    dsimp only [en_op] at h
    unfold en_as at h
    split at h
    · split at h
      · rename_i t ht
        obtain ⟨h1, h2⟩ := en_one (x := none) h k
        simp only [Bool.and_eq_true, Bool.or_eq_true, beq_iff_eq, decide_eq_true_eq] at h1
        obtain ⟨h3, rfl, h4, h5⟩ := h1
        rcases h3 with ⟨h3, h6, h7⟩ | ⟨h3, h6, h7⟩
        · exact es_bast C ht h3 h4 h5 h6 h7 hd h2
        · exact es_zast C ht h3 h4 h5 h6 h7 hd h2
      · cases h
    · cases h
  | getfield i =>
    dsimp only [en_op] at h
    split at h
    · rename_i ci f hf
      split at h
      · split at h
        · rename_i q hq
          split at h
          · rename_i r hr
            split at h
            · rename_i a ha
              obtain ⟨h1, h2⟩ := en_one (x := none) h k
              simp only [Bool.and_eq_true, beq_iff_eq, decide_eq_true_eq] at h1
              obtain ⟨rfl, h3, h4⟩ := h1
              obtain ⟨q1, q2⟩ := q
              dsimp only at h3 ha
              subst h3
              exact es_getf C hf hr h4 hq ha hd h2
            · cases h
          · cases h
        · cases h
      · cases h
    · cases h
  | putfield i =>
    dsimp only [en_op] at h
    split at h
    · rename_i ci f hf
      split at h
      · split at h
        · rename_i q hq
          split at h
          · rename_i r hr
            obtain ⟨h1, h2⟩ := en_one (x := none) h k
            simp only [Bool.and_eq_true, Bool.or_eq_true, Bool.not_eq_true', beq_iff_eq, decide_eq_true_eq] at h1
            obtain ⟨rfl, h3, h4, h5, h6, h7⟩ := h1
            obtain ⟨q1, q2⟩ := q
            dsimp only at h3 h5
            subst h3
            refine es_putf C hf hr h4 hq h5 h6 ?_ hd h2
            rcases h7 with h7 | ⟨h7, h8⟩
            · exact Or.inl h7
            · exact Or.inr ⟨hini h7, by rw [h8]; exact en_decl _ r hr f h4⟩
          · cases h
        · cases h
      · cases h
    · cases h
  | new i =>
    dsimp only [en_op] at h
    split at h
    · rename_i ci hf
      split at h
      · rename_i r hr
        obtain ⟨h1, h2⟩ := en_one (x := none) h k
        simp only [Bool.and_eq_true, beq_iff_eq, decide_eq_true_eq] at h1
        obtain ⟨rfl, h3, h4, h5⟩ := h1
        exact es_new C hf hr h3 (by rw [hR.2.2.1]; exact h4) (by rw [hR.2.2.2]; exact h5) hd h2
      · cases h
    · cases h
  | newarray at0 =>
    dsimp only [en_op] at h
    split at h
    · rename_i q S'
      split at h
      · rename_i t ht
        obtain ⟨h1, h2⟩ := en_one (x := none) h k
        simp only [Bool.and_eq_true, beq_iff_eq, decide_eq_true_eq] at h1
        obtain ⟨rfl, a3, a4, h5, h6, h7⟩ := h1
        have hn : q = ((q.1.toNat : Int), (q.1.toNat : Int)) := by
          obtain ⟨n1, n2⟩ := q
          dsimp only at a3 a4 ⊢
          subst a3
          have : n1 = (n1.toNat : Int) := by omega
          rw [← this]
        have hty : newarray.typeOf at0 = en_ty t ∧ t < 3 := by
          cases at0 <;> cases ht <;> exact ⟨rfl, by decide⟩
        rw [hn]
        exact es_newa C hty.1 hty.2 h5 (by rw [hR.2.2.1]; exact h6) (by rw [hR.2.2.2]; exact h7) hd h2
      · cases h
    · cases h
  | invokevirtual i => exact ok_cV C hK hR hd h k
  | invokespecial i => exact ok_cI C hK hR hd h k
  | invokestatic i => exact ok_cS C hK hR hd h k
  | _ => cases h
def en_lle (a b : Option en_V) : Bool := match b with
  | none => true
  | some y => match a with
    | some x => en_le x y
    | none => false
def en_sub2 (st x : en_S) : Bool := st.1 == x.1 && (en_all2 en_lle st.2.1 x.2.1 && (en_all2 en_le st.2.2.1 x.2.2.1 && (en_all2 en_cle st.2.2.2.1 x.2.2.2.1 && (st.2.2.2.2.1 == x.2.2.2.2.1 && st.2.2.2.2.2 == x.2.2.2.2.2))))
theorem en_sub2_ok {st x : en_S} (h : en_sub2 st x = true) (k : en_go p l e R s m args below meth c Q D tys b0 nL N0 ad0 x) : en_go p l e R s m args below meth c Q D tys b0 nL N0 ad0 st := by
  unfold en_sub2 at h
  simp only [Bool.and_eq_true, beq_iff_eq] at h
  obtain ⟨h1, h2, h3, h4, h5, h6⟩ := h
  intro H locs ls stk ad hh
  obtain ⟨hl, hn, hs, hW, hS, hr, hr2⟩ := hh
  have hlen := en_all2_len h4
  have k := k H locs ls stk ad ⟨⟨hl.1, hl.2.1, fun i a hi => ?_⟩, by rw [← en_all2_len h2]; exact hn, by rw [← hlen]; exact en_all2_vs h3 hs, hW.le h4, hS, by rw [← hlen]; exact hr, hr2⟩
  · rw [h1, h5, h6]
    exact k
  · obtain ⟨b, g1, g2⟩ := en_all2_get h2 hi
    unfold en_lle at g2
    cases b with
    | none => cases g2
    | some y =>
      obtain ⟨x0, g3, g4⟩ := hl.2.2 i y g1
      exact ⟨x0, g3, by rw [← hlen]; exact en_le_ok g2 g4⟩
def en_rt (ret : Option FieldType) (q : Int × Int) : Bool := match ret with
  | some .int => true
  | some .boolean => decide (0 ≤ q.1) && decide (q.2 ≤ 1)
  | _ => false
def en_chk (o : Nat) (cc : ByteArray) (K : List en_K) (rm : Nat × Nat × Nat × Nat) (ini : Bool) (ret : Option FieldType) (rv : Option en_V) (T1 : en_T) (xs : List en_S) : Nat → en_S → Bool
  | 0, _ => false
  | n + 1, (pc, L, S, T, cs, sl) => xs.any (fun x => en_sub2 (pc, L, S, T, cs, sl) x) || (match decode cc pc with
    | .ok (.ireturn, len) => (match S with
      | .inl q :: [] => (match rv with
        | some r => len == 1 && (en_rt ret q && (en_le (.inl q) r && (en_all2 en_cle T T1 && (decide (cs ≤ rm.2.2.1) && decide (sl ≤ rm.2.2.2)))))
        | none => false)
      | _ => false)
    | .ok (.return_, len) => (match S with
      | [] => (match rv with
        | none => len == 1 && (ret.isNone && (en_all2 en_cle T T1 && (decide (cs ≤ rm.2.2.1) && decide (sl ≤ rm.2.2.2))))
        | some _ => false)
      | _ => false)
    | .ok (op, len) => (match en_op o K rm ini op len pc L S T cs sl with
      | some ss => ss.all (en_chk o cc K rm ini ret rv T1 xs n)
      | none => false)
    | .error _ => false)
theorem en_chk_ok (C : en_cx p s m args meth c cc nL o D tys aK aV b0) (hK : ∀ κ ∈ K, en_ok l κ) (hR : R.frames = rm.1 ∧ R.locals = rm.2.1 ∧ R.cells = rm.2.2.1 ∧ R.slots = rm.2.2.2) (hini : ini = true → meth.name = "<init>") {ret : Option FieldType} (hret : meth.sig.returnType = ret) {rv : Option en_V} {T1 : en_T} {xs : List en_S} (hQ : Q = MQ below (en_qc D tys b0 N0 ad0 rv T1) args s rm.2.2.1 rm.2.2.2 (fun q => b0 ≤ q)) (hX : ∀ x ∈ xs, en_go p l e R s m args below meth c Q D tys b0 nL N0 ad0 x) :
    ∀ (n : Nat) (st : en_S), en_chk o cc K rm ini ret rv T1 xs n st = true → en_go p l e R s m args below meth c Q D tys b0 nL N0 ad0 st := by
  intro n
  induction n with
  | zero => intro st h; cases h
  | succ n ih =>
    intro st h
    obtain ⟨pc, L, S, T, cs, sl⟩ := st
    unfold en_chk at h
    rw [Bool.or_eq_true] at h
    rcases h with h | h
    · obtain ⟨x, h1, h2⟩ := List.any_eq_true.mp h
      exact en_sub2_ok h2 (hX x h1)
    · split at h
      · rename_i len hd
        split at h
        · rename_i q
          split at h
          · rename_i r
            simp only [Bool.and_eq_true, beq_iff_eq, decide_eq_true_eq] at h
            obtain ⟨rfl, h1, h2, h3, h4, h5⟩ := h
            intro H locs ls stk ad hh
            dsimp only at hh
            obtain ⟨hl, hn, hs, hW, hS, hr, hr2⟩ := hh
            obtain ⟨x0, ys, rfl, hv0, hs1⟩ := en_vs_cons hs
            have hv1 := hv0
            obtain ⟨v, rfl, hv⟩ := hv0
            cases ys with
            | cons a b => exact hs1.elim
            | nil =>
              have hlen := en_all2_len h3
              refine W.widen (k := rm.2.2.1) (n := rm.2.2.2) h4 h5 ?_
              subst hQ
              have hq : ∀ t : State, t.heap = H → s.WarmedH t.vm → en_qc D tys b0 N0 ad0 (some r) T1 args s (.returned (some (.int v))) t := fun t ht _ => ⟨⟨v, ad, rfl, ⟨by rw [← hlen]; exact en_le_ok h2 hv1, by rw [← hlen]; exact hr, hr2⟩, by show en_W D tys (fun q => b0 ≤ q) T1 ad t.heap; rw [ht]; exact hW.le h3⟩, hS.F ht⟩
              have hlocks := C.2.2.2.2.2.2.2.2.2
              unfold en_rt at h1
              split at h1
              · exact W.iret C.1 C.2.1 hret hq hS.2.2 hd
              · simp only [Bool.and_eq_true, decide_eq_true_eq] at h1
                exact W.zret C.1 C.2.1 hret (en_nar_z (by omega) (by omega)) hq hS.2.2 hd
              · cases h1
          · cases h
        · cases h
      · rename_i len hd
        split at h
        · split at h
          · simp only [Bool.and_eq_true, beq_iff_eq, decide_eq_true_eq, Option.isNone_iff_eq_none] at h
            obtain ⟨rfl, h1, h3, h4, h5⟩ := h
            intro H locs ls stk ad hh
            dsimp only at hh
            obtain ⟨hl, hn, hs, hW, hS, hr, hr2⟩ := hh
            cases stk with
            | cons a b => exact hs.elim
            | nil =>
              have hlen := en_all2_len h3
              refine W.widen (k := rm.2.2.1) (n := rm.2.2.2) h4 h5 ?_
              subst hQ
              have hlocks := C.2.2.2.2.2.2.2.2.2
              exact W.vret C.1 C.2.1 (hret.trans h1) (fun t ht _ => ⟨⟨ad, rfl, ⟨by rw [← hlen]; exact hr, hr2⟩, by show en_W D tys (fun q => b0 ≤ q) T1 ad t.heap; rw [ht]; exact hW.le h3⟩, hS.F ht⟩) hS.2.2 hd
          · cases h
        · cases h
      · rename_i op len _ _ hd
        split at h
        · rename_i ss hss
          exact en_op_ok C hK hR hini hd hss (fun st hst => ih st (List.all_eq_true.mp h st hst))
        · cases h
      · cases h
end ENO
theorem en_vs_args {N : Nat} {ad : Nat → Nat} : ∀ {av : List en_V} {as : List Value} (b : Nat) {i : Nat} {a : en_V}, en_vs N ad av as → av[i]? = some a → ∃ x, (b + i, x) ∈ lv_args b as ∧ en_v N ad a x
  | [], [], _, _, _, _, hi => by simp at hi
  | a0 :: av, x0 :: as, b, 0, a, h, hi => by
    rw [List.getElem?_cons_zero] at hi
    cases hi
    exact ⟨x0, List.mem_cons_self, h.1⟩
  | a0 :: av, x0 :: as, b, i + 1, a, h, hi => by
    rw [List.getElem?_cons_succ] at hi
    obtain ⟨x, h1, h2⟩ := en_vs_args (b + 1) h.2 hi
    refine ⟨x, ?_, h2⟩
    unfold lv_args
    rw [if_neg (by rw [en_v_cat h.1]; decide), show b + (i + 1) = b + 1 + i by omega]
    exact List.mem_cons_of_mem _ h1
  | [], _ :: _, _, _, _, h, _ => h.elim
  | _ :: _, [], _, _, _, h, _ => h.elim
theorem en_vs_sl {N : Nat} {ad : Nat → Nat} : ∀ {av : List en_V} {as : List Value}, en_vs N ad av as → (lg_sl as).length = as.length
  | [], [], _ => rfl
  | _ :: _, x :: xs, h => by
    have e : lg_sl (x :: xs) = (if x.category = 2 then [.val x, .second] else [.val x]) ++ lg_sl xs := rfl
    rw [e, if_neg (by rw [en_v_cat h.1]; decide), List.length_append, en_vs_sl h.2]
    simp [Nat.add_comm]
  | [], _ :: _, h => h.elim
  | _ :: _, [], h => h.elim
def en_L0 (av : List en_V) (ml : Nat) : en_L := av.map some ++ List.replicate (ml - av.length) none
theorem en_L0_ok {N : Nat} {ad : Nat → Nat} {av : List en_V} {as : List Value} {ml : Nat} (h : en_vs N ad av as) (hm : av.length ≤ ml) : en_l N ad (en_L0 av ml) ml ((lg_sl as ++ List.replicate (ml - (lg_sl as).length) Slot.unset).toArray) ∧ (en_L0 av ml).length = ml := by
  have hl := lv_entry as (n := ml) (by rw [en_vs_sl h, ← en_vs_len h]; exact hm)
  refine ⟨⟨hl.1, hl.2.1, fun i a hi => ?_⟩, by unfold en_L0; rw [List.length_append, List.length_map, List.length_replicate]; omega⟩
  have hia : av[i]? = some a := by
    unfold en_L0 at hi
    by_cases hb : i < (av.map some).length
    · rw [List.getElem?_append_left hb, List.getElem?_map] at hi
      cases hz : av[i]? with
      | none => rw [hz] at hi; cases hi
      | some b => rw [hz] at hi; cases hi; rfl
    · rw [List.getElem?_append_right (by omega)] at hi
      have := List.mem_of_getElem? hi
      cases (List.mem_replicate.mp this).2
  obtain ⟨x, h1, h2⟩ := en_vs_args 0 h hia
  rw [Nat.zero_add] at h1
  exact ⟨x, hl.2.2 _ h1, h2⟩
def en_start (κ : en_K) (ml : Nat) : en_S := (0, en_L0 κ.2.1 ml, [], k_T0 κ, 0, 0)
/-- a contract out of a walk of its body that begins with the contract's start -/
theorem en_ok_of {l : Launch} {κ : en_K} {r : MethodName × ByteArray × Nat × Option FieldType} {o : Nat} (hr : en_ms[κ.1]? = some r) (ho : en_mo[κ.1]? = some o) (hp : Jvm.plainName r.1.cls = true) (hm : κ.2.1.length ≤ r.2.2.1)
    (body : ∀ (p : Program) (e : Env) (s : State) (m : MethodId) (args : Array Value) (below : List Frame) (meth : Method) (c : Code) (D : va_G) (tys : List (ClassId × FieldType)) (aK aV b0 : Nat) (ad : Nat → Nat), en_cx p s m args meth c r.2.1 r.2.2.1 o D tys aK aV b0 → meth.sig.returnType = r.2.2.2 → meth.name = r.1.name →
      en_go p l e (en_rm κ) s m args below meth c (MQ below (en_qc D tys b0 (k_T0 κ).length ad (k_rv κ) (k_T1 κ)) args s (k_mc κ) (k_ms κ) (fun q => b0 ≤ q)) D tys b0 r.2.2.1 (k_T0 κ).length ad (en_start κ r.2.2.1)) : en_ok l κ := by
  intro r' hr' D tys aK aV b0 htok as ad hargs
  rw [hr] at hr'
  cases hr'
  refine Met.ofW (cc := r.2.1) (maxL := r.2.2.1) (ret := r.2.2.2) hp rfl ?_
  intro p e s m args below meth c s₁ B hml hv
  obtain ⟨rfl, hsz, hW, hKs, hX⟩ := hv
  have hts := atoms_spec (ws := Cond.code r.1 r.2.1 r.2.2.1 r.2.2.2 :: en_ws) B.pre
  have hown : s.vm.findClass (en_nm o) = some m.cls := by rw [en_mo_ok hr ho]; exact findClass_of_methodNamed B.named
  have C : en_cx p s m as.toArray meth c r.2.1 r.2.2.1 o D tys aK aV b0 := ⟨B.exec, B.bytes, hml, hown, fun w hw => hts w (List.mem_cons_of_mem _ hw), hKs, htok, hsz, hX, B.notSynchronized⟩
  rw [lg_entry_eq]
  obtain ⟨h1, h2⟩ := en_L0_ok hargs hm
  exact body p e s m as.toArray below meth c D tys aK aV b0 ad C B.returns (name_of_methodNamed B.named B.method).1 s.heap [] _ [] ad ⟨h1, h2, trivial, hW, va_S.rf, Nat.le_refl _, fun _ _ => rfl⟩
def en_good (κ : en_K) (K : List en_K) (fuel : Nat) : Bool := match en_ms[κ.1]? with
  | some r => match en_mo[κ.1]? with
    | some o => Jvm.plainName r.1.cls && (decide (κ.2.1.length ≤ r.2.2.1) && en_chk o r.2.1 K (k_fr κ, k_lo κ, k_mc κ, k_ms κ) (decide (r.1.name = "<init>")) r.2.2.2 (k_rv κ) (k_T1 κ) [] fuel (en_start κ r.2.2.1))
    | none => false
  | none => false
theorem en_good_ok {l : Launch} {κ : en_K} {K : List en_K} {fuel : Nat} (hK : ∀ κ' ∈ K, en_ok l κ') (h : en_good κ K fuel = true) : en_ok l κ := by
  unfold en_good at h
  split at h
  · rename_i r hr
    split at h
    · rename_i o ho
      simp only [Bool.and_eq_true, decide_eq_true_eq] at h
      obtain ⟨h1, h2, h3⟩ := h
      refine en_ok_of hr ho h1 h2 (fun p e s m args below meth c D tys aK aV b0 ad C hret hnm => ?_)
      exact en_chk_ok (R := en_rm κ) C hK ⟨rfl, rfl, rfl, rfl⟩ (fun hi => by simp only [decide_eq_true_eq] at hi; rw [hnm]; exact hi) hret rfl (fun x hx => absurd hx List.not_mem_nil) fuel _ h3
    · cases h
  · cases h
end
section
theorem df_0 : decode prog_18_method_103_code 0 = .ok (.iconst 0, 1) := by decide +kernel
theorem df_1 : decode prog_18_method_103_code 1 = .ok (.istore_n 2, 1) := by decide +kernel
theorem df_2 : decode prog_18_method_103_code 2 = .ok (.aload_n 0, 1) := by decide +kernel
theorem df_3 : decode prog_18_method_103_code 3 = .ok (.arraylength, 1) := by decide +kernel
theorem df_4 : decode prog_18_method_103_code 4 = .ok (.istore_n 3, 1) := by decide +kernel
theorem df_5 : decode prog_18_method_103_code 5 = .ok (.iload_n 2, 1) := by decide +kernel
theorem df_6 : decode prog_18_method_103_code 6 = .ok (.iload_n 3, 1) := by decide +kernel
theorem df_7 : decode prog_18_method_103_code 7 = .ok (.if_icmp .ge 13, 3) := by decide +kernel
theorem df_10 : decode prog_18_method_103_code 10 = .ok (.aload_n 0, 1) := by decide +kernel
theorem df_11 : decode prog_18_method_103_code 11 = .ok (.iload_n 2, 1) := by decide +kernel
theorem df_12 : decode prog_18_method_103_code 12 = .ok (.iload_n 1, 1) := by decide +kernel
theorem df_13 : decode prog_18_method_103_code 13 = .ok (.iastore, 1) := by decide +kernel
theorem df_14 : decode prog_18_method_103_code 14 = .ok (.iinc 2 1, 3) := by decide +kernel
theorem df_17 : decode prog_18_method_103_code 17 = .ok (.goto (-12), 3) := by decide +kernel
theorem df_20 : decode prog_18_method_103_code 20 = .ok (.return_, 1) := by decide +kernel
theorem en_mt_6 : en_ms[6]? = some (yJ7_fill_53178, prog_18_method_103_code, 4, none) := rfl
theorem en_mo_6 : en_mo[6]? = some 10 := rfl
set_option maxHeartbeats 4000000 in
theorem en_fill (l : Launch) {T : en_T} {j n : Nat} {b v : Int × Int} (hj : T[j]? = some (.inl (0, n, b))) (hn : n < 2147483648) : en_ok l (6, [.inr (j + 2), .inl v], T, none, T.set j (.inl (0, n, v)), 0, 0, 0, 0) := by
  refine en_ok_of (r := (yJ7_fill_53178, prog_18_method_103_code, 4, none)) (o := 10) en_mt_6 en_mo_6 (by decide) (Nat.le_of_ble_eq_true rfl) ?_
  intro p e s m args below meth c D tys aK aV b0 ad C hret hnm
  intro H locs ls stk ad1 hh
  have hh : en_at s D tys b0 4 T.length ad [some (.inr (j + 2)), some (.inl v), none, none] [] T H locs ls stk ad1 := hh
  obtain ⟨hl, hn0, hs, hW, hS, hr, hr2⟩ := hh
  cases stk with
  | cons a b => exact hs.elim
  | nil =>
    obtain ⟨x0, h0, hx0⟩ := hl.2.2 0 (.inr (j + 2)) rfl
    obtain ⟨rfl, hjl⟩ : x0 = .ref (ad1 j) ∧ j < T.length := hx0
    obtain ⟨x1, h1, x, rfl, hx⟩ := hl.2.2 1 (.inl v) rfl
    obtain ⟨ws, w1, w2, w3, w4⟩ := hW
    obtain ⟨e0, g1, cA, f0, rfl, g2, g3⟩ := w2 j _ hj
    dsimp only at g1 g2 g3
    have hl0 : lv_has ls 4 [(0, .ref (ad1 j)), (1, .int x)] := ⟨hl.1, hl.2.1, fun q hq => by
      rcases List.mem_cons.mp hq with rfl | hq
      · exact h0
      · rw [List.mem_singleton.mp hq]; exact h1⟩
    have hK := C.2.2.2.2.2.1
    have hlocks := C.2.2.2.2.2.2.2.2.2
    have loop : ∀ (k i : Nat) (f : Nat → Int32) (us : va_W) (H : Heap) (locs : List Loc) (ls : Array Slot), i ≤ n → n - i < k → (∀ q, q < i → en_in v (f q)) → us.length = ws.length → us[j]? = some (ad1 j, .inl (cA, n, .inl f)) → (∀ q, q ≠ j → us[q]? = ws[q]?) → va_P D vwCl us H → va_D (fun q => b0 ≤ q) us → va_S (fun q => b0 ≤ q) s.heap H locs → lv_has ls 4 [(0, .ref (ad1 j)), (1, .int x), (2, .int (nI i)), (3, .int (nI n))] →
        W p l e (en_rm (6, [.inr (j + 2), .inl v], T, none, T.set j (.inl (0, n, v)), 0, 0, 0, 0)) s m args below meth c H locs 0 0 (MQ below (en_qc D tys b0 T.length ad none (T.set j (.inl (0, n, v)))) args s 0 0 (fun q => b0 ≤ q)) (F0 m 5 ls []) := by
      intro k
      induction k with
      | zero => intro i f us H locs ls h1 h2; omega
      | succ k ih =>
        intro i f us H locs ls hi hk hf hul huj huo hP hD hS hl
        refine lv_iload_n C.1 C.2.1 df_5 rfl (lv_at hl 2 rfl) ?_
        refine lv_iload_n C.1 C.2.1 df_6 rfl (lv_at hl 3 rfl) ?_
        refine lv_icmp_ge (tgt := 20) C.1 C.2.1 df_7 (by decide) (fun hc => ?_) (fun hc => ?_)
        · have hin : i = n := by
            rcases Nat.lt_or_ge i n with q | q
            · exact absurd hc (nI_ge q hn)
            · omega
          subst hin
          refine W.vret C.1 C.2.1 hret (fun t ht _ => ⟨⟨ad1, rfl, ⟨by rw [List.length_set]; exact hr, hr2⟩, ?_⟩, hS.F ht⟩) hS.2.2 df_20
          show en_W D tys (fun q => b0 ≤ q) (T.set j (.inl (0, i, v))) ad1 t.heap
          rw [ht]
          refine ⟨us, by rw [List.length_set, hul]; exact w1, fun q t hq => ?_, hP, hD⟩
          rw [List.length_set]
          by_cases hqj : q = j
          · subst hqj
            rw [List.getElem?_set_self hjl] at hq
            cases hq
            exact ⟨_, huj, cA, f, rfl, g2, hf⟩
          · rw [List.getElem?_set_ne (Ne.symm hqj)] at hq
            rw [huo q hqj]
            exact w2 q t hq
        · have hlt : i < n := by
            rcases Nat.lt_or_ge i n with q | q
            · exact q
            · exact absurd (nI_le q (by omega)) hc
          refine lv_aload_n C.1 C.2.1 df_10 rfl (lv_at hl 0 rfl) ?_
          refine lv_iload_n C.1 C.2.1 df_11 rfl (lv_at hl 2 rfl) ?_
          refine lv_iload_n C.1 C.2.1 df_12 rfl (lv_at hl 1 rfl) ?_
          refine va_iast C.1 C.2.1 hK hP hD hS j 0 huj g2 (vp_in_nI hlt hn) df_13 (fun H1 locs1 hP1 hD1 hS1 => ?_)
          rw [nI_clamp (by omega)] at hP1 hD1
          refine lv_iinc (v := nI (i + 1)) (k := 2) (lv' := [(2, .int (nI (i + 1))), (0, .ref (ad1 j)), (1, .int x), (3, .int (nI n))]) C.1 C.2.1 df_14 hl rfl (by rw [nI_succ]; rfl) (by decide) rfl (fun ls hl => ?_)
          refine lv_goto (tgt := 5) C.1 C.2.1 df_17 (by decide) ?_
          have hjw : j < us.length := (List.getElem?_eq_some_iff.mp huj).1
          refine ih (i + 1) (upd f i x) _ H1 locs1 ls hlt (by omega) (fun q hq => ?_) (by rw [List.length_set]; exact hul) (List.getElem?_set_self hjw) (fun q hq => by rw [List.getElem?_set_ne (Ne.symm hq)]; exact huo q hq) hP1 hD1 hS1 (lv_sub hl [1, 2, 0, 3] rfl)
          unfold upd
          split
          · exact hx
          · exact hf q (by omega)
    refine lv_iconst (v := 0) C.1 C.2.1 df_0 (by decide) ?_
    refine lv_istore_n (lv' := [(2, .int 0), (0, .ref (ad1 j)), (1, .int x)]) C.1 C.2.1 df_1 rfl hl0 (by decide) rfl (fun ls hl => ?_)
    refine lv_aload_n C.1 C.2.1 df_2 rfl (lv_at hl 1 rfl) ?_
    refine va_alen C.1 C.2.1 hK w3 j 0 g1 g2 (v := nI n) rfl df_3 ?_
    refine lv_istore_n (lv' := [(3, .int (nI n)), (2, .int 0), (0, .ref (ad1 j)), (1, .int x)]) C.1 C.2.1 df_4 rfl hl (by decide) rfl (fun ls hl => ?_)
    exact loop (n + 1) 0 f0 ws H locs ls (Nat.zero_le _) (by omega) (fun q hq => by omega) rfl g1 (fun _ _ => rfl) w3 w4 hS (lv_sub hl [2, 3, 1, 0] rfl)
/-! the one text -/
theorem en_str_in : ∀ w ∈ ([.initialized "java/lang/String", .methodLink "LoadsAhead$Law" 29 yJ0_length_8abf5, .instanceMethod yJ0_length_8abf5, .selects "java/lang/String" yJ0_length_8abf5 yJ0_length_8abf5, .methodLink "java/lang/String" 335 yJ0_coder_7d493, .instanceMethod yJ0_coder_7d493, .selects "java/lang/String" yJ0_coder_7d493 yJ0_coder_7d493, .fieldLink "java/lang/String" 38 "java/lang/String" "COMPACT_STRINGS" "Z", .fieldLink "java/lang/String" 9 "java/lang/String" "value" "[B", .fieldLink "java/lang/String" 15 "java/lang/String" "coder" "B"] : List Cond), w ∈ en_ws := fun w h => by
  have hg := goodIn_r (big := lw_tbl) _ [121, 248, 249, 250, 252, 253, 254, 256, 1798, 1799] (by decide +kernel) (by decide +kernel) w h
  exact en_ws_in hg.1 (by
    have : ([.initialized "java/lang/String", .methodLink "LoadsAhead$Law" 29 yJ0_length_8abf5, .instanceMethod yJ0_length_8abf5, .selects "java/lang/String" yJ0_length_8abf5 yJ0_length_8abf5, .methodLink "java/lang/String" 335 yJ0_coder_7d493, .instanceMethod yJ0_coder_7d493, .selects "java/lang/String" yJ0_coder_7d493 yJ0_coder_7d493, .fieldLink "java/lang/String" 38 "java/lang/String" "COMPACT_STRINGS" "Z", .fieldLink "java/lang/String" 9 "java/lang/String" "value" "[B", .fieldLink "java/lang/String" 15 "java/lang/String" "coder" "B"] : List Cond).all goodWord = true := by decide +kernel
    exact List.all_eq_true.mp this w h)
theorem en_str_q {w : Cond} (i : Nat) (h : ([.initialized "java/lang/String", .methodLink "LoadsAhead$Law" 29 yJ0_length_8abf5, .instanceMethod yJ0_length_8abf5, .selects "java/lang/String" yJ0_length_8abf5 yJ0_length_8abf5, .methodLink "java/lang/String" 335 yJ0_coder_7d493, .instanceMethod yJ0_coder_7d493, .selects "java/lang/String" yJ0_coder_7d493 yJ0_coder_7d493, .fieldLink "java/lang/String" 38 "java/lang/String" "COMPACT_STRINGS" "Z", .fieldLink "java/lang/String" 9 "java/lang/String" "value" "[B", .fieldLink "java/lang/String" 15 "java/lang/String" "coder" "B"] : List Cond)[i]? = some w) : w ∈ en_ws := en_str_in w (List.mem_of_getElem? h)
theorem en_str_l : Cond.code yJ0_length_8abf5 cJ0_length_8abf5 1 (some .int) ∈ en_ws := en_ws_in (en_sub_1 _ (List.mem_of_getElem? (i := 136) rfl)) rfl
theorem en_str_c : Cond.code yJ0_coder_7d493 cJ0_coder_7d493 1 (some .byte) ∈ en_ws := en_ws_in (en_sub_1 _ (List.mem_of_getElem? (i := 140) rfl)) rfl
theorem en_consG {w : Cond} (h : w ∈ en_ws) : GoodIn en_ws (w :: en_ws) := by
  intro w' hw
  rcases List.mem_cons.mp hw with rfl | hw
  · exact ⟨h, good_of_word (List.mem_filter.mp h).2⟩
  · exact ⟨hw, good_of_word (List.mem_filter.mp hw).2⟩
theorem dc_0 : decode cJ0_coder_7d493 0 = .ok (.getstatic 38, 3) := by decide +kernel
theorem dc_3 : decode cJ0_coder_7d493 3 = .ok (.ifCond .eq 10, 3) := by decide +kernel
theorem dc_6 : decode cJ0_coder_7d493 6 = .ok (.aload_n 0, 1) := by decide +kernel
theorem dc_7 : decode cJ0_coder_7d493 7 = .ok (.getfield 15, 3) := by decide +kernel
theorem dc_10 : decode cJ0_coder_7d493 10 = .ok (.goto 4, 3) := by decide +kernel
theorem dc_14 : decode cJ0_coder_7d493 14 = .ok (.ireturn, 1) := by decide +kernel
theorem dl_0 : decode cJ0_length_8abf5 0 = .ok (.aload_n 0, 1) := by decide +kernel
theorem dl_1 : decode cJ0_length_8abf5 1 = .ok (.getfield 9, 3) := by decide +kernel
theorem dl_4 : decode cJ0_length_8abf5 4 = .ok (.arraylength, 1) := by decide +kernel
theorem dl_5 : decode cJ0_length_8abf5 5 = .ok (.aload_n 0, 1) := by decide +kernel
theorem dl_6 : decode cJ0_length_8abf5 6 = .ok (.invokevirtual 335, 3) := by decide +kernel
theorem dl_9 : decode cJ0_length_8abf5 9 = .ok (.ishr, 1) := by decide +kernel
theorem dl_10 : decode cJ0_length_8abf5 10 = .ok (.ireturn, 1) := by decide +kernel
set_option maxHeartbeats 4000000 in
theorem en_coder (l : Launch) (b0 aK aV : Nat) : Met l yJ0_coder_7d493 (Cond.code yJ0_coder_7d493 cJ0_coder_7d493 1 (some .byte) :: en_ws) ({ frames := 0, cells := 0, slots := 0, locals := 0 }) (va_Pc [.ref aK] (fun U => b0 ≤ U.heap.size ∧ en_X b0 aK aV U)) (va_Qi (S := Unit) (fun r _ => r = 0) (fun _ _ => True) (fun q => b0 ≤ q)) 0 0 (fun q => b0 ≤ q) := by
  refine Met.ofW (cc := cJ0_coder_7d493) (maxL := 1) (ret := some .byte) (by decide) rfl ?_
  intro p e s m args below meth c s₁ B hml hv
  obtain ⟨rfl, hsz, hX⟩ := hv
  have hx := B.exec
  have hb := B.bytes
  have hr := B.returns
  have hts0 := atoms_spec (ws := Cond.code yJ0_coder_7d493 cJ0_coder_7d493 1 (some .byte) :: en_ws) B.pre
  have hts : ∀ w ∈ en_ws, w.before _ s = true := fun w hw => hts0 w (List.mem_cons_of_mem _ hw)
  have hown : s.vm.findClass "java/lang/String" = some m.cls := findClass_of_methodNamed B.named
  have hlocks := B.notSynchronized
  have hS : va_S (fun q => b0 ≤ q) s.heap s.heap [] := va_S.rf
  have hl := lv_entry ([.ref aK]) (n := 1) (Nat.le_of_ble_eq_true rfl)
  rw [lg_entry_eq]
  generalize (lg_sl ([.ref aK]) ++ List.replicate (1 - (lg_sl ([.ref aK])).length) Slot.unset).toArray = ls at hl ⊢
  have hl : lv_has ls 1 [(0, .ref aK)] := hl
  refine va_gets hx hb hX.2.2.2.1 hS hown (hts _ (en_str_q 7 rfl)) (fun x h => h) dc_0 ?_
  refine lv_if_eq (tgt := 13) hx hb dc_3 (by decide) (fun h => absurd h (by decide)) (fun _ => ?_)
  refine lv_aload_n hx hb dc_6 rfl (lv_at hl 0 rfl) ?_
  refine vk_getf hx hb (hX.2.2.1.1 0 (by decide)).2.1 hS hown (hts _ (en_str_q 9 rfl)) (fun x h => h) dc_7 ?_
  refine lv_goto (tgt := 14) hx hb dc_10 (by decide) ?_
  exact W.zret hx hb hr rfl (fun t ht _ => ⟨⟨0, (), rfl, rfl, trivial⟩, hS.F ht⟩) hS.2.2 dc_14
set_option maxHeartbeats 4000000 in
theorem en_slen (l : Launch) (b0 aK aV : Nat) : Met l yJ0_length_8abf5 (Cond.code yJ0_length_8abf5 cJ0_length_8abf5 1 (some .int) :: en_ws) ({ frames := 1, cells := 0, slots := 0, locals := 20 }) (va_Pc [.ref aK] (fun U => b0 ≤ U.heap.size ∧ en_X b0 aK aV U)) (va_Qi (S := Unit) (fun r _ => r = 7) (fun _ _ => True) (fun q => b0 ≤ q)) 0 0 (fun q => b0 ≤ q) := by
  refine Met.ofW (cc := cJ0_length_8abf5) (maxL := 1) (ret := some .int) (by decide) rfl ?_
  intro p e s m args below meth c s₁ B hml hv
  obtain ⟨rfl, hsz, hX⟩ := hv
  have hx := B.exec
  have hb := B.bytes
  have hr := B.returns
  have hts0 := atoms_spec (ws := Cond.code yJ0_length_8abf5 cJ0_length_8abf5 1 (some .int) :: en_ws) B.pre
  have hts : ∀ w ∈ en_ws, w.before #[Value.ref aK] s = true := fun w hw => hts0 w (List.mem_cons_of_mem _ hw)
  have hown : s.vm.findClass "java/lang/String" = some m.cls := findClass_of_methodNamed B.named
  have hlocks := B.notSynchronized
  have hS : va_S (fun q => b0 ≤ q) s.heap s.heap [] := va_S.rf
  have hl := lv_entry ([.ref aK]) (n := 1) (Nat.le_of_ble_eq_true rfl)
  rw [lg_entry_eq]
  generalize (lg_sl ([.ref aK]) ++ List.replicate (1 - (lg_sl ([.ref aK])).length) Slot.unset).toArray = ls at hl ⊢
  have hl : lv_has ls 1 [(0, .ref aK)] := hl
  have hE := hX.2.2.1.1 0 (by decide)
  refine lv_aload_n hx hb dl_0 rfl (lv_at hl 0 rfl) ?_
  refine vk_getf hx hb hE.2.2.1 hS hown (hts _ (en_str_q 8 rfl)) (fun x h => h) dl_1 ?_
  refine va_tlen hx hb hE.2.2.2 hS (v := 7) rfl dl_4 ?_
  refine lv_aload_n hx hb dl_5 rfl (lv_at hl 0 rfl) ?_
  have hB := callB_of (own := "java/lang/String") (index := 335) (R := { frames := 1, cells := 0, slots := 0, locals := 20 }) (rm := { frames := 0, cells := 0, slots := 0, locals := 0 }) (mc := 0) (ms := 0) 0 hts (en_consG en_str_c) rfl rfl rfl (hts _ (en_str_q (w := .initialized yJ0_coder_7d493.cls) 0 rfl)) (hts _ (en_str_q 4 rfl)) (by decide +kernel) ⟨by decide, by decide⟩
  refine va_calli (a := #[Value.ref aK]) (va_runV (C := "java/lang/String") (As := []) (rest := [.int 7]) ⟨hx, hb, hml, hown, hts⟩ (en_coder l b0 aK aV) ⟨hB, hts _ (en_str_q 5 rfl), hts _ (en_str_q 6 rfl)⟩ ⟨fun a U g mk q => ⟨q.1, q.2.1, q.2.2.call⟩, vk_recv (i := 0) hX.2.2.1 Nat.zero_lt_one hS, fun U hU hW => ⟨rfl, by rw [hU]; exact hsz, hX.go (Nat.le_refl _) hS hU hW⟩⟩ rfl rfl hl.1 rfl (lv_room (by decide)) dl_6 ⟨by decide, by decide⟩) hS (fun q _ h => h) (fun q h => h) (fun r u t H1 locs1 ht hvm hpost hB hsz1 hfr hS1 => ?_)
  subst hpost
  refine lv_ishr hx hb dl_9 ?_
  exact W.iret hx hb hr (fun t ht _ => ⟨⟨_, (), rfl, by decide, trivial⟩, hS1.F ht⟩) hS1.2.2 dl_10
theorem en_mt_4 : en_ms[4]? = some (yX0_init, prog_2_method_1_code, 1, none) := rfl
theorem en_mo_4 : en_mo[4]? = some 0 := rfl
theorem en_mt_9 : en_ms[9]? = some (yX5_init, prog_7_method_1_code, 1, none) := rfl
theorem en_mo_9 : en_mo[9]? = some 5 := rfl
theorem dw_47 : decode prog_2_method_1_code 47 = .ok (.ldc 27, 2) := by decide +kernel
theorem dw_49 : decode prog_2_method_1_code 49 = .ok (.invokevirtual 29, 3) := by decide +kernel
set_option maxHeartbeats 4000000 in
theorem en_lawmake (l : Launch) {κ : en_K} {L : en_L} {S : List en_V} {T : en_T} {cs sl : Nat} (hm : κ.1 = 4) (hc : (decide (κ.2.1.length ≤ 1) && (decide (2 ≤ k_fr κ) && (decide (40 ≤ k_lo κ) && (decide (S.length ≤ 8) && (decide (cs ≤ k_mc κ) && decide (sl ≤ k_ms κ)))))) = true)
    (h1 : en_chk 0 prog_2_method_1_code [] (k_fr κ, k_lo κ, k_mc κ, k_ms κ) true none (k_rv κ) (k_T1 κ) [(47, L, S, T, cs, sl)] 100 (en_start κ 1) = true)
    (h2 : en_chk 0 prog_2_method_1_code [] (k_fr κ, k_lo κ, k_mc κ, k_ms κ) true none (k_rv κ) (k_T1 κ) [] 100 (52, L, .inl (7, 7) :: S, T, cs, sl) = true) : en_ok l κ := by
  simp only [Bool.and_eq_true, decide_eq_true_eq] at hc
  obtain ⟨c1, c2, c3, c4, c5, c6⟩ := hc
  refine en_ok_of (r := (yX0_init, prog_2_method_1_code, 1, none)) (o := 0) (by rw [hm]; exact en_mt_4) (by rw [hm]; exact en_mo_4) (by decide) c1 ?_
  intro p e s m args below meth c D tys aK aV b0 ad C hret hnm
  have hK0 : ∀ κ' ∈ ([] : List en_K), en_ok l κ' := fun _ h => absurd h List.not_mem_nil
  have k2 := en_chk_ok (Q := MQ below (en_qc D tys b0 (k_T0 κ).length ad (k_rv κ) (k_T1 κ)) args s (k_mc κ) (k_ms κ) (fun q => b0 ≤ q)) (R := en_rm κ) (p := p) (l := l) (e := e) (below := below) C hK0 ⟨rfl, rfl, rfl, rfl⟩ (fun _ => hnm) hret rfl (fun x hx => absurd hx List.not_mem_nil) 100 _ h2
  refine en_chk_ok (R := en_rm κ) C hK0 ⟨rfl, rfl, rfl, rfl⟩ (fun _ => hnm) hret rfl (fun x hx => ?_) 100 _ h1
  rw [List.mem_singleton.mp hx]
  intro H locs ls stk ad1 hh
  dsimp only at hh
  obtain ⟨hl, hn0, hs, hW, hS, hr, hr2⟩ := hh
  have hX := C.2.2.2.2.2.2.2.2.1
  have hts := C.2.2.2.2.1
  have hb0 := C.2.2.2.2.2.2.2.1
  have hsz := hS.1
  refine va_ldcS C.1 C.2.1 C.2.2.2.1 hX.2.1 dw_47 ?_
  have hB := callB_of (own := en_nm 0) (index := 29) (R := en_rm κ) (rm := { frames := 1, cells := 0, slots := 0, locals := 20 }) (mc := 0) (ms := 0) 0 hts (en_consG en_str_l) rfl rfl rfl (hts _ (en_str_q (w := .initialized yJ0_length_8abf5.cls) 0 rfl)) (hts _ (en_str_q 1 rfl)) (by decide +kernel) ⟨c2, c3⟩
  refine va_calli (a := #[Value.ref aK]) (va_runV (C := "java/lang/String") (As := []) (rest := stk) ⟨C.1, C.2.1, C.2.2.1, C.2.2.2.1, hts⟩ (en_slen l H.size aK aV) ⟨hB, hts _ (en_str_q 2 rfl), hts _ (en_str_q 3 rfl)⟩ ⟨fun a U g mk q => ⟨q.1, q.2.1, q.2.2.call⟩, vk_recv (i := 0) hX.2.2.1 Nat.zero_lt_one hS, fun U hU hW => ⟨rfl, by rw [hU]; exact Nat.le_refl _, hX.go (Nat.le_trans hb0 hsz) hS hU hW⟩⟩ rfl rfl hl.1 rfl (lv_room (by rw [en_vs_cat hs]; exact c4)) dw_49 ⟨c5, c6⟩) hS (fun q h1 h2 => absurd h2 (by omega)) (fun q (h : H.size ≤ q) => by show b0 ≤ q; omega) (fun r u t H1 locs1 ht hvm hpost hB hsz1 hfr hS1 => ?_)
  subst hpost
  exact k2 H1 locs1 ls (.int 7 :: stk) ad1 ⟨hl, hn0, ⟨⟨7, rfl, by decide, by decide⟩, hs⟩, hW.kept (fun q hq => hfr q hq (by omega)), hS1, hr, hr2⟩
section ENM
variable {p : Program} {l : Launch} {e : Env} {R : Room} {s : State} {m : MethodId} {args : Array Value} {below : List Frame} {meth : Method} {c : Code} {H : Heap} {locs : List Loc} {cells slots : Nat} {Q : State → Prop}
variable {cc : ByteArray} {pc : Nat} {ls : Array Slot} {rest : List Value} {A : Nat → Prop} {H0 : Heap}
theorem en_mna (hexec : p.tables.exec = Jvm.exec) (hb : c.code = cc) {own : String} {index : Nat} {ty : FieldType} (hown : s.vm.findClass own = some m.cls) (hclink : (Cond.classLink own index ("[" ++ (FieldType.array ty).toString)).before args s = true) (hover : (Cond.arrayOver (.array ty)).before args s = true) (harr : (Cond.arrayClass ty).before args s = true)
    (hS : va_S A H0 H locs) {n k : Int32} {N' K' : Nat} (hn : ¬ n < 0) (hk : ¬ k < 0) (hN : n.toNatClampNeg = N') (hM : k.toNatClampNeg = K')
    (hb1 : N' * 4 ≤ 536870912) (hb2 : K' * componentBytes ty ≤ 536870912) (hb3 : K' ≤ 536870912) (hdf : fits ty (defaultValue ty) = true) (hdd : (defaultValue ty).isDefault = true) (hcells : cells + (1 + N') ≤ R.cells) (hslots : slots + (N' + N' * K') ≤ R.slots) (hdg : decode cc pc = .ok (.multianewarray index 2, 4))
    (kk : ∀ (q : Nat) (H1 : Heap), (∀ x : Nat, x < H.size → H1[x]? = H[x]?) → va_S A H0 H1 locs → W p l e R s m args below meth c H1 locs (cells + 1 + N') (slots + N' + N' * K') Q (F0 m (pc + 4) ls (.ref q :: rest))) : W p l e R s m args below meth c H locs cells slots Q (F0 m pc ls (.int k :: .int n :: rest)) := by
  subst hN
  subst hM
  intro T hT Xs
  obtain ⟨vm₁, cA, comp, -, fA, fC, hO, -, X', step⟩ := Xs.multianewarray2F hexec hown hclink hover harr (g := F0 m pc ls (.int k :: .int n :: rest)) rfl (by rw [hb]; exact hdg) rfl hn hk hb1 hb2 hb3 hdf hdd hcells hslots
  generalize hF : Jvm.Free.Multi.fill (T.setVm vm₁) cA comp n.toNatClampNeg k.toNatClampNeg (defaultValue ty) n.toNatClampNeg = F at X' step
  have hTh : (T.setVm vm₁).heap = H := hT
  obtain ⟨f1, f2, -, -⟩ := Jvm.Free.Multi.fill_facts (T.setVm vm₁) cA comp n.toNatClampNeg k.toNatClampNeg (defaultValue ty) n.toNatClampNeg
  rw [hF, hTh] at f1 f2
  have hold : ∀ x : Nat, x < H.size → F.heap[x]? = H[x]? := fun x hx => by
    have := Jvm.Free.Multi.fill_old (T.setVm vm₁) cA comp n.toNatClampNeg k.toNatClampNeg (defaultValue ty) (a := x) (by rw [hTh]; exact hx) n.toNatClampNeg
    rw [hF, hTh] at this
    exact this
  obtain ⟨t, a1, b1⟩ := kk H.size F.heap hold ⟨by rw [f1]; have := hS.1; omega, fun x h1 h2 => (hold x (Nat.lt_of_lt_of_le h1 hS.1)).trans (hS.2.1 x h1 h2), hS.2.2⟩ F rfl X'
  refine ⟨t, step t ?_, b1⟩
  have e : T.heap.size = H.size := by rw [hT]
  rw [e]
  exact a1
end ENM
theorem dr_8 : decode prog_7_method_1_code 8 = .ok (.multianewarray 9 2, 4) := by decide +kernel
theorem en_rows_in : ∀ w ∈ ([.classLink "LoadsAhead$Rows" 9 "[[I", .arrayOver (.array .int)] : List Cond), w ∈ lw_tbl := by
  have h : ([.classLink "LoadsAhead$Rows" 9 "[[I", .arrayOver (.array .int)] : List Cond) = ([438, 439] : List Nat).filterMap (fun i => lw_tbl[i]?) := by decide +kernel
  intro w hw
  rw [h] at hw
  obtain ⟨i, -, hi⟩ := List.mem_filterMap.mp hw
  exact List.mem_of_getElem? hi
set_option maxHeartbeats 4000000 in
theorem en_rowsmake (l : Launch) {κ : en_K} {L : en_L} {S : List en_V} {T : en_T} {cs sl : Nat} (hm : κ.1 = 9) (hc : (decide (κ.2.1.length ≤ 1) && (decide (cs + 3 ≤ k_mc κ) && decide (sl + 18 ≤ k_ms κ))) = true)
    (h1 : en_chk 5 prog_7_method_1_code [] (k_fr κ, k_lo κ, k_mc κ, k_ms κ) true none (k_rv κ) (k_T1 κ) [(8, L, .inl (8, 8) :: .inl (2, 2) :: S, T, cs, sl)] 100 (en_start κ 1) = true)
    (h2 : en_chk 5 prog_7_method_1_code [] (k_fr κ, k_lo κ, k_mc κ, k_ms κ) true none (k_rv κ) (k_T1 κ) [] 100 (12, L, .inr 0 :: S, T, cs + 3, sl + 18) = true) : en_ok l κ := by
  simp only [Bool.and_eq_true, decide_eq_true_eq] at hc
  obtain ⟨c1, c2, c3⟩ := hc
  refine en_ok_of (r := (yX5_init, prog_7_method_1_code, 1, none)) (o := 5) (by rw [hm]; exact en_mt_9) (by rw [hm]; exact en_mo_9) (by decide) c1 ?_
  intro p e s m args below meth c D tys aK aV b0 ad C hret hnm
  have hK0 : ∀ κ' ∈ ([] : List en_K), en_ok l κ' := fun _ h => absurd h List.not_mem_nil
  have k2 := en_chk_ok (Q := MQ below (en_qc D tys b0 (k_T0 κ).length ad (k_rv κ) (k_T1 κ)) args s (k_mc κ) (k_ms κ) (fun q => b0 ≤ q)) (R := en_rm κ) (p := p) (l := l) (e := e) (below := below) C hK0 ⟨rfl, rfl, rfl, rfl⟩ (fun _ => hnm) hret rfl (fun x hx => absurd hx List.not_mem_nil) 100 _ h2
  refine en_chk_ok (R := en_rm κ) C hK0 ⟨rfl, rfl, rfl, rfl⟩ (fun _ => hnm) hret rfl (fun x hx => ?_) 100 _ h1
  rw [List.mem_singleton.mp hx]
  intro H locs ls stk ad1 hh
  dsimp only at hh
  obtain ⟨hl, hn0, hs, hW, hS, hr, hr2⟩ := hh
  obtain ⟨y0, ys, rfl, ⟨y, rfl, hy⟩, hs1⟩ := en_vs_cons hs
  obtain ⟨x0, zs, rfl, ⟨x, rfl, hx⟩, hs2⟩ := en_vs_cons hs1
  have ey : y = 8 := (fa_eq _ _).mpr (by show y.toInt = 8; dsimp only at hy; omega)
  have ex : x = 2 := (fa_eq _ _).mpr (by show x.toInt = 2; dsimp only at hx; omega)
  subst ey
  subst ex
  have hts := C.2.2.2.2.1
  refine en_mna (ty := .int) (N' := 2) (K' := 8) C.1 C.2.1 C.2.2.2.1 (hts _ (en_ws_in (en_rows_in (.classLink "LoadsAhead$Rows" 9 "[[I") List.mem_cons_self) rfl)) (over_moved (Vm.Alike.refl s.vm) C.2.2.2.2.2.2.2.2.1.2.2.2.2) (hts _ (en_ws_in (en_arr_in _ List.mem_cons_self) rfl)) hS (by decide) (by decide) rfl rfl (by decide) (by decide) (by decide) rfl rfl c2 c3 dr_8 (fun q H1 hk hS1 => ?_)
  exact k2 H1 locs ls (.ref q :: zs) ad1 ⟨hl, hn0, ⟨Or.inr ⟨q, rfl⟩, hs2⟩, hW.kept hk, hS1, hr, hr2⟩
end
section
def tW_0 : en_T := [.inr (8, [.inr 1, .inr 1, .inr 1, .inr 1, .inr 1, .inr 1, .inr 1, .inr 1, .inl (0, 0), .inl (0, 0), .inl (0, 0)]), .inr (7, [.inr 1, .inl (0, 0), .inl (0, 0), .inl (0, 0), .inl (0, 0)])]
def tW_1 : en_T := (tW_0).set 1 (.inr (7, [.inr 4, .inl (0, 0), .inl (0, 0), .inl (0, 0), .inl (0, 0)])) ++ [.inl (0, 260, 0, 0)]
def tW_2 : en_T := (tW_1).set 0 (.inr (8, [.inr 3, .inr 1, .inr 1, .inr 1, .inr 1, .inr 1, .inr 1, .inr 1, .inl (0, 0), .inl (0, 0), .inl (0, 0)])) ++ [.inr (1, [.inr 1, .inr 1, .inr 1, .inr 1, .inr 1, .inr 1, .inr 1, .inr 1, .inr 1, .inr 1, .inr 1, .inl (0, 0)]), .inr (3, [.inr 1, .inr 1, .inr 1, .inr 1, .inr 1, .inr 1, .inr 1, .inr 1, .inr 1, .inr 1, .inr 1, .inl (0, 0), .inl (0, 0)])]
def tW_3 : en_T := (tW_2).set 4 (.inr (3, [.inr 7, .inr 8, .inr 9, .inr 10, .inr 11, .inr 12, .inr 13, .inr 14, .inr 15, .inr 16, .inr 17, .inl (0, 0), .inl (0, 0)])) ++ [.inl (0, 20, 0, 0), .inl (0, 20, 0, 0), .inl (0, 20, 0, 0), .inl (0, 20, 0, 0), .inl (0, 20, 0, 0), .inl (0, 20, 0, 0), .inl (0, 20, 0, 0), .inl (0, 20, 0, 0), .inl (0, 20, 0, 0), .inl (0, 8, 0, 0), .inl (0, 20, 0, 0)]
def tW_4 : en_T := (tW_3).set 3 (.inr (1, [.inr 6, .inr 1, .inr 1, .inr 1, .inr 1, .inr 1, .inr 1, .inr 1, .inr 1, .inr 1, .inr 1, .inl (0, 0)])) ++ [.inr (0, [.inr 1, .inr 1, .inr 1, .inr 1, .inr 1, .inr 1, .inr 1, .inl (0, 0), .inl (0, 0)])]
def tW_5 : en_T := (tW_4).set 16 (.inr (0, [.inr 19, .inr 20, .inr 21, .inr 22, .inr 23, .inr 24, .inr 25, .inl (0, 0), .inl (0, 0)])) ++ [.inl (0, 16, 0, 0), .inl (0, 17, 0, 0), .inl (0, 16, 0, 0), .inl (0, 240, 0, 0), .inl (0, 240, 0, 0), .inl (0, 7, 0, 0), .inl (0, 64, 0, 0)]
def tW_6 : en_T := (tW_5).set 3 (.inr (1, [.inr 6, .inr 18, .inr 1, .inr 1, .inr 1, .inr 1, .inr 1, .inr 1, .inr 1, .inr 1, .inr 1, .inl (0, 0)])) ++ [.inr (6, [.inr 27, .inr 28, .inr 29, .inl (0, 0), .inl (0, 0), .inl (0, 0)]), .inl (0, 8, 0, 0), .inl (0, 64, 0, 0), .inl (0, 20, 0, 0)]
def tW_7 : en_T := (tW_6).set 27 (.inl (0, 20, (-1), (-1)))
def tW_8 : en_T := (tW_5).set 3 (.inr (1, [.inr 6, .inr 18, .inr 1, .inr 1, .inr 1, .inr 1, .inr 1, .inr 1, .inr 1, .inr 1, .inr 1, .inl (0, 0)])) ++ [.inr (6, [.inr 1, .inr 1, .inr 1, .inl (0, 0), .inl (0, 0), .inl (0, 0)])]
def tW_9 : en_T := (tW_7).set 24 (.inr (6, [.inr 27, .inr 28, .inr 29, .inl (0, 0), .inl (0, 0), .inl (1, 1)]))
def tW_10 : en_T := (tW_9).set 3 (.inr (1, [.inr 6, .inr 18, .inr 26, .inr 1, .inr 1, .inr 1, .inr 1, .inr 1, .inr 1, .inr 1, .inr 1, .inl (0, 0)])) ++ [.inr (6, [.inr 31, .inr 32, .inr 33, .inl (0, 0), .inl (0, 0), .inl (0, 0)]), .inl (0, 8, 0, 0), .inl (0, 64, 0, 0), .inl (0, 20, 0, 0)]
def tW_11 : en_T := (tW_10).set 31 (.inl (0, 20, (-1), (-1)))
def tW_12 : en_T := (tW_9).set 3 (.inr (1, [.inr 6, .inr 18, .inr 26, .inr 1, .inr 1, .inr 1, .inr 1, .inr 1, .inr 1, .inr 1, .inr 1, .inl (0, 0)])) ++ [.inr (6, [.inr 1, .inr 1, .inr 1, .inl (0, 0), .inl (0, 0), .inl (0, 0)])]
def tW_13 : en_T := (tW_11).set 28 (.inr (6, [.inr 31, .inr 32, .inr 33, .inl (0, 0), .inl (0, 0), .inl (1, 1)]))
def tW_14 : en_T := (tW_13).set 3 (.inr (1, [.inr 6, .inr 18, .inr 26, .inr 30, .inr 1, .inr 1, .inr 1, .inr 1, .inr 1, .inr 1, .inr 1, .inl (0, 0)])) ++ [.inr (4, [.inr 1, .inr 1, .inr 1, .inr 1, .inr 1, .inr 1])]
def tW_15 : en_T := (tW_14).set 32 (.inr (4, [.inr 35, .inr 36, .inr 37, .inr 38, .inr 39, .inr 40])) ++ [.inl (0, 6, 0, 0), .inl (0, 20, 0, 0), .inl (0, 20, 0, 0), .inl (0, 20, 0, 0), .inl (0, 20, 0, 0), .inl (0, 80, 0, 0)]
def tW_16 : en_T := (tW_1).set 0 (.inr (8, [.inr 3, .inr 1, .inr 1, .inr 1, .inr 1, .inr 1, .inr 1, .inr 1, .inl (0, 0), .inl (0, 0), .inl (0, 0)])) ++ [.inr (1, [.inr 1, .inr 1, .inr 1, .inr 1, .inr 1, .inr 1, .inr 1, .inr 1, .inr 1, .inr 1, .inr 1, .inl (0, 0)])]
def tW_17 : en_T := (tW_15).set 3 (.inr (1, [.inr 6, .inr 18, .inr 26, .inr 30, .inr 34, .inr 41, .inr 42, .inr 43, .inr 44, .inr 45, .inr 46, .inl (0, 0)])) ++ [.inl (0, 20, 0, 0), .inl (0, 20, 0, 0), .inl (1, 20, 0, 0), .inl (0, 80, 0, 0), .inl (0, 20, 0, 0), .inl (0, 20, 0, 0)]
def tW_18 : en_T := (tW_17).set 0 (.inr (8, [.inr 3, .inr 5, .inr 1, .inr 1, .inr 1, .inr 1, .inr 1, .inr 1, .inl (0, 0), .inl (0, 0), .inl (0, 0)])) ++ [.inr (3, [.inr 1, .inr 1, .inr 1, .inr 1, .inr 1, .inr 1, .inr 1, .inr 1, .inr 1, .inr 1, .inr 1, .inl (0, 0), .inl (0, 0)])]
def tW_19 : en_T := (tW_18).set 45 (.inr (3, [.inr 48, .inr 49, .inr 50, .inr 51, .inr 52, .inr 53, .inr 54, .inr 55, .inr 56, .inr 57, .inr 58, .inl (0, 0), .inl (0, 0)])) ++ [.inl (0, 20, 0, 0), .inl (0, 20, 0, 0), .inl (0, 20, 0, 0), .inl (0, 20, 0, 0), .inl (0, 20, 0, 0), .inl (0, 20, 0, 0), .inl (0, 20, 0, 0), .inl (0, 20, 0, 0), .inl (0, 20, 0, 0), .inl (0, 8, 0, 0), .inl (0, 20, 0, 0)]
def tW_20 : en_T := (tW_19).set 0 (.inr (8, [.inr 3, .inr 5, .inr 47, .inr 1, .inr 1, .inr 1, .inr 1, .inr 1, .inl (0, 0), .inl (0, 0), .inl (0, 0)])) ++ [.inr (0, [.inr 1, .inr 1, .inr 1, .inr 1, .inr 1, .inr 1, .inr 1, .inl (0, 0), .inl (0, 0)])]
def tW_21 : en_T := (tW_20).set 57 (.inr (0, [.inr 60, .inr 61, .inr 62, .inr 63, .inr 64, .inr 65, .inr 66, .inl (0, 0), .inl (0, 0)])) ++ [.inl (0, 16, 0, 0), .inl (0, 17, 0, 0), .inl (0, 16, 0, 0), .inl (0, 240, 0, 0), .inl (0, 240, 0, 0), .inl (0, 7, 0, 0), .inl (0, 64, 0, 0)]
def tW_22 : en_T := (tW_21).set 0 (.inr (8, [.inr 3, .inr 5, .inr 47, .inr 59, .inr 1, .inr 1, .inr 1, .inr 1, .inl (0, 0), .inl (0, 0), .inl (0, 0)])) ++ [.inr (2, [.inr 1, .inr 1]), .inr (6, [.inr 69, .inr 70, .inr 71, .inl (0, 0), .inl (0, 0), .inl (0, 0)]), .inl (0, 8, 0, 0), .inl (0, 64, 0, 0), .inl (0, 20, 0, 0)]
def tW_23 : en_T := (tW_22).set 69 (.inl (0, 20, (-1), (-1)))
def tW_24 : en_T := (tW_21).set 0 (.inr (8, [.inr 3, .inr 5, .inr 47, .inr 59, .inr 1, .inr 1, .inr 1, .inr 1, .inl (0, 0), .inl (0, 0), .inl (0, 0)])) ++ [.inr (2, [.inr 1, .inr 1]), .inr (6, [.inr 1, .inr 1, .inr 1, .inl (0, 0), .inl (0, 0), .inl (0, 0)])]
def tW_25 : en_T := (tW_23).set 66 (.inr (6, [.inr 69, .inr 70, .inr 71, .inl (0, 0), .inl (0, 0), .inl (1, 1)]))
def tW_26 : en_T := (tW_21).set 0 (.inr (8, [.inr 3, .inr 5, .inr 47, .inr 59, .inr 1, .inr 1, .inr 1, .inr 1, .inl (0, 0), .inl (0, 0), .inl (0, 0)])) ++ [.inr (2, [.inr 1, .inr 1])]
def tW_27 : en_T := (tW_25).set 65 (.inr (2, [.inr 68, .inr 72])) ++ [.inl (0, 20, 0, 0)]
def tW_28 : en_T := (tW_27).set 0 (.inr (8, [.inr 3, .inr 5, .inr 47, .inr 59, .inr 67, .inr 1, .inr 1, .inr 1, .inl (0, 0), .inl (0, 0), .inl (0, 0)])) ++ [.inr (4, [.inr 1, .inr 1, .inr 1, .inr 1, .inr 1, .inr 1])]
def tW_29 : en_T := (tW_28).set 71 (.inr (4, [.inr 74, .inr 75, .inr 76, .inr 77, .inr 78, .inr 79])) ++ [.inl (0, 6, 0, 0), .inl (0, 20, 0, 0), .inl (0, 20, 0, 0), .inl (0, 20, 0, 0), .inl (0, 20, 0, 0), .inl (0, 80, 0, 0)]
def tW_30 : en_T := (tW_29).set 0 (.inr (8, [.inr 3, .inr 5, .inr 47, .inr 59, .inr 67, .inr 73, .inr 1, .inr 1, .inl (0, 0), .inl (0, 0), .inl (0, 0)])) ++ [.inr (6, [.inr 81, .inr 82, .inr 83, .inl (0, 0), .inl (0, 0), .inl (0, 0)]), .inl (0, 8, 0, 0), .inl (0, 64, 0, 0), .inl (0, 20, 0, 0)]
def tW_31 : en_T := (tW_30).set 81 (.inl (0, 20, (-1), (-1)))
def tW_32 : en_T := (tW_29).set 0 (.inr (8, [.inr 3, .inr 5, .inr 47, .inr 59, .inr 67, .inr 73, .inr 1, .inr 1, .inl (0, 0), .inl (0, 0), .inl (0, 0)])) ++ [.inr (6, [.inr 1, .inr 1, .inr 1, .inl (0, 0), .inl (0, 0), .inl (0, 0)])]
def tW_33 : en_T := (tW_31).set 78 (.inr (6, [.inr 81, .inr 82, .inr 83, .inl (0, 0), .inl (0, 0), .inl (1, 1)]))
def tW_34 : en_T := (tW_33).set 0 (.inr (8, [.inr 3, .inr 5, .inr 47, .inr 59, .inr 67, .inr 73, .inr 80, .inr 1, .inl (0, 0), .inl (0, 0), .inl (0, 0)])) ++ [.inr (5, [.inr 1, .inr 1, .inl (0, 0)])]
def tW_35 : en_T := (tW_34).set 82 (.inr (5, [.inr 0, .inr 85, .inl (0, 0)])) ++ [.inl (0, 2, 0, 0)]
def tW_36 : en_T := [.inr (8, [.inr 1, .inr 1, .inr 1, .inr 1, .inr 1, .inr 1, .inr 1, .inr 1, .inl (0, 0), .inl (0, 0), .inl (0, 0)])]
def tW_37 : en_T := (tW_35).set 0 (.inr (8, [.inr 3, .inr 5, .inr 47, .inr 59, .inr 67, .inr 73, .inr 80, .inr 84, .inl (0, 0), .inl (0, 0), .inl (0, 0)]))
def tW_38 : en_T := tW_37 ++ [.inr (9, [.inl (0, 0), .inl (0, 0), .inl (0, 0), .inl (0, 0), .inl (0, 0), .inl (0, 0), .inr 1, .inr 1, .inr 1, .inr 1, .inr 1, .inr 1, .inr 1, .inr 1, .inr 1, .inr 1, .inr 1, .inr 1, .inl (0, 0), .inl (0, 0), .inl (0, 0), .inl (0, 0), .inl (0, 0), .inl (0, 0), .inl (0, 0), .inl (0, 0), .inl (0, 0), .inl (0, 0), .inr 1, .inr 1, .inr 1, .inr 1, .inr 1, .inr 1, .inr 1, .inr 1, .inr 1, .inr 1, .inr 1, .inr 1, .inr 1, .inl (0, 0), .inr 1, .inr 1, .inr 1, .inr 1, .inr 1, .inr 1, .inr 1, .inr 1, .inr 1, .inr 1, .inr 1, .inr 1, .inr 1, .inr 1, .inr 1, .inr 1, .inr 1, .inr 1, .inr 1, .inr 1, .inr 1, .inl (0, 0), .inl (0, 0), .inl (0, 0), .inl (0, 0), .inl (0, 0), .inl (0, 0), .inl (0, 0), .inl (0, 0), .inr 1, .inl (0, 0), .inr 1, .inr 1, .inl (0, 0), .inr 1, .inr 1, .inr 1, .inr 1, .inr 1, .inr 1, .inr 1, .inr 1, .inr 1, .inr 1, .inr 1, .inr 1, .inl (0, 0), .inl (0, 0), .inl (0, 0), .inl (0, 0), .inl (0, 0), .inr 1, .inr 1, .inr 1])]
def tW_39 : en_T := [.inr (8, [.inr 3, .inr 5, .inr 47, .inr 59, .inr 67, .inr 73, .inr 80, .inr 84, .inl (0, 0), .inl (0, 0), .inl (0, 0)]), .inr (7, [.inr 4, .inl (0, 0), .inl (0, 0), .inl (0, 0), .inl (0, 0)]), .inl (0, 260, 0, 0), .inr (1, [.inr 6, .inr 18, .inr 26, .inr 30, .inr 34, .inr 41, .inr 42, .inr 43, .inr 44, .inr 45, .inr 46, .inl (0, 0)]), .inr (3, [.inr 7, .inr 8, .inr 9, .inr 10, .inr 11, .inr 12, .inr 13, .inr 14, .inr 15, .inr 16, .inr 17, .inl (0, 0), .inl (0, 0)]), .inl (0, 20, 0, 0), .inl (0, 20, 0, 0), .inl (0, 20, 0, 0), .inl (0, 20, 0, 0), .inl (0, 20, 0, 0), .inl (0, 20, 0, 0), .inl (0, 20, 0, 0), .inl (0, 20, 0, 0), .inl (0, 20, 0, 0), .inl (0, 8, 0, 0), .inl (0, 20, 0, 0), .inr (0, [.inr 19, .inr 20, .inr 21, .inr 22, .inr 23, .inr 24, .inr 25, .inl (0, 0), .inl (0, 0)]), .inl (0, 16, 0, 0), .inl (0, 17, 0, 0), .inl (0, 16, 0, 0), .inl (0, 240, 0, 0), .inl (0, 240, 0, 0), .inl (0, 7, 0, 0), .inl (0, 64, 0, 0), .inr (6, [.inr 27, .inr 28, .inr 29, .inl (0, 0), .inl (0, 0), .inl (1, 1)]), .inl (0, 8, 0, 0), .inl (0, 64, 0, 0), .inl (0, 20, (-1), (-1)), .inr (6, [.inr 31, .inr 32, .inr 33, .inl (0, 0), .inl (0, 0), .inl (1, 1)]), .inl (0, 8, 0, 0), .inl (0, 64, 0, 0), .inl (0, 20, (-1), (-1)), .inr (4, [.inr 35, .inr 36, .inr 37, .inr 38, .inr 39, .inr 40]), .inl (0, 6, 0, 0), .inl (0, 20, 0, 0), .inl (0, 20, 0, 0), .inl (0, 20, 0, 0), .inl (0, 20, 0, 0), .inl (0, 80, 0, 0), .inl (0, 20, 0, 0), .inl (0, 20, 0, 0), .inl (1, 20, 0, 0), .inl (0, 80, 0, 0), .inl (0, 20, 0, 0), .inl (0, 20, 0, 0), .inr (3, [.inr 48, .inr 49, .inr 50, .inr 51, .inr 52, .inr 53, .inr 54, .inr 55, .inr 56, .inr 57, .inr 58, .inl (0, 0), .inl (0, 0)]), .inl (0, 20, 0, 0), .inl (0, 20, 0, 0), .inl (0, 20, 0, 0), .inl (0, 20, 0, 0), .inl (0, 20, 0, 0), .inl (0, 20, 0, 0), .inl (0, 20, 0, 0), .inl (0, 20, 0, 0), .inl (0, 20, 0, 0), .inl (0, 8, 0, 0), .inl (0, 20, 0, 0), .inr (0, [.inr 60, .inr 61, .inr 62, .inr 63, .inr 64, .inr 65, .inr 66, .inl (0, 0), .inl (0, 0)]), .inl (0, 16, 0, 0), .inl (0, 17, 0, 0), .inl (0, 16, 0, 0), .inl (0, 240, 0, 0), .inl (0, 240, 0, 0), .inl (0, 7, 0, 0), .inl (0, 64, 0, 0), .inr (2, [.inr 68, .inr 72]), .inr (6, [.inr 69, .inr 70, .inr 71, .inl (0, 0), .inl (0, 0), .inl (1, 1)]), .inl (0, 8, 0, 0), .inl (0, 64, 0, 0), .inl (0, 20, (-1), (-1)), .inl (0, 20, 0, 0), .inr (4, [.inr 74, .inr 75, .inr 76, .inr 77, .inr 78, .inr 79]), .inl (0, 6, 0, 0), .inl (0, 20, 0, 0), .inl (0, 20, 0, 0), .inl (0, 20, 0, 0), .inl (0, 20, 0, 0), .inl (0, 80, 0, 0), .inr (6, [.inr 81, .inr 82, .inr 83, .inl (0, 0), .inl (0, 0), .inl (1, 1)]), .inl (0, 8, 0, 0), .inl (0, 64, 0, 0), .inl (0, 20, (-1), (-1)), .inr (5, [.inr 0, .inr 85, .inl (0, 0)]), .inl (0, 2, 0, 0), .inr (9, [.inl (1, 1), .inl (0, 0), .inl (0, 0), .inl (0, 0), .inl (0, 0), .inl (0, 0), .inr 87, .inr 88, .inr 89, .inr 90, .inr 91, .inr 92, .inr 93, .inr 94, .inr 95, .inr 96, .inr 97, .inr 98, .inl (0, 0), .inl (0, 0), .inl (0, 0), .inl (0, 0), .inl (0, 0), .inl (0, 0), .inl (0, 0), .inl (0, 0), .inl (0, 0), .inl (0, 0), .inr 99, .inr 100, .inr 101, .inr 102, .inr 103, .inr 104, .inr 105, .inr 106, .inr 107, .inr 108, .inr 109, .inr 110, .inr 111, .inl (0, 0), .inr 112, .inr 113, .inr 114, .inr 115, .inr 116, .inr 117, .inr 118, .inr 119, .inr 120, .inr 121, .inr 122, .inr 123, .inr 124, .inr 125, .inr 126, .inr 127, .inr 128, .inr 129, .inr 130, .inr 131, .inr 132, .inl (0, 0), .inl (0, 0), .inl (0, 0), .inl (0, 0), .inl (0, 0), .inl (0, 0), .inl (0, 0), .inl (0, 0), .inr 133, .inl (0, 0), .inr 134, .inr 135, .inl (0, 0), .inr 136, .inr 137, .inr 138, .inr 139, .inr 140, .inr 141, .inr 142, .inr 143, .inr 144, .inr 145, .inr 146, .inr 147, .inl (0, 0), .inl (0, 0), .inl (0, 0), .inl (0, 0), .inl (0, 0), .inr 148, .inr 149, .inr 150]), .inl (0, 8, 0, 0), .inl (0, 64, 0, 0), .inl (0, 20, 0, 0), .inl (0, 20, 0, 0), .inl (0, 20, 0, 0), .inl (0, 20, 0, 0), .inl (0, 20, 0, 0), .inl (0, 20, 0, 0), .inl (0, 20, 0, 0), .inl (0, 20, 0, 0), .inl (0, 20, 0, 0), .inl (2, 260, 0, 0), .inl (0, 260, 0, 0), .inl (0, 260, 0, 0), .inl (0, 16, 0, 0), .inl (0, 16, 0, 0), .inl (0, 16, 0, 0), .inl (0, 16, 0, 0), .inl (0, 260, 0, 0), .inl (0, 16, 0, 0), .inl (0, 16, 0, 0), .inl (0, 16, 0, 0), .inl (0, 16, 0, 0), .inl (0, 260, 0, 0), .inl (0, 7, 0, 0), .inl (0, 20, 0, 0), .inl (0, 20, 0, 0), .inl (0, 20, 0, 0), .inl (0, 20, 0, 0), .inl (0, 20, 0, 0), .inl (0, 20, 0, 0), .inl (0, 20, 0, 0), .inl (0, 20, 0, 0), .inl (0, 20, 0, 0), .inl (0, 20, 0, 0), .inl (0, 20, 0, 0), .inl (0, 20, 0, 0), .inl (0, 20, 0, 0), .inl (0, 20, 0, 0), .inl (0, 80, 0, 0), .inl (0, 80, 0, 0), .inl (1, 20, 0, 0), .inl (0, 64, 0, 0), .inl (0, 64, 0, 0), .inl (0, 20, 0, 0), .inl (0, 8, 0, 0), .inl (0, 400, 0, 0), .inl (0, 20, 0, 0), .inl (0, 20, 0, 0), .inl (0, 6, 0, 0), .inl (0, 20, 0, 0), .inl (0, 20, 0, 0), .inl (0, 20, 0, 0), .inl (0, 20, 0, 0), .inl (0, 80, 0, 0), .inl (0, 8, 0, 0), .inl (0, 64, 0, 0), .inl (0, 20, 0, 0), .inl (0, 20, 0, 0), .inl (0, 16, 0, 0), .inl (0, 2, 0, 0), .inl (0, 8, 0, 0), .inl (0, 64, 0, 0), .inl (0, 20, 0, 0)]
def tW_40 : en_T := (tW_39).set 25 (.inl (0, 8, (-2147483648), 2147483647))
def tW_41 : en_T := (tW_40).set 85 (.inl (0, 8, (-2147483648), 2147483647))
def tW_42 : en_T := (tW_39).set 26 (.inl (0, 64, 0, 255))
def tW_43 : en_T := (tW_42).set 86 (.inl (0, 64, 0, 255))
def tW_44 : en_T := ((tW_39).set 1 (.inr (7, [.inr 4, .inl (4, 4), .inl (0, 0), .inl (0, 0), .inl (0, 0)]))).set 2 (.inl (0, 260, 0, 255))
def tW_45 : en_T := (tW_44).set 1 (.inr (7, [.inr 4, .inl (8, 8), .inl (0, 0), .inl (0, 0), .inl (0, 0)]))
def tW_46 : en_T := (tW_44).set 1 (.inr (7, [.inr 4, .inl (12, 12), .inl (0, 0), .inl (0, 0), .inl (0, 0)]))
def tW_47 : en_T := (tW_44).set 1 (.inr (7, [.inr 4, .inl (16, 16), .inl (0, 0), .inl (0, 0), .inl (0, 0)]))
def tW_48 : en_T := (tW_44).set 1 (.inr (7, [.inr 4, .inl (20, 20), .inl (0, 0), .inl (0, 0), .inl (0, 0)]))
def tW_49 : en_T := ((tW_48).set 84 (.inr (9, [.inl (1, 1), .inl (0, 0), .inl (0, 0), .inl (0, 0), .inl (0, 0), .inl (0, 0), .inr 87, .inr 88, .inr 89, .inr 90, .inr 91, .inr 92, .inr 93, .inr 94, .inr 95, .inr 96, .inr 97, .inr 98, .inl (4, 4), .inl (0, 0), .inl (0, 0), .inl (0, 0), .inl (0, 0), .inl (0, 0), .inl (0, 0), .inl (0, 0), .inl (0, 0), .inl (0, 0), .inr 99, .inr 100, .inr 101, .inr 102, .inr 103, .inr 104, .inr 105, .inr 106, .inr 107, .inr 108, .inr 109, .inr 110, .inr 111, .inl (0, 0), .inr 112, .inr 113, .inr 114, .inr 115, .inr 116, .inr 117, .inr 118, .inr 119, .inr 120, .inr 121, .inr 122, .inr 123, .inr 124, .inr 125, .inr 126, .inr 127, .inr 128, .inr 129, .inr 130, .inr 131, .inr 132, .inl (0, 0), .inl (0, 0), .inl (0, 0), .inl (0, 0), .inl (0, 0), .inl (0, 0), .inl (0, 0), .inl (0, 0), .inr 133, .inl (0, 0), .inr 134, .inr 135, .inl (0, 0), .inr 136, .inr 137, .inr 138, .inr 139, .inr 140, .inr 141, .inr 142, .inr 143, .inr 144, .inr 145, .inr 146, .inr 147, .inl (0, 0), .inl (0, 0), .inl (0, 0), .inl (0, 0), .inl (0, 0), .inr 148, .inr 149, .inr 150]))).set 96 (.inl (2, 260, (-128), 127))
def tW_50 : en_T := (tW_49).set 84 (.inr (9, [.inl (1, 1), .inl (0, 0), .inl (0, 0), .inl (0, 0), .inl (0, 0), .inl (0, 0), .inr 87, .inr 88, .inr 89, .inr 90, .inr 91, .inr 92, .inr 93, .inr 94, .inr 95, .inr 96, .inr 97, .inr 98, .inl (8, 8), .inl (0, 0), .inl (0, 0), .inl (0, 0), .inl (0, 0), .inl (0, 0), .inl (0, 0), .inl (0, 0), .inl (0, 0), .inl (0, 0), .inr 99, .inr 100, .inr 101, .inr 102, .inr 103, .inr 104, .inr 105, .inr 106, .inr 107, .inr 108, .inr 109, .inr 110, .inr 111, .inl (0, 0), .inr 112, .inr 113, .inr 114, .inr 115, .inr 116, .inr 117, .inr 118, .inr 119, .inr 120, .inr 121, .inr 122, .inr 123, .inr 124, .inr 125, .inr 126, .inr 127, .inr 128, .inr 129, .inr 130, .inr 131, .inr 132, .inl (0, 0), .inl (0, 0), .inl (0, 0), .inl (0, 0), .inl (0, 0), .inl (0, 0), .inl (0, 0), .inl (0, 0), .inr 133, .inl (0, 0), .inr 134, .inr 135, .inl (0, 0), .inr 136, .inr 137, .inr 138, .inr 139, .inr 140, .inr 141, .inr 142, .inr 143, .inr 144, .inr 145, .inr 146, .inr 147, .inl (0, 0), .inl (0, 0), .inl (0, 0), .inl (0, 0), .inl (0, 0), .inr 148, .inr 149, .inr 150]))
def tW_51 : en_T := (tW_49).set 84 (.inr (9, [.inl (1, 1), .inl (0, 0), .inl (0, 0), .inl (0, 0), .inl (0, 0), .inl (0, 0), .inr 87, .inr 88, .inr 89, .inr 90, .inr 91, .inr 92, .inr 93, .inr 94, .inr 95, .inr 96, .inr 97, .inr 98, .inl (12, 12), .inl (0, 0), .inl (0, 0), .inl (0, 0), .inl (0, 0), .inl (0, 0), .inl (0, 0), .inl (0, 0), .inl (0, 0), .inl (0, 0), .inr 99, .inr 100, .inr 101, .inr 102, .inr 103, .inr 104, .inr 105, .inr 106, .inr 107, .inr 108, .inr 109, .inr 110, .inr 111, .inl (0, 0), .inr 112, .inr 113, .inr 114, .inr 115, .inr 116, .inr 117, .inr 118, .inr 119, .inr 120, .inr 121, .inr 122, .inr 123, .inr 124, .inr 125, .inr 126, .inr 127, .inr 128, .inr 129, .inr 130, .inr 131, .inr 132, .inl (0, 0), .inl (0, 0), .inl (0, 0), .inl (0, 0), .inl (0, 0), .inl (0, 0), .inl (0, 0), .inl (0, 0), .inr 133, .inl (0, 0), .inr 134, .inr 135, .inl (0, 0), .inr 136, .inr 137, .inr 138, .inr 139, .inr 140, .inr 141, .inr 142, .inr 143, .inr 144, .inr 145, .inr 146, .inr 147, .inl (0, 0), .inl (0, 0), .inl (0, 0), .inl (0, 0), .inl (0, 0), .inr 148, .inr 149, .inr 150]))
def tW_52 : en_T := (tW_49).set 84 (.inr (9, [.inl (1, 1), .inl (0, 0), .inl (0, 0), .inl (0, 0), .inl (0, 0), .inl (0, 0), .inr 87, .inr 88, .inr 89, .inr 90, .inr 91, .inr 92, .inr 93, .inr 94, .inr 95, .inr 96, .inr 97, .inr 98, .inl (16, 16), .inl (0, 0), .inl (0, 0), .inl (0, 0), .inl (0, 0), .inl (0, 0), .inl (0, 0), .inl (0, 0), .inl (0, 0), .inl (0, 0), .inr 99, .inr 100, .inr 101, .inr 102, .inr 103, .inr 104, .inr 105, .inr 106, .inr 107, .inr 108, .inr 109, .inr 110, .inr 111, .inl (0, 0), .inr 112, .inr 113, .inr 114, .inr 115, .inr 116, .inr 117, .inr 118, .inr 119, .inr 120, .inr 121, .inr 122, .inr 123, .inr 124, .inr 125, .inr 126, .inr 127, .inr 128, .inr 129, .inr 130, .inr 131, .inr 132, .inl (0, 0), .inl (0, 0), .inl (0, 0), .inl (0, 0), .inl (0, 0), .inl (0, 0), .inl (0, 0), .inl (0, 0), .inr 133, .inl (0, 0), .inr 134, .inr 135, .inl (0, 0), .inr 136, .inr 137, .inr 138, .inr 139, .inr 140, .inr 141, .inr 142, .inr 143, .inr 144, .inr 145, .inr 146, .inr 147, .inl (0, 0), .inl (0, 0), .inl (0, 0), .inl (0, 0), .inl (0, 0), .inr 148, .inr 149, .inr 150]))
def tW_53 : en_T := (tW_49).set 84 (.inr (9, [.inl (1, 1), .inl (0, 0), .inl (0, 0), .inl (0, 0), .inl (0, 0), .inl (0, 0), .inr 87, .inr 88, .inr 89, .inr 90, .inr 91, .inr 92, .inr 93, .inr 94, .inr 95, .inr 96, .inr 97, .inr 98, .inl (20, 20), .inl (0, 0), .inl (0, 0), .inl (0, 0), .inl (0, 0), .inl (0, 0), .inl (0, 0), .inl (0, 0), .inl (0, 0), .inl (0, 0), .inr 99, .inr 100, .inr 101, .inr 102, .inr 103, .inr 104, .inr 105, .inr 106, .inr 107, .inr 108, .inr 109, .inr 110, .inr 111, .inl (0, 0), .inr 112, .inr 113, .inr 114, .inr 115, .inr 116, .inr 117, .inr 118, .inr 119, .inr 120, .inr 121, .inr 122, .inr 123, .inr 124, .inr 125, .inr 126, .inr 127, .inr 128, .inr 129, .inr 130, .inr 131, .inr 132, .inl (0, 0), .inl (0, 0), .inl (0, 0), .inl (0, 0), .inl (0, 0), .inl (0, 0), .inl (0, 0), .inl (0, 0), .inr 133, .inl (0, 0), .inr 134, .inr 135, .inl (0, 0), .inr 136, .inr 137, .inr 138, .inr 139, .inr 140, .inr 141, .inr 142, .inr 143, .inr 144, .inr 145, .inr 146, .inr 147, .inl (0, 0), .inl (0, 0), .inl (0, 0), .inl (0, 0), .inl (0, 0), .inr 148, .inr 149, .inr 150]))
def tW_54 : en_T := (tW_39).set 24 (.inr (6, [.inr 27, .inr 28, .inr 29, .inl (0, 0), .inl (0, 0), .inl (0, 65535)]))
def tW_55 : en_T := (tW_54).set 84 (.inr (9, [.inl (0, 65535), .inl (0, 0), .inl (0, 0), .inl (0, 0), .inl (0, 0), .inl (0, 0), .inr 87, .inr 88, .inr 89, .inr 90, .inr 91, .inr 92, .inr 93, .inr 94, .inr 95, .inr 96, .inr 97, .inr 98, .inl (0, 0), .inl (0, 0), .inl (0, 0), .inl (0, 0), .inl (0, 0), .inl (0, 0), .inl (0, 0), .inl (0, 0), .inl (0, 0), .inl (0, 0), .inr 99, .inr 100, .inr 101, .inr 102, .inr 103, .inr 104, .inr 105, .inr 106, .inr 107, .inr 108, .inr 109, .inr 110, .inr 111, .inl (0, 0), .inr 112, .inr 113, .inr 114, .inr 115, .inr 116, .inr 117, .inr 118, .inr 119, .inr 120, .inr 121, .inr 122, .inr 123, .inr 124, .inr 125, .inr 126, .inr 127, .inr 128, .inr 129, .inr 130, .inr 131, .inr 132, .inl (0, 0), .inl (0, 0), .inl (0, 0), .inl (0, 0), .inl (0, 0), .inl (0, 0), .inl (0, 0), .inl (0, 0), .inr 133, .inl (0, 0), .inr 134, .inr 135, .inl (0, 0), .inr 136, .inr 137, .inr 138, .inr 139, .inr 140, .inr 141, .inr 142, .inr 143, .inr 144, .inr 145, .inr 146, .inr 147, .inl (0, 0), .inl (0, 0), .inl (0, 0), .inl (0, 0), .inl (0, 0), .inr 148, .inr 149, .inr 150]))
def tW_56 : en_T := (tW_39).set 0 (.inr (8, [.inr 3, .inr 5, .inr 47, .inr 59, .inr 67, .inr 73, .inr 80, .inr 84, .inl (0, 0), .inl (1, 1), .inl (0, 0)]))
def tW_57 : en_T := (tW_56).set 84 (.inr (9, [.inl (1, 1), .inl (0, 0), .inl (0, 0), .inl (0, 0), .inl (0, 0), .inl (0, 0), .inr 87, .inr 88, .inr 89, .inr 90, .inr 91, .inr 92, .inr 93, .inr 94, .inr 95, .inr 96, .inr 97, .inr 98, .inl (0, 0), .inl (0, 0), .inl (0, 0), .inl (0, 0), .inl (0, 0), .inl (0, 0), .inl (0, 0), .inl (0, 0), .inl (0, 0), .inl (0, 0), .inr 99, .inr 100, .inr 101, .inr 102, .inr 103, .inr 104, .inr 105, .inr 106, .inr 107, .inr 108, .inr 109, .inr 110, .inr 111, .inl (0, 0), .inr 112, .inr 113, .inr 114, .inr 115, .inr 116, .inr 117, .inr 118, .inr 119, .inr 120, .inr 121, .inr 122, .inr 123, .inr 124, .inr 125, .inr 126, .inr 127, .inr 128, .inr 129, .inr 130, .inr 131, .inr 132, .inl (0, 0), .inl (0, 0), .inl (0, 0), .inl (0, 0), .inl (0, 0), .inl (0, 0), .inl (0, 0), .inl (0, 0), .inr 133, .inl (0, 0), .inr 134, .inr 135, .inl (0, 0), .inr 136, .inr 137, .inr 138, .inr 139, .inr 140, .inr 141, .inr 142, .inr 143, .inr 144, .inr 145, .inr 146, .inr 147, .inl (1, 1), .inl (0, 0), .inl (0, 0), .inl (0, 0), .inl (1, 1), .inr 148, .inr 149, .inr 150]))
def tW_58 : en_T := (tW_4).set 16 (.inr (0, [.inr 19, .inr 20, .inr 21, .inr 22, .inr 23, .inr 1, .inr 1, .inl (0, 0), .inl (0, 0)])) ++ [.inl (0, 16, 0, 0), .inl (0, 17, 0, 0), .inl (0, 16, 0, 0), .inl (0, 240, 0, 0), .inl (0, 240, 0, 0)]
def tW_59 : en_T := (tW_20).set 57 (.inr (0, [.inr 60, .inr 61, .inr 62, .inr 63, .inr 64, .inr 1, .inr 1, .inl (0, 0), .inl (0, 0)])) ++ [.inl (0, 16, 0, 0), .inl (0, 17, 0, 0), .inl (0, 16, 0, 0), .inl (0, 240, 0, 0), .inl (0, 240, 0, 0)]
def kk_0 : en_K := (1, [.inr 3], tW_0, none, tW_1, 1, 12, 1, 260)
def kk_1 : en_K := (3, [.inr 6], tW_2, none, tW_3, 1, 12, 11, 208)
def kk_2 : en_K := (4, [.inr 18], tW_4, none, tW_5, 2, 60, 7, 600)
def kk_3 : en_K := (6, [.inr 29, .inl ((-1), (-1))], tW_6, none, tW_7, 0, 0, 0, 0)
def kk_4 : en_K := (5, [.inr 26], tW_8, none, tW_9, 1, 23, 3, 92)
def kk_5 : en_K := (6, [.inr 33, .inl ((-1), (-1))], tW_10, none, tW_11, 0, 0, 0, 0)
def kk_6 : en_K := (5, [.inr 30], tW_12, none, tW_13, 1, 23, 3, 92)
def kk_7 : en_K := (7, [.inr 34], tW_14, none, tW_15, 1, 12, 6, 166)
def kk_8 : en_K := (2, [.inr 5], tW_16, none, tW_17, 3, 80, 41, 1378)
def kk_9 : en_K := (3, [.inr 47], tW_18, none, tW_19, 1, 12, 11, 208)
def kk_10 : en_K := (4, [.inr 59], tW_20, none, tW_21, 2, 60, 7, 600)
def kk_11 : en_K := (6, [.inr 71, .inl ((-1), (-1))], tW_22, none, tW_23, 0, 0, 0, 0)
def kk_12 : en_K := (5, [.inr 68], tW_24, none, tW_25, 1, 23, 3, 92)
def kk_13 : en_K := (8, [.inr 67], tW_26, none, tW_27, 2, 43, 5, 118)
def kk_14 : en_K := (7, [.inr 73], tW_28, none, tW_29, 1, 12, 6, 166)
def kk_15 : en_K := (6, [.inr 83, .inl ((-1), (-1))], tW_30, none, tW_31, 0, 0, 0, 0)
def kk_16 : en_K := (5, [.inr 80], tW_32, none, tW_33, 1, 23, 3, 92)
def kk_17 : en_K := (9, [.inr 84], tW_34, none, tW_35, 1, 12, 4, 20)
def kk_18 : en_K := (0, [.inr 2], tW_36, none, tW_37, 4, 100, 86, 2898)
def kk_19 : en_K := (135, [.inr 86], tW_38, none, tW_39, 1, 12, 64, 3131)
def kk_20 : en_K := (10, [.inr 2, .inl ((-2147483648), (-1)), .inl ((-2147483648), 2147483647)], tW_39, some (.inl (0, 0)), tW_39, 0, 0, 0, 0)
def kk_21 : en_K := (137, [.inl ((-2147483648), (-1)), .inl (0, 0), .inl (7, 7)], [], some (.inl (0, 0)), [], 0, 0, 0, 0)
def kk_22 : en_K := (136, [.inr 86, .inl ((-2147483648), (-1)), .inl ((-2147483648), 2147483647)], tW_39, some (.inl (0, 0)), tW_39, 1, 22, 0, 0)
def kk_23 : en_K := (10, [.inr 2, .inl (0, 7), .inl ((-2147483648), 2147483647)], tW_39, some (.inl (1, 1)), tW_40, 0, 0, 0, 0)
def kk_24 : en_K := (137, [.inl (0, 7), .inl (0, 0), .inl (7, 7)], [], some (.inl (1, 1)), [], 0, 0, 0, 0)
def kk_25 : en_K := (136, [.inr 86, .inl (0, 7), .inl ((-2147483648), 2147483647)], tW_40, some (.inl (1, 1)), tW_41, 1, 22, 0, 0)
def kk_26 : en_K := (10, [.inr 2, .inl (8, 2147483647), .inl ((-2147483648), 2147483647)], tW_39, some (.inl (0, 0)), tW_39, 0, 0, 0, 0)
def kk_27 : en_K := (137, [.inl (8, 2147483647), .inl (0, 0), .inl (7, 7)], [], some (.inl (0, 0)), [], 0, 0, 0, 0)
def kk_28 : en_K := (136, [.inr 86, .inl (8, 2147483647), .inl ((-2147483648), 2147483647)], tW_39, some (.inl (0, 0)), tW_39, 1, 22, 0, 0)
def kk_29 : en_K := (11, [.inr 2, .inl ((-2147483648), (-1)), .inl ((-2147483648), 2147483647)], tW_39, some (.inl (0, 0)), tW_39, 0, 0, 0, 0)
def kk_30 : en_K := (137, [.inl ((-2147483648), (-1)), .inl (0, 0), .inl (63, 63)], [], some (.inl (0, 0)), [], 0, 0, 0, 0)
def kk_31 : en_K := (138, [.inr 86, .inl ((-2147483648), (-1)), .inl ((-2147483648), 2147483647)], tW_39, some (.inl (0, 0)), tW_39, 1, 22, 0, 0)
def kk_32 : en_K := (11, [.inr 2, .inl (64, 2147483647), .inl ((-2147483648), 2147483647)], tW_39, some (.inl (0, 0)), tW_39, 0, 0, 0, 0)
def kk_33 : en_K := (137, [.inl (64, 2147483647), .inl (0, 0), .inl (63, 63)], [], some (.inl (0, 0)), [], 0, 0, 0, 0)
def kk_34 : en_K := (138, [.inr 86, .inl (64, 2147483647), .inl ((-2147483648), 2147483647)], tW_39, some (.inl (0, 0)), tW_39, 1, 22, 0, 0)
def kk_35 : en_K := (11, [.inr 2, .inl (0, 63), .inl ((-2147483648), (-1))], tW_39, some (.inl (0, 0)), tW_39, 0, 0, 0, 0)
def kk_36 : en_K := (137, [.inl (0, 63), .inl (0, 0), .inl (63, 63)], [], some (.inl (1, 1)), [], 0, 0, 0, 0)
def kk_37 : en_K := (137, [.inl ((-2147483648), (-1)), .inl (0, 0), .inl (255, 255)], [], some (.inl (0, 0)), [], 0, 0, 0, 0)
def kk_38 : en_K := (138, [.inr 86, .inl (0, 63), .inl ((-2147483648), (-1))], tW_39, some (.inl (0, 0)), tW_39, 1, 22, 0, 0)
def kk_39 : en_K := (11, [.inr 2, .inl (0, 63), .inl (0, 255)], tW_39, some (.inl (1, 1)), tW_42, 0, 0, 0, 0)
def kk_40 : en_K := (137, [.inl (0, 255), .inl (0, 0), .inl (255, 255)], [], some (.inl (1, 1)), [], 0, 0, 0, 0)
def kk_41 : en_K := (138, [.inr 86, .inl (0, 63), .inl (0, 255)], tW_42, some (.inl (1, 1)), tW_43, 1, 22, 0, 0)
def kk_42 : en_K := (11, [.inr 2, .inl (0, 63), .inl (256, 2147483647)], tW_39, some (.inl (0, 0)), tW_39, 0, 0, 0, 0)
def kk_43 : en_K := (137, [.inl (256, 2147483647), .inl (0, 0), .inl (255, 255)], [], some (.inl (0, 0)), [], 0, 0, 0, 0)
def kk_44 : en_K := (138, [.inr 86, .inl (0, 63), .inl (256, 2147483647)], tW_39, some (.inl (0, 0)), tW_39, 1, 22, 0, 0)
def kk_45 : en_K := (13, [.inr 3, .inl ((-2147483648), 2147483647)], tW_39, none, tW_44, 0, 0, 0, 0)
def kk_46 : en_K := (13, [.inr 3, .inl ((-2147483648), 2147483647)], tW_44, none, tW_45, 0, 0, 0, 0)
def kk_47 : en_K := (13, [.inr 3, .inl ((-2147483648), 2147483647)], tW_45, none, tW_46, 0, 0, 0, 0)
def kk_48 : en_K := (13, [.inr 3, .inl ((-2147483648), 2147483647)], tW_46, none, tW_47, 0, 0, 0, 0)
def kk_49 : en_K := (13, [.inr 3, .inl ((-2147483648), 2147483647)], tW_47, none, tW_48, 0, 0, 0, 0)
def kk_50 : en_K := (12, [.inr 2, .inl ((-2147483648), 2147483647), .inl ((-2147483648), 2147483647), .inl ((-2147483648), 2147483647), .inl ((-2147483648), 2147483647), .inl ((-2147483648), 2147483647)], tW_39, some (.inl (20, 20)), tW_48, 1, 22, 0, 0)
def kk_51 : en_K := (140, [.inr 86, .inl ((-2147483648), 2147483647)], tW_48, none, tW_49, 0, 0, 0, 0)
def kk_52 : en_K := (140, [.inr 86, .inl ((-2147483648), 2147483647)], tW_49, none, tW_50, 0, 0, 0, 0)
def kk_53 : en_K := (140, [.inr 86, .inl ((-2147483648), 2147483647)], tW_50, none, tW_51, 0, 0, 0, 0)
def kk_54 : en_K := (140, [.inr 86, .inl ((-2147483648), 2147483647)], tW_51, none, tW_52, 0, 0, 0, 0)
def kk_55 : en_K := (140, [.inr 86, .inl ((-2147483648), 2147483647)], tW_52, none, tW_53, 0, 0, 0, 0)
def kk_56 : en_K := (139, [.inr 86, .inl ((-2147483648), 2147483647), .inl ((-2147483648), 2147483647), .inl ((-2147483648), 2147483647), .inl ((-2147483648), 2147483647), .inl ((-2147483648), 2147483647)], tW_48, some (.inl (20, 20)), tW_53, 1, 22, 0, 0)
def kk_57 : en_K := (14, [.inr 2, .inl ((-2147483648), 0)], tW_39, some (.inl ((-1), (-1))), tW_39, 0, 0, 0, 0)
def kk_58 : en_K := (137, [.inl ((-2147483648), 0), .inl (1, 1), .inl (240, 240)], [], some (.inl (0, 0)), [], 0, 0, 0, 0)
def kk_59 : en_K := (141, [.inr 86, .inl ((-2147483648), 0)], tW_39, some (.inl ((-1), (-1))), tW_39, 1, 22, 0, 0)
def kk_60 : en_K := (14, [.inr 2, .inl (1, 240)], tW_39, some (.inl ((-1), (-1))), tW_39, 0, 0, 0, 0)
def kk_61 : en_K := (137, [.inl (1, 240), .inl (1, 1), .inl (240, 240)], [], some (.inl (1, 1)), [], 0, 0, 0, 0)
def kk_62 : en_K := (141, [.inr 86, .inl (1, 240)], tW_39, some (.inl ((-1), (-1))), tW_39, 1, 22, 0, 0)
def kk_63 : en_K := (14, [.inr 2, .inl (241, 2147483647)], tW_39, some (.inl ((-1), (-1))), tW_39, 0, 0, 0, 0)
def kk_64 : en_K := (137, [.inl (241, 2147483647), .inl (1, 1), .inl (240, 240)], [], some (.inl (0, 0)), [], 0, 0, 0, 0)
def kk_65 : en_K := (141, [.inr 86, .inl (241, 2147483647)], tW_39, some (.inl ((-1), (-1))), tW_39, 1, 22, 0, 0)
def kk_66 : en_K := (40, [.inr 2, .inl ((-2147483648), 0)], tW_39, some (.inl ((-1), (-1))), tW_39, 0, 0, 0, 0)
def kk_67 : en_K := (163, [.inr 86, .inl ((-2147483648), 0)], tW_39, some (.inl ((-1), (-1))), tW_39, 1, 22, 0, 0)
def kk_68 : en_K := (40, [.inr 2, .inl (1, 240)], tW_39, some (.inl ((-1), (-1))), tW_39, 0, 0, 0, 0)
def kk_69 : en_K := (163, [.inr 86, .inl (1, 240)], tW_39, some (.inl ((-1), (-1))), tW_39, 1, 22, 0, 0)
def kk_70 : en_K := (40, [.inr 2, .inl (241, 2147483647)], tW_39, some (.inl ((-1), (-1))), tW_39, 0, 0, 0, 0)
def kk_71 : en_K := (163, [.inr 86, .inl (241, 2147483647)], tW_39, some (.inl ((-1), (-1))), tW_39, 1, 22, 0, 0)
def kk_72 : en_K := (58, [.inr 2, .inl ((-2147483648), 0)], tW_39, some (.inl (0, 0)), tW_39, 0, 0, 0, 0)
def kk_73 : en_K := (57, [.inr 2, .inl ((-2147483648), 0)], tW_39, some (.inl ((-1), (-1))), tW_39, 1, 21, 0, 0)
def kk_74 : en_K := (137, [.inl ((-2147483648), 0), .inl (1, 1), .inl (4, 4)], [], some (.inl (0, 0)), [], 0, 0, 0, 0)
def kk_75 : en_K := (176, [.inr 86, .inl ((-2147483648), 0)], tW_39, some (.inl (0, 0)), tW_39, 1, 22, 0, 0)
def kk_76 : en_K := (175, [.inr 86, .inl ((-2147483648), 0)], tW_39, some (.inl ((-1), (-1))), tW_39, 2, 43, 0, 0)
def kk_77 : en_K := (58, [.inr 2, .inl (1, 4)], tW_39, some (.inl (0, 0)), tW_39, 0, 0, 0, 0)
def kk_78 : en_K := (57, [.inr 2, .inl (1, 4)], tW_39, some (.inl ((-1), (-1))), tW_39, 1, 21, 0, 0)
def kk_79 : en_K := (137, [.inl (1, 4), .inl (1, 1), .inl (4, 4)], [], some (.inl (1, 1)), [], 0, 0, 0, 0)
def kk_80 : en_K := (176, [.inr 86, .inl (1, 4)], tW_39, some (.inl (0, 0)), tW_39, 1, 22, 0, 0)
def kk_81 : en_K := (175, [.inr 86, .inl (1, 4)], tW_39, some (.inl ((-1), (-1))), tW_39, 2, 43, 0, 0)
def kk_82 : en_K := (58, [.inr 2, .inl (5, 2147483647)], tW_39, some (.inl (0, 0)), tW_39, 0, 0, 0, 0)
def kk_83 : en_K := (57, [.inr 2, .inl (5, 2147483647)], tW_39, some (.inl ((-1), (-1))), tW_39, 1, 21, 0, 0)
def kk_84 : en_K := (137, [.inl (5, 2147483647), .inl (1, 1), .inl (4, 4)], [], some (.inl (0, 0)), [], 0, 0, 0, 0)
def kk_85 : en_K := (176, [.inr 86, .inl (5, 2147483647)], tW_39, some (.inl (0, 0)), tW_39, 1, 22, 0, 0)
def kk_86 : en_K := (175, [.inr 86, .inl (5, 2147483647)], tW_39, some (.inl ((-1), (-1))), tW_39, 2, 43, 0, 0)
def kk_87 : en_K := (99, [.inr 2, .inl ((-2147483648), 0), .inl ((-2147483648), 2147483647)], tW_39, some (.inl ((-1), (-1))), tW_39, 1, 21, 0, 0)
def kk_88 : en_K := (137, [.inl ((-2147483648), 2147483647), .inl (0, 0), .inl (5, 5)], [], some (.inl (0, 1)), [], 0, 0, 0, 0)
def kk_89 : en_K := (137, [.inl ((-2147483648), 2147483647), .inl (10, 10), .inl (17, 17)], [], some (.inl (0, 1)), [], 0, 0, 0, 0)
def kk_90 : en_K := (137, [.inl ((-2147483648), 2147483647), .inl (100, 100), .inl (163, 163)], [], some (.inl (0, 1)), [], 0, 0, 0, 0)
def kk_91 : en_K := (212, [.inr 86, .inl ((-2147483648), 0), .inl ((-2147483648), 2147483647)], tW_39, some (.inl ((-1), (-1))), tW_39, 2, 43, 0, 0)
def kk_92 : en_K := (99, [.inr 2, .inl (1, 4), .inl ((-2147483648), 2147483647)], tW_39, some (.inl ((-1), (-1))), tW_39, 1, 21, 0, 0)
def kk_93 : en_K := (212, [.inr 86, .inl (1, 4), .inl ((-2147483648), 2147483647)], tW_39, some (.inl ((-1), (-1))), tW_39, 2, 43, 0, 0)
def kk_94 : en_K := (99, [.inr 2, .inl (5, 2147483647), .inl ((-2147483648), 2147483647)], tW_39, some (.inl ((-1), (-1))), tW_39, 1, 21, 0, 0)
def kk_95 : en_K := (212, [.inr 86, .inl (5, 2147483647), .inl ((-2147483648), 2147483647)], tW_39, some (.inl ((-1), (-1))), tW_39, 2, 43, 0, 0)
def kk_96 : en_K := (100, [.inl ((-2147483648), (-1))], [], some (.inl (0, 0)), [], 0, 0, 0, 0)
def kk_97 : en_K := (102, [.inr 2, .inl ((-2147483648), (-1))], tW_39, some (.inl ((-1), (-1))), tW_39, 1, 20, 0, 0)
def kk_98 : en_K := (137, [.inl ((-2147483648), (-1)), .inl (0, 0), .inl (5, 5)], [], some (.inl (0, 0)), [], 0, 0, 0, 0)
def kk_99 : en_K := (216, [.inr 86, .inl ((-2147483648), (-1))], tW_39, some (.inl ((-1), (-1))), tW_39, 1, 22, 0, 0)
def kk_100 : en_K := (100, [.inl (0, 5)], [], some (.inl (1, 1)), [], 0, 0, 0, 0)
def kk_101 : en_K := (102, [.inr 2, .inl (0, 5)], tW_39, some (.inl ((-2), (-2))), tW_39, 1, 20, 0, 0)
def kk_102 : en_K := (137, [.inl (0, 5), .inl (0, 0), .inl (5, 5)], [], some (.inl (1, 1)), [], 0, 0, 0, 0)
def kk_103 : en_K := (216, [.inr 86, .inl (0, 5)], tW_39, some (.inl ((-2), (-2))), tW_39, 1, 22, 0, 0)
def kk_104 : en_K := (100, [.inl (6, 2147483647)], [], some (.inl (0, 0)), [], 0, 0, 0, 0)
def kk_105 : en_K := (102, [.inr 2, .inl (6, 2147483647)], tW_39, some (.inl ((-1), (-1))), tW_39, 1, 20, 0, 0)
def kk_106 : en_K := (137, [.inl (6, 2147483647), .inl (0, 0), .inl (5, 5)], [], some (.inl (0, 0)), [], 0, 0, 0, 0)
def kk_107 : en_K := (216, [.inr 86, .inl (6, 2147483647)], tW_39, some (.inl ((-1), (-1))), tW_39, 1, 22, 0, 0)
def kk_108 : en_K := (104, [.inr 2, .inl ((-2147483648), (-1))], tW_39, some (.inl (0, 0)), tW_39, 0, 0, 0, 0)
def kk_109 : en_K := (103, [.inr 2, .inl ((-2147483648), (-1)), .inl ((-2147483648), 2147483647)], tW_39, some (.inl ((-100000), (-100000))), tW_39, 1, 21, 0, 0)
def kk_110 : en_K := (137, [.inl ((-2147483648), (-1)), .inl (0, 0), .inl ((-1), (-1))], [], some (.inl (0, 0)), [], 0, 0, 0, 0)
def kk_111 : en_K := (171, [.inr 86, .inl ((-2147483648), (-1))], tW_39, some (.inl (0, 0)), tW_39, 1, 22, 0, 0)
def kk_112 : en_K := (226, [.inr 86, .inl ((-2147483648), (-1)), .inl ((-2147483648), 2147483647)], tW_39, some (.inl ((-100000), (-100000))), tW_39, 2, 43, 0, 0)
def kk_113 : en_K := (104, [.inr 2, .inl (0, 2147483647)], tW_39, some (.inl (0, 0)), tW_39, 0, 0, 0, 0)
def kk_114 : en_K := (103, [.inr 2, .inl (0, 2147483647), .inl ((-2147483648), 2147483647)], tW_39, some (.inl ((-100000), (-100000))), tW_39, 1, 21, 0, 0)
def kk_115 : en_K := (137, [.inl (0, 2147483647), .inl (0, 0), .inl ((-1), (-1))], [], some (.inl (0, 0)), [], 0, 0, 0, 0)
def kk_116 : en_K := (171, [.inr 86, .inl (0, 2147483647)], tW_39, some (.inl (0, 0)), tW_39, 1, 22, 0, 0)
def kk_117 : en_K := (226, [.inr 86, .inl (0, 2147483647), .inl ((-2147483648), 2147483647)], tW_39, some (.inl ((-100000), (-100000))), tW_39, 2, 43, 0, 0)
def kk_118 : en_K := (108, [.inr 2, .inl ((-2147483648), (-1)), .inl ((-2147483648), 2147483647)], tW_39, some (.inl ((-1), (-1))), tW_39, 1, 21, 0, 0)
def kk_119 : en_K := (170, [.inr 86, .inl ((-2147483648), (-1)), .inl ((-2147483648), 2147483647)], tW_39, some (.inl ((-1), (-1))), tW_39, 2, 43, 0, 0)
def kk_120 : en_K := (108, [.inr 2, .inl (0, 2147483647), .inl ((-2147483648), 2147483647)], tW_39, some (.inl ((-1), (-1))), tW_39, 1, 21, 0, 0)
def kk_121 : en_K := (170, [.inr 86, .inl (0, 2147483647), .inl ((-2147483648), 2147483647)], tW_39, some (.inl ((-1), (-1))), tW_39, 2, 43, 0, 0)
def kk_122 : en_K := (52, [.inl ((-2147483648), (-1))], [], some (.inl (0, 0)), [], 0, 0, 0, 0)
def kk_123 : en_K := (101, [.inl ((-2147483648), (-1))], [], some (.inl (0, 0)), [], 0, 0, 0, 0)
def kk_124 : en_K := (109, [.inr 2, .inl ((-2147483648), (-1))], tW_39, some (.inl ((-100000), (-100000))), tW_39, 1, 20, 0, 0)
def kk_125 : en_K := (137, [.inl ((-2147483648), (-1)), .inl (100, 100), .inl (163, 163)], [], some (.inl (0, 0)), [], 0, 0, 0, 0)
def kk_126 : en_K := (217, [.inr 86, .inl ((-2147483648), (-1))], tW_39, some (.inl ((-100000), (-100000))), tW_39, 1, 22, 0, 0)
def kk_127 : en_K := (52, [.inl (0, 7)], [], some (.inl (1, 1)), [], 0, 0, 0, 0)
def kk_128 : en_K := (109, [.inr 2, .inl (0, 7)], tW_39, some (.inl (0, 0)), tW_39, 1, 20, 0, 0)
def kk_129 : en_K := (217, [.inr 86, .inl (0, 7)], tW_39, some (.inl (0, 0)), tW_39, 1, 22, 0, 0)
def kk_130 : en_K := (52, [.inl (8, 99)], [], some (.inl (0, 0)), [], 0, 0, 0, 0)
def kk_131 : en_K := (101, [.inl (8, 99)], [], some (.inl (0, 0)), [], 0, 0, 0, 0)
def kk_132 : en_K := (109, [.inr 2, .inl (8, 99)], tW_39, some (.inl ((-100000), (-100000))), tW_39, 1, 20, 0, 0)
def kk_133 : en_K := (137, [.inl (8, 99), .inl (0, 0), .inl (7, 7)], [], some (.inl (0, 0)), [], 0, 0, 0, 0)
def kk_134 : en_K := (137, [.inl (8, 99), .inl (100, 100), .inl (163, 163)], [], some (.inl (0, 0)), [], 0, 0, 0, 0)
def kk_135 : en_K := (217, [.inr 86, .inl (8, 99)], tW_39, some (.inl ((-100000), (-100000))), tW_39, 1, 22, 0, 0)
def kk_136 : en_K := (52, [.inl (100, 163)], [], some (.inl (0, 0)), [], 0, 0, 0, 0)
def kk_137 : en_K := (101, [.inl (100, 163)], [], some (.inl (1, 1)), [], 0, 0, 0, 0)
def kk_138 : en_K := (109, [.inr 2, .inl (100, 163)], tW_39, some (.inl (0, 0)), tW_39, 1, 20, 0, 0)
def kk_139 : en_K := (137, [.inl (100, 163), .inl (0, 0), .inl (7, 7)], [], some (.inl (0, 0)), [], 0, 0, 0, 0)
def kk_140 : en_K := (137, [.inl (100, 163), .inl (100, 100), .inl (163, 163)], [], some (.inl (1, 1)), [], 0, 0, 0, 0)
def kk_141 : en_K := (217, [.inr 86, .inl (100, 163)], tW_39, some (.inl (0, 0)), tW_39, 1, 22, 0, 0)
def kk_142 : en_K := (52, [.inl (164, 2147483647)], [], some (.inl (0, 0)), [], 0, 0, 0, 0)
def kk_143 : en_K := (101, [.inl (164, 2147483647)], [], some (.inl (0, 0)), [], 0, 0, 0, 0)
def kk_144 : en_K := (109, [.inr 2, .inl (164, 2147483647)], tW_39, some (.inl ((-100000), (-100000))), tW_39, 1, 20, 0, 0)
def kk_145 : en_K := (137, [.inl (164, 2147483647), .inl (0, 0), .inl (7, 7)], [], some (.inl (0, 0)), [], 0, 0, 0, 0)
def kk_146 : en_K := (137, [.inl (164, 2147483647), .inl (100, 100), .inl (163, 163)], [], some (.inl (0, 0)), [], 0, 0, 0, 0)
def kk_147 : en_K := (217, [.inr 86, .inl (164, 2147483647)], tW_39, some (.inl ((-100000), (-100000))), tW_39, 1, 22, 0, 0)
def kk_148 : en_K := (110, [.inr 2, .inl ((-2147483648), (-1))], tW_39, some (.inl ((-100000), (-100000))), tW_39, 1, 20, 0, 0)
def kk_149 : en_K := (219, [.inr 86], tW_39, none, tW_39, 0, 0, 0, 0)
def kk_150 : en_K := (218, [.inr 86, .inl ((-2147483648), (-1))], tW_39, some (.inl ((-100000), (-100000))), tW_39, 1, 22, 0, 0)
def kk_151 : en_K := (62, [.inr 68, .inr 26], tW_39, none, tW_39, 1, 18, 0, 0)
def kk_152 : en_K := (63, [.inr 68, .inr 26], tW_39, none, tW_39, 1, 18, 0, 0)
def kk_153 : en_K := (61, [.inr 68, .inr 26], tW_39, none, tW_39, 2, 39, 0, 0)
def kk_154 : en_K := (111, [.inr 67, .inr 6, .inr 26], tW_39, none, tW_39, 3, 60, 0, 0)
def kk_155 : en_K := (110, [.inr 2, .inl (0, 7)], tW_39, some (.inl (0, 0)), tW_39, 4, 85, 0, 0)
def kk_156 : en_K := (218, [.inr 86, .inl (0, 7)], tW_39, some (.inl (0, 0)), tW_39, 1, 22, 0, 0)
def kk_157 : en_K := (110, [.inr 2, .inl (8, 99)], tW_39, some (.inl ((-100000), (-100000))), tW_39, 1, 20, 0, 0)
def kk_158 : en_K := (218, [.inr 86, .inl (8, 99)], tW_39, some (.inl ((-100000), (-100000))), tW_39, 1, 22, 0, 0)
def kk_159 : en_K := (110, [.inr 2, .inl (100, 163)], tW_39, some (.inl (0, 0)), tW_39, 4, 85, 0, 0)
def kk_160 : en_K := (218, [.inr 86, .inl (100, 163)], tW_39, some (.inl (0, 0)), tW_39, 1, 22, 0, 0)
def kk_161 : en_K := (110, [.inr 2, .inl (164, 2147483647)], tW_39, some (.inl ((-100000), (-100000))), tW_39, 1, 20, 0, 0)
def kk_162 : en_K := (218, [.inr 86, .inl (164, 2147483647)], tW_39, some (.inl ((-100000), (-100000))), tW_39, 1, 22, 0, 0)
def kk_163 : en_K := (114, [.inr 2, .inl ((-2147483648), 0)], tW_39, some (.inl ((-1), (-1))), tW_39, 1, 21, 0, 0)
def kk_164 : en_K := (221, [.inr 86, .inl ((-2147483648), 0)], tW_39, some (.inl ((-1), (-1))), tW_39, 2, 43, 0, 0)
def kk_165 : en_K := (114, [.inr 2, .inl (1, 4)], tW_39, some (.inl ((-1), (-1))), tW_39, 1, 21, 0, 0)
def kk_166 : en_K := (221, [.inr 86, .inl (1, 4)], tW_39, some (.inl ((-1), (-1))), tW_39, 2, 43, 0, 0)
def kk_167 : en_K := (114, [.inr 2, .inl (5, 2147483647)], tW_39, some (.inl ((-1), (-1))), tW_39, 1, 21, 0, 0)
def kk_168 : en_K := (221, [.inr 86, .inl (5, 2147483647)], tW_39, some (.inl ((-1), (-1))), tW_39, 2, 43, 0, 0)
def kk_169 : en_K := (116, [.inr 2, .inl ((-2147483648), (-1))], tW_39, some (.inl ((-1), (-1))), tW_39, 0, 0, 0, 0)
def kk_170 : en_K := (137, [.inl ((-2147483648), (-1)), .inl (0, 0), .inl (1, 1)], [], some (.inl (0, 0)), [], 0, 0, 0, 0)
def kk_171 : en_K := (215, [.inr 86, .inl ((-2147483648), (-1))], tW_39, some (.inl ((-1), (-1))), tW_39, 1, 22, 0, 0)
def kk_172 : en_K := (116, [.inr 2, .inl (0, 1)], tW_39, some (.inl ((-1), (-1))), tW_39, 0, 0, 0, 0)
def kk_173 : en_K := (137, [.inl (0, 1), .inl (0, 0), .inl (1, 1)], [], some (.inl (1, 1)), [], 0, 0, 0, 0)
def kk_174 : en_K := (215, [.inr 86, .inl (0, 1)], tW_39, some (.inl ((-1), (-1))), tW_39, 1, 22, 0, 0)
def kk_175 : en_K := (116, [.inr 2, .inl (2, 2147483647)], tW_39, some (.inl ((-1), (-1))), tW_39, 0, 0, 0, 0)
def kk_176 : en_K := (137, [.inl (2, 2147483647), .inl (0, 0), .inl (1, 1)], [], some (.inl (0, 0)), [], 0, 0, 0, 0)
def kk_177 : en_K := (215, [.inr 86, .inl (2, 2147483647)], tW_39, some (.inl ((-1), (-1))), tW_39, 1, 22, 0, 0)
def kk_178 : en_K := (117, [.inr 2, .inl ((-2147483648), 0), .inl ((-2147483648), 2147483647)], tW_39, some (.inl ((-1), (-1))), tW_39, 1, 21, 0, 0)
def kk_179 : en_K := (214, [.inr 86, .inl ((-2147483648), 0), .inl ((-2147483648), 2147483647)], tW_39, some (.inl ((-1), (-1))), tW_39, 2, 43, 0, 0)
def kk_180 : en_K := (117, [.inr 2, .inl (1, 4), .inl ((-2147483648), 2147483647)], tW_39, some (.inl ((-1), (-1))), tW_39, 1, 21, 0, 0)
def kk_181 : en_K := (214, [.inr 86, .inl (1, 4), .inl ((-2147483648), 2147483647)], tW_39, some (.inl ((-1), (-1))), tW_39, 2, 43, 0, 0)
def kk_182 : en_K := (117, [.inr 2, .inl (5, 2147483647), .inl ((-2147483648), 2147483647)], tW_39, some (.inl ((-1), (-1))), tW_39, 1, 21, 0, 0)
def kk_183 : en_K := (214, [.inr 86, .inl (5, 2147483647), .inl ((-2147483648), 2147483647)], tW_39, some (.inl ((-1), (-1))), tW_39, 2, 43, 0, 0)
def kk_184 : en_K := (118, [.inr 2, .inl ((-2147483648), (-1))], tW_39, some (.inl ((-1), (-1))), tW_39, 0, 0, 0, 0)
def kk_185 : en_K := (228, [.inr 86, .inl ((-2147483648), (-1))], tW_39, some (.inl ((-1), (-1))), tW_39, 1, 22, 0, 0)
def kk_186 : en_K := (118, [.inr 2, .inl (0, 1)], tW_39, some (.inl ((-2), (-2))), tW_39, 0, 0, 0, 0)
def kk_187 : en_K := (228, [.inr 86, .inl (0, 1)], tW_39, some (.inl ((-2), (-2))), tW_39, 1, 22, 0, 0)
def kk_188 : en_K := (118, [.inr 2, .inl (2, 2147483647)], tW_39, some (.inl ((-1), (-1))), tW_39, 0, 0, 0, 0)
def kk_189 : en_K := (228, [.inr 86, .inl (2, 2147483647)], tW_39, some (.inl ((-1), (-1))), tW_39, 1, 22, 0, 0)
def kk_190 : en_K := (119, [.inr 2], tW_39, some (.inl (0, 0)), tW_39, 0, 0, 0, 0)
def kk_191 : en_K := (224, [.inr 86], tW_39, some (.inl (0, 0)), tW_39, 0, 0, 0, 0)
def kk_192 : en_K := (121, [.inr 67, .inr 6], tW_39, some (.inl (0, 0)), tW_39, 0, 0, 0, 0)
def kk_193 : en_K := (120, [.inr 2], tW_39, some (.inl (0, 0)), tW_39, 4, 85, 0, 0)
def kk_194 : en_K := (222, [.inr 86], tW_39, some (.inl (0, 0)), tW_39, 1, 21, 0, 0)
def kk_195 : en_K := (123, [.inr 2, .inl ((-2147483648), (-1)), .inl ((-2147483648), 2147483647)], tW_39, some (.inl ((-1), (-1))), tW_39, 0, 0, 0, 0)
def kk_196 : en_K := (230, [.inr 86, .inl ((-2147483648), (-1)), .inl ((-2147483648), 2147483647)], tW_39, some (.inl ((-1), (-1))), tW_39, 1, 22, 0, 0)
def kk_197 : en_K := (123, [.inr 2, .inl (2, 2147483647), .inl ((-2147483648), 2147483647)], tW_39, some (.inl ((-1), (-1))), tW_39, 0, 0, 0, 0)
def kk_198 : en_K := (230, [.inr 86, .inl (2, 2147483647), .inl ((-2147483648), 2147483647)], tW_39, some (.inl ((-1), (-1))), tW_39, 1, 22, 0, 0)
def kk_199 : en_K := (123, [.inr 2, .inl (0, 1), .inl ((-2147483648), (-1))], tW_39, some (.inl ((-1), (-1))), tW_39, 1, 21, 0, 0)
def kk_200 : en_K := (230, [.inr 86, .inl (0, 1), .inl ((-2147483648), (-1))], tW_39, some (.inl ((-1), (-1))), tW_39, 2, 43, 0, 0)
def kk_201 : en_K := (123, [.inr 2, .inl (0, 1), .inl (0, 2147483647)], tW_39, some (.inl ((-1), (-1))), tW_39, 1, 21, 0, 0)
def kk_202 : en_K := (230, [.inr 86, .inl (0, 1), .inl (0, 2147483647)], tW_39, some (.inl ((-1), (-1))), tW_39, 2, 43, 0, 0)
def kk_203 : en_K := (125, [.inr 2, .inl ((-2147483648), (-1)), .inl ((-2147483648), 2147483647), .inl ((-2147483648), 2147483647)], tW_39, some (.inl ((-100000), (-100000))), tW_39, 0, 0, 0, 0)
def kk_204 : en_K := (231, [.inr 86, .inl ((-2147483648), (-1)), .inl ((-2147483648), 2147483647), .inl ((-2147483648), 2147483647)], tW_39, some (.inl ((-100000), (-100000))), tW_39, 1, 22, 0, 0)
def kk_205 : en_K := (125, [.inr 2, .inl (2, 2147483647), .inl ((-2147483648), 2147483647), .inl ((-2147483648), 2147483647)], tW_39, some (.inl ((-100000), (-100000))), tW_39, 0, 0, 0, 0)
def kk_206 : en_K := (231, [.inr 86, .inl (2, 2147483647), .inl ((-2147483648), 2147483647), .inl ((-2147483648), 2147483647)], tW_39, some (.inl ((-100000), (-100000))), tW_39, 1, 22, 0, 0)
def kk_207 : en_K := (125, [.inr 2, .inl (0, 1), .inl ((-2147483648), (-1)), .inl ((-2147483648), 2147483647)], tW_39, some (.inl ((-100000), (-100000))), tW_39, 0, 0, 0, 0)
def kk_208 : en_K := (231, [.inr 86, .inl (0, 1), .inl ((-2147483648), (-1)), .inl ((-2147483648), 2147483647)], tW_39, some (.inl ((-100000), (-100000))), tW_39, 1, 22, 0, 0)
def kk_209 : en_K := (125, [.inr 2, .inl (0, 1), .inl (0, 2147483647), .inl ((-2147483648), (-1))], tW_39, some (.inl ((-100000), (-100000))), tW_39, 0, 0, 0, 0)
def kk_210 : en_K := (137, [.inl ((-2147483648), (-1)), .inl (0, 0), .inl (6, 6)], [], some (.inl (0, 0)), [], 0, 0, 0, 0)
def kk_211 : en_K := (231, [.inr 86, .inl (0, 1), .inl (0, 2147483647), .inl ((-2147483648), (-1))], tW_39, some (.inl ((-100000), (-100000))), tW_39, 1, 22, 0, 0)
def kk_212 : en_K := (125, [.inr 2, .inl (0, 1), .inl (0, 2147483647), .inl (0, 6)], tW_39, some (.inl ((-4), (-4))), tW_39, 0, 0, 0, 0)
def kk_213 : en_K := (137, [.inl (0, 6), .inl (0, 0), .inl (6, 6)], [], some (.inl (1, 1)), [], 0, 0, 0, 0)
def kk_214 : en_K := (231, [.inr 86, .inl (0, 1), .inl (0, 2147483647), .inl (0, 6)], tW_39, some (.inl ((-4), (-4))), tW_39, 1, 22, 0, 0)
def kk_215 : en_K := (125, [.inr 2, .inl (0, 1), .inl (0, 2147483647), .inl (7, 2147483647)], tW_39, some (.inl ((-100000), (-100000))), tW_39, 0, 0, 0, 0)
def kk_216 : en_K := (137, [.inl (7, 2147483647), .inl (0, 0), .inl (6, 6)], [], some (.inl (0, 0)), [], 0, 0, 0, 0)
def kk_217 : en_K := (231, [.inr 86, .inl (0, 1), .inl (0, 2147483647), .inl (7, 2147483647)], tW_39, some (.inl ((-100000), (-100000))), tW_39, 1, 22, 0, 0)
def kk_218 : en_K := (127, [.inr 26], tW_39, some (.inl (0, 0)), tW_39, 0, 0, 0, 0)
def kk_219 : en_K := (6, [.inr 29, .inl ((-1), (-1))], tW_39, none, tW_39, 0, 0, 0, 0)
def kk_220 : en_K := (55, [.inr 26], tW_39, none, tW_39, 1, 23, 0, 0)
def kk_221 : en_K := (126, [.inr 2], tW_39, some (.inl (0, 0)), tW_39, 2, 43, 0, 0)
def kk_222 : en_K := (233, [.inr 86], tW_39, some (.inl (0, 0)), tW_39, 0, 0, 0, 0)
def kk_223 : en_K := (232, [.inr 86], tW_39, some (.inl (0, 0)), tW_39, 1, 22, 0, 0)
def kk_224 : en_K := (128, [.inr 2, .inl ((-2147483648), (-1))], tW_39, some (.inl (0, 0)), tW_39, 0, 0, 0, 0)
def kk_225 : en_K := (137, [.inl ((-2147483648), (-1)), .inl (0, 0), .inl (65535, 65535)], [], some (.inl (0, 0)), [], 0, 0, 0, 0)
def kk_226 : en_K := (234, [.inr 86, .inl ((-2147483648), (-1))], tW_39, some (.inl (0, 0)), tW_39, 1, 22, 0, 0)
def kk_227 : en_K := (128, [.inr 2, .inl (0, 65535)], tW_39, some (.inl (1, 1)), tW_54, 0, 0, 0, 0)
def kk_228 : en_K := (137, [.inl (0, 65535), .inl (0, 0), .inl (65535, 65535)], [], some (.inl (1, 1)), [], 0, 0, 0, 0)
def kk_229 : en_K := (234, [.inr 86, .inl (0, 65535)], tW_54, some (.inl (1, 1)), tW_55, 1, 22, 0, 0)
def kk_230 : en_K := (128, [.inr 2, .inl (65536, 2147483647)], tW_39, some (.inl (0, 0)), tW_39, 0, 0, 0, 0)
def kk_231 : en_K := (137, [.inl (65536, 2147483647), .inl (0, 0), .inl (65535, 65535)], [], some (.inl (0, 0)), [], 0, 0, 0, 0)
def kk_232 : en_K := (234, [.inr 86, .inl (65536, 2147483647)], tW_39, some (.inl (0, 0)), tW_39, 1, 22, 0, 0)
def kk_233 : en_K := (62, [.inr 80, .inr 26], tW_39, none, tW_39, 1, 18, 0, 0)
def kk_234 : en_K := (63, [.inr 80, .inr 26], tW_39, none, tW_39, 1, 18, 0, 0)
def kk_235 : en_K := (61, [.inr 80, .inr 26], tW_39, none, tW_39, 2, 39, 0, 0)
def kk_236 : en_K := (129, [.inr 2], tW_39, some (.inl (0, 0)), tW_56, 3, 60, 0, 0)
def kk_237 : en_K := (235, [.inr 86], tW_56, some (.inl (0, 0)), tW_57, 0, 0, 0, 0)
def kk_238 : en_K := (130, [.inr 2], tW_39, some (.inl (0, 0)), tW_39, 0, 0, 0, 0)
def kk_239 : en_K := (236, [.inr 86], tW_39, some (.inl (0, 0)), tW_39, 0, 0, 0, 0)
def kk_240 : en_K := (131, [.inr 2, .inl ((-2147483648), (-1))], tW_39, some (.inl ((-2), (-2))), tW_39, 0, 0, 0, 0)
def kk_241 : en_K := (137, [.inl ((-2147483648), (-1)), .inl (0, 0), .inl (64, 64)], [], some (.inl (0, 0)), [], 0, 0, 0, 0)
def kk_242 : en_K := (237, [.inr 86, .inl ((-2147483648), (-1))], tW_39, some (.inl ((-2), (-2))), tW_39, 1, 22, 0, 0)
def kk_243 : en_K := (39, [.inr 3], tW_39, none, tW_39, 0, 0, 0, 0)
def kk_244 : en_K := (131, [.inr 2, .inl (0, 0)], tW_39, some (.inl ((-1), (-1))), tW_39, 1, 20, 0, 0)
def kk_245 : en_K := (137, [.inl (0, 0), .inl (0, 0), .inl (64, 64)], [], some (.inl (1, 1)), [], 0, 0, 0, 0)
def kk_246 : en_K := (237, [.inr 86, .inl (0, 0)], tW_39, some (.inl ((-1), (-1))), tW_39, 1, 22, 0, 0)
def kk_247 : en_K := (131, [.inr 2, .inl (1, 64)], tW_39, some (.inl ((-2), (-2))), tW_39, 0, 0, 0, 0)
def kk_248 : en_K := (137, [.inl (1, 64), .inl (0, 0), .inl (64, 64)], [], some (.inl (1, 1)), [], 0, 0, 0, 0)
def kk_249 : en_K := (237, [.inr 86, .inl (1, 64)], tW_39, some (.inl ((-2), (-2))), tW_39, 1, 22, 0, 0)
def kk_250 : en_K := (131, [.inr 2, .inl (65, 2147483647)], tW_39, some (.inl ((-2), (-2))), tW_39, 0, 0, 0, 0)
def kk_251 : en_K := (137, [.inl (65, 2147483647), .inl (0, 0), .inl (64, 64)], [], some (.inl (0, 0)), [], 0, 0, 0, 0)
def kk_252 : en_K := (237, [.inr 86, .inl (65, 2147483647)], tW_39, some (.inl ((-2), (-2))), tW_39, 1, 22, 0, 0)
def kk_253 : en_K := (132, [.inr 2, .inl ((-2147483648), (-1))], tW_39, some (.inl ((-1), (-1))), tW_39, 0, 0, 0, 0)
def kk_254 : en_K := (239, [.inr 86, .inl ((-2147483648), (-1))], tW_39, some (.inl ((-1), (-1))), tW_39, 0, 0, 0, 0)
def kk_255 : en_K := (132, [.inr 2, .inl (0, 0)], tW_39, some (.inl (0, 0)), tW_39, 0, 0, 0, 0)
def kk_256 : en_K := (239, [.inr 86, .inl (0, 0)], tW_39, some (.inl (0, 0)), tW_39, 0, 0, 0, 0)
def kk_257 : en_K := (132, [.inr 2, .inl (1, 1)], tW_39, some (.inl (0, 0)), tW_39, 0, 0, 0, 0)
def kk_258 : en_K := (239, [.inr 86, .inl (1, 1)], tW_39, some (.inl (0, 0)), tW_39, 0, 0, 0, 0)
def kk_259 : en_K := (133, [.inr 6, .inl (2, 2)], tW_39, some (.inl (0, 0)), tW_39, 0, 0, 0, 0)
def kk_260 : en_K := (132, [.inr 2, .inl (2, 2)], tW_39, some (.inl (0, 0)), tW_39, 1, 23, 0, 0)
def kk_261 : en_K := (240, [.inr 86, .inl (2, 2)], tW_39, some (.inl (0, 0)), tW_39, 0, 0, 0, 0)
def kk_262 : en_K := (239, [.inr 86, .inl (2, 2)], tW_39, some (.inl (0, 0)), tW_39, 1, 23, 0, 0)
def kk_263 : en_K := (133, [.inr 6, .inl (3, 3)], tW_39, some (.inl (0, 0)), tW_39, 0, 0, 0, 0)
def kk_264 : en_K := (132, [.inr 2, .inl (3, 3)], tW_39, some (.inl (0, 0)), tW_39, 1, 23, 0, 0)
def kk_265 : en_K := (240, [.inr 86, .inl (3, 3)], tW_39, some (.inl (0, 0)), tW_39, 0, 0, 0, 0)
def kk_266 : en_K := (239, [.inr 86, .inl (3, 3)], tW_39, some (.inl (0, 0)), tW_39, 1, 23, 0, 0)
def kk_267 : en_K := (132, [.inr 2, .inl (4, 4)], tW_39, some (.inl (0, 0)), tW_39, 0, 0, 0, 0)
def kk_268 : en_K := (239, [.inr 86, .inl (4, 4)], tW_39, some (.inl (0, 0)), tW_39, 0, 0, 0, 0)
def kk_269 : en_K := (132, [.inr 2, .inl (5, 5)], tW_39, some (.inl (0, 0)), tW_39, 0, 0, 0, 0)
def kk_270 : en_K := (239, [.inr 86, .inl (5, 5)], tW_39, some (.inl (0, 0)), tW_39, 0, 0, 0, 0)
def kk_271 : en_K := (132, [.inr 2, .inl (6, 6)], tW_39, some (.inl (1, 1)), tW_39, 0, 0, 0, 0)
def kk_272 : en_K := (239, [.inr 86, .inl (6, 6)], tW_39, some (.inl (1, 1)), tW_39, 0, 0, 0, 0)
def kk_273 : en_K := (132, [.inr 2, .inl (7, 7)], tW_39, some (.inl (0, 0)), tW_39, 0, 0, 0, 0)
def kk_274 : en_K := (239, [.inr 86, .inl (7, 7)], tW_39, some (.inl (0, 0)), tW_39, 0, 0, 0, 0)
def kk_275 : en_K := (132, [.inr 2, .inl (8, 8)], tW_39, some (.inl (0, 0)), tW_39, 1, 22, 0, 0)
def kk_276 : en_K := (239, [.inr 86, .inl (8, 8)], tW_39, some (.inl (0, 0)), tW_39, 1, 22, 0, 0)
def kk_277 : en_K := (132, [.inr 2, .inl (9, 9)], tW_39, some (.inl (0, 0)), tW_39, 0, 0, 0, 0)
def kk_278 : en_K := (239, [.inr 86, .inl (9, 9)], tW_39, some (.inl (0, 0)), tW_39, 0, 0, 0, 0)
def kk_279 : en_K := (132, [.inr 2, .inl (10, 10)], tW_39, some (.inl (0, 0)), tW_39, 0, 0, 0, 0)
def kk_280 : en_K := (239, [.inr 86, .inl (10, 10)], tW_39, some (.inl (0, 0)), tW_39, 0, 0, 0, 0)
def kk_281 : en_K := (134, [.inr 26], tW_39, some (.inl (0, 0)), tW_39, 0, 0, 0, 0)
def kk_282 : en_K := (132, [.inr 2, .inl (11, 11)], tW_39, some (.inl (0, 0)), tW_39, 1, 22, 0, 0)
def kk_283 : en_K := (241, [.inr 86], tW_39, some (.inl (0, 0)), tW_39, 0, 0, 0, 0)
def kk_284 : en_K := (239, [.inr 86, .inl (11, 11)], tW_39, some (.inl (0, 0)), tW_39, 1, 22, 0, 0)
def kk_285 : en_K := (132, [.inr 2, .inl (12, 2147483647)], tW_39, some (.inl ((-1), (-1))), tW_39, 0, 0, 0, 0)
def kk_286 : en_K := (239, [.inr 86, .inl (12, 2147483647)], tW_39, some (.inl ((-1), (-1))), tW_39, 0, 0, 0, 0)
end
section
/-- LoadsAhead.Tape (making) -/
theorem ok_0 (l : Launch) : en_ok l kk_0 := en_good_ok (K := []) (fun _ h => absurd h List.not_mem_nil) (fuel := 9) (by decide +kernel)
/-- LoadsAhead.Program (making) -/
theorem ok_1 (l : Launch) : en_ok l kk_1 := en_good_ok (K := []) (fun _ h => absurd h List.not_mem_nil) (fuel := 49) (by decide +kernel)
/-- LoadsAhead.Law (making) -/
theorem ok_2 (l : Launch) : en_ok l kk_2 := en_lawmake l (L := [some (.inr 18)]) (S := [.inr 18]) (T := tW_58) (cs := 5) (sl := 529) rfl (by decide +kernel) (by decide +kernel) (by decide +kernel)
/-- java/util/Arrays fill -/
theorem ok_3 (l : Launch) : en_ok l kk_3 := en_fill l (T := tW_6) (j := 27) (n := 20) (b := (0, 0)) (v := ((-1), (-1))) (by decide +kernel) (by decide +kernel)
/-- LoadsAhead.State (making) -/
theorem ok_4 (l : Launch) : en_ok l kk_4 := en_good_ok (K := [kk_3]) (List.forall_mem_cons.mpr ⟨ok_3 l, fun _ h => absurd h List.not_mem_nil⟩) (fuel := 30) (by decide +kernel)
/-- java/util/Arrays fill -/
theorem ok_5 (l : Launch) : en_ok l kk_5 := en_fill l (T := tW_10) (j := 31) (n := 20) (b := (0, 0)) (v := ((-1), (-1))) (by decide +kernel) (by decide +kernel)
/-- LoadsAhead.State (making) -/
theorem ok_6 (l : Launch) : en_ok l kk_6 := en_good_ok (K := [kk_5]) (List.forall_mem_cons.mpr ⟨ok_5 l, fun _ h => absurd h List.not_mem_nil⟩) (fuel := 30) (by decide +kernel)
/-- LoadsAhead.Report (making) -/
theorem ok_7 (l : Launch) : en_ok l kk_7 := en_good_ok (K := []) (fun _ h => absurd h List.not_mem_nil) (fuel := 29) (by decide +kernel)
/-- LoadsAhead.Machine (making) -/
theorem ok_8 (l : Launch) : en_ok l kk_8 := en_good_ok (K := [kk_1, kk_2, kk_4, kk_6, kk_7]) (List.forall_mem_cons.mpr ⟨ok_1 l, List.forall_mem_cons.mpr ⟨ok_2 l, List.forall_mem_cons.mpr ⟨ok_4 l, List.forall_mem_cons.mpr ⟨ok_6 l, List.forall_mem_cons.mpr ⟨ok_7 l, fun _ h => absurd h List.not_mem_nil⟩⟩⟩⟩⟩) (fuel := 54) (by decide +kernel)
/-- LoadsAhead.Program (making) -/
theorem ok_9 (l : Launch) : en_ok l kk_9 := en_good_ok (K := []) (fun _ h => absurd h List.not_mem_nil) (fuel := 49) (by decide +kernel)
/-- LoadsAhead.Law (making) -/
theorem ok_10 (l : Launch) : en_ok l kk_10 := en_lawmake l (L := [some (.inr 59)]) (S := [.inr 59]) (T := tW_59) (cs := 5) (sl := 529) rfl (by decide +kernel) (by decide +kernel) (by decide +kernel)
/-- java/util/Arrays fill -/
theorem ok_11 (l : Launch) : en_ok l kk_11 := en_fill l (T := tW_22) (j := 69) (n := 20) (b := (0, 0)) (v := ((-1), (-1))) (by decide +kernel) (by decide +kernel)
/-- LoadsAhead.State (making) -/
theorem ok_12 (l : Launch) : en_ok l kk_12 := en_good_ok (K := [kk_11]) (List.forall_mem_cons.mpr ⟨ok_11 l, fun _ h => absurd h List.not_mem_nil⟩) (fuel := 30) (by decide +kernel)
/-- LoadsAhead.Plain (making) -/
theorem ok_13 (l : Launch) : en_ok l kk_13 := en_good_ok (K := [kk_12]) (List.forall_mem_cons.mpr ⟨ok_12 l, fun _ h => absurd h List.not_mem_nil⟩) (fuel := 14) (by decide +kernel)
/-- LoadsAhead.Report (making) -/
theorem ok_14 (l : Launch) : en_ok l kk_14 := en_good_ok (K := []) (fun _ h => absurd h List.not_mem_nil) (fuel := 29) (by decide +kernel)
/-- java/util/Arrays fill -/
theorem ok_15 (l : Launch) : en_ok l kk_15 := en_fill l (T := tW_30) (j := 81) (n := 20) (b := (0, 0)) (v := ((-1), (-1))) (by decide +kernel) (by decide +kernel)
/-- LoadsAhead.State (making) -/
theorem ok_16 (l : Launch) : en_ok l kk_16 := en_good_ok (K := [kk_15]) (List.forall_mem_cons.mpr ⟨ok_15 l, fun _ h => absurd h List.not_mem_nil⟩) (fuel := 30) (by decide +kernel)
/-- LoadsAhead.Rows (making) -/
theorem ok_17 (l : Launch) : en_ok l kk_17 := en_rowsmake l (L := [some (.inr 84)]) (S := [.inr 84]) (T := tW_34) (cs := 0) (sl := 0) rfl (by decide +kernel) (by decide +kernel) (by decide +kernel)
/-- LoadsAhead (making) -/
theorem ok_18 (l : Launch) : en_ok l kk_18 := en_good_ok (K := [kk_0, kk_8, kk_9, kk_10, kk_13, kk_14, kk_16, kk_17]) (List.forall_mem_cons.mpr ⟨ok_0 l, List.forall_mem_cons.mpr ⟨ok_8 l, List.forall_mem_cons.mpr ⟨ok_9 l, List.forall_mem_cons.mpr ⟨ok_10 l, List.forall_mem_cons.mpr ⟨ok_13 l, List.forall_mem_cons.mpr ⟨ok_14 l, List.forall_mem_cons.mpr ⟨ok_16 l, List.forall_mem_cons.mpr ⟨ok_17 l, fun _ h => absurd h List.not_mem_nil⟩⟩⟩⟩⟩⟩⟩⟩) (fuel := 54) (by decide +kernel)
/-- LoadsAheadModel (making) -/
theorem ok_19 (l : Launch) : en_ok l kk_19 := en_good_ok (K := []) (fun _ h => absurd h List.not_mem_nil) (fuel := 264) (by decide +kernel)
end
section
/-- LoadsAhead register -/
theorem ok_20 (l : Launch) : en_ok l kk_20 := en_good_ok (K := []) (fun _ h => absurd h List.not_mem_nil) (fuel := 6) (by decide +kernel)
/-- LoadsAheadModel in -/
theorem ok_21 (l : Launch) : en_ok l kk_21 := en_good_ok (K := []) (fun _ h => absurd h List.not_mem_nil) (fuel := 7) (by decide +kernel)
/-- LoadsAheadModel register -/
theorem ok_22 (l : Launch) : en_ok l kk_22 := en_good_ok (K := [kk_21]) (List.forall_mem_cons.mpr ⟨ok_21 l, fun _ h => absurd h List.not_mem_nil⟩) (fuel := 9) (by decide +kernel)
/-- LoadsAhead register -/
theorem ok_23 (l : Launch) : en_ok l kk_23 := en_good_ok (K := []) (fun _ h => absurd h List.not_mem_nil) (fuel := 16) (by decide +kernel)
/-- LoadsAheadModel in -/
theorem ok_24 (l : Launch) : en_ok l kk_24 := en_good_ok (K := []) (fun _ h => absurd h List.not_mem_nil) (fuel := 11) (by decide +kernel)
/-- LoadsAheadModel register -/
theorem ok_25 (l : Launch) : en_ok l kk_25 := en_good_ok (K := [kk_24]) (List.forall_mem_cons.mpr ⟨ok_24 l, fun _ h => absurd h List.not_mem_nil⟩) (fuel := 14) (by decide +kernel)
/-- LoadsAhead register -/
theorem ok_26 (l : Launch) : en_ok l kk_26 := en_good_ok (K := []) (fun _ h => absurd h List.not_mem_nil) (fuel := 9) (by decide +kernel)
/-- LoadsAheadModel in -/
theorem ok_27 (l : Launch) : en_ok l kk_27 := en_good_ok (K := []) (fun _ h => absurd h List.not_mem_nil) (fuel := 10) (by decide +kernel)
/-- LoadsAheadModel register -/
theorem ok_28 (l : Launch) : en_ok l kk_28 := en_good_ok (K := [kk_27]) (List.forall_mem_cons.mpr ⟨ok_27 l, fun _ h => absurd h List.not_mem_nil⟩) (fuel := 9) (by decide +kernel)
/-- LoadsAhead poke -/
theorem ok_29 (l : Launch) : en_ok l kk_29 := en_good_ok (K := []) (fun _ h => absurd h List.not_mem_nil) (fuel := 6) (by decide +kernel)
/-- LoadsAheadModel in -/
theorem ok_30 (l : Launch) : en_ok l kk_30 := en_good_ok (K := []) (fun _ h => absurd h List.not_mem_nil) (fuel := 7) (by decide +kernel)
/-- LoadsAheadModel poke -/
theorem ok_31 (l : Launch) : en_ok l kk_31 := en_good_ok (K := [kk_30]) (List.forall_mem_cons.mpr ⟨ok_30 l, fun _ h => absurd h List.not_mem_nil⟩) (fuel := 9) (by decide +kernel)
/-- LoadsAhead poke -/
theorem ok_32 (l : Launch) : en_ok l kk_32 := en_good_ok (K := []) (fun _ h => absurd h List.not_mem_nil) (fuel := 9) (by decide +kernel)
/-- LoadsAheadModel in -/
theorem ok_33 (l : Launch) : en_ok l kk_33 := en_good_ok (K := []) (fun _ h => absurd h List.not_mem_nil) (fuel := 10) (by decide +kernel)
/-- LoadsAheadModel poke -/
theorem ok_34 (l : Launch) : en_ok l kk_34 := en_good_ok (K := [kk_33]) (List.forall_mem_cons.mpr ⟨ok_33 l, fun _ h => absurd h List.not_mem_nil⟩) (fuel := 9) (by decide +kernel)
/-- LoadsAhead poke -/
theorem ok_35 (l : Launch) : en_ok l kk_35 := en_good_ok (K := []) (fun _ h => absurd h List.not_mem_nil) (fuel := 11) (by decide +kernel)
/-- LoadsAheadModel in -/
theorem ok_36 (l : Launch) : en_ok l kk_36 := en_good_ok (K := []) (fun _ h => absurd h List.not_mem_nil) (fuel := 11) (by decide +kernel)
/-- LoadsAheadModel in -/
theorem ok_37 (l : Launch) : en_ok l kk_37 := en_good_ok (K := []) (fun _ h => absurd h List.not_mem_nil) (fuel := 7) (by decide +kernel)
/-- LoadsAheadModel poke -/
theorem ok_38 (l : Launch) : en_ok l kk_38 := en_good_ok (K := [kk_36, kk_37]) (List.forall_mem_cons.mpr ⟨ok_36 l, List.forall_mem_cons.mpr ⟨ok_37 l, fun _ h => absurd h List.not_mem_nil⟩⟩) (fuel := 14) (by decide +kernel)
/-- LoadsAhead poke -/
theorem ok_39 (l : Launch) : en_ok l kk_39 := en_good_ok (K := []) (fun _ h => absurd h List.not_mem_nil) (fuel := 21) (by decide +kernel)
/-- LoadsAheadModel in -/
theorem ok_40 (l : Launch) : en_ok l kk_40 := en_good_ok (K := []) (fun _ h => absurd h List.not_mem_nil) (fuel := 11) (by decide +kernel)
/-- LoadsAheadModel poke -/
theorem ok_41 (l : Launch) : en_ok l kk_41 := en_good_ok (K := [kk_36, kk_40]) (List.forall_mem_cons.mpr ⟨ok_36 l, List.forall_mem_cons.mpr ⟨ok_40 l, fun _ h => absurd h List.not_mem_nil⟩⟩) (fuel := 19) (by decide +kernel)
/-- LoadsAhead poke -/
theorem ok_42 (l : Launch) : en_ok l kk_42 := en_good_ok (K := []) (fun _ h => absurd h List.not_mem_nil) (fuel := 14) (by decide +kernel)
/-- LoadsAheadModel in -/
theorem ok_43 (l : Launch) : en_ok l kk_43 := en_good_ok (K := []) (fun _ h => absurd h List.not_mem_nil) (fuel := 10) (by decide +kernel)
/-- LoadsAheadModel poke -/
theorem ok_44 (l : Launch) : en_ok l kk_44 := en_good_ok (K := [kk_36, kk_43]) (List.forall_mem_cons.mpr ⟨ok_36 l, List.forall_mem_cons.mpr ⟨ok_43 l, fun _ h => absurd h List.not_mem_nil⟩⟩) (fuel := 14) (by decide +kernel)
/-- LoadsAhead.Tape add -/
theorem ok_45 (l : Launch) : en_ok l kk_45 := en_good_ok (K := []) (fun _ h => absurd h List.not_mem_nil) (fuel := 103) (by decide +kernel)
/-- LoadsAhead.Tape add -/
theorem ok_46 (l : Launch) : en_ok l kk_46 := en_good_ok (K := []) (fun _ h => absurd h List.not_mem_nil) (fuel := 103) (by decide +kernel)
/-- LoadsAhead.Tape add -/
theorem ok_47 (l : Launch) : en_ok l kk_47 := en_good_ok (K := []) (fun _ h => absurd h List.not_mem_nil) (fuel := 103) (by decide +kernel)
/-- LoadsAhead.Tape add -/
theorem ok_48 (l : Launch) : en_ok l kk_48 := en_good_ok (K := []) (fun _ h => absurd h List.not_mem_nil) (fuel := 103) (by decide +kernel)
/-- LoadsAhead.Tape add -/
theorem ok_49 (l : Launch) : en_ok l kk_49 := en_good_ok (K := []) (fun _ h => absurd h List.not_mem_nil) (fuel := 103) (by decide +kernel)
/-- LoadsAhead feed -/
theorem ok_50 (l : Launch) : en_ok l kk_50 := en_good_ok (K := [kk_45, kk_46, kk_47, kk_48, kk_49]) (List.forall_mem_cons.mpr ⟨ok_45 l, List.forall_mem_cons.mpr ⟨ok_46 l, List.forall_mem_cons.mpr ⟨ok_47 l, List.forall_mem_cons.mpr ⟨ok_48 l, List.forall_mem_cons.mpr ⟨ok_49 l, fun _ h => absurd h List.not_mem_nil⟩⟩⟩⟩⟩) (fuel := 33) (by decide +kernel)
/-- LoadsAheadModel types -/
theorem ok_51 (l : Launch) : en_ok l kk_51 := en_good_ok (K := []) (fun _ h => absurd h List.not_mem_nil) (fuel := 91) (by decide +kernel)
/-- LoadsAheadModel types -/
theorem ok_52 (l : Launch) : en_ok l kk_52 := en_good_ok (K := []) (fun _ h => absurd h List.not_mem_nil) (fuel := 91) (by decide +kernel)
/-- LoadsAheadModel types -/
theorem ok_53 (l : Launch) : en_ok l kk_53 := en_good_ok (K := []) (fun _ h => absurd h List.not_mem_nil) (fuel := 91) (by decide +kernel)
/-- LoadsAheadModel types -/
theorem ok_54 (l : Launch) : en_ok l kk_54 := en_good_ok (K := []) (fun _ h => absurd h List.not_mem_nil) (fuel := 91) (by decide +kernel)
/-- LoadsAheadModel types -/
theorem ok_55 (l : Launch) : en_ok l kk_55 := en_good_ok (K := []) (fun _ h => absurd h List.not_mem_nil) (fuel := 91) (by decide +kernel)
/-- LoadsAheadModel feed -/
theorem ok_56 (l : Launch) : en_ok l kk_56 := en_good_ok (K := [kk_51, kk_52, kk_53, kk_54, kk_55]) (List.forall_mem_cons.mpr ⟨ok_51 l, List.forall_mem_cons.mpr ⟨ok_52 l, List.forall_mem_cons.mpr ⟨ok_53 l, List.forall_mem_cons.mpr ⟨ok_54 l, List.forall_mem_cons.mpr ⟨ok_55 l, fun _ h => absurd h List.not_mem_nil⟩⟩⟩⟩⟩) (fuel := 26) (by decide +kernel)
/-- LoadsAhead law -/
theorem ok_57 (l : Launch) : en_ok l kk_57 := en_good_ok (K := []) (fun _ h => absurd h List.not_mem_nil) (fuel := 7) (by decide +kernel)
/-- LoadsAheadModel in -/
theorem ok_58 (l : Launch) : en_ok l kk_58 := en_good_ok (K := []) (fun _ h => absurd h List.not_mem_nil) (fuel := 7) (by decide +kernel)
/-- LoadsAheadModel law -/
theorem ok_59 (l : Launch) : en_ok l kk_59 := en_good_ok (K := [kk_58]) (List.forall_mem_cons.mpr ⟨ok_58 l, fun _ h => absurd h List.not_mem_nil⟩) (fuel := 9) (by decide +kernel)
/-- LoadsAhead law -/
theorem ok_60 (l : Launch) : en_ok l kk_60 := en_good_ok (K := []) (fun _ h => absurd h List.not_mem_nil) (fuel := 15) (by decide +kernel)
/-- LoadsAheadModel in -/
theorem ok_61 (l : Launch) : en_ok l kk_61 := en_good_ok (K := []) (fun _ h => absurd h List.not_mem_nil) (fuel := 11) (by decide +kernel)
/-- LoadsAheadModel law -/
theorem ok_62 (l : Launch) : en_ok l kk_62 := en_good_ok (K := [kk_61]) (List.forall_mem_cons.mpr ⟨ok_61 l, fun _ h => absurd h List.not_mem_nil⟩) (fuel := 13) (by decide +kernel)
/-- LoadsAhead law -/
theorem ok_63 (l : Launch) : en_ok l kk_63 := en_good_ok (K := []) (fun _ h => absurd h List.not_mem_nil) (fuel := 10) (by decide +kernel)
/-- LoadsAheadModel in -/
theorem ok_64 (l : Launch) : en_ok l kk_64 := en_good_ok (K := []) (fun _ h => absurd h List.not_mem_nil) (fuel := 10) (by decide +kernel)
/-- LoadsAheadModel law -/
theorem ok_65 (l : Launch) : en_ok l kk_65 := en_good_ok (K := [kk_64]) (List.forall_mem_cons.mpr ⟨ok_64 l, fun _ h => absurd h List.not_mem_nil⟩) (fuel := 9) (by decide +kernel)
/-- LoadsAhead program -/
theorem ok_66 (l : Launch) : en_ok l kk_66 := en_good_ok (K := []) (fun _ h => absurd h List.not_mem_nil) (fuel := 7) (by decide +kernel)
/-- LoadsAheadModel program -/
theorem ok_67 (l : Launch) : en_ok l kk_67 := en_good_ok (K := [kk_58]) (List.forall_mem_cons.mpr ⟨ok_58 l, fun _ h => absurd h List.not_mem_nil⟩) (fuel := 9) (by decide +kernel)
/-- LoadsAhead program -/
theorem ok_68 (l : Launch) : en_ok l kk_68 := en_good_ok (K := []) (fun _ h => absurd h List.not_mem_nil) (fuel := 15) (by decide +kernel)
/-- LoadsAheadModel program -/
theorem ok_69 (l : Launch) : en_ok l kk_69 := en_good_ok (K := [kk_61]) (List.forall_mem_cons.mpr ⟨ok_61 l, fun _ h => absurd h List.not_mem_nil⟩) (fuel := 13) (by decide +kernel)
/-- LoadsAhead program -/
theorem ok_70 (l : Launch) : en_ok l kk_70 := en_good_ok (K := []) (fun _ h => absurd h List.not_mem_nil) (fuel := 10) (by decide +kernel)
/-- LoadsAheadModel program -/
theorem ok_71 (l : Launch) : en_ok l kk_71 := en_good_ok (K := [kk_64]) (List.forall_mem_cons.mpr ⟨ok_64 l, fun _ h => absurd h List.not_mem_nil⟩) (fuel := 9) (by decide +kernel)
/-- LoadsAhead canRun -/
theorem ok_72 (l : Launch) : en_ok l kk_72 := en_good_ok (K := []) (fun _ h => absurd h List.not_mem_nil) (fuel := 7) (by decide +kernel)
/-- LoadsAhead run -/
theorem ok_73 (l : Launch) : en_ok l kk_73 := en_good_ok (K := [kk_72]) (List.forall_mem_cons.mpr ⟨ok_72 l, fun _ h => absurd h List.not_mem_nil⟩) (fuel := 8) (by decide +kernel)
/-- LoadsAheadModel in -/
theorem ok_74 (l : Launch) : en_ok l kk_74 := en_good_ok (K := []) (fun _ h => absurd h List.not_mem_nil) (fuel := 7) (by decide +kernel)
/-- LoadsAheadModel canRun -/
theorem ok_75 (l : Launch) : en_ok l kk_75 := en_good_ok (K := [kk_74]) (List.forall_mem_cons.mpr ⟨ok_74 l, fun _ h => absurd h List.not_mem_nil⟩) (fuel := 9) (by decide +kernel)
/-- LoadsAheadModel run -/
theorem ok_76 (l : Launch) : en_ok l kk_76 := en_good_ok (K := [kk_75]) (List.forall_mem_cons.mpr ⟨ok_75 l, fun _ h => absurd h List.not_mem_nil⟩) (fuel := 8) (by decide +kernel)
/-- LoadsAhead canRun -/
theorem ok_77 (l : Launch) : en_ok l kk_77 := en_good_ok (K := []) (fun _ h => absurd h List.not_mem_nil) (fuel := 15) (by decide +kernel)
/-- LoadsAhead run -/
theorem ok_78 (l : Launch) : en_ok l kk_78 := en_good_ok (K := [kk_77]) (List.forall_mem_cons.mpr ⟨ok_77 l, fun _ h => absurd h List.not_mem_nil⟩) (fuel := 8) (by decide +kernel)
/-- LoadsAheadModel in -/
theorem ok_79 (l : Launch) : en_ok l kk_79 := en_good_ok (K := []) (fun _ h => absurd h List.not_mem_nil) (fuel := 11) (by decide +kernel)
/-- LoadsAheadModel canRun -/
theorem ok_80 (l : Launch) : en_ok l kk_80 := en_good_ok (K := [kk_79]) (List.forall_mem_cons.mpr ⟨ok_79 l, fun _ h => absurd h List.not_mem_nil⟩) (fuel := 12) (by decide +kernel)
/-- LoadsAheadModel run -/
theorem ok_81 (l : Launch) : en_ok l kk_81 := en_good_ok (K := [kk_80]) (List.forall_mem_cons.mpr ⟨ok_80 l, fun _ h => absurd h List.not_mem_nil⟩) (fuel := 8) (by decide +kernel)
/-- LoadsAhead canRun -/
theorem ok_82 (l : Launch) : en_ok l kk_82 := en_good_ok (K := []) (fun _ h => absurd h List.not_mem_nil) (fuel := 10) (by decide +kernel)
/-- LoadsAhead run -/
theorem ok_83 (l : Launch) : en_ok l kk_83 := en_good_ok (K := [kk_82]) (List.forall_mem_cons.mpr ⟨ok_82 l, fun _ h => absurd h List.not_mem_nil⟩) (fuel := 8) (by decide +kernel)
/-- LoadsAheadModel in -/
theorem ok_84 (l : Launch) : en_ok l kk_84 := en_good_ok (K := []) (fun _ h => absurd h List.not_mem_nil) (fuel := 10) (by decide +kernel)
/-- LoadsAheadModel canRun -/
theorem ok_85 (l : Launch) : en_ok l kk_85 := en_good_ok (K := [kk_84]) (List.forall_mem_cons.mpr ⟨ok_84 l, fun _ h => absurd h List.not_mem_nil⟩) (fuel := 9) (by decide +kernel)
/-- LoadsAheadModel run -/
theorem ok_86 (l : Launch) : en_ok l kk_86 := en_good_ok (K := [kk_85]) (List.forall_mem_cons.mpr ⟨ok_85 l, fun _ h => absurd h List.not_mem_nil⟩) (fuel := 8) (by decide +kernel)
/-- LoadsAhead tried -/
theorem ok_87 (l : Launch) : en_ok l kk_87 := en_good_ok (K := [kk_72]) (List.forall_mem_cons.mpr ⟨ok_72 l, fun _ h => absurd h List.not_mem_nil⟩) (fuel := 8) (by decide +kernel)
/-- LoadsAheadModel in -/
theorem ok_88 (l : Launch) : en_ok l kk_88 := en_good_ok (K := []) (fun _ h => absurd h List.not_mem_nil) (fuel := 11) (by decide +kernel)
/-- LoadsAheadModel in -/
theorem ok_89 (l : Launch) : en_ok l kk_89 := en_good_ok (K := []) (fun _ h => absurd h List.not_mem_nil) (fuel := 11) (by decide +kernel)
end
section
/-- LoadsAheadModel in -/
theorem ok_90 (l : Launch) : en_ok l kk_90 := en_good_ok (K := []) (fun _ h => absurd h List.not_mem_nil) (fuel := 11) (by decide +kernel)
/-- LoadsAheadModel tried -/
theorem ok_91 (l : Launch) : en_ok l kk_91 := en_good_ok (K := [kk_88, kk_89, kk_90, kk_75]) (List.forall_mem_cons.mpr ⟨ok_88 l, List.forall_mem_cons.mpr ⟨ok_89 l, List.forall_mem_cons.mpr ⟨ok_90 l, List.forall_mem_cons.mpr ⟨ok_75 l, fun _ h => absurd h List.not_mem_nil⟩⟩⟩⟩) (fuel := 26) (by decide +kernel)
/-- LoadsAhead tried -/
theorem ok_92 (l : Launch) : en_ok l kk_92 := en_good_ok (K := [kk_77]) (List.forall_mem_cons.mpr ⟨ok_77 l, fun _ h => absurd h List.not_mem_nil⟩) (fuel := 8) (by decide +kernel)
/-- LoadsAheadModel tried -/
theorem ok_93 (l : Launch) : en_ok l kk_93 := en_good_ok (K := [kk_88, kk_89, kk_90, kk_80]) (List.forall_mem_cons.mpr ⟨ok_88 l, List.forall_mem_cons.mpr ⟨ok_89 l, List.forall_mem_cons.mpr ⟨ok_90 l, List.forall_mem_cons.mpr ⟨ok_80 l, fun _ h => absurd h List.not_mem_nil⟩⟩⟩⟩) (fuel := 26) (by decide +kernel)
/-- LoadsAhead tried -/
theorem ok_94 (l : Launch) : en_ok l kk_94 := en_good_ok (K := [kk_82]) (List.forall_mem_cons.mpr ⟨ok_82 l, fun _ h => absurd h List.not_mem_nil⟩) (fuel := 8) (by decide +kernel)
/-- LoadsAheadModel tried -/
theorem ok_95 (l : Launch) : en_ok l kk_95 := en_good_ok (K := [kk_88, kk_89, kk_90, kk_85]) (List.forall_mem_cons.mpr ⟨ok_88 l, List.forall_mem_cons.mpr ⟨ok_89 l, List.forall_mem_cons.mpr ⟨ok_90 l, List.forall_mem_cons.mpr ⟨ok_85 l, fun _ h => absurd h List.not_mem_nil⟩⟩⟩⟩) (fuel := 26) (by decide +kernel)
/-- LoadsAhead isTotal -/
theorem ok_96 (l : Launch) : en_ok l kk_96 := en_good_ok (K := []) (fun _ h => absurd h List.not_mem_nil) (fuel := 6) (by decide +kernel)
/-- LoadsAhead lastRun -/
theorem ok_97 (l : Launch) : en_ok l kk_97 := en_good_ok (K := [kk_96]) (List.forall_mem_cons.mpr ⟨ok_96 l, fun _ h => absurd h List.not_mem_nil⟩) (fuel := 7) (by decide +kernel)
/-- LoadsAheadModel in -/
theorem ok_98 (l : Launch) : en_ok l kk_98 := en_good_ok (K := []) (fun _ h => absurd h List.not_mem_nil) (fuel := 7) (by decide +kernel)
/-- LoadsAheadModel lastRun -/
theorem ok_99 (l : Launch) : en_ok l kk_99 := en_good_ok (K := [kk_98]) (List.forall_mem_cons.mpr ⟨ok_98 l, fun _ h => absurd h List.not_mem_nil⟩) (fuel := 9) (by decide +kernel)
/-- LoadsAhead isTotal -/
theorem ok_100 (l : Launch) : en_ok l kk_100 := en_good_ok (K := []) (fun _ h => absurd h List.not_mem_nil) (fuel := 10) (by decide +kernel)
/-- LoadsAhead lastRun -/
theorem ok_101 (l : Launch) : en_ok l kk_101 := en_good_ok (K := [kk_100]) (List.forall_mem_cons.mpr ⟨ok_100 l, fun _ h => absurd h List.not_mem_nil⟩) (fuel := 10) (by decide +kernel)
/-- LoadsAheadModel in -/
theorem ok_102 (l : Launch) : en_ok l kk_102 := en_good_ok (K := []) (fun _ h => absurd h List.not_mem_nil) (fuel := 11) (by decide +kernel)
/-- LoadsAheadModel lastRun -/
theorem ok_103 (l : Launch) : en_ok l kk_103 := en_good_ok (K := [kk_102]) (List.forall_mem_cons.mpr ⟨ok_102 l, fun _ h => absurd h List.not_mem_nil⟩) (fuel := 12) (by decide +kernel)
/-- LoadsAhead isTotal -/
theorem ok_104 (l : Launch) : en_ok l kk_104 := en_good_ok (K := []) (fun _ h => absurd h List.not_mem_nil) (fuel := 9) (by decide +kernel)
/-- LoadsAhead lastRun -/
theorem ok_105 (l : Launch) : en_ok l kk_105 := en_good_ok (K := [kk_104]) (List.forall_mem_cons.mpr ⟨ok_104 l, fun _ h => absurd h List.not_mem_nil⟩) (fuel := 7) (by decide +kernel)
/-- LoadsAheadModel in -/
theorem ok_106 (l : Launch) : en_ok l kk_106 := en_good_ok (K := []) (fun _ h => absurd h List.not_mem_nil) (fuel := 10) (by decide +kernel)
/-- LoadsAheadModel lastRun -/
theorem ok_107 (l : Launch) : en_ok l kk_107 := en_good_ok (K := [kk_106]) (List.forall_mem_cons.mpr ⟨ok_106 l, fun _ h => absurd h List.not_mem_nil⟩) (fuel := 9) (by decide +kernel)
/-- LoadsAhead isOp -/
theorem ok_108 (l : Launch) : en_ok l kk_108 := en_good_ok (K := []) (fun _ h => absurd h List.not_mem_nil) (fuel := 6) (by decide +kernel)
/-- LoadsAhead opIs -/
theorem ok_109 (l : Launch) : en_ok l kk_109 := en_good_ok (K := [kk_108]) (List.forall_mem_cons.mpr ⟨ok_108 l, fun _ h => absurd h List.not_mem_nil⟩) (fuel := 8) (by decide +kernel)
/-- LoadsAheadModel in -/
theorem ok_110 (l : Launch) : en_ok l kk_110 := en_good_ok (K := []) (fun _ h => absurd h List.not_mem_nil) (fuel := 7) (by decide +kernel)
/-- LoadsAheadModel isOp -/
theorem ok_111 (l : Launch) : en_ok l kk_111 := en_good_ok (K := [kk_110]) (List.forall_mem_cons.mpr ⟨ok_110 l, fun _ h => absurd h List.not_mem_nil⟩) (fuel := 10) (by decide +kernel)
/-- LoadsAheadModel opIs -/
theorem ok_112 (l : Launch) : en_ok l kk_112 := en_good_ok (K := [kk_111]) (List.forall_mem_cons.mpr ⟨ok_111 l, fun _ h => absurd h List.not_mem_nil⟩) (fuel := 8) (by decide +kernel)
/-- LoadsAhead isOp -/
theorem ok_113 (l : Launch) : en_ok l kk_113 := en_good_ok (K := []) (fun _ h => absurd h List.not_mem_nil) (fuel := 12) (by decide +kernel)
/-- LoadsAhead opIs -/
theorem ok_114 (l : Launch) : en_ok l kk_114 := en_good_ok (K := [kk_113]) (List.forall_mem_cons.mpr ⟨ok_113 l, fun _ h => absurd h List.not_mem_nil⟩) (fuel := 8) (by decide +kernel)
/-- LoadsAheadModel in -/
theorem ok_115 (l : Launch) : en_ok l kk_115 := en_good_ok (K := []) (fun _ h => absurd h List.not_mem_nil) (fuel := 10) (by decide +kernel)
/-- LoadsAheadModel isOp -/
theorem ok_116 (l : Launch) : en_ok l kk_116 := en_good_ok (K := [kk_115]) (List.forall_mem_cons.mpr ⟨ok_115 l, fun _ h => absurd h List.not_mem_nil⟩) (fuel := 10) (by decide +kernel)
/-- LoadsAheadModel opIs -/
theorem ok_117 (l : Launch) : en_ok l kk_117 := en_good_ok (K := [kk_116]) (List.forall_mem_cons.mpr ⟨ok_116 l, fun _ h => absurd h List.not_mem_nil⟩) (fuel := 8) (by decide +kernel)
/-- LoadsAhead source -/
theorem ok_118 (l : Launch) : en_ok l kk_118 := en_good_ok (K := [kk_108]) (List.forall_mem_cons.mpr ⟨ok_108 l, fun _ h => absurd h List.not_mem_nil⟩) (fuel := 8) (by decide +kernel)
/-- LoadsAheadModel source -/
theorem ok_119 (l : Launch) : en_ok l kk_119 := en_good_ok (K := [kk_111]) (List.forall_mem_cons.mpr ⟨ok_111 l, fun _ h => absurd h List.not_mem_nil⟩) (fuel := 8) (by decide +kernel)
/-- LoadsAhead source -/
theorem ok_120 (l : Launch) : en_ok l kk_120 := en_good_ok (K := [kk_113]) (List.forall_mem_cons.mpr ⟨ok_113 l, fun _ h => absurd h List.not_mem_nil⟩) (fuel := 8) (by decide +kernel)
/-- LoadsAheadModel source -/
theorem ok_121 (l : Launch) : en_ok l kk_121 := en_good_ok (K := [kk_116]) (List.forall_mem_cons.mpr ⟨ok_116 l, fun _ h => absurd h List.not_mem_nil⟩) (fuel := 8) (by decide +kernel)
/-- LoadsAhead isCell -/
theorem ok_122 (l : Launch) : en_ok l kk_122 := en_good_ok (K := []) (fun _ h => absurd h List.not_mem_nil) (fuel := 6) (by decide +kernel)
/-- LoadsAhead isByte -/
theorem ok_123 (l : Launch) : en_ok l kk_123 := en_good_ok (K := []) (fun _ h => absurd h List.not_mem_nil) (fuel := 7) (by decide +kernel)
/-- LoadsAhead now -/
theorem ok_124 (l : Launch) : en_ok l kk_124 := en_good_ok (K := [kk_122, kk_123]) (List.forall_mem_cons.mpr ⟨ok_122 l, List.forall_mem_cons.mpr ⟨ok_123 l, fun _ h => absurd h List.not_mem_nil⟩⟩) (fuel := 10) (by decide +kernel)
/-- LoadsAheadModel in -/
theorem ok_125 (l : Launch) : en_ok l kk_125 := en_good_ok (K := []) (fun _ h => absurd h List.not_mem_nil) (fuel := 7) (by decide +kernel)
/-- LoadsAheadModel now -/
theorem ok_126 (l : Launch) : en_ok l kk_126 := en_good_ok (K := [kk_21, kk_125]) (List.forall_mem_cons.mpr ⟨ok_21 l, List.forall_mem_cons.mpr ⟨ok_125 l, fun _ h => absurd h List.not_mem_nil⟩⟩) (fuel := 14) (by decide +kernel)
/-- LoadsAhead isCell -/
theorem ok_127 (l : Launch) : en_ok l kk_127 := en_good_ok (K := []) (fun _ h => absurd h List.not_mem_nil) (fuel := 10) (by decide +kernel)
/-- LoadsAhead now -/
theorem ok_128 (l : Launch) : en_ok l kk_128 := en_good_ok (K := [kk_127]) (List.forall_mem_cons.mpr ⟨ok_127 l, fun _ h => absurd h List.not_mem_nil⟩) (fuel := 12) (by decide +kernel)
/-- LoadsAheadModel now -/
theorem ok_129 (l : Launch) : en_ok l kk_129 := en_good_ok (K := [kk_24]) (List.forall_mem_cons.mpr ⟨ok_24 l, fun _ h => absurd h List.not_mem_nil⟩) (fuel := 13) (by decide +kernel)
/-- LoadsAhead isCell -/
theorem ok_130 (l : Launch) : en_ok l kk_130 := en_good_ok (K := []) (fun _ h => absurd h List.not_mem_nil) (fuel := 9) (by decide +kernel)
/-- LoadsAhead isByte -/
theorem ok_131 (l : Launch) : en_ok l kk_131 := en_good_ok (K := []) (fun _ h => absurd h List.not_mem_nil) (fuel := 7) (by decide +kernel)
/-- LoadsAhead now -/
theorem ok_132 (l : Launch) : en_ok l kk_132 := en_good_ok (K := [kk_130, kk_131]) (List.forall_mem_cons.mpr ⟨ok_130 l, List.forall_mem_cons.mpr ⟨ok_131 l, fun _ h => absurd h List.not_mem_nil⟩⟩) (fuel := 10) (by decide +kernel)
/-- LoadsAheadModel in -/
theorem ok_133 (l : Launch) : en_ok l kk_133 := en_good_ok (K := []) (fun _ h => absurd h List.not_mem_nil) (fuel := 10) (by decide +kernel)
/-- LoadsAheadModel in -/
theorem ok_134 (l : Launch) : en_ok l kk_134 := en_good_ok (K := []) (fun _ h => absurd h List.not_mem_nil) (fuel := 7) (by decide +kernel)
/-- LoadsAheadModel now -/
theorem ok_135 (l : Launch) : en_ok l kk_135 := en_good_ok (K := [kk_133, kk_134]) (List.forall_mem_cons.mpr ⟨ok_133 l, List.forall_mem_cons.mpr ⟨ok_134 l, fun _ h => absurd h List.not_mem_nil⟩⟩) (fuel := 14) (by decide +kernel)
/-- LoadsAhead isCell -/
theorem ok_136 (l : Launch) : en_ok l kk_136 := en_good_ok (K := []) (fun _ h => absurd h List.not_mem_nil) (fuel := 9) (by decide +kernel)
/-- LoadsAhead isByte -/
theorem ok_137 (l : Launch) : en_ok l kk_137 := en_good_ok (K := []) (fun _ h => absurd h List.not_mem_nil) (fuel := 11) (by decide +kernel)
/-- LoadsAhead now -/
theorem ok_138 (l : Launch) : en_ok l kk_138 := en_good_ok (K := [kk_136, kk_137]) (List.forall_mem_cons.mpr ⟨ok_136 l, List.forall_mem_cons.mpr ⟨ok_137 l, fun _ h => absurd h List.not_mem_nil⟩⟩) (fuel := 18) (by decide +kernel)
/-- LoadsAheadModel in -/
theorem ok_139 (l : Launch) : en_ok l kk_139 := en_good_ok (K := []) (fun _ h => absurd h List.not_mem_nil) (fuel := 10) (by decide +kernel)
/-- LoadsAheadModel in -/
theorem ok_140 (l : Launch) : en_ok l kk_140 := en_good_ok (K := []) (fun _ h => absurd h List.not_mem_nil) (fuel := 11) (by decide +kernel)
/-- LoadsAheadModel now -/
theorem ok_141 (l : Launch) : en_ok l kk_141 := en_good_ok (K := [kk_139, kk_140]) (List.forall_mem_cons.mpr ⟨ok_139 l, List.forall_mem_cons.mpr ⟨ok_140 l, fun _ h => absurd h List.not_mem_nil⟩⟩) (fuel := 20) (by decide +kernel)
/-- LoadsAhead isCell -/
theorem ok_142 (l : Launch) : en_ok l kk_142 := en_good_ok (K := []) (fun _ h => absurd h List.not_mem_nil) (fuel := 9) (by decide +kernel)
/-- LoadsAhead isByte -/
theorem ok_143 (l : Launch) : en_ok l kk_143 := en_good_ok (K := []) (fun _ h => absurd h List.not_mem_nil) (fuel := 10) (by decide +kernel)
/-- LoadsAhead now -/
theorem ok_144 (l : Launch) : en_ok l kk_144 := en_good_ok (K := [kk_142, kk_143]) (List.forall_mem_cons.mpr ⟨ok_142 l, List.forall_mem_cons.mpr ⟨ok_143 l, fun _ h => absurd h List.not_mem_nil⟩⟩) (fuel := 10) (by decide +kernel)
/-- LoadsAheadModel in -/
theorem ok_145 (l : Launch) : en_ok l kk_145 := en_good_ok (K := []) (fun _ h => absurd h List.not_mem_nil) (fuel := 10) (by decide +kernel)
/-- LoadsAheadModel in -/
theorem ok_146 (l : Launch) : en_ok l kk_146 := en_good_ok (K := []) (fun _ h => absurd h List.not_mem_nil) (fuel := 10) (by decide +kernel)
/-- LoadsAheadModel now -/
theorem ok_147 (l : Launch) : en_ok l kk_147 := en_good_ok (K := [kk_145, kk_146]) (List.forall_mem_cons.mpr ⟨ok_145 l, List.forall_mem_cons.mpr ⟨ok_146 l, fun _ h => absurd h List.not_mem_nil⟩⟩) (fuel := 14) (by decide +kernel)
/-- LoadsAhead plain -/
theorem ok_148 (l : Launch) : en_ok l kk_148 := en_good_ok (K := [kk_122, kk_123]) (List.forall_mem_cons.mpr ⟨ok_122 l, List.forall_mem_cons.mpr ⟨ok_123 l, fun _ h => absurd h List.not_mem_nil⟩⟩) (fuel := 10) (by decide +kernel)
/-- LoadsAheadModel goesPlain -/
theorem ok_149 (l : Launch) : en_ok l kk_149 := en_good_ok (K := []) (fun _ h => absurd h List.not_mem_nil) (fuel := 955) (by decide +kernel)
/-- LoadsAheadModel plain -/
theorem ok_150 (l : Launch) : en_ok l kk_150 := en_good_ok (K := [kk_149, kk_21, kk_125]) (List.forall_mem_cons.mpr ⟨ok_149 l, List.forall_mem_cons.mpr ⟨ok_21 l, List.forall_mem_cons.mpr ⟨ok_125 l, fun _ h => absurd h List.not_mem_nil⟩⟩⟩) (fuel := 16) (by decide +kernel)
/-- LoadsAhead.State copyCellsFrom -/
theorem ok_151 (l : Launch) : en_ok l kk_151 := en_good_ok (K := []) (fun _ h => absurd h List.not_mem_nil) (fuel := 27) (by decide +kernel)
/-- LoadsAhead.State copySetsFrom -/
theorem ok_152 (l : Launch) : en_ok l kk_152 := en_good_ok (K := []) (fun _ h => absurd h List.not_mem_nil) (fuel := 15) (by decide +kernel)
/-- LoadsAhead.State copyFrom -/
theorem ok_153 (l : Launch) : en_ok l kk_153 := en_good_ok (K := [kk_151, kk_152]) (List.forall_mem_cons.mpr ⟨ok_151 l, List.forall_mem_cons.mpr ⟨ok_152 l, fun _ h => absurd h List.not_mem_nil⟩⟩) (fuel := 9) (by decide +kernel)
/-- LoadsAhead.Plain go -/
theorem ok_154 (l : Launch) : en_ok l kk_154 := en_good_ok (K := [kk_153]) (List.forall_mem_cons.mpr ⟨ok_153 l, fun _ h => absurd h List.not_mem_nil⟩) (fuel := 13) (by decide +kernel)
/-- LoadsAhead plain -/
theorem ok_155 (l : Launch) : en_ok l kk_155 := en_good_ok (K := [kk_127, kk_154]) (List.forall_mem_cons.mpr ⟨ok_127 l, List.forall_mem_cons.mpr ⟨ok_154 l, fun _ h => absurd h List.not_mem_nil⟩⟩) (fuel := 25) (by decide +kernel)
/-- LoadsAheadModel plain -/
theorem ok_156 (l : Launch) : en_ok l kk_156 := en_good_ok (K := [kk_149, kk_24]) (List.forall_mem_cons.mpr ⟨ok_149 l, List.forall_mem_cons.mpr ⟨ok_24 l, fun _ h => absurd h List.not_mem_nil⟩⟩) (fuel := 15) (by decide +kernel)
/-- LoadsAhead plain -/
theorem ok_157 (l : Launch) : en_ok l kk_157 := en_good_ok (K := [kk_130, kk_131]) (List.forall_mem_cons.mpr ⟨ok_130 l, List.forall_mem_cons.mpr ⟨ok_131 l, fun _ h => absurd h List.not_mem_nil⟩⟩) (fuel := 10) (by decide +kernel)
/-- LoadsAheadModel plain -/
theorem ok_158 (l : Launch) : en_ok l kk_158 := en_good_ok (K := [kk_149, kk_133, kk_134]) (List.forall_mem_cons.mpr ⟨ok_149 l, List.forall_mem_cons.mpr ⟨ok_133 l, List.forall_mem_cons.mpr ⟨ok_134 l, fun _ h => absurd h List.not_mem_nil⟩⟩⟩) (fuel := 16) (by decide +kernel)
/-- LoadsAhead plain -/
theorem ok_159 (l : Launch) : en_ok l kk_159 := en_good_ok (K := [kk_136, kk_137, kk_154]) (List.forall_mem_cons.mpr ⟨ok_136 l, List.forall_mem_cons.mpr ⟨ok_137 l, List.forall_mem_cons.mpr ⟨ok_154 l, fun _ h => absurd h List.not_mem_nil⟩⟩⟩) (fuel := 29) (by decide +kernel)
end
section
/-- LoadsAheadModel plain -/
theorem ok_160 (l : Launch) : en_ok l kk_160 := en_good_ok (K := [kk_149, kk_139, kk_140]) (List.forall_mem_cons.mpr ⟨ok_149 l, List.forall_mem_cons.mpr ⟨ok_139 l, List.forall_mem_cons.mpr ⟨ok_140 l, fun _ h => absurd h List.not_mem_nil⟩⟩⟩) (fuel := 22) (by decide +kernel)
/-- LoadsAhead plain -/
theorem ok_161 (l : Launch) : en_ok l kk_161 := en_good_ok (K := [kk_142, kk_143]) (List.forall_mem_cons.mpr ⟨ok_142 l, List.forall_mem_cons.mpr ⟨ok_143 l, fun _ h => absurd h List.not_mem_nil⟩⟩) (fuel := 10) (by decide +kernel)
/-- LoadsAheadModel plain -/
theorem ok_162 (l : Launch) : en_ok l kk_162 := en_good_ok (K := [kk_149, kk_145, kk_146]) (List.forall_mem_cons.mpr ⟨ok_149 l, List.forall_mem_cons.mpr ⟨ok_145 l, List.forall_mem_cons.mpr ⟨ok_146 l, fun _ h => absurd h List.not_mem_nil⟩⟩⟩) (fuel := 16) (by decide +kernel)
/-- LoadsAhead unlike -/
theorem ok_163 (l : Launch) : en_ok l kk_163 := en_good_ok (K := [kk_72]) (List.forall_mem_cons.mpr ⟨ok_72 l, fun _ h => absurd h List.not_mem_nil⟩) (fuel := 8) (by decide +kernel)
/-- LoadsAheadModel unlike -/
theorem ok_164 (l : Launch) : en_ok l kk_164 := en_good_ok (K := [kk_75]) (List.forall_mem_cons.mpr ⟨ok_75 l, fun _ h => absurd h List.not_mem_nil⟩) (fuel := 8) (by decide +kernel)
/-- LoadsAhead unlike -/
theorem ok_165 (l : Launch) : en_ok l kk_165 := en_good_ok (K := [kk_77]) (List.forall_mem_cons.mpr ⟨ok_77 l, fun _ h => absurd h List.not_mem_nil⟩) (fuel := 8) (by decide +kernel)
/-- LoadsAheadModel unlike -/
theorem ok_166 (l : Launch) : en_ok l kk_166 := en_good_ok (K := [kk_80]) (List.forall_mem_cons.mpr ⟨ok_80 l, fun _ h => absurd h List.not_mem_nil⟩) (fuel := 8) (by decide +kernel)
/-- LoadsAhead unlike -/
theorem ok_167 (l : Launch) : en_ok l kk_167 := en_good_ok (K := [kk_82]) (List.forall_mem_cons.mpr ⟨ok_82 l, fun _ h => absurd h List.not_mem_nil⟩) (fuel := 8) (by decide +kernel)
/-- LoadsAheadModel unlike -/
theorem ok_168 (l : Launch) : en_ok l kk_168 := en_good_ok (K := [kk_85]) (List.forall_mem_cons.mpr ⟨ok_85 l, fun _ h => absurd h List.not_mem_nil⟩) (fuel := 8) (by decide +kernel)
/-- LoadsAhead fastest -/
theorem ok_169 (l : Launch) : en_ok l kk_169 := en_good_ok (K := []) (fun _ h => absurd h List.not_mem_nil) (fuel := 6) (by decide +kernel)
/-- LoadsAheadModel in -/
theorem ok_170 (l : Launch) : en_ok l kk_170 := en_good_ok (K := []) (fun _ h => absurd h List.not_mem_nil) (fuel := 7) (by decide +kernel)
/-- LoadsAheadModel fastest -/
theorem ok_171 (l : Launch) : en_ok l kk_171 := en_good_ok (K := [kk_170]) (List.forall_mem_cons.mpr ⟨ok_170 l, fun _ h => absurd h List.not_mem_nil⟩) (fuel := 9) (by decide +kernel)
/-- LoadsAhead fastest -/
theorem ok_172 (l : Launch) : en_ok l kk_172 := en_good_ok (K := []) (fun _ h => absurd h List.not_mem_nil) (fuel := 14) (by decide +kernel)
/-- LoadsAheadModel in -/
theorem ok_173 (l : Launch) : en_ok l kk_173 := en_good_ok (K := []) (fun _ h => absurd h List.not_mem_nil) (fuel := 11) (by decide +kernel)
/-- LoadsAheadModel fastest -/
theorem ok_174 (l : Launch) : en_ok l kk_174 := en_good_ok (K := [kk_173]) (List.forall_mem_cons.mpr ⟨ok_173 l, fun _ h => absurd h List.not_mem_nil⟩) (fuel := 12) (by decide +kernel)
/-- LoadsAhead fastest -/
theorem ok_175 (l : Launch) : en_ok l kk_175 := en_good_ok (K := []) (fun _ h => absurd h List.not_mem_nil) (fuel := 9) (by decide +kernel)
/-- LoadsAheadModel in -/
theorem ok_176 (l : Launch) : en_ok l kk_176 := en_good_ok (K := []) (fun _ h => absurd h List.not_mem_nil) (fuel := 10) (by decide +kernel)
/-- LoadsAheadModel fastest -/
theorem ok_177 (l : Launch) : en_ok l kk_177 := en_good_ok (K := [kk_176]) (List.forall_mem_cons.mpr ⟨ok_176 l, fun _ h => absurd h List.not_mem_nil⟩) (fuel := 9) (by decide +kernel)
/-- LoadsAhead cautious -/
theorem ok_178 (l : Launch) : en_ok l kk_178 := en_good_ok (K := [kk_72]) (List.forall_mem_cons.mpr ⟨ok_72 l, fun _ h => absurd h List.not_mem_nil⟩) (fuel := 8) (by decide +kernel)
/-- LoadsAheadModel cautious -/
theorem ok_179 (l : Launch) : en_ok l kk_179 := en_good_ok (K := [kk_75]) (List.forall_mem_cons.mpr ⟨ok_75 l, fun _ h => absurd h List.not_mem_nil⟩) (fuel := 8) (by decide +kernel)
/-- LoadsAhead cautious -/
theorem ok_180 (l : Launch) : en_ok l kk_180 := en_good_ok (K := [kk_77]) (List.forall_mem_cons.mpr ⟨ok_77 l, fun _ h => absurd h List.not_mem_nil⟩) (fuel := 8) (by decide +kernel)
/-- LoadsAheadModel cautious -/
theorem ok_181 (l : Launch) : en_ok l kk_181 := en_good_ok (K := [kk_80]) (List.forall_mem_cons.mpr ⟨ok_80 l, fun _ h => absurd h List.not_mem_nil⟩) (fuel := 8) (by decide +kernel)
/-- LoadsAhead cautious -/
theorem ok_182 (l : Launch) : en_ok l kk_182 := en_good_ok (K := [kk_82]) (List.forall_mem_cons.mpr ⟨ok_82 l, fun _ h => absurd h List.not_mem_nil⟩) (fuel := 8) (by decide +kernel)
/-- LoadsAheadModel cautious -/
theorem ok_183 (l : Launch) : en_ok l kk_183 := en_good_ok (K := [kk_85]) (List.forall_mem_cons.mpr ⟨ok_85 l, fun _ h => absurd h List.not_mem_nil⟩) (fuel := 8) (by decide +kernel)
/-- LoadsAhead worst -/
theorem ok_184 (l : Launch) : en_ok l kk_184 := en_good_ok (K := []) (fun _ h => absurd h List.not_mem_nil) (fuel := 6) (by decide +kernel)
/-- LoadsAheadModel worst -/
theorem ok_185 (l : Launch) : en_ok l kk_185 := en_good_ok (K := [kk_170]) (List.forall_mem_cons.mpr ⟨ok_170 l, fun _ h => absurd h List.not_mem_nil⟩) (fuel := 9) (by decide +kernel)
/-- LoadsAhead worst -/
theorem ok_186 (l : Launch) : en_ok l kk_186 := en_good_ok (K := []) (fun _ h => absurd h List.not_mem_nil) (fuel := 12) (by decide +kernel)
/-- LoadsAheadModel worst -/
theorem ok_187 (l : Launch) : en_ok l kk_187 := en_good_ok (K := [kk_173]) (List.forall_mem_cons.mpr ⟨ok_173 l, fun _ h => absurd h List.not_mem_nil⟩) (fuel := 12) (by decide +kernel)
/-- LoadsAhead worst -/
theorem ok_188 (l : Launch) : en_ok l kk_188 := en_good_ok (K := []) (fun _ h => absurd h List.not_mem_nil) (fuel := 9) (by decide +kernel)
/-- LoadsAheadModel worst -/
theorem ok_189 (l : Launch) : en_ok l kk_189 := en_good_ok (K := [kk_176]) (List.forall_mem_cons.mpr ⟨ok_176 l, fun _ h => absurd h List.not_mem_nil⟩) (fuel := 9) (by decide +kernel)
/-- LoadsAhead deep -/
theorem ok_190 (l : Launch) : en_ok l kk_190 := en_good_ok (K := []) (fun _ h => absurd h List.not_mem_nil) (fuel := 7) (by decide +kernel)
/-- LoadsAheadModel deep -/
theorem ok_191 (l : Launch) : en_ok l kk_191 := en_good_ok (K := []) (fun _ h => absurd h List.not_mem_nil) (fuel := 12) (by decide +kernel)
/-- LoadsAhead.Plain sharedBytes -/
theorem ok_192 (l : Launch) : en_ok l kk_192 := en_good_ok (K := []) (fun _ h => absurd h List.not_mem_nil) (fuel := 12) (by decide +kernel)
/-- LoadsAhead mix -/
theorem ok_193 (l : Launch) : en_ok l kk_193 := en_good_ok (K := [kk_154, kk_192]) (List.forall_mem_cons.mpr ⟨ok_154 l, List.forall_mem_cons.mpr ⟨ok_192 l, fun _ h => absurd h List.not_mem_nil⟩⟩) (fuel := 18) (by decide +kernel)
/-- LoadsAheadModel mix -/
theorem ok_194 (l : Launch) : en_ok l kk_194 := en_good_ok (K := [kk_149]) (List.forall_mem_cons.mpr ⟨ok_149 l, fun _ h => absurd h List.not_mem_nil⟩) (fuel := 14) (by decide +kernel)
/-- LoadsAhead watch -/
theorem ok_195 (l : Launch) : en_ok l kk_195 := en_good_ok (K := []) (fun _ h => absurd h List.not_mem_nil) (fuel := 6) (by decide +kernel)
/-- LoadsAheadModel watch -/
theorem ok_196 (l : Launch) : en_ok l kk_196 := en_good_ok (K := [kk_170]) (List.forall_mem_cons.mpr ⟨ok_170 l, fun _ h => absurd h List.not_mem_nil⟩) (fuel := 9) (by decide +kernel)
/-- LoadsAhead watch -/
theorem ok_197 (l : Launch) : en_ok l kk_197 := en_good_ok (K := []) (fun _ h => absurd h List.not_mem_nil) (fuel := 9) (by decide +kernel)
/-- LoadsAheadModel watch -/
theorem ok_198 (l : Launch) : en_ok l kk_198 := en_good_ok (K := [kk_176]) (List.forall_mem_cons.mpr ⟨ok_176 l, fun _ h => absurd h List.not_mem_nil⟩) (fuel := 9) (by decide +kernel)
/-- LoadsAhead watch -/
theorem ok_199 (l : Launch) : en_ok l kk_199 := en_good_ok (K := [kk_108]) (List.forall_mem_cons.mpr ⟨ok_108 l, fun _ h => absurd h List.not_mem_nil⟩) (fuel := 20) (by decide +kernel)
/-- LoadsAheadModel watch -/
theorem ok_200 (l : Launch) : en_ok l kk_200 := en_good_ok (K := [kk_173, kk_111]) (List.forall_mem_cons.mpr ⟨ok_173 l, List.forall_mem_cons.mpr ⟨ok_111 l, fun _ h => absurd h List.not_mem_nil⟩⟩) (fuel := 13) (by decide +kernel)
/-- LoadsAhead watch -/
theorem ok_201 (l : Launch) : en_ok l kk_201 := en_good_ok (K := [kk_113]) (List.forall_mem_cons.mpr ⟨ok_113 l, fun _ h => absurd h List.not_mem_nil⟩) (fuel := 20) (by decide +kernel)
/-- LoadsAheadModel watch -/
theorem ok_202 (l : Launch) : en_ok l kk_202 := en_good_ok (K := [kk_173, kk_116]) (List.forall_mem_cons.mpr ⟨ok_173 l, List.forall_mem_cons.mpr ⟨ok_116 l, fun _ h => absurd h List.not_mem_nil⟩⟩) (fuel := 13) (by decide +kernel)
/-- LoadsAhead watched -/
theorem ok_203 (l : Launch) : en_ok l kk_203 := en_good_ok (K := []) (fun _ h => absurd h List.not_mem_nil) (fuel := 6) (by decide +kernel)
/-- LoadsAheadModel watched -/
theorem ok_204 (l : Launch) : en_ok l kk_204 := en_good_ok (K := [kk_170]) (List.forall_mem_cons.mpr ⟨ok_170 l, fun _ h => absurd h List.not_mem_nil⟩) (fuel := 9) (by decide +kernel)
/-- LoadsAhead watched -/
theorem ok_205 (l : Launch) : en_ok l kk_205 := en_good_ok (K := []) (fun _ h => absurd h List.not_mem_nil) (fuel := 9) (by decide +kernel)
/-- LoadsAheadModel watched -/
theorem ok_206 (l : Launch) : en_ok l kk_206 := en_good_ok (K := [kk_176]) (List.forall_mem_cons.mpr ⟨ok_176 l, fun _ h => absurd h List.not_mem_nil⟩) (fuel := 9) (by decide +kernel)
/-- LoadsAhead watched -/
theorem ok_207 (l : Launch) : en_ok l kk_207 := en_good_ok (K := []) (fun _ h => absurd h List.not_mem_nil) (fuel := 11) (by decide +kernel)
/-- LoadsAheadModel watched -/
theorem ok_208 (l : Launch) : en_ok l kk_208 := en_good_ok (K := [kk_173]) (List.forall_mem_cons.mpr ⟨ok_173 l, fun _ h => absurd h List.not_mem_nil⟩) (fuel := 11) (by decide +kernel)
/-- LoadsAhead watched -/
theorem ok_209 (l : Launch) : en_ok l kk_209 := en_good_ok (K := []) (fun _ h => absurd h List.not_mem_nil) (fuel := 13) (by decide +kernel)
/-- LoadsAheadModel in -/
theorem ok_210 (l : Launch) : en_ok l kk_210 := en_good_ok (K := []) (fun _ h => absurd h List.not_mem_nil) (fuel := 7) (by decide +kernel)
/-- LoadsAheadModel watched -/
theorem ok_211 (l : Launch) : en_ok l kk_211 := en_good_ok (K := [kk_173, kk_210]) (List.forall_mem_cons.mpr ⟨ok_173 l, List.forall_mem_cons.mpr ⟨ok_210 l, fun _ h => absurd h List.not_mem_nil⟩⟩) (fuel := 16) (by decide +kernel)
/-- LoadsAhead watched -/
theorem ok_212 (l : Launch) : en_ok l kk_212 := en_good_ok (K := []) (fun _ h => absurd h List.not_mem_nil) (fuel := 23) (by decide +kernel)
/-- LoadsAheadModel in -/
theorem ok_213 (l : Launch) : en_ok l kk_213 := en_good_ok (K := []) (fun _ h => absurd h List.not_mem_nil) (fuel := 11) (by decide +kernel)
/-- LoadsAheadModel watched -/
theorem ok_214 (l : Launch) : en_ok l kk_214 := en_good_ok (K := [kk_173, kk_213]) (List.forall_mem_cons.mpr ⟨ok_173 l, List.forall_mem_cons.mpr ⟨ok_213 l, fun _ h => absurd h List.not_mem_nil⟩⟩) (fuel := 22) (by decide +kernel)
/-- LoadsAhead watched -/
theorem ok_215 (l : Launch) : en_ok l kk_215 := en_good_ok (K := []) (fun _ h => absurd h List.not_mem_nil) (fuel := 16) (by decide +kernel)
/-- LoadsAheadModel in -/
theorem ok_216 (l : Launch) : en_ok l kk_216 := en_good_ok (K := []) (fun _ h => absurd h List.not_mem_nil) (fuel := 10) (by decide +kernel)
/-- LoadsAheadModel watched -/
theorem ok_217 (l : Launch) : en_ok l kk_217 := en_good_ok (K := [kk_173, kk_216]) (List.forall_mem_cons.mpr ⟨ok_173 l, List.forall_mem_cons.mpr ⟨ok_216 l, fun _ h => absurd h List.not_mem_nil⟩⟩) (fuel := 16) (by decide +kernel)
/-- LoadsAhead.State withSet -/
theorem ok_218 (l : Launch) : en_ok l kk_218 := en_good_ok (K := []) (fun _ h => absurd h List.not_mem_nil) (fuel := 231) (by decide +kernel)
/-- java/util/Arrays fill -/
theorem ok_219 (l : Launch) : en_ok l kk_219 := en_fill l (T := tW_39) (j := 27) (n := 20) (b := ((-1), (-1))) (v := ((-1), (-1))) (by decide +kernel) (by decide +kernel)
/-- LoadsAhead.State dropSets -/
theorem ok_220 (l : Launch) : en_ok l kk_220 := en_good_ok (K := [kk_219]) (List.forall_mem_cons.mpr ⟨ok_219 l, fun _ h => absurd h List.not_mem_nil⟩) (fuel := 7) (by decide +kernel)
/-- LoadsAhead forget -/
theorem ok_221 (l : Launch) : en_ok l kk_221 := en_good_ok (K := [kk_218, kk_220]) (List.forall_mem_cons.mpr ⟨ok_218 l, List.forall_mem_cons.mpr ⟨ok_220 l, fun _ h => absurd h List.not_mem_nil⟩⟩) (fuel := 13) (by decide +kernel)
/-- LoadsAheadModel withSet -/
theorem ok_222 (l : Launch) : en_ok l kk_222 := en_good_ok (K := []) (fun _ h => absurd h List.not_mem_nil) (fuel := 12) (by decide +kernel)
/-- LoadsAheadModel forget -/
theorem ok_223 (l : Launch) : en_ok l kk_223 := en_good_ok (K := [kk_222]) (List.forall_mem_cons.mpr ⟨ok_222 l, fun _ h => absurd h List.not_mem_nil⟩) (fuel := 13) (by decide +kernel)
/-- LoadsAhead seed -/
theorem ok_224 (l : Launch) : en_ok l kk_224 := en_good_ok (K := []) (fun _ h => absurd h List.not_mem_nil) (fuel := 6) (by decide +kernel)
/-- LoadsAheadModel in -/
theorem ok_225 (l : Launch) : en_ok l kk_225 := en_good_ok (K := []) (fun _ h => absurd h List.not_mem_nil) (fuel := 7) (by decide +kernel)
/-- LoadsAheadModel seed -/
theorem ok_226 (l : Launch) : en_ok l kk_226 := en_good_ok (K := [kk_225]) (List.forall_mem_cons.mpr ⟨ok_225 l, fun _ h => absurd h List.not_mem_nil⟩) (fuel := 9) (by decide +kernel)
/-- LoadsAhead seed -/
theorem ok_227 (l : Launch) : en_ok l kk_227 := en_good_ok (K := []) (fun _ h => absurd h List.not_mem_nil) (fuel := 14) (by decide +kernel)
/-- LoadsAheadModel in -/
theorem ok_228 (l : Launch) : en_ok l kk_228 := en_good_ok (K := []) (fun _ h => absurd h List.not_mem_nil) (fuel := 11) (by decide +kernel)
/-- LoadsAheadModel seed -/
theorem ok_229 (l : Launch) : en_ok l kk_229 := en_good_ok (K := [kk_228]) (List.forall_mem_cons.mpr ⟨ok_228 l, fun _ h => absurd h List.not_mem_nil⟩) (fuel := 12) (by decide +kernel)
end
section
/-- LoadsAhead seed -/
theorem ok_230 (l : Launch) : en_ok l kk_230 := en_good_ok (K := []) (fun _ h => absurd h List.not_mem_nil) (fuel := 9) (by decide +kernel)
/-- LoadsAheadModel in -/
theorem ok_231 (l : Launch) : en_ok l kk_231 := en_good_ok (K := []) (fun _ h => absurd h List.not_mem_nil) (fuel := 10) (by decide +kernel)
/-- LoadsAheadModel seed -/
theorem ok_232 (l : Launch) : en_ok l kk_232 := en_good_ok (K := [kk_231]) (List.forall_mem_cons.mpr ⟨ok_231 l, fun _ h => absurd h List.not_mem_nil⟩) (fuel := 9) (by decide +kernel)
/-- LoadsAhead.State copyCellsFrom -/
theorem ok_233 (l : Launch) : en_ok l kk_233 := en_good_ok (K := []) (fun _ h => absurd h List.not_mem_nil) (fuel := 27) (by decide +kernel)
/-- LoadsAhead.State copySetsFrom -/
theorem ok_234 (l : Launch) : en_ok l kk_234 := en_good_ok (K := []) (fun _ h => absurd h List.not_mem_nil) (fuel := 15) (by decide +kernel)
/-- LoadsAhead.State copyFrom -/
theorem ok_235 (l : Launch) : en_ok l kk_235 := en_good_ok (K := [kk_233, kk_234]) (List.forall_mem_cons.mpr ⟨ok_233 l, List.forall_mem_cons.mpr ⟨ok_234 l, fun _ h => absurd h List.not_mem_nil⟩⟩) (fuel := 9) (by decide +kernel)
/-- LoadsAhead keep -/
theorem ok_236 (l : Launch) : en_ok l kk_236 := en_good_ok (K := [kk_235]) (List.forall_mem_cons.mpr ⟨ok_235 l, fun _ h => absurd h List.not_mem_nil⟩) (fuel := 19) (by decide +kernel)
/-- LoadsAheadModel keep -/
theorem ok_237 (l : Launch) : en_ok l kk_237 := en_good_ok (K := []) (fun _ h => absurd h List.not_mem_nil) (fuel := 1235) (by decide +kernel)
/-- LoadsAhead undo -/
theorem ok_238 (l : Launch) : en_ok l kk_238 := en_good_ok (K := []) (fun _ h => absurd h List.not_mem_nil) (fuel := 7) (by decide +kernel)
/-- LoadsAheadModel undo -/
theorem ok_239 (l : Launch) : en_ok l kk_239 := en_good_ok (K := []) (fun _ h => absurd h List.not_mem_nil) (fuel := 7) (by decide +kernel)
/-- LoadsAhead check -/
theorem ok_240 (l : Launch) : en_ok l kk_240 := en_good_ok (K := []) (fun _ h => absurd h List.not_mem_nil) (fuel := 6) (by decide +kernel)
/-- LoadsAheadModel in -/
theorem ok_241 (l : Launch) : en_ok l kk_241 := en_good_ok (K := []) (fun _ h => absurd h List.not_mem_nil) (fuel := 7) (by decide +kernel)
/-- LoadsAheadModel check -/
theorem ok_242 (l : Launch) : en_ok l kk_242 := en_good_ok (K := [kk_241]) (List.forall_mem_cons.mpr ⟨ok_241 l, fun _ h => absurd h List.not_mem_nil⟩) (fuel := 9) (by decide +kernel)
/-- LoadsAhead.Tape clear -/
theorem ok_243 (l : Launch) : en_ok l kk_243 := en_good_ok (K := []) (fun _ h => absurd h List.not_mem_nil) (fuel := 6) (by decide +kernel)
/-- LoadsAhead check -/
theorem ok_244 (l : Launch) : en_ok l kk_244 := en_good_ok (K := [kk_243]) (List.forall_mem_cons.mpr ⟨ok_243 l, fun _ h => absurd h List.not_mem_nil⟩) (fuel := 24) (by decide +kernel)
/-- LoadsAheadModel in -/
theorem ok_245 (l : Launch) : en_ok l kk_245 := en_good_ok (K := []) (fun _ h => absurd h List.not_mem_nil) (fuel := 11) (by decide +kernel)
/-- LoadsAheadModel check -/
theorem ok_246 (l : Launch) : en_ok l kk_246 := en_good_ok (K := [kk_245]) (List.forall_mem_cons.mpr ⟨ok_245 l, fun _ h => absurd h List.not_mem_nil⟩) (fuel := 21) (by decide +kernel)
/-- LoadsAhead check -/
theorem ok_247 (l : Launch) : en_ok l kk_247 := en_good_ok (K := []) (fun _ h => absurd h List.not_mem_nil) (fuel := 14) (by decide +kernel)
/-- LoadsAheadModel in -/
theorem ok_248 (l : Launch) : en_ok l kk_248 := en_good_ok (K := []) (fun _ h => absurd h List.not_mem_nil) (fuel := 11) (by decide +kernel)
/-- LoadsAheadModel check -/
theorem ok_249 (l : Launch) : en_ok l kk_249 := en_good_ok (K := [kk_248]) (List.forall_mem_cons.mpr ⟨ok_248 l, fun _ h => absurd h List.not_mem_nil⟩) (fuel := 13) (by decide +kernel)
/-- LoadsAhead check -/
theorem ok_250 (l : Launch) : en_ok l kk_250 := en_good_ok (K := []) (fun _ h => absurd h List.not_mem_nil) (fuel := 9) (by decide +kernel)
/-- LoadsAheadModel in -/
theorem ok_251 (l : Launch) : en_ok l kk_251 := en_good_ok (K := []) (fun _ h => absurd h List.not_mem_nil) (fuel := 10) (by decide +kernel)
/-- LoadsAheadModel check -/
theorem ok_252 (l : Launch) : en_ok l kk_252 := en_good_ok (K := [kk_251]) (List.forall_mem_cons.mpr ⟨ok_251 l, fun _ h => absurd h List.not_mem_nil⟩) (fuel := 9) (by decide +kernel)
/-- LoadsAhead count -/
theorem ok_253 (l : Launch) : en_ok l kk_253 := en_good_ok (K := []) (fun _ h => absurd h List.not_mem_nil) (fuel := 6) (by decide +kernel)
/-- LoadsAheadModel count -/
theorem ok_254 (l : Launch) : en_ok l kk_254 := en_good_ok (K := []) (fun _ h => absurd h List.not_mem_nil) (fuel := 6) (by decide +kernel)
/-- LoadsAhead count -/
theorem ok_255 (l : Launch) : en_ok l kk_255 := en_good_ok (K := []) (fun _ h => absurd h List.not_mem_nil) (fuel := 9) (by decide +kernel)
/-- LoadsAheadModel count -/
theorem ok_256 (l : Launch) : en_ok l kk_256 := en_good_ok (K := []) (fun _ h => absurd h List.not_mem_nil) (fuel := 7) (by decide +kernel)
/-- LoadsAhead count -/
theorem ok_257 (l : Launch) : en_ok l kk_257 := en_good_ok (K := []) (fun _ h => absurd h List.not_mem_nil) (fuel := 9) (by decide +kernel)
/-- LoadsAheadModel count -/
theorem ok_258 (l : Launch) : en_ok l kk_258 := en_good_ok (K := []) (fun _ h => absurd h List.not_mem_nil) (fuel := 7) (by decide +kernel)
/-- LoadsAhead.Program ofKind -/
theorem ok_259 (l : Launch) : en_ok l kk_259 := en_good_ok (K := []) (fun _ h => absurd h List.not_mem_nil) (fuel := 12) (by decide +kernel)
/-- LoadsAhead count -/
theorem ok_260 (l : Launch) : en_ok l kk_260 := en_good_ok (K := [kk_259]) (List.forall_mem_cons.mpr ⟨ok_259 l, fun _ h => absurd h List.not_mem_nil⟩) (fuel := 10) (by decide +kernel)
/-- LoadsAheadModel ofKind -/
theorem ok_261 (l : Launch) : en_ok l kk_261 := en_good_ok (K := []) (fun _ h => absurd h List.not_mem_nil) (fuel := 12) (by decide +kernel)
/-- LoadsAheadModel count -/
theorem ok_262 (l : Launch) : en_ok l kk_262 := en_good_ok (K := [kk_261]) (List.forall_mem_cons.mpr ⟨ok_261 l, fun _ h => absurd h List.not_mem_nil⟩) (fuel := 8) (by decide +kernel)
/-- LoadsAhead.Program ofKind -/
theorem ok_263 (l : Launch) : en_ok l kk_263 := en_good_ok (K := []) (fun _ h => absurd h List.not_mem_nil) (fuel := 12) (by decide +kernel)
/-- LoadsAhead count -/
theorem ok_264 (l : Launch) : en_ok l kk_264 := en_good_ok (K := [kk_263]) (List.forall_mem_cons.mpr ⟨ok_263 l, fun _ h => absurd h List.not_mem_nil⟩) (fuel := 10) (by decide +kernel)
/-- LoadsAheadModel ofKind -/
theorem ok_265 (l : Launch) : en_ok l kk_265 := en_good_ok (K := []) (fun _ h => absurd h List.not_mem_nil) (fuel := 12) (by decide +kernel)
/-- LoadsAheadModel count -/
theorem ok_266 (l : Launch) : en_ok l kk_266 := en_good_ok (K := [kk_265]) (List.forall_mem_cons.mpr ⟨ok_265 l, fun _ h => absurd h List.not_mem_nil⟩) (fuel := 8) (by decide +kernel)
/-- LoadsAhead count -/
theorem ok_267 (l : Launch) : en_ok l kk_267 := en_good_ok (K := []) (fun _ h => absurd h List.not_mem_nil) (fuel := 9) (by decide +kernel)
/-- LoadsAheadModel count -/
theorem ok_268 (l : Launch) : en_ok l kk_268 := en_good_ok (K := []) (fun _ h => absurd h List.not_mem_nil) (fuel := 7) (by decide +kernel)
/-- LoadsAhead count -/
theorem ok_269 (l : Launch) : en_ok l kk_269 := en_good_ok (K := []) (fun _ h => absurd h List.not_mem_nil) (fuel := 8) (by decide +kernel)
/-- LoadsAheadModel count -/
theorem ok_270 (l : Launch) : en_ok l kk_270 := en_good_ok (K := []) (fun _ h => absurd h List.not_mem_nil) (fuel := 7) (by decide +kernel)
/-- LoadsAhead count -/
theorem ok_271 (l : Launch) : en_ok l kk_271 := en_good_ok (K := []) (fun _ h => absurd h List.not_mem_nil) (fuel := 9) (by decide +kernel)
/-- LoadsAheadModel count -/
theorem ok_272 (l : Launch) : en_ok l kk_272 := en_good_ok (K := []) (fun _ h => absurd h List.not_mem_nil) (fuel := 7) (by decide +kernel)
/-- LoadsAhead count -/
theorem ok_273 (l : Launch) : en_ok l kk_273 := en_good_ok (K := []) (fun _ h => absurd h List.not_mem_nil) (fuel := 8) (by decide +kernel)
/-- LoadsAheadModel count -/
theorem ok_274 (l : Launch) : en_ok l kk_274 := en_good_ok (K := []) (fun _ h => absurd h List.not_mem_nil) (fuel := 7) (by decide +kernel)
/-- LoadsAhead count -/
theorem ok_275 (l : Launch) : en_ok l kk_275 := en_good_ok (K := [kk_218]) (List.forall_mem_cons.mpr ⟨ok_218 l, fun _ h => absurd h List.not_mem_nil⟩) (fuel := 9) (by decide +kernel)
/-- LoadsAheadModel count -/
theorem ok_276 (l : Launch) : en_ok l kk_276 := en_good_ok (K := [kk_222]) (List.forall_mem_cons.mpr ⟨ok_222 l, fun _ h => absurd h List.not_mem_nil⟩) (fuel := 7) (by decide +kernel)
/-- LoadsAhead count -/
theorem ok_277 (l : Launch) : en_ok l kk_277 := en_good_ok (K := []) (fun _ h => absurd h List.not_mem_nil) (fuel := 9) (by decide +kernel)
/-- LoadsAheadModel count -/
theorem ok_278 (l : Launch) : en_ok l kk_278 := en_good_ok (K := []) (fun _ h => absurd h List.not_mem_nil) (fuel := 7) (by decide +kernel)
/-- LoadsAhead count -/
theorem ok_279 (l : Launch) : en_ok l kk_279 := en_good_ok (K := []) (fun _ h => absurd h List.not_mem_nil) (fuel := 16) (by decide +kernel)
/-- LoadsAheadModel count -/
theorem ok_280 (l : Launch) : en_ok l kk_280 := en_good_ok (K := []) (fun _ h => absurd h List.not_mem_nil) (fuel := 14) (by decide +kernel)
/-- LoadsAhead.State bytesNotZero -/
theorem ok_281 (l : Launch) : en_ok l kk_281 := en_good_ok (K := []) (fun _ h => absurd h List.not_mem_nil) (fuel := 651) (by decide +kernel)
/-- LoadsAhead count -/
theorem ok_282 (l : Launch) : en_ok l kk_282 := en_good_ok (K := [kk_281]) (List.forall_mem_cons.mpr ⟨ok_281 l, fun _ h => absurd h List.not_mem_nil⟩) (fuel := 9) (by decide +kernel)
/-- LoadsAheadModel bytesThere -/
theorem ok_283 (l : Launch) : en_ok l kk_283 := en_good_ok (K := []) (fun _ h => absurd h List.not_mem_nil) (fuel := 651) (by decide +kernel)
/-- LoadsAheadModel count -/
theorem ok_284 (l : Launch) : en_ok l kk_284 := en_good_ok (K := [kk_283]) (List.forall_mem_cons.mpr ⟨ok_283 l, fun _ h => absurd h List.not_mem_nil⟩) (fuel := 7) (by decide +kernel)
/-- LoadsAhead count -/
theorem ok_285 (l : Launch) : en_ok l kk_285 := en_good_ok (K := []) (fun _ h => absurd h List.not_mem_nil) (fuel := 6) (by decide +kernel)
/-- LoadsAheadModel count -/
theorem ok_286 (l : Launch) : en_ok l kk_286 := en_good_ok (K := []) (fun _ h => absurd h List.not_mem_nil) (fuel := 6) (by decide +kernel)
end
section
def R_law : String := "LoadsAheadLaw"
def lw_P (b : Addr) (xs : List Int32) (args : Array Value) (s : State) : Prop := args = #[.ref b] ∧ s.IntsAt b xs ∧ xs.length ≤ 6 ∧ (Jvm.Cond.and given_1 narrow_1).before args s = true
def lw_Q (_ : Array Value) (s : State) (o : Outcome) (t : State) : Prop := o = .returned (some (.int 1)) ∧ Framed s o t [] 600000 7302250
def lw_Z (below : List Frame) (a : Array Value) (s : State) : State → Prop := fun t => ∃ o, t.status = .running ∧ Ended t below o ∧ lw_Q a s o t
/-- the law's own end, with 1 on the stack, nothing written that was there before, its room as the claim has it -/
theorem lw_ret {p : Program} {l : Launch} {e : Env} {s : State} {m : MethodId} {below : List Frame} {meth : Method} {c : Code} {b : Nat} (hx : p.tables.exec = Jvm.exec) (hb : c.code = code) (hr : meth.sig.returnType = ret) (hlocks : meth.locks = false) {pc : Nat} {H : Heap} {ls : Array Slot} (hdg : decode code pc = .ok (.ireturn, 1)) : W p l e room_1 s m #[Value.ref b] below meth c H [] 600000 7302250 (lw_Z below #[Value.ref b] s) (F0 m pc ls [.int 1]) := by
  intro T hT X
  obtain ⟨fs, hret, hrun, hended, hW, hframe⟩ := X.leave (v := some (.int 1)) (hlocks := hlocks) (fun h => by rw [hr] at h; cases h)
  have hmeth' : T.vm.method? m = some meth := X.method'
  refine ⟨T.setFrames fs, ?_, .returned (some (.int 1)), hrun, hended, rfl, ⟨_, rfl⟩, hW, hframe⟩
  jvm_step X.here [X.here.top, hx, hb, hdg, hmeth', hr, ret, narrow_b1]
  (try refine ⟨rfl, ?_⟩); (try refine ⟨rfl, ?_⟩)
  first | (intro acts; rw [hret _ acts rfl rfl rfl]) | rw [hret _ _ rfl rfl rfl]
  exact Steps.refl _
/-- what holds at the law's entry: the machine, the code, the tables' words (any of lw_tbl by 'hts w (by decide +kernel)'), the script of L ints xs at the cell b, what the Statement gives of the start (any of its parts by flat_of_before) -/
def lw_At (p : Program) (s : State) (m : MethodId) (meth : Method) (c : Code) (b L : Nat) (xs : Nat → Int32) : Prop :=
  p.tables.exec = Jvm.exec ∧ c.code = code ∧ meth.sig.returnType = ret ∧ c.maxLocals = 4 ∧ s.vm.findClass R_law = some m.cls ∧ (∀ w ∈ lw_tbl, w.before #[Value.ref b] s = true) ∧ va_X b L xs s s.heap ∧ b < s.heap.size ∧ meth.locks = false ∧ (Jvm.Cond.and given_1 narrow_1).before #[Value.ref b] s = true
section ENL
variable {p : Program} {l : Launch} {e : Env} {R : Room} {s : State} {m : MethodId} {args : Array Value} {below : List Frame} {meth : Method} {c : Code} {Q : State → Prop} {cc : ByteArray} {D : va_G} {tys : List (ClassId × FieldType)} {aK aV b0 nL o : Nat}
variable {pc : Nat} {T : en_T} {cs sl : Nat} {κ : en_K} {H : Heap} {locs : List Loc} {ls : Array Slot} {rest : List Value} {ad : Nat → Nat}
theorem lw_new (C : en_cx p s m args meth c cc nL o D tys aK aV b0) {i ci : Nat} {r : vw_C} (hf : en_find o i en_nw = some ci) (hr0 : vwCl[ci]? = some r) (hdk : (List.range r.2.2).all (fun j => en_dok (en_tyX ci j)) = true) (hc1 : cs + 1 ≤ R.cells) (hc2 : sl + r.2.2 ≤ R.slots) (hd : decode cc pc = .ok (.new i, 3)) (hW : en_W D tys (fun q => b0 ≤ q) T ad H) (hS : va_S (fun q => b0 ≤ q) s.heap H locs)
    (k : ∀ (ad1 : Nat → Nat) (H1 : Heap), (∀ k, k < T.length → ad1 k = ad k) → en_W D tys (fun q => b0 ≤ q) (T ++ [.inr (ci, en_df ci r.2.2)]) ad1 H1 → va_S (fun q => b0 ≤ q) s.heap H1 locs → W p l e R s m args below meth c H1 locs (cs + 1) (sl + r.2.2) Q (F0 m (pc + 3) ls (.ref (ad1 T.length) :: rest))) : W p l e R s m args below meth c H locs cs sl Q (F0 m pc ls rest) := by
  obtain ⟨ws, w1, w2, w3, w4⟩ := hW
  have hmem : ∀ w ∈ en_nww (o, i, ci), w ∈ lw_tbl := fun w hw => en_nw_in w (List.mem_flatMap.mpr ⟨(o, i, ci), en_find_mem hf, hw⟩)
  have hlist : en_nww (o, i, ci) = [.classLink (en_nm o) i r.1, .instantiable r.1 r.2.2, .initialized r.1] := by
    show (match vwCl[ci]? with
      | some r => _
      | none => _) = _
    rw [hr0]
  rw [hlist] at hmem
  have hA : ∀ q : Nat, s.heap.size ≤ q → (fun q : Nat => b0 ≤ q) q := fun q hq => Nat.le_trans C.2.2.2.2.2.2.2.1 hq
  have hdk1 : ∀ j, j < r.2.2 → en_dok (en_tyX ci j) = true := fun j hj => List.all_eq_true.mp hdk j (List.mem_range.mpr hj)
  refine va_new (C := r.1) (T := r.2.1) (N := r.2.2) (fs := (List.range r.2.2).map (fun j => defaultValue (en_tyX ci j))) C.1 C.2.1 C.2.2.2.2.1 (en_cls_ws hr0) (en_tyX ci) (en_cls ci r hr0).2.1 C.2.2.2.1 (C.2.2.2.2.1 _ (en_ws_in (hmem _ List.mem_cons_self) rfl)) (C.2.2.2.2.1 _ (en_ws_in (hmem _ (List.mem_cons_of_mem _ List.mem_cons_self)) rfl)) (C.2.2.2.2.1 _ (en_ws_in (hmem _ (List.mem_cons_of_mem _ (List.mem_cons_of_mem _ List.mem_cons_self))) rfl)) C.2.2.2.2.2.1 w3 w4 hS hA hr0 ?_ hc1 hc2 hd (fun q H1 hP hD hS1 => ?_)
  · intro j hj
    unfold vp_V
    rw [List.getD_eq_getElem?_getD, List.getElem?_map, List.getElem?_range hj]
    rfl
  · have h := k (en_up ad T.length q) H1 (fun k hk => en_up_lt hk) (en_W.push w1 w2 hP hD ⟨_, rfl, en_map_vs _ (fun j hj => en_dv_ok (hdk1 j (List.mem_range.mp hj)))⟩) hS1
    rw [en_up_at] at h
    exact h
theorem lw_callI (C : en_cx p s m args meth c cc nL o D tys aK aV b0) {i mi j : Nat} {r : MethodName × ByteArray × Nat × Option FieldType} (hf : en_find o i en_cl = some (3, mi, 0)) (hr : en_ms[mi]? = some r) (hκ : en_ok l κ) (hm : κ.1 = mi) (hav : κ.2.1 = [.inr (j + 2)]) (hj : j < T.length) (hT : en_all2 en_cle T (k_T0 κ) = true) (hrv : k_rv κ = none)
    (hfr : k_fr κ + 1 ≤ R.frames) (hlo : 8 + (r.2.2.1 + 11) + k_lo κ ≤ R.locals) (hc1 : cs + k_mc κ ≤ R.cells) (hc2 : sl + k_ms κ ≤ R.slots) (h8 : (rest.map fun v => v.category).sum ≤ 8) (hls : ls.size = nL) (hd : decode cc pc = .ok (.invokespecial i, 3)) (hW : en_W D tys (fun q => b0 ≤ q) T ad H) (hS : va_S (fun q => b0 ≤ q) s.heap H locs)
    (k : ∀ (ad' : Nat → Nat) (H1 : Heap) (locs1 : List Loc), (∀ k, k < T.length → ad' k = ad k) → T.length ≤ (k_T1 κ).length → en_W D tys (fun q => b0 ≤ q) (k_T1 κ) ad' H1 → va_S (fun q => b0 ≤ q) s.heap H1 locs1 → W p l e R s m args below meth c H1 locs1 (cs + k_mc κ) (sl + k_ms κ) Q (F0 m (pc + 3) ls rest)) : W p l e R s m args below meth c H locs cs sl Q (F0 m pc ls (.ref (ad j) :: rest)) := by
  subst hm
  have hlen := en_all2_len hT
  have hM := hκ r hr D tys aK aV b0 C.2.2.2.2.2.2.1 [Value.ref (ad j)] ad (by rw [hav, ← hlen]; exact ⟨⟨rfl, hj⟩, trivial⟩)
  have hD := (en_clD hf hr).1
  obtain ⟨hnm, hret⟩ := (en_clD hf hr).2 (by omega)
  have hw := en_clW hf hr
  have hts := C.2.2.2.2.1
  have hG := en_codeG hr
  obtain ⟨y, code, ml, rt⟩ := r
  dsimp only at hret hnm hM hD hw hG hlo
  subst hret
  have hB := callB_of (own := en_nm o) (index := i) (R := R) (rm := en_rm κ) (mc := k_mc κ) (ms := k_ms κ) 0 hts hG rfl rfl rfl (hts _ (en_ws_in (hw (.initialized y.cls) (by simp)) rfl)) (hts _ (en_ws_in (hw (.methodLink (en_nm o) i y) (by simp)) rfl)) hD ⟨hfr, hlo⟩
  have hrun := va_runI (H := H) (locs := locs) (cells := cs) (slots := sl) (g := F0 m pc ls (.ref (ad j) :: rest)) (e := e) (below := below) (meth := meth) (As := []) (rest := rest) ⟨C.1, C.2.1, C.2.2.1, C.2.2.2.1, hts⟩ hM ⟨hB, hnm, hts _ (en_ws_in (hw (.instanceMethod y) (by simp)) rfl)⟩ ⟨en_pc_blind, en_pre C hW hS hT⟩ rfl rfl hls rfl (lv_room h8) hd ⟨hc1, hc2⟩
  rw [hrv] at hrun
  refine va_callv (a := (Value.ref (ad j) :: []).toArray) hrun hS (fun q _ h => h) (fun q h => h) (fun u t H1 locs1 ht _ hpost hB _ _ hS1 => ?_)
  obtain ⟨p1, p2⟩ := hpost
  subst ht
  exact k u t.heap locs1 (fun k hk => p2 k (by omega)) (by omega) hB hS1
theorem lw_callV (C : en_cx p s m args meth c cc nL o D tys aK aV b0) {i mi n j ci : Nat} {r : MethodName × ByteArray × Nat × Option FieldType} {fs : List en_V} {rc : vw_C} {As : List Value} {q : Int × Int} (hf : en_find o i en_cl = some (0, mi, n)) (hr : en_ms[mi]? = some r) (hκ : en_ok l κ) (hm : κ.1 = mi) (hn : As.length = n) (hav : en_vs T.length ad κ.2.1 (.ref (ad j) :: As)) (hT : en_all2 en_cle T (k_T0 κ) = true)
    (hj : T[j]? = some (.inr (ci, fs))) (hrc : vwCl[ci]? = some rc) (hmo : en_mo[mi]? = some ci) (hrv : k_rv κ = some (.inl q)) (hfr : k_fr κ + 1 ≤ R.frames) (hlo : 8 + (r.2.2.1 + 11) + k_lo κ ≤ R.locals) (hc1 : cs + k_mc κ ≤ R.cells) (hc2 : sl + k_ms κ ≤ R.slots) (h8 : (rest.map fun v => v.category).sum ≤ 8) (hls : ls.size = nL) (hd : decode cc pc = .ok (.invokevirtual i, 3)) (hW : en_W D tys (fun q => b0 ≤ q) T ad H) (hS : va_S (fun q => b0 ≤ q) s.heap H locs)
    (k : ∀ (x : Int32) (ad' : Nat → Nat) (H1 : Heap) (locs1 : List Loc), en_in q x → (∀ k, k < T.length → ad' k = ad k) → T.length ≤ (k_T1 κ).length → en_W D tys (fun q => b0 ≤ q) (k_T1 κ) ad' H1 → va_S (fun q => b0 ≤ q) s.heap H1 locs1 → W p l e R s m args below meth c H1 locs1 (cs + k_mc κ) (sl + k_ms κ) Q (F0 m (pc + 3) ls (.int x :: rest))) : W p l e R s m args below meth c H locs cs sl Q (F0 m pc ls (As.reverse ++ .ref (ad j) :: rest)) := by
  subst hm
  have hlen := en_all2_len hT
  have hW0 := hW
  obtain ⟨ws, w1, w2, w3, w4⟩ := hW
  obtain ⟨e0, g1, vs, rfl, g2⟩ := w2 j _ hj
  have hM := hκ r hr D tys aK aV b0 C.2.2.2.2.2.2.1 (Value.ref (ad j) :: As) ad (by rw [← hlen]; exact hav)
  have hD := (en_clD hf hr).1
  have hw := en_clW hf hr
  have hts := C.2.2.2.2.1
  have hB := callB_of (own := en_nm o) (index := i) (R := R) (rm := en_rm κ) (mc := k_mc κ) (ms := k_ms κ) n hts (en_codeG hr) rfl rfl rfl (hts _ (en_ws_in (hw (.initialized r.1.cls) (by simp)) rfl)) (hts _ (en_ws_in (hw (.methodLink (en_nm o) i r.1) (by simp)) rfl)) hD ⟨hfr, hlo⟩
  have hrecv := va_recv C.2.2.2.2.2.1 w3 hrc g1
  rw [(en_nm_cl hrc).trans (en_mo_ok hr hmo)] at hrecv
  have hrun := va_runV (H := H) (locs := locs) (cells := cs) (slots := sl) (g := F0 m pc ls (As.reverse ++ .ref (ad j) :: rest)) (e := e) (below := below) (meth := meth) (C := r.1.cls) (As := As) (rest := rest) ⟨C.1, C.2.1, C.2.2.1, C.2.2.2.1, hts⟩ hM ⟨hB, hts _ (en_ws_in (hw (.instanceMethod r.1) (by simp)) rfl), hts _ (en_ws_in (hw (.selects r.1.cls r.1 r.1) (by simp)) rfl)⟩ ⟨en_pc_blind, hrecv, en_pre C hW0 hS hT⟩ rfl hn hls rfl (lv_room h8) hd ⟨hc1, hc2⟩
  rw [hrv] at hrun
  refine va_calli (a := (Value.ref (ad j) :: As).toArray) hrun hS (fun q _ h => h) (fun q h => h) (fun x u t H1 locs1 ht _ hpost hB _ _ hS1 => ?_)
  obtain ⟨p0, p1, p2⟩ := hpost
  subst ht
  obtain ⟨x', ex, hx'⟩ := p0
  cases ex
  exact k x u t.heap locs1 hx' (fun k hk => p2 k (by omega)) (by omega) hB hS1
end ENL
/-- what two contracts, of the system and of the other, must be for one call of the law -/
def lw_ck (T : en_T) (j0 j1 ia ib n : Nat) (κa κb : en_K) (box : List en_V) : Bool := match en_find 13 ia en_cl with
  | some (ka, ma, na) => match en_find 13 ib en_cl with
    | some (kb, mb, nb) => match en_ms[ma]? with
      | some ra => match en_ms[mb]? with
        | some rb => match T[j0]? with
          | some (.inr qa) => match (k_T1 κa)[j1]? with
            | some (.inr qb) => match vwCl[qa.1]? with
              | some _ => match vwCl[qb.1]? with
                | some _ => match k_rv κa with
                  | some (.inl ya) => match k_rv κb with
                    | some (.inl yb) => ka == 0 && (kb == 0 && (na == n && (nb == n && (κa.1 == ma && (κb.1 == mb && (en_all2 en_cle T (k_T0 κa) && (en_all2 en_cle (k_T1 κa) (k_T0 κb) && (en_all2 en_le (.inr (j0 + 2) :: box) κa.2.1 && (en_all2 en_le (.inr (j1 + 2) :: box) κb.2.1 && (en_mo[ma]? == some qa.1 && (en_mo[mb]? == some qb.1 && (decide (ya.1 = ya.2) && (decide (yb.1 = yb.2) && (decide (ya.1 = yb.1) && (decide (k_fr κa + 1 ≤ 2048) && (decide (k_fr κb + 1 ≤ 2048) && (decide (8 + (ra.2.2.1 + 11) + k_lo κa ≤ 84000) && (decide (8 + (rb.2.2.1 + 11) + k_lo κb ≤ 84000) && (k_mc κa == 0 && (k_ms κa == 0 && (k_mc κb == 0 && (k_ms κb == 0 && (box.length == n && (decide (j0 < T.length) && (decide (j1 < T.length) && box.all en_isI)))))))))))))))))))))))))
                    | _ => false
                  | _ => false
                | none => false
              | none => false
            | _ => false
          | _ => false
        | none => false
      | none => false
    | none => false
  | none => false
section ENL2
variable {p : Program} {l : Launch} {e : Env} {s : State} {m : MethodId} {args : Array Value} {below : List Frame} {meth : Method} {c : Code} {Q : State → Prop} {D : va_G} {tys : List (ClassId × FieldType)} {aK aV b0 : Nat}
variable {T : en_T} {cs sl : Nat}
def lw_go (p : Program) (l : Launch) (e : Env) (s : State) (m : MethodId) (args : Array Value) (below : List Frame) (meth : Method) (c : Code) (Q : State → Prop) (D : va_G) (tys : List (ClassId × FieldType)) (b0 : Nat) (ls : Array Slot) (cs sl pc : Nat) : Prop :=
  ∀ (T : en_T) (ad : Nat → Nat) (H : Heap) (locs : List Loc), en_W D tys (fun q => b0 ≤ q) T ad H → va_S (fun q => b0 ≤ q) s.heap H locs → W p l e room_1 s m args below meth c H locs cs sl Q (F0 m pc ls [])
/-- both calls: 'push' lays the numbers on the stack, for each of the two -/
theorem lw_two (C : en_cx p s m args meth c code 4 13 D tys aK aV b0) {j0 j1 ia ib n : Nat} {κa κb : en_K} {box : List en_V} {As : List Value} {ls : Array Slot} {H : Heap} {locs : List Loc} {ad : Nat → Nat} {pa pb pe : Nat} (hck : lw_ck T j0 j1 ia ib n κa κb box = true) (hκa : en_ok l κa) (hκb : en_ok l κb) (hbox : en_vs T.length ad box As) (hls : ls.size = 4) (hcs : cs ≤ 600000) (hsl : sl ≤ 7302250)
    (da : decode code pa = .ok (.invokevirtual ia, 3)) (db : decode code pb = .ok (.invokevirtual ib, 3)) {off : Int} (dq : decode code (pb + 3) = .ok (.if_icmp .eq off, 3)) (hoff : ((pb + 3 : Nat) : Int) + off = (pe : Int)) (hW : en_W D tys (fun q => b0 ≤ q) T ad H) (hS : va_S (fun q => b0 ≤ q) s.heap H locs)
    (push : ∀ (H : Heap) (locs : List Loc) (x : Int32), va_S (fun q => b0 ≤ q) s.heap H locs → W p l e room_1 s m args below meth c H locs cs sl Q (F0 m pb ls (As.reverse ++ .ref (ad j1) :: [.int x])) → W p l e room_1 s m args below meth c H locs cs sl Q (F0 m (pa + 3) ls [.int x]))
    (k : lw_go p l e s m args below meth c Q D tys b0 ls cs sl pe) : W p l e room_1 s m args below meth c H locs cs sl Q (F0 m pa ls (As.reverse ++ .ref (ad j0) :: [])) := by
  unfold lw_ck at hck
  split at hck
  case h_2 => cases hck
  rename_i ka ma na hfa
  split at hck
  case h_2 => cases hck
  rename_i kb mb nb hfb
  split at hck
  case h_2 => cases hck
  rename_i ra hra
  split at hck
  case h_2 => cases hck
  rename_i rb hrb
  split at hck
  case h_2 => cases hck
  rename_i qa hqa
  split at hck
  case h_2 => cases hck
  rename_i qb hqb
  split at hck
  case h_2 => cases hck
  rename_i ca hca
  split at hck
  case h_2 => cases hck
  rename_i cb hcb
  split at hck
  case h_2 => cases hck
  rename_i ya hya
  split at hck
  case h_2 => cases hck
  rename_i yb hyb
  simp only [Bool.and_eq_true, beq_iff_eq, decide_eq_true_eq] at hck
  obtain ⟨h1, h2, h3, h4, h5, h6, h7, h8, h9, h10, h11, h12, h13, h14, h15, h16, h17, h18, h19, h20, h21, h22, h23, h24, h25, h26, h27⟩ := hck
  subst h1; subst h2; subst h3; subst h4
  have hlenA := (en_vs_len hbox).symm.trans h24
  refine lw_callV C hfa hra hκa h5 hlenA (en_all2_vs h9 ⟨⟨rfl, h25⟩, hbox⟩) h7 hqa hca h11 hya h16 h18 (by rw [h20]; exact hcs) (by rw [h21]; exact hsl) (by simp) hls da hW hS (fun x ad1 H1 locs1 hx hag hlen hW1 hS1 => ?_)
  rw [h20, h21]
  show W p l e room_1 s m args below meth c H1 locs1 cs sl Q (F0 m (pa + 3) ls [.int x])
  refine push H1 locs1 x hS1 ?_
  rw [← hag j1 h26]
  refine lw_callV C hfb hrb hκb h6 hlenA (en_all2_vs h10 ⟨⟨rfl, by omega⟩, en_vs_ints h27 hbox⟩) h8 hqb hcb h12 hyb h17 h19 (by rw [h22]; exact hcs) (by rw [h23]; exact hsl) (by simp [Value.category]) hls db hW1 hS1 (fun y ad2 H2 locs2 hy _ _ hW2 hS2 => ?_)
  rw [h22, h23]
  have hxy : x = y := by
    rw [fa_eq]
    obtain ⟨a1, a2⟩ := hx
    obtain ⟨a3, a4⟩ := hy
    omega
  refine lv_icmp_eq (tgt := pe) C.1 C.2.1 dq hoff (fun _ => ?_) (fun hne => absurd hxy hne)
  exact k _ ad2 H2 locs2 hW2 hS2
theorem lw_arg (hx : p.tables.exec = Jvm.exec) (hb : c.code = code) {b L : Nat} {xs : Nat → Int32} (hX : va_X b L xs s s.heap) (hbl : b < s.heap.size) (hbA : ¬ b0 ≤ b) {ls : Array Slot} {H : Heap} {locs : List Loc} {rest : List Value} {pc k : Nat} {kI : Int} (hl0 : ls[0]? = some (.val (.ref b))) (hl3 : ls[3]? = some (.val (.int 0))) (hk : Int32.ofInt kI = nI k) (hkL : k < L) (hL : L < 2 ^ 31) (hS : va_S (fun q => b0 ≤ q) s.heap H locs)
    (d0 : decode code pc = .ok (.aload_n 0, 1)) (d1 : decode code (pc + 1) = .ok (.iload_n 3, 1)) (d2 : decode code (pc + 2) = .ok (.iconst kI, 1)) (d3 : decode code (pc + 3) = .ok (.iadd, 1)) (d4 : decode code (pc + 4) = .ok (.iaload, 1))
    (kk : W p l e room_1 s m args below meth c H locs cs sl Q (F0 m (pc + 5) ls (.int (xs k) :: rest))) : W p l e room_1 s m args below meth c H locs cs sl Q (F0 m pc ls rest) := by
  refine lv_aload_n hx hb d0 rfl hl0 ?_
  refine lv_iload_n hx hb d1 rfl hl3 ?_
  refine lv_iconst hx hb d2 hk ?_
  refine lv_iadd hx hb d3 ?_
  have e : (0 : Int32) + nI k = nI k := by rw [Int32.zero_add]
  rw [e]
  refine va_sld hx hb hX hbl hbA hS (vp_in_nI hkL hL) d4 ?_
  rw [nI_clamp (by omega)]
  exact kk
end ENL2
end
section
theorem dL_0 : decode code 0 = .ok (.new 7, 3) := by decide +kernel
theorem dL_3 : decode code 3 = .ok (.dup, 1) := by decide +kernel
theorem dL_4 : decode code 4 = .ok (.invokespecial 9, 3) := by decide +kernel
theorem dL_7 : decode code 7 = .ok (.astore_n 1, 1) := by decide +kernel
theorem dL_8 : decode code 8 = .ok (.new 10, 3) := by decide +kernel
theorem dL_11 : decode code 11 = .ok (.dup, 1) := by decide +kernel
theorem dL_12 : decode code 12 = .ok (.invokespecial 12, 3) := by decide +kernel
theorem dL_15 : decode code 15 = .ok (.astore_n 2, 1) := by decide +kernel
theorem dL_16 : decode code 16 = .ok (.iconst 0, 1) := by decide +kernel
theorem dL_17 : decode code 17 = .ok (.istore_n 3, 1) := by decide +kernel
theorem dL_18 : decode code 18 = .ok (.iload_n 3, 1) := by decide +kernel
theorem dL_19 : decode code 19 = .ok (.aload_n 0, 1) := by decide +kernel
theorem dL_20 : decode code 20 = .ok (.arraylength, 1) := by decide +kernel
theorem dL_21 : decode code 21 = .ok (.bipush 6, 2) := by decide +kernel
theorem dL_23 : decode code 23 = .ok (.isub, 1) := by decide +kernel
theorem dL_24 : decode code 24 = .ok (.if_icmp .gt 812, 3) := by decide +kernel
theorem dL_27 : decode code 27 = .ok (.aload_n 0, 1) := by decide +kernel
theorem dL_28 : decode code 28 = .ok (.iload_n 3, 1) := by decide +kernel
theorem dL_29 : decode code 29 = .ok (.iaload, 1) := by decide +kernel
theorem dL_30 : decode code 30 = .ok (.bipush 31, 2) := by decide +kernel
theorem dL_32 : decode code 32 = .ok (.iand, 1) := by decide +kernel
theorem dL_33 : decode code 33 = .ok (.tableswitch 797 0 25 #[119, 152, 185, 248, 271, 294, 317, 350, 373, 406, 439, 462, 485, 508, 531, 564, 587, 600, 613, 646, 689, 702, 725, 738, 751, 774], 119) := by decide +kernel
theorem dL_152 : decode code 152 = .ok (.aload_n 1, 1) := by decide +kernel
theorem dL_153 : decode code 153 = .ok (.aload_n 0, 1) := by decide +kernel
theorem dL_154 : decode code 154 = .ok (.iload_n 3, 1) := by decide +kernel
theorem dL_155 : decode code 155 = .ok (.iconst 1, 1) := by decide +kernel
theorem dL_156 : decode code 156 = .ok (.iadd, 1) := by decide +kernel
theorem dL_157 : decode code 157 = .ok (.iaload, 1) := by decide +kernel
theorem dL_158 : decode code 158 = .ok (.aload_n 0, 1) := by decide +kernel
theorem dL_159 : decode code 159 = .ok (.iload_n 3, 1) := by decide +kernel
theorem dL_160 : decode code 160 = .ok (.iconst 2, 1) := by decide +kernel
theorem dL_161 : decode code 161 = .ok (.iadd, 1) := by decide +kernel
theorem dL_162 : decode code 162 = .ok (.iaload, 1) := by decide +kernel
theorem dL_163 : decode code 163 = .ok (.invokevirtual 13, 3) := by decide +kernel
theorem dL_166 : decode code 166 = .ok (.aload_n 2, 1) := by decide +kernel
theorem dL_167 : decode code 167 = .ok (.aload_n 0, 1) := by decide +kernel
theorem dL_168 : decode code 168 = .ok (.iload_n 3, 1) := by decide +kernel
theorem dL_169 : decode code 169 = .ok (.iconst 1, 1) := by decide +kernel
theorem dL_170 : decode code 170 = .ok (.iadd, 1) := by decide +kernel
theorem dL_171 : decode code 171 = .ok (.iaload, 1) := by decide +kernel
theorem dL_172 : decode code 172 = .ok (.aload_n 0, 1) := by decide +kernel
theorem dL_173 : decode code 173 = .ok (.iload_n 3, 1) := by decide +kernel
theorem dL_174 : decode code 174 = .ok (.iconst 2, 1) := by decide +kernel
theorem dL_175 : decode code 175 = .ok (.iadd, 1) := by decide +kernel
theorem dL_176 : decode code 176 = .ok (.iaload, 1) := by decide +kernel
theorem dL_177 : decode code 177 = .ok (.invokevirtual 17, 3) := by decide +kernel
theorem dL_180 : decode code 180 = .ok (.if_icmp .eq 650, 3) := by decide +kernel
theorem dL_185 : decode code 185 = .ok (.aload_n 1, 1) := by decide +kernel
theorem dL_186 : decode code 186 = .ok (.aload_n 0, 1) := by decide +kernel
theorem dL_187 : decode code 187 = .ok (.iload_n 3, 1) := by decide +kernel
theorem dL_188 : decode code 188 = .ok (.iconst 1, 1) := by decide +kernel
theorem dL_189 : decode code 189 = .ok (.iadd, 1) := by decide +kernel
theorem dL_190 : decode code 190 = .ok (.iaload, 1) := by decide +kernel
theorem dL_191 : decode code 191 = .ok (.aload_n 0, 1) := by decide +kernel
theorem dL_192 : decode code 192 = .ok (.iload_n 3, 1) := by decide +kernel
theorem dL_193 : decode code 193 = .ok (.iconst 2, 1) := by decide +kernel
theorem dL_194 : decode code 194 = .ok (.iadd, 1) := by decide +kernel
theorem dL_195 : decode code 195 = .ok (.iaload, 1) := by decide +kernel
theorem dL_196 : decode code 196 = .ok (.invokevirtual 18, 3) := by decide +kernel
theorem dL_199 : decode code 199 = .ok (.aload_n 2, 1) := by decide +kernel
theorem dL_200 : decode code 200 = .ok (.aload_n 0, 1) := by decide +kernel
theorem dL_201 : decode code 201 = .ok (.iload_n 3, 1) := by decide +kernel
theorem dL_202 : decode code 202 = .ok (.iconst 1, 1) := by decide +kernel
theorem dL_203 : decode code 203 = .ok (.iadd, 1) := by decide +kernel
theorem dL_204 : decode code 204 = .ok (.iaload, 1) := by decide +kernel
theorem dL_205 : decode code 205 = .ok (.aload_n 0, 1) := by decide +kernel
theorem dL_206 : decode code 206 = .ok (.iload_n 3, 1) := by decide +kernel
theorem dL_207 : decode code 207 = .ok (.iconst 2, 1) := by decide +kernel
theorem dL_208 : decode code 208 = .ok (.iadd, 1) := by decide +kernel
theorem dL_209 : decode code 209 = .ok (.iaload, 1) := by decide +kernel
theorem dL_210 : decode code 210 = .ok (.invokevirtual 21, 3) := by decide +kernel
theorem dL_213 : decode code 213 = .ok (.if_icmp .eq 617, 3) := by decide +kernel
theorem dL_218 : decode code 218 = .ok (.aload_n 1, 1) := by decide +kernel
theorem dL_219 : decode code 219 = .ok (.aload_n 0, 1) := by decide +kernel
theorem dL_220 : decode code 220 = .ok (.iload_n 3, 1) := by decide +kernel
theorem dL_221 : decode code 221 = .ok (.iconst 1, 1) := by decide +kernel
theorem dL_222 : decode code 222 = .ok (.iadd, 1) := by decide +kernel
theorem dL_223 : decode code 223 = .ok (.iaload, 1) := by decide +kernel
theorem dL_224 : decode code 224 = .ok (.aload_n 0, 1) := by decide +kernel
theorem dL_225 : decode code 225 = .ok (.iload_n 3, 1) := by decide +kernel
theorem dL_226 : decode code 226 = .ok (.iconst 2, 1) := by decide +kernel
theorem dL_227 : decode code 227 = .ok (.iadd, 1) := by decide +kernel
theorem dL_228 : decode code 228 = .ok (.iaload, 1) := by decide +kernel
theorem dL_229 : decode code 229 = .ok (.aload_n 0, 1) := by decide +kernel
theorem dL_230 : decode code 230 = .ok (.iload_n 3, 1) := by decide +kernel
theorem dL_231 : decode code 231 = .ok (.iconst 3, 1) := by decide +kernel
theorem dL_232 : decode code 232 = .ok (.iadd, 1) := by decide +kernel
theorem dL_233 : decode code 233 = .ok (.iaload, 1) := by decide +kernel
theorem dL_234 : decode code 234 = .ok (.aload_n 0, 1) := by decide +kernel
theorem dL_235 : decode code 235 = .ok (.iload_n 3, 1) := by decide +kernel
theorem dL_236 : decode code 236 = .ok (.iconst 4, 1) := by decide +kernel
theorem dL_237 : decode code 237 = .ok (.iadd, 1) := by decide +kernel
theorem dL_238 : decode code 238 = .ok (.iaload, 1) := by decide +kernel
theorem dL_239 : decode code 239 = .ok (.aload_n 0, 1) := by decide +kernel
theorem dL_240 : decode code 240 = .ok (.iload_n 3, 1) := by decide +kernel
theorem dL_241 : decode code 241 = .ok (.iconst 5, 1) := by decide +kernel
theorem dL_242 : decode code 242 = .ok (.iadd, 1) := by decide +kernel
theorem dL_243 : decode code 243 = .ok (.iaload, 1) := by decide +kernel
theorem dL_244 : decode code 244 = .ok (.invokevirtual 22, 3) := by decide +kernel
theorem dL_247 : decode code 247 = .ok (.aload_n 2, 1) := by decide +kernel
theorem dL_248 : decode code 248 = .ok (.aload_n 0, 1) := by decide +kernel
theorem dL_249 : decode code 249 = .ok (.iload_n 3, 1) := by decide +kernel
theorem dL_250 : decode code 250 = .ok (.iconst 1, 1) := by decide +kernel
theorem dL_251 : decode code 251 = .ok (.iadd, 1) := by decide +kernel
theorem dL_252 : decode code 252 = .ok (.iaload, 1) := by decide +kernel
theorem dL_253 : decode code 253 = .ok (.aload_n 0, 1) := by decide +kernel
theorem dL_254 : decode code 254 = .ok (.iload_n 3, 1) := by decide +kernel
theorem dL_255 : decode code 255 = .ok (.iconst 2, 1) := by decide +kernel
theorem dL_256 : decode code 256 = .ok (.iadd, 1) := by decide +kernel
theorem dL_257 : decode code 257 = .ok (.iaload, 1) := by decide +kernel
theorem dL_258 : decode code 258 = .ok (.aload_n 0, 1) := by decide +kernel
theorem dL_259 : decode code 259 = .ok (.iload_n 3, 1) := by decide +kernel
theorem dL_260 : decode code 260 = .ok (.iconst 3, 1) := by decide +kernel
theorem dL_261 : decode code 261 = .ok (.iadd, 1) := by decide +kernel
theorem dL_262 : decode code 262 = .ok (.iaload, 1) := by decide +kernel
theorem dL_263 : decode code 263 = .ok (.aload_n 0, 1) := by decide +kernel
theorem dL_264 : decode code 264 = .ok (.iload_n 3, 1) := by decide +kernel
theorem dL_265 : decode code 265 = .ok (.iconst 4, 1) := by decide +kernel
theorem dL_266 : decode code 266 = .ok (.iadd, 1) := by decide +kernel
theorem dL_267 : decode code 267 = .ok (.iaload, 1) := by decide +kernel
theorem dL_268 : decode code 268 = .ok (.aload_n 0, 1) := by decide +kernel
theorem dL_269 : decode code 269 = .ok (.iload_n 3, 1) := by decide +kernel
theorem dL_270 : decode code 270 = .ok (.iconst 5, 1) := by decide +kernel
theorem dL_271 : decode code 271 = .ok (.iadd, 1) := by decide +kernel
theorem dL_272 : decode code 272 = .ok (.iaload, 1) := by decide +kernel
theorem dL_273 : decode code 273 = .ok (.invokevirtual 26, 3) := by decide +kernel
theorem dL_276 : decode code 276 = .ok (.if_icmp .eq 554, 3) := by decide +kernel
theorem dL_281 : decode code 281 = .ok (.aload_n 1, 1) := by decide +kernel
theorem dL_282 : decode code 282 = .ok (.aload_n 0, 1) := by decide +kernel
theorem dL_283 : decode code 283 = .ok (.iload_n 3, 1) := by decide +kernel
end
section
theorem dL_284 : decode code 284 = .ok (.iconst 1, 1) := by decide +kernel
theorem dL_285 : decode code 285 = .ok (.iadd, 1) := by decide +kernel
theorem dL_286 : decode code 286 = .ok (.iaload, 1) := by decide +kernel
theorem dL_287 : decode code 287 = .ok (.invokevirtual 27, 3) := by decide +kernel
theorem dL_290 : decode code 290 = .ok (.aload_n 2, 1) := by decide +kernel
theorem dL_291 : decode code 291 = .ok (.aload_n 0, 1) := by decide +kernel
theorem dL_292 : decode code 292 = .ok (.iload_n 3, 1) := by decide +kernel
theorem dL_293 : decode code 293 = .ok (.iconst 1, 1) := by decide +kernel
theorem dL_294 : decode code 294 = .ok (.iadd, 1) := by decide +kernel
theorem dL_295 : decode code 295 = .ok (.iaload, 1) := by decide +kernel
theorem dL_296 : decode code 296 = .ok (.invokevirtual 31, 3) := by decide +kernel
theorem dL_299 : decode code 299 = .ok (.if_icmp .eq 531, 3) := by decide +kernel
theorem dL_304 : decode code 304 = .ok (.aload_n 1, 1) := by decide +kernel
theorem dL_305 : decode code 305 = .ok (.aload_n 0, 1) := by decide +kernel
theorem dL_306 : decode code 306 = .ok (.iload_n 3, 1) := by decide +kernel
theorem dL_307 : decode code 307 = .ok (.iconst 1, 1) := by decide +kernel
theorem dL_308 : decode code 308 = .ok (.iadd, 1) := by decide +kernel
theorem dL_309 : decode code 309 = .ok (.iaload, 1) := by decide +kernel
theorem dL_310 : decode code 310 = .ok (.invokevirtual 32, 3) := by decide +kernel
theorem dL_313 : decode code 313 = .ok (.aload_n 2, 1) := by decide +kernel
theorem dL_314 : decode code 314 = .ok (.aload_n 0, 1) := by decide +kernel
theorem dL_315 : decode code 315 = .ok (.iload_n 3, 1) := by decide +kernel
theorem dL_316 : decode code 316 = .ok (.iconst 1, 1) := by decide +kernel
theorem dL_317 : decode code 317 = .ok (.iadd, 1) := by decide +kernel
theorem dL_318 : decode code 318 = .ok (.iaload, 1) := by decide +kernel
theorem dL_319 : decode code 319 = .ok (.invokevirtual 35, 3) := by decide +kernel
theorem dL_322 : decode code 322 = .ok (.if_icmp .eq 508, 3) := by decide +kernel
theorem dL_327 : decode code 327 = .ok (.aload_n 1, 1) := by decide +kernel
theorem dL_328 : decode code 328 = .ok (.aload_n 0, 1) := by decide +kernel
theorem dL_329 : decode code 329 = .ok (.iload_n 3, 1) := by decide +kernel
theorem dL_330 : decode code 330 = .ok (.iconst 1, 1) := by decide +kernel
theorem dL_331 : decode code 331 = .ok (.iadd, 1) := by decide +kernel
theorem dL_332 : decode code 332 = .ok (.iaload, 1) := by decide +kernel
theorem dL_333 : decode code 333 = .ok (.invokevirtual 36, 3) := by decide +kernel
theorem dL_336 : decode code 336 = .ok (.aload_n 2, 1) := by decide +kernel
theorem dL_337 : decode code 337 = .ok (.aload_n 0, 1) := by decide +kernel
theorem dL_338 : decode code 338 = .ok (.iload_n 3, 1) := by decide +kernel
theorem dL_339 : decode code 339 = .ok (.iconst 1, 1) := by decide +kernel
theorem dL_340 : decode code 340 = .ok (.iadd, 1) := by decide +kernel
theorem dL_341 : decode code 341 = .ok (.iaload, 1) := by decide +kernel
theorem dL_342 : decode code 342 = .ok (.invokevirtual 39, 3) := by decide +kernel
theorem dL_345 : decode code 345 = .ok (.if_icmp .eq 485, 3) := by decide +kernel
theorem dL_350 : decode code 350 = .ok (.aload_n 1, 1) := by decide +kernel
theorem dL_351 : decode code 351 = .ok (.aload_n 0, 1) := by decide +kernel
theorem dL_352 : decode code 352 = .ok (.iload_n 3, 1) := by decide +kernel
theorem dL_353 : decode code 353 = .ok (.iconst 1, 1) := by decide +kernel
theorem dL_354 : decode code 354 = .ok (.iadd, 1) := by decide +kernel
theorem dL_355 : decode code 355 = .ok (.iaload, 1) := by decide +kernel
theorem dL_356 : decode code 356 = .ok (.aload_n 0, 1) := by decide +kernel
theorem dL_357 : decode code 357 = .ok (.iload_n 3, 1) := by decide +kernel
theorem dL_358 : decode code 358 = .ok (.iconst 2, 1) := by decide +kernel
theorem dL_359 : decode code 359 = .ok (.iadd, 1) := by decide +kernel
theorem dL_360 : decode code 360 = .ok (.iaload, 1) := by decide +kernel
theorem dL_361 : decode code 361 = .ok (.invokevirtual 40, 3) := by decide +kernel
theorem dL_364 : decode code 364 = .ok (.aload_n 2, 1) := by decide +kernel
theorem dL_365 : decode code 365 = .ok (.aload_n 0, 1) := by decide +kernel
theorem dL_366 : decode code 366 = .ok (.iload_n 3, 1) := by decide +kernel
theorem dL_367 : decode code 367 = .ok (.iconst 1, 1) := by decide +kernel
theorem dL_368 : decode code 368 = .ok (.iadd, 1) := by decide +kernel
theorem dL_369 : decode code 369 = .ok (.iaload, 1) := by decide +kernel
theorem dL_370 : decode code 370 = .ok (.aload_n 0, 1) := by decide +kernel
theorem dL_371 : decode code 371 = .ok (.iload_n 3, 1) := by decide +kernel
theorem dL_372 : decode code 372 = .ok (.iconst 2, 1) := by decide +kernel
theorem dL_373 : decode code 373 = .ok (.iadd, 1) := by decide +kernel
theorem dL_374 : decode code 374 = .ok (.iaload, 1) := by decide +kernel
theorem dL_375 : decode code 375 = .ok (.invokevirtual 44, 3) := by decide +kernel
theorem dL_378 : decode code 378 = .ok (.if_icmp .eq 452, 3) := by decide +kernel
theorem dL_383 : decode code 383 = .ok (.aload_n 1, 1) := by decide +kernel
theorem dL_384 : decode code 384 = .ok (.aload_n 0, 1) := by decide +kernel
theorem dL_385 : decode code 385 = .ok (.iload_n 3, 1) := by decide +kernel
theorem dL_386 : decode code 386 = .ok (.iconst 1, 1) := by decide +kernel
theorem dL_387 : decode code 387 = .ok (.iadd, 1) := by decide +kernel
theorem dL_388 : decode code 388 = .ok (.iaload, 1) := by decide +kernel
theorem dL_389 : decode code 389 = .ok (.invokevirtual 45, 3) := by decide +kernel
theorem dL_392 : decode code 392 = .ok (.aload_n 2, 1) := by decide +kernel
theorem dL_393 : decode code 393 = .ok (.aload_n 0, 1) := by decide +kernel
theorem dL_394 : decode code 394 = .ok (.iload_n 3, 1) := by decide +kernel
theorem dL_395 : decode code 395 = .ok (.iconst 1, 1) := by decide +kernel
theorem dL_396 : decode code 396 = .ok (.iadd, 1) := by decide +kernel
theorem dL_397 : decode code 397 = .ok (.iaload, 1) := by decide +kernel
theorem dL_398 : decode code 398 = .ok (.invokevirtual 48, 3) := by decide +kernel
theorem dL_401 : decode code 401 = .ok (.if_icmp .eq 429, 3) := by decide +kernel
theorem dL_406 : decode code 406 = .ok (.aload_n 1, 1) := by decide +kernel
theorem dL_407 : decode code 407 = .ok (.aload_n 0, 1) := by decide +kernel
theorem dL_408 : decode code 408 = .ok (.iload_n 3, 1) := by decide +kernel
theorem dL_409 : decode code 409 = .ok (.iconst 1, 1) := by decide +kernel
theorem dL_410 : decode code 410 = .ok (.iadd, 1) := by decide +kernel
theorem dL_411 : decode code 411 = .ok (.iaload, 1) := by decide +kernel
theorem dL_412 : decode code 412 = .ok (.aload_n 0, 1) := by decide +kernel
theorem dL_413 : decode code 413 = .ok (.iload_n 3, 1) := by decide +kernel
theorem dL_414 : decode code 414 = .ok (.iconst 2, 1) := by decide +kernel
theorem dL_415 : decode code 415 = .ok (.iadd, 1) := by decide +kernel
theorem dL_416 : decode code 416 = .ok (.iaload, 1) := by decide +kernel
theorem dL_417 : decode code 417 = .ok (.invokevirtual 49, 3) := by decide +kernel
theorem dL_420 : decode code 420 = .ok (.aload_n 2, 1) := by decide +kernel
theorem dL_421 : decode code 421 = .ok (.aload_n 0, 1) := by decide +kernel
theorem dL_422 : decode code 422 = .ok (.iload_n 3, 1) := by decide +kernel
theorem dL_423 : decode code 423 = .ok (.iconst 1, 1) := by decide +kernel
theorem dL_424 : decode code 424 = .ok (.iadd, 1) := by decide +kernel
theorem dL_425 : decode code 425 = .ok (.iaload, 1) := by decide +kernel
theorem dL_426 : decode code 426 = .ok (.aload_n 0, 1) := by decide +kernel
theorem dL_427 : decode code 427 = .ok (.iload_n 3, 1) := by decide +kernel
theorem dL_428 : decode code 428 = .ok (.iconst 2, 1) := by decide +kernel
theorem dL_429 : decode code 429 = .ok (.iadd, 1) := by decide +kernel
theorem dL_430 : decode code 430 = .ok (.iaload, 1) := by decide +kernel
theorem dL_431 : decode code 431 = .ok (.invokevirtual 52, 3) := by decide +kernel
theorem dL_434 : decode code 434 = .ok (.if_icmp .eq 396, 3) := by decide +kernel
theorem dL_439 : decode code 439 = .ok (.aload_n 1, 1) := by decide +kernel
theorem dL_440 : decode code 440 = .ok (.aload_n 0, 1) := by decide +kernel
theorem dL_441 : decode code 441 = .ok (.iload_n 3, 1) := by decide +kernel
theorem dL_442 : decode code 442 = .ok (.iconst 1, 1) := by decide +kernel
theorem dL_443 : decode code 443 = .ok (.iadd, 1) := by decide +kernel
theorem dL_444 : decode code 444 = .ok (.iaload, 1) := by decide +kernel
theorem dL_445 : decode code 445 = .ok (.aload_n 0, 1) := by decide +kernel
theorem dL_446 : decode code 446 = .ok (.iload_n 3, 1) := by decide +kernel
theorem dL_447 : decode code 447 = .ok (.iconst 2, 1) := by decide +kernel
theorem dL_448 : decode code 448 = .ok (.iadd, 1) := by decide +kernel
theorem dL_449 : decode code 449 = .ok (.iaload, 1) := by decide +kernel
theorem dL_450 : decode code 450 = .ok (.invokevirtual 53, 3) := by decide +kernel
theorem dL_453 : decode code 453 = .ok (.aload_n 2, 1) := by decide +kernel
theorem dL_454 : decode code 454 = .ok (.aload_n 0, 1) := by decide +kernel
theorem dL_455 : decode code 455 = .ok (.iload_n 3, 1) := by decide +kernel
theorem dL_456 : decode code 456 = .ok (.iconst 1, 1) := by decide +kernel
theorem dL_457 : decode code 457 = .ok (.iadd, 1) := by decide +kernel
theorem dL_458 : decode code 458 = .ok (.iaload, 1) := by decide +kernel
theorem dL_459 : decode code 459 = .ok (.aload_n 0, 1) := by decide +kernel
theorem dL_460 : decode code 460 = .ok (.iload_n 3, 1) := by decide +kernel
theorem dL_461 : decode code 461 = .ok (.iconst 2, 1) := by decide +kernel
theorem dL_462 : decode code 462 = .ok (.iadd, 1) := by decide +kernel
theorem dL_463 : decode code 463 = .ok (.iaload, 1) := by decide +kernel
end
section
theorem dL_464 : decode code 464 = .ok (.invokevirtual 56, 3) := by decide +kernel
theorem dL_467 : decode code 467 = .ok (.if_icmp .eq 363, 3) := by decide +kernel
theorem dL_472 : decode code 472 = .ok (.aload_n 1, 1) := by decide +kernel
theorem dL_473 : decode code 473 = .ok (.aload_n 0, 1) := by decide +kernel
theorem dL_474 : decode code 474 = .ok (.iload_n 3, 1) := by decide +kernel
theorem dL_475 : decode code 475 = .ok (.iconst 1, 1) := by decide +kernel
theorem dL_476 : decode code 476 = .ok (.iadd, 1) := by decide +kernel
theorem dL_477 : decode code 477 = .ok (.iaload, 1) := by decide +kernel
theorem dL_478 : decode code 478 = .ok (.invokevirtual 57, 3) := by decide +kernel
theorem dL_481 : decode code 481 = .ok (.aload_n 2, 1) := by decide +kernel
theorem dL_482 : decode code 482 = .ok (.aload_n 0, 1) := by decide +kernel
theorem dL_483 : decode code 483 = .ok (.iload_n 3, 1) := by decide +kernel
theorem dL_484 : decode code 484 = .ok (.iconst 1, 1) := by decide +kernel
theorem dL_485 : decode code 485 = .ok (.iadd, 1) := by decide +kernel
theorem dL_486 : decode code 486 = .ok (.iaload, 1) := by decide +kernel
theorem dL_487 : decode code 487 = .ok (.invokevirtual 60, 3) := by decide +kernel
theorem dL_490 : decode code 490 = .ok (.if_icmp .eq 340, 3) := by decide +kernel
theorem dL_495 : decode code 495 = .ok (.aload_n 1, 1) := by decide +kernel
theorem dL_496 : decode code 496 = .ok (.aload_n 0, 1) := by decide +kernel
theorem dL_497 : decode code 497 = .ok (.iload_n 3, 1) := by decide +kernel
theorem dL_498 : decode code 498 = .ok (.iconst 1, 1) := by decide +kernel
theorem dL_499 : decode code 499 = .ok (.iadd, 1) := by decide +kernel
theorem dL_500 : decode code 500 = .ok (.iaload, 1) := by decide +kernel
theorem dL_501 : decode code 501 = .ok (.invokevirtual 61, 3) := by decide +kernel
theorem dL_504 : decode code 504 = .ok (.aload_n 2, 1) := by decide +kernel
theorem dL_505 : decode code 505 = .ok (.aload_n 0, 1) := by decide +kernel
theorem dL_506 : decode code 506 = .ok (.iload_n 3, 1) := by decide +kernel
theorem dL_507 : decode code 507 = .ok (.iconst 1, 1) := by decide +kernel
theorem dL_508 : decode code 508 = .ok (.iadd, 1) := by decide +kernel
theorem dL_509 : decode code 509 = .ok (.iaload, 1) := by decide +kernel
theorem dL_510 : decode code 510 = .ok (.invokevirtual 64, 3) := by decide +kernel
theorem dL_513 : decode code 513 = .ok (.if_icmp .eq 317, 3) := by decide +kernel
theorem dL_518 : decode code 518 = .ok (.aload_n 1, 1) := by decide +kernel
theorem dL_519 : decode code 519 = .ok (.aload_n 0, 1) := by decide +kernel
theorem dL_520 : decode code 520 = .ok (.iload_n 3, 1) := by decide +kernel
theorem dL_521 : decode code 521 = .ok (.iconst 1, 1) := by decide +kernel
theorem dL_522 : decode code 522 = .ok (.iadd, 1) := by decide +kernel
theorem dL_523 : decode code 523 = .ok (.iaload, 1) := by decide +kernel
theorem dL_524 : decode code 524 = .ok (.invokevirtual 65, 3) := by decide +kernel
theorem dL_527 : decode code 527 = .ok (.aload_n 2, 1) := by decide +kernel
theorem dL_528 : decode code 528 = .ok (.aload_n 0, 1) := by decide +kernel
theorem dL_529 : decode code 529 = .ok (.iload_n 3, 1) := by decide +kernel
theorem dL_530 : decode code 530 = .ok (.iconst 1, 1) := by decide +kernel
theorem dL_531 : decode code 531 = .ok (.iadd, 1) := by decide +kernel
theorem dL_532 : decode code 532 = .ok (.iaload, 1) := by decide +kernel
theorem dL_533 : decode code 533 = .ok (.invokevirtual 68, 3) := by decide +kernel
theorem dL_536 : decode code 536 = .ok (.if_icmp .eq 294, 3) := by decide +kernel
theorem dL_541 : decode code 541 = .ok (.aload_n 1, 1) := by decide +kernel
theorem dL_542 : decode code 542 = .ok (.aload_n 0, 1) := by decide +kernel
theorem dL_543 : decode code 543 = .ok (.iload_n 3, 1) := by decide +kernel
theorem dL_544 : decode code 544 = .ok (.iconst 1, 1) := by decide +kernel
theorem dL_545 : decode code 545 = .ok (.iadd, 1) := by decide +kernel
theorem dL_546 : decode code 546 = .ok (.iaload, 1) := by decide +kernel
theorem dL_547 : decode code 547 = .ok (.invokevirtual 69, 3) := by decide +kernel
theorem dL_550 : decode code 550 = .ok (.aload_n 2, 1) := by decide +kernel
theorem dL_551 : decode code 551 = .ok (.aload_n 0, 1) := by decide +kernel
theorem dL_552 : decode code 552 = .ok (.iload_n 3, 1) := by decide +kernel
theorem dL_553 : decode code 553 = .ok (.iconst 1, 1) := by decide +kernel
theorem dL_554 : decode code 554 = .ok (.iadd, 1) := by decide +kernel
theorem dL_555 : decode code 555 = .ok (.iaload, 1) := by decide +kernel
theorem dL_556 : decode code 556 = .ok (.invokevirtual 72, 3) := by decide +kernel
theorem dL_559 : decode code 559 = .ok (.if_icmp .eq 271, 3) := by decide +kernel
theorem dL_564 : decode code 564 = .ok (.aload_n 1, 1) := by decide +kernel
theorem dL_565 : decode code 565 = .ok (.aload_n 0, 1) := by decide +kernel
theorem dL_566 : decode code 566 = .ok (.iload_n 3, 1) := by decide +kernel
theorem dL_567 : decode code 567 = .ok (.iconst 1, 1) := by decide +kernel
theorem dL_568 : decode code 568 = .ok (.iadd, 1) := by decide +kernel
theorem dL_569 : decode code 569 = .ok (.iaload, 1) := by decide +kernel
theorem dL_570 : decode code 570 = .ok (.aload_n 0, 1) := by decide +kernel
theorem dL_571 : decode code 571 = .ok (.iload_n 3, 1) := by decide +kernel
theorem dL_572 : decode code 572 = .ok (.iconst 2, 1) := by decide +kernel
theorem dL_573 : decode code 573 = .ok (.iadd, 1) := by decide +kernel
theorem dL_574 : decode code 574 = .ok (.iaload, 1) := by decide +kernel
theorem dL_575 : decode code 575 = .ok (.invokevirtual 73, 3) := by decide +kernel
theorem dL_578 : decode code 578 = .ok (.aload_n 2, 1) := by decide +kernel
theorem dL_579 : decode code 579 = .ok (.aload_n 0, 1) := by decide +kernel
theorem dL_580 : decode code 580 = .ok (.iload_n 3, 1) := by decide +kernel
theorem dL_581 : decode code 581 = .ok (.iconst 1, 1) := by decide +kernel
theorem dL_582 : decode code 582 = .ok (.iadd, 1) := by decide +kernel
theorem dL_583 : decode code 583 = .ok (.iaload, 1) := by decide +kernel
theorem dL_584 : decode code 584 = .ok (.aload_n 0, 1) := by decide +kernel
theorem dL_585 : decode code 585 = .ok (.iload_n 3, 1) := by decide +kernel
theorem dL_586 : decode code 586 = .ok (.iconst 2, 1) := by decide +kernel
theorem dL_587 : decode code 587 = .ok (.iadd, 1) := by decide +kernel
theorem dL_588 : decode code 588 = .ok (.iaload, 1) := by decide +kernel
theorem dL_589 : decode code 589 = .ok (.invokevirtual 76, 3) := by decide +kernel
theorem dL_592 : decode code 592 = .ok (.if_icmp .eq 238, 3) := by decide +kernel
theorem dL_597 : decode code 597 = .ok (.aload_n 1, 1) := by decide +kernel
theorem dL_598 : decode code 598 = .ok (.aload_n 0, 1) := by decide +kernel
theorem dL_599 : decode code 599 = .ok (.iload_n 3, 1) := by decide +kernel
theorem dL_600 : decode code 600 = .ok (.iconst 1, 1) := by decide +kernel
theorem dL_601 : decode code 601 = .ok (.iadd, 1) := by decide +kernel
theorem dL_602 : decode code 602 = .ok (.iaload, 1) := by decide +kernel
theorem dL_603 : decode code 603 = .ok (.invokevirtual 77, 3) := by decide +kernel
theorem dL_606 : decode code 606 = .ok (.aload_n 2, 1) := by decide +kernel
theorem dL_607 : decode code 607 = .ok (.aload_n 0, 1) := by decide +kernel
theorem dL_608 : decode code 608 = .ok (.iload_n 3, 1) := by decide +kernel
theorem dL_609 : decode code 609 = .ok (.iconst 1, 1) := by decide +kernel
theorem dL_610 : decode code 610 = .ok (.iadd, 1) := by decide +kernel
theorem dL_611 : decode code 611 = .ok (.iaload, 1) := by decide +kernel
theorem dL_612 : decode code 612 = .ok (.invokevirtual 80, 3) := by decide +kernel
theorem dL_615 : decode code 615 = .ok (.if_icmp .eq 215, 3) := by decide +kernel
theorem dL_620 : decode code 620 = .ok (.aload_n 1, 1) := by decide +kernel
theorem dL_621 : decode code 621 = .ok (.invokevirtual 81, 3) := by decide +kernel
theorem dL_624 : decode code 624 = .ok (.aload_n 2, 1) := by decide +kernel
theorem dL_625 : decode code 625 = .ok (.invokevirtual 85, 3) := by decide +kernel
theorem dL_628 : decode code 628 = .ok (.if_icmp .eq 202, 3) := by decide +kernel
theorem dL_633 : decode code 633 = .ok (.aload_n 1, 1) := by decide +kernel
theorem dL_634 : decode code 634 = .ok (.invokevirtual 86, 3) := by decide +kernel
theorem dL_637 : decode code 637 = .ok (.aload_n 2, 1) := by decide +kernel
theorem dL_638 : decode code 638 = .ok (.invokevirtual 89, 3) := by decide +kernel
theorem dL_641 : decode code 641 = .ok (.if_icmp .eq 189, 3) := by decide +kernel
theorem dL_646 : decode code 646 = .ok (.aload_n 1, 1) := by decide +kernel
theorem dL_647 : decode code 647 = .ok (.aload_n 0, 1) := by decide +kernel
theorem dL_648 : decode code 648 = .ok (.iload_n 3, 1) := by decide +kernel
theorem dL_649 : decode code 649 = .ok (.iconst 1, 1) := by decide +kernel
theorem dL_650 : decode code 650 = .ok (.iadd, 1) := by decide +kernel
theorem dL_651 : decode code 651 = .ok (.iaload, 1) := by decide +kernel
theorem dL_652 : decode code 652 = .ok (.aload_n 0, 1) := by decide +kernel
theorem dL_653 : decode code 653 = .ok (.iload_n 3, 1) := by decide +kernel
theorem dL_654 : decode code 654 = .ok (.iconst 2, 1) := by decide +kernel
theorem dL_655 : decode code 655 = .ok (.iadd, 1) := by decide +kernel
theorem dL_656 : decode code 656 = .ok (.iaload, 1) := by decide +kernel
theorem dL_657 : decode code 657 = .ok (.invokevirtual 90, 3) := by decide +kernel
theorem dL_660 : decode code 660 = .ok (.aload_n 2, 1) := by decide +kernel
theorem dL_661 : decode code 661 = .ok (.aload_n 0, 1) := by decide +kernel
theorem dL_662 : decode code 662 = .ok (.iload_n 3, 1) := by decide +kernel
theorem dL_663 : decode code 663 = .ok (.iconst 1, 1) := by decide +kernel
theorem dL_664 : decode code 664 = .ok (.iadd, 1) := by decide +kernel
theorem dL_665 : decode code 665 = .ok (.iaload, 1) := by decide +kernel
end
section
theorem dL_666 : decode code 666 = .ok (.aload_n 0, 1) := by decide +kernel
theorem dL_667 : decode code 667 = .ok (.iload_n 3, 1) := by decide +kernel
theorem dL_668 : decode code 668 = .ok (.iconst 2, 1) := by decide +kernel
theorem dL_669 : decode code 669 = .ok (.iadd, 1) := by decide +kernel
theorem dL_670 : decode code 670 = .ok (.iaload, 1) := by decide +kernel
theorem dL_671 : decode code 671 = .ok (.invokevirtual 93, 3) := by decide +kernel
theorem dL_674 : decode code 674 = .ok (.if_icmp .eq 156, 3) := by decide +kernel
theorem dL_679 : decode code 679 = .ok (.aload_n 1, 1) := by decide +kernel
theorem dL_680 : decode code 680 = .ok (.aload_n 0, 1) := by decide +kernel
theorem dL_681 : decode code 681 = .ok (.iload_n 3, 1) := by decide +kernel
theorem dL_682 : decode code 682 = .ok (.iconst 1, 1) := by decide +kernel
theorem dL_683 : decode code 683 = .ok (.iadd, 1) := by decide +kernel
theorem dL_684 : decode code 684 = .ok (.iaload, 1) := by decide +kernel
theorem dL_685 : decode code 685 = .ok (.aload_n 0, 1) := by decide +kernel
theorem dL_686 : decode code 686 = .ok (.iload_n 3, 1) := by decide +kernel
theorem dL_687 : decode code 687 = .ok (.iconst 2, 1) := by decide +kernel
theorem dL_688 : decode code 688 = .ok (.iadd, 1) := by decide +kernel
theorem dL_689 : decode code 689 = .ok (.iaload, 1) := by decide +kernel
theorem dL_690 : decode code 690 = .ok (.aload_n 0, 1) := by decide +kernel
theorem dL_691 : decode code 691 = .ok (.iload_n 3, 1) := by decide +kernel
theorem dL_692 : decode code 692 = .ok (.iconst 3, 1) := by decide +kernel
theorem dL_693 : decode code 693 = .ok (.iadd, 1) := by decide +kernel
theorem dL_694 : decode code 694 = .ok (.iaload, 1) := by decide +kernel
theorem dL_695 : decode code 695 = .ok (.invokevirtual 94, 3) := by decide +kernel
theorem dL_698 : decode code 698 = .ok (.aload_n 2, 1) := by decide +kernel
theorem dL_699 : decode code 699 = .ok (.aload_n 0, 1) := by decide +kernel
theorem dL_700 : decode code 700 = .ok (.iload_n 3, 1) := by decide +kernel
theorem dL_701 : decode code 701 = .ok (.iconst 1, 1) := by decide +kernel
theorem dL_702 : decode code 702 = .ok (.iadd, 1) := by decide +kernel
theorem dL_703 : decode code 703 = .ok (.iaload, 1) := by decide +kernel
theorem dL_704 : decode code 704 = .ok (.aload_n 0, 1) := by decide +kernel
theorem dL_705 : decode code 705 = .ok (.iload_n 3, 1) := by decide +kernel
theorem dL_706 : decode code 706 = .ok (.iconst 2, 1) := by decide +kernel
theorem dL_707 : decode code 707 = .ok (.iadd, 1) := by decide +kernel
theorem dL_708 : decode code 708 = .ok (.iaload, 1) := by decide +kernel
theorem dL_709 : decode code 709 = .ok (.aload_n 0, 1) := by decide +kernel
theorem dL_710 : decode code 710 = .ok (.iload_n 3, 1) := by decide +kernel
theorem dL_711 : decode code 711 = .ok (.iconst 3, 1) := by decide +kernel
theorem dL_712 : decode code 712 = .ok (.iadd, 1) := by decide +kernel
theorem dL_713 : decode code 713 = .ok (.iaload, 1) := by decide +kernel
theorem dL_714 : decode code 714 = .ok (.invokevirtual 98, 3) := by decide +kernel
theorem dL_717 : decode code 717 = .ok (.if_icmp .eq 113, 3) := by decide +kernel
theorem dL_722 : decode code 722 = .ok (.aload_n 1, 1) := by decide +kernel
theorem dL_723 : decode code 723 = .ok (.invokevirtual 99, 3) := by decide +kernel
theorem dL_726 : decode code 726 = .ok (.aload_n 2, 1) := by decide +kernel
theorem dL_727 : decode code 727 = .ok (.invokevirtual 102, 3) := by decide +kernel
theorem dL_730 : decode code 730 = .ok (.if_icmp .eq 100, 3) := by decide +kernel
theorem dL_735 : decode code 735 = .ok (.aload_n 1, 1) := by decide +kernel
theorem dL_736 : decode code 736 = .ok (.aload_n 0, 1) := by decide +kernel
theorem dL_737 : decode code 737 = .ok (.iload_n 3, 1) := by decide +kernel
theorem dL_738 : decode code 738 = .ok (.iconst 1, 1) := by decide +kernel
theorem dL_739 : decode code 739 = .ok (.iadd, 1) := by decide +kernel
theorem dL_740 : decode code 740 = .ok (.iaload, 1) := by decide +kernel
theorem dL_741 : decode code 741 = .ok (.invokevirtual 103, 3) := by decide +kernel
theorem dL_744 : decode code 744 = .ok (.aload_n 2, 1) := by decide +kernel
theorem dL_745 : decode code 745 = .ok (.aload_n 0, 1) := by decide +kernel
theorem dL_746 : decode code 746 = .ok (.iload_n 3, 1) := by decide +kernel
theorem dL_747 : decode code 747 = .ok (.iconst 1, 1) := by decide +kernel
theorem dL_748 : decode code 748 = .ok (.iadd, 1) := by decide +kernel
theorem dL_749 : decode code 749 = .ok (.iaload, 1) := by decide +kernel
theorem dL_750 : decode code 750 = .ok (.invokevirtual 107, 3) := by decide +kernel
theorem dL_753 : decode code 753 = .ok (.if_icmp .eq 77, 3) := by decide +kernel
theorem dL_758 : decode code 758 = .ok (.aload_n 1, 1) := by decide +kernel
theorem dL_759 : decode code 759 = .ok (.invokevirtual 108, 3) := by decide +kernel
theorem dL_762 : decode code 762 = .ok (.aload_n 2, 1) := by decide +kernel
theorem dL_763 : decode code 763 = .ok (.invokevirtual 111, 3) := by decide +kernel
theorem dL_766 : decode code 766 = .ok (.if_icmp .eq 64, 3) := by decide +kernel
theorem dL_771 : decode code 771 = .ok (.aload_n 1, 1) := by decide +kernel
theorem dL_772 : decode code 772 = .ok (.invokevirtual 112, 3) := by decide +kernel
theorem dL_775 : decode code 775 = .ok (.aload_n 2, 1) := by decide +kernel
theorem dL_776 : decode code 776 = .ok (.invokevirtual 116, 3) := by decide +kernel
theorem dL_779 : decode code 779 = .ok (.if_icmp .eq 51, 3) := by decide +kernel
theorem dL_784 : decode code 784 = .ok (.aload_n 1, 1) := by decide +kernel
theorem dL_785 : decode code 785 = .ok (.aload_n 0, 1) := by decide +kernel
theorem dL_786 : decode code 786 = .ok (.iload_n 3, 1) := by decide +kernel
theorem dL_787 : decode code 787 = .ok (.iconst 1, 1) := by decide +kernel
theorem dL_788 : decode code 788 = .ok (.iadd, 1) := by decide +kernel
theorem dL_789 : decode code 789 = .ok (.iaload, 1) := by decide +kernel
theorem dL_790 : decode code 790 = .ok (.invokevirtual 117, 3) := by decide +kernel
theorem dL_793 : decode code 793 = .ok (.aload_n 2, 1) := by decide +kernel
theorem dL_794 : decode code 794 = .ok (.aload_n 0, 1) := by decide +kernel
theorem dL_795 : decode code 795 = .ok (.iload_n 3, 1) := by decide +kernel
theorem dL_796 : decode code 796 = .ok (.iconst 1, 1) := by decide +kernel
theorem dL_797 : decode code 797 = .ok (.iadd, 1) := by decide +kernel
theorem dL_798 : decode code 798 = .ok (.iaload, 1) := by decide +kernel
theorem dL_799 : decode code 799 = .ok (.invokevirtual 120, 3) := by decide +kernel
theorem dL_802 : decode code 802 = .ok (.if_icmp .eq 28, 3) := by decide +kernel
theorem dL_807 : decode code 807 = .ok (.aload_n 1, 1) := by decide +kernel
theorem dL_808 : decode code 808 = .ok (.aload_n 0, 1) := by decide +kernel
theorem dL_809 : decode code 809 = .ok (.iload_n 3, 1) := by decide +kernel
theorem dL_810 : decode code 810 = .ok (.iconst 1, 1) := by decide +kernel
theorem dL_811 : decode code 811 = .ok (.iadd, 1) := by decide +kernel
theorem dL_812 : decode code 812 = .ok (.iaload, 1) := by decide +kernel
theorem dL_813 : decode code 813 = .ok (.invokevirtual 121, 3) := by decide +kernel
theorem dL_816 : decode code 816 = .ok (.aload_n 2, 1) := by decide +kernel
theorem dL_817 : decode code 817 = .ok (.aload_n 0, 1) := by decide +kernel
theorem dL_818 : decode code 818 = .ok (.iload_n 3, 1) := by decide +kernel
theorem dL_819 : decode code 819 = .ok (.iconst 1, 1) := by decide +kernel
theorem dL_820 : decode code 820 = .ok (.iadd, 1) := by decide +kernel
theorem dL_821 : decode code 821 = .ok (.iaload, 1) := by decide +kernel
theorem dL_822 : decode code 822 = .ok (.invokevirtual 124, 3) := by decide +kernel
theorem dL_825 : decode code 825 = .ok (.if_icmp .eq 5, 3) := by decide +kernel
theorem dL_830 : decode code 830 = .ok (.iinc 3 6, 3) := by decide +kernel
theorem dL_833 : decode code 833 = .ok (.goto (-815), 3) := by decide +kernel
theorem dL_836 : decode code 836 = .ok (.iconst 1, 1) := by decide +kernel
theorem dL_837 : decode code 837 = .ok (.ireturn, 1) := by decide +kernel
end
section
theorem en_iv {N : Nat} {ad : Nat → Nat} {lo hi : Int} {x : Int32} (h1 : lo ≤ x.toInt) (h2 : x.toInt ≤ hi) : en_v N ad (.inl (lo, hi)) (.int x) := ⟨x, rfl, h1, h2⟩
theorem pr_register (l : Launch) (x1 x2 : Int32) : ∃ (κa κb : en_K) (box : List en_V), lw_ck tW_39 0 84 13 17 2 κa κb box = true ∧ en_ok l κa ∧ en_ok l κb ∧ ∀ (N : Nat) (ad : Nat → Nat), en_vs N ad box [.int x1, .int x2] := by
  have r1 := fb_rng x1
  have r2 := fb_rng x2
  by_cases h0 : x1.toInt ≤ (-1)
  · exact ⟨kk_20, kk_22, [.inl ((-2147483648), (-1)), .inl ((-2147483648), 2147483647)], by decide +kernel, ok_20 l, ok_22 l, fun N ad => ⟨en_iv (by omega) (by omega), en_iv (by omega) (by omega), trivial⟩⟩
  by_cases h1 : 0 ≤ x1.toInt ∧ x1.toInt ≤ 7
  · exact ⟨kk_23, kk_25, [.inl (0, 7), .inl ((-2147483648), 2147483647)], by decide +kernel, ok_23 l, ok_25 l, fun N ad => ⟨en_iv (by omega) (by omega), en_iv (by omega) (by omega), trivial⟩⟩
  by_cases h2 : 8 ≤ x1.toInt
  · exact ⟨kk_26, kk_28, [.inl (8, 2147483647), .inl ((-2147483648), 2147483647)], by decide +kernel, ok_26 l, ok_28 l, fun N ad => ⟨en_iv (by omega) (by omega), en_iv (by omega) (by omega), trivial⟩⟩
  omega
theorem pr_poke (l : Launch) (x1 x2 : Int32) : ∃ (κa κb : en_K) (box : List en_V), lw_ck tW_39 0 84 18 21 2 κa κb box = true ∧ en_ok l κa ∧ en_ok l κb ∧ ∀ (N : Nat) (ad : Nat → Nat), en_vs N ad box [.int x1, .int x2] := by
  have r1 := fb_rng x1
  have r2 := fb_rng x2
  by_cases h0 : x1.toInt ≤ (-1)
  · exact ⟨kk_29, kk_31, [.inl ((-2147483648), (-1)), .inl ((-2147483648), 2147483647)], by decide +kernel, ok_29 l, ok_31 l, fun N ad => ⟨en_iv (by omega) (by omega), en_iv (by omega) (by omega), trivial⟩⟩
  by_cases h1 : 64 ≤ x1.toInt
  · exact ⟨kk_32, kk_34, [.inl (64, 2147483647), .inl ((-2147483648), 2147483647)], by decide +kernel, ok_32 l, ok_34 l, fun N ad => ⟨en_iv (by omega) (by omega), en_iv (by omega) (by omega), trivial⟩⟩
  by_cases h2 : 0 ≤ x1.toInt ∧ x1.toInt ≤ 63 ∧ x2.toInt ≤ (-1)
  · exact ⟨kk_35, kk_38, [.inl (0, 63), .inl ((-2147483648), (-1))], by decide +kernel, ok_35 l, ok_38 l, fun N ad => ⟨en_iv (by omega) (by omega), en_iv (by omega) (by omega), trivial⟩⟩
  by_cases h3 : 0 ≤ x1.toInt ∧ x1.toInt ≤ 63 ∧ 0 ≤ x2.toInt ∧ x2.toInt ≤ 255
  · exact ⟨kk_39, kk_41, [.inl (0, 63), .inl (0, 255)], by decide +kernel, ok_39 l, ok_41 l, fun N ad => ⟨en_iv (by omega) (by omega), en_iv (by omega) (by omega), trivial⟩⟩
  by_cases h4 : 0 ≤ x1.toInt ∧ x1.toInt ≤ 63 ∧ 256 ≤ x2.toInt
  · exact ⟨kk_42, kk_44, [.inl (0, 63), .inl (256, 2147483647)], by decide +kernel, ok_42 l, ok_44 l, fun N ad => ⟨en_iv (by omega) (by omega), en_iv (by omega) (by omega), trivial⟩⟩
  omega
theorem pr_feed (l : Launch) (x1 x2 x3 x4 x5 : Int32) : ∃ (κa κb : en_K) (box : List en_V), lw_ck tW_39 0 84 22 26 5 κa κb box = true ∧ en_ok l κa ∧ en_ok l κb ∧ ∀ (N : Nat) (ad : Nat → Nat), en_vs N ad box [.int x1, .int x2, .int x3, .int x4, .int x5] := by
  have r1 := fb_rng x1
  have r2 := fb_rng x2
  have r3 := fb_rng x3
  have r4 := fb_rng x4
  have r5 := fb_rng x5
  exact ⟨kk_50, kk_56, [.inl ((-2147483648), 2147483647), .inl ((-2147483648), 2147483647), .inl ((-2147483648), 2147483647), .inl ((-2147483648), 2147483647), .inl ((-2147483648), 2147483647)], by decide +kernel, ok_50 l, ok_56 l, fun N ad => ⟨en_iv (by omega) (by omega), en_iv (by omega) (by omega), en_iv (by omega) (by omega), en_iv (by omega) (by omega), en_iv (by omega) (by omega), trivial⟩⟩
theorem pr_law (l : Launch) (x1 : Int32) : ∃ (κa κb : en_K) (box : List en_V), lw_ck tW_39 0 84 27 31 1 κa κb box = true ∧ en_ok l κa ∧ en_ok l κb ∧ ∀ (N : Nat) (ad : Nat → Nat), en_vs N ad box [.int x1] := by
  have r1 := fb_rng x1
  by_cases h0 : x1.toInt ≤ 0
  · exact ⟨kk_57, kk_59, [.inl ((-2147483648), 0)], by decide +kernel, ok_57 l, ok_59 l, fun N ad => ⟨en_iv (by omega) (by omega), trivial⟩⟩
  by_cases h1 : 1 ≤ x1.toInt ∧ x1.toInt ≤ 240
  · exact ⟨kk_60, kk_62, [.inl (1, 240)], by decide +kernel, ok_60 l, ok_62 l, fun N ad => ⟨en_iv (by omega) (by omega), trivial⟩⟩
  by_cases h2 : 241 ≤ x1.toInt
  · exact ⟨kk_63, kk_65, [.inl (241, 2147483647)], by decide +kernel, ok_63 l, ok_65 l, fun N ad => ⟨en_iv (by omega) (by omega), trivial⟩⟩
  omega
theorem pr_program (l : Launch) (x1 : Int32) : ∃ (κa κb : en_K) (box : List en_V), lw_ck tW_39 0 84 32 35 1 κa κb box = true ∧ en_ok l κa ∧ en_ok l κb ∧ ∀ (N : Nat) (ad : Nat → Nat), en_vs N ad box [.int x1] := by
  have r1 := fb_rng x1
  by_cases h0 : x1.toInt ≤ 0
  · exact ⟨kk_66, kk_67, [.inl ((-2147483648), 0)], by decide +kernel, ok_66 l, ok_67 l, fun N ad => ⟨en_iv (by omega) (by omega), trivial⟩⟩
  by_cases h1 : 1 ≤ x1.toInt ∧ x1.toInt ≤ 240
  · exact ⟨kk_68, kk_69, [.inl (1, 240)], by decide +kernel, ok_68 l, ok_69 l, fun N ad => ⟨en_iv (by omega) (by omega), trivial⟩⟩
  by_cases h2 : 241 ≤ x1.toInt
  · exact ⟨kk_70, kk_71, [.inl (241, 2147483647)], by decide +kernel, ok_70 l, ok_71 l, fun N ad => ⟨en_iv (by omega) (by omega), trivial⟩⟩
  omega
theorem pr_run (l : Launch) (x1 : Int32) : ∃ (κa κb : en_K) (box : List en_V), lw_ck tW_39 0 84 36 39 1 κa κb box = true ∧ en_ok l κa ∧ en_ok l κb ∧ ∀ (N : Nat) (ad : Nat → Nat), en_vs N ad box [.int x1] := by
  have r1 := fb_rng x1
  by_cases h0 : x1.toInt ≤ 0
  · exact ⟨kk_73, kk_76, [.inl ((-2147483648), 0)], by decide +kernel, ok_73 l, ok_76 l, fun N ad => ⟨en_iv (by omega) (by omega), trivial⟩⟩
  by_cases h1 : 1 ≤ x1.toInt ∧ x1.toInt ≤ 4
  · exact ⟨kk_78, kk_81, [.inl (1, 4)], by decide +kernel, ok_78 l, ok_81 l, fun N ad => ⟨en_iv (by omega) (by omega), trivial⟩⟩
  by_cases h2 : 5 ≤ x1.toInt
  · exact ⟨kk_83, kk_86, [.inl (5, 2147483647)], by decide +kernel, ok_83 l, ok_86 l, fun N ad => ⟨en_iv (by omega) (by omega), trivial⟩⟩
  omega
theorem pr_tried (l : Launch) (x1 x2 : Int32) : ∃ (κa κb : en_K) (box : List en_V), lw_ck tW_39 0 84 40 44 2 κa κb box = true ∧ en_ok l κa ∧ en_ok l κb ∧ ∀ (N : Nat) (ad : Nat → Nat), en_vs N ad box [.int x1, .int x2] := by
  have r1 := fb_rng x1
  have r2 := fb_rng x2
  by_cases h0 : x1.toInt ≤ 0
  · exact ⟨kk_87, kk_91, [.inl ((-2147483648), 0), .inl ((-2147483648), 2147483647)], by decide +kernel, ok_87 l, ok_91 l, fun N ad => ⟨en_iv (by omega) (by omega), en_iv (by omega) (by omega), trivial⟩⟩
  by_cases h1 : 1 ≤ x1.toInt ∧ x1.toInt ≤ 4
  · exact ⟨kk_92, kk_93, [.inl (1, 4), .inl ((-2147483648), 2147483647)], by decide +kernel, ok_92 l, ok_93 l, fun N ad => ⟨en_iv (by omega) (by omega), en_iv (by omega) (by omega), trivial⟩⟩
  by_cases h2 : 5 ≤ x1.toInt
  · exact ⟨kk_94, kk_95, [.inl (5, 2147483647), .inl ((-2147483648), 2147483647)], by decide +kernel, ok_94 l, ok_95 l, fun N ad => ⟨en_iv (by omega) (by omega), en_iv (by omega) (by omega), trivial⟩⟩
  omega
theorem pr_lastRun (l : Launch) (x1 : Int32) : ∃ (κa κb : en_K) (box : List en_V), lw_ck tW_39 0 84 45 48 1 κa κb box = true ∧ en_ok l κa ∧ en_ok l κb ∧ ∀ (N : Nat) (ad : Nat → Nat), en_vs N ad box [.int x1] := by
  have r1 := fb_rng x1
  by_cases h0 : x1.toInt ≤ (-1)
  · exact ⟨kk_97, kk_99, [.inl ((-2147483648), (-1))], by decide +kernel, ok_97 l, ok_99 l, fun N ad => ⟨en_iv (by omega) (by omega), trivial⟩⟩
  by_cases h1 : 0 ≤ x1.toInt ∧ x1.toInt ≤ 5
  · exact ⟨kk_101, kk_103, [.inl (0, 5)], by decide +kernel, ok_101 l, ok_103 l, fun N ad => ⟨en_iv (by omega) (by omega), trivial⟩⟩
  by_cases h2 : 6 ≤ x1.toInt
  · exact ⟨kk_105, kk_107, [.inl (6, 2147483647)], by decide +kernel, ok_105 l, ok_107 l, fun N ad => ⟨en_iv (by omega) (by omega), trivial⟩⟩
  omega
theorem pr_opIs (l : Launch) (x1 x2 : Int32) : ∃ (κa κb : en_K) (box : List en_V), lw_ck tW_39 0 84 49 52 2 κa κb box = true ∧ en_ok l κa ∧ en_ok l κb ∧ ∀ (N : Nat) (ad : Nat → Nat), en_vs N ad box [.int x1, .int x2] := by
  have r1 := fb_rng x1
  have r2 := fb_rng x2
  by_cases h0 : x1.toInt ≤ (-1)
  · exact ⟨kk_109, kk_112, [.inl ((-2147483648), (-1)), .inl ((-2147483648), 2147483647)], by decide +kernel, ok_109 l, ok_112 l, fun N ad => ⟨en_iv (by omega) (by omega), en_iv (by omega) (by omega), trivial⟩⟩
  by_cases h1 : 0 ≤ x1.toInt
  · exact ⟨kk_114, kk_117, [.inl (0, 2147483647), .inl ((-2147483648), 2147483647)], by decide +kernel, ok_114 l, ok_117 l, fun N ad => ⟨en_iv (by omega) (by omega), en_iv (by omega) (by omega), trivial⟩⟩
  omega
theorem pr_source (l : Launch) (x1 x2 : Int32) : ∃ (κa κb : en_K) (box : List en_V), lw_ck tW_39 0 84 53 56 2 κa κb box = true ∧ en_ok l κa ∧ en_ok l κb ∧ ∀ (N : Nat) (ad : Nat → Nat), en_vs N ad box [.int x1, .int x2] := by
  have r1 := fb_rng x1
  have r2 := fb_rng x2
  by_cases h0 : x1.toInt ≤ (-1)
  · exact ⟨kk_118, kk_119, [.inl ((-2147483648), (-1)), .inl ((-2147483648), 2147483647)], by decide +kernel, ok_118 l, ok_119 l, fun N ad => ⟨en_iv (by omega) (by omega), en_iv (by omega) (by omega), trivial⟩⟩
  by_cases h1 : 0 ≤ x1.toInt
  · exact ⟨kk_120, kk_121, [.inl (0, 2147483647), .inl ((-2147483648), 2147483647)], by decide +kernel, ok_120 l, ok_121 l, fun N ad => ⟨en_iv (by omega) (by omega), en_iv (by omega) (by omega), trivial⟩⟩
  omega
theorem pr_now (l : Launch) (x1 : Int32) : ∃ (κa κb : en_K) (box : List en_V), lw_ck tW_39 0 84 57 60 1 κa κb box = true ∧ en_ok l κa ∧ en_ok l κb ∧ ∀ (N : Nat) (ad : Nat → Nat), en_vs N ad box [.int x1] := by
  have r1 := fb_rng x1
  by_cases h0 : x1.toInt ≤ (-1)
  · exact ⟨kk_124, kk_126, [.inl ((-2147483648), (-1))], by decide +kernel, ok_124 l, ok_126 l, fun N ad => ⟨en_iv (by omega) (by omega), trivial⟩⟩
  by_cases h1 : 0 ≤ x1.toInt ∧ x1.toInt ≤ 7
  · exact ⟨kk_128, kk_129, [.inl (0, 7)], by decide +kernel, ok_128 l, ok_129 l, fun N ad => ⟨en_iv (by omega) (by omega), trivial⟩⟩
  by_cases h2 : 8 ≤ x1.toInt ∧ x1.toInt ≤ 99
  · exact ⟨kk_132, kk_135, [.inl (8, 99)], by decide +kernel, ok_132 l, ok_135 l, fun N ad => ⟨en_iv (by omega) (by omega), trivial⟩⟩
  by_cases h3 : 100 ≤ x1.toInt ∧ x1.toInt ≤ 163
  · exact ⟨kk_138, kk_141, [.inl (100, 163)], by decide +kernel, ok_138 l, ok_141 l, fun N ad => ⟨en_iv (by omega) (by omega), trivial⟩⟩
  by_cases h4 : 164 ≤ x1.toInt
  · exact ⟨kk_144, kk_147, [.inl (164, 2147483647)], by decide +kernel, ok_144 l, ok_147 l, fun N ad => ⟨en_iv (by omega) (by omega), trivial⟩⟩
  omega
theorem pr_plain (l : Launch) (x1 : Int32) : ∃ (κa κb : en_K) (box : List en_V), lw_ck tW_39 0 84 61 64 1 κa κb box = true ∧ en_ok l κa ∧ en_ok l κb ∧ ∀ (N : Nat) (ad : Nat → Nat), en_vs N ad box [.int x1] := by
  have r1 := fb_rng x1
  by_cases h0 : x1.toInt ≤ (-1)
  · exact ⟨kk_148, kk_150, [.inl ((-2147483648), (-1))], by decide +kernel, ok_148 l, ok_150 l, fun N ad => ⟨en_iv (by omega) (by omega), trivial⟩⟩
  by_cases h1 : 0 ≤ x1.toInt ∧ x1.toInt ≤ 7
  · exact ⟨kk_155, kk_156, [.inl (0, 7)], by decide +kernel, ok_155 l, ok_156 l, fun N ad => ⟨en_iv (by omega) (by omega), trivial⟩⟩
  by_cases h2 : 8 ≤ x1.toInt ∧ x1.toInt ≤ 99
  · exact ⟨kk_157, kk_158, [.inl (8, 99)], by decide +kernel, ok_157 l, ok_158 l, fun N ad => ⟨en_iv (by omega) (by omega), trivial⟩⟩
  by_cases h3 : 100 ≤ x1.toInt ∧ x1.toInt ≤ 163
  · exact ⟨kk_159, kk_160, [.inl (100, 163)], by decide +kernel, ok_159 l, ok_160 l, fun N ad => ⟨en_iv (by omega) (by omega), trivial⟩⟩
  by_cases h4 : 164 ≤ x1.toInt
  · exact ⟨kk_161, kk_162, [.inl (164, 2147483647)], by decide +kernel, ok_161 l, ok_162 l, fun N ad => ⟨en_iv (by omega) (by omega), trivial⟩⟩
  omega
theorem pr_unlike (l : Launch) (x1 : Int32) : ∃ (κa κb : en_K) (box : List en_V), lw_ck tW_39 0 84 65 68 1 κa κb box = true ∧ en_ok l κa ∧ en_ok l κb ∧ ∀ (N : Nat) (ad : Nat → Nat), en_vs N ad box [.int x1] := by
  have r1 := fb_rng x1
  by_cases h0 : x1.toInt ≤ 0
  · exact ⟨kk_163, kk_164, [.inl ((-2147483648), 0)], by decide +kernel, ok_163 l, ok_164 l, fun N ad => ⟨en_iv (by omega) (by omega), trivial⟩⟩
  by_cases h1 : 1 ≤ x1.toInt ∧ x1.toInt ≤ 4
  · exact ⟨kk_165, kk_166, [.inl (1, 4)], by decide +kernel, ok_165 l, ok_166 l, fun N ad => ⟨en_iv (by omega) (by omega), trivial⟩⟩
  by_cases h2 : 5 ≤ x1.toInt
  · exact ⟨kk_167, kk_168, [.inl (5, 2147483647)], by decide +kernel, ok_167 l, ok_168 l, fun N ad => ⟨en_iv (by omega) (by omega), trivial⟩⟩
  omega
theorem pr_fastest (l : Launch) (x1 : Int32) : ∃ (κa κb : en_K) (box : List en_V), lw_ck tW_39 0 84 69 72 1 κa κb box = true ∧ en_ok l κa ∧ en_ok l κb ∧ ∀ (N : Nat) (ad : Nat → Nat), en_vs N ad box [.int x1] := by
  have r1 := fb_rng x1
  by_cases h0 : x1.toInt ≤ (-1)
  · exact ⟨kk_169, kk_171, [.inl ((-2147483648), (-1))], by decide +kernel, ok_169 l, ok_171 l, fun N ad => ⟨en_iv (by omega) (by omega), trivial⟩⟩
  by_cases h1 : 0 ≤ x1.toInt ∧ x1.toInt ≤ 1
  · exact ⟨kk_172, kk_174, [.inl (0, 1)], by decide +kernel, ok_172 l, ok_174 l, fun N ad => ⟨en_iv (by omega) (by omega), trivial⟩⟩
  by_cases h2 : 2 ≤ x1.toInt
  · exact ⟨kk_175, kk_177, [.inl (2, 2147483647)], by decide +kernel, ok_175 l, ok_177 l, fun N ad => ⟨en_iv (by omega) (by omega), trivial⟩⟩
  omega
theorem pr_cautious (l : Launch) (x1 x2 : Int32) : ∃ (κa κb : en_K) (box : List en_V), lw_ck tW_39 0 84 73 76 2 κa κb box = true ∧ en_ok l κa ∧ en_ok l κb ∧ ∀ (N : Nat) (ad : Nat → Nat), en_vs N ad box [.int x1, .int x2] := by
  have r1 := fb_rng x1
  have r2 := fb_rng x2
  by_cases h0 : x1.toInt ≤ 0
  · exact ⟨kk_178, kk_179, [.inl ((-2147483648), 0), .inl ((-2147483648), 2147483647)], by decide +kernel, ok_178 l, ok_179 l, fun N ad => ⟨en_iv (by omega) (by omega), en_iv (by omega) (by omega), trivial⟩⟩
  by_cases h1 : 1 ≤ x1.toInt ∧ x1.toInt ≤ 4
  · exact ⟨kk_180, kk_181, [.inl (1, 4), .inl ((-2147483648), 2147483647)], by decide +kernel, ok_180 l, ok_181 l, fun N ad => ⟨en_iv (by omega) (by omega), en_iv (by omega) (by omega), trivial⟩⟩
  by_cases h2 : 5 ≤ x1.toInt
  · exact ⟨kk_182, kk_183, [.inl (5, 2147483647), .inl ((-2147483648), 2147483647)], by decide +kernel, ok_182 l, ok_183 l, fun N ad => ⟨en_iv (by omega) (by omega), en_iv (by omega) (by omega), trivial⟩⟩
  omega
theorem pr_worst (l : Launch) (x1 : Int32) : ∃ (κa κb : en_K) (box : List en_V), lw_ck tW_39 0 84 77 80 1 κa κb box = true ∧ en_ok l κa ∧ en_ok l κb ∧ ∀ (N : Nat) (ad : Nat → Nat), en_vs N ad box [.int x1] := by
  have r1 := fb_rng x1
  by_cases h0 : x1.toInt ≤ (-1)
  · exact ⟨kk_184, kk_185, [.inl ((-2147483648), (-1))], by decide +kernel, ok_184 l, ok_185 l, fun N ad => ⟨en_iv (by omega) (by omega), trivial⟩⟩
  by_cases h1 : 0 ≤ x1.toInt ∧ x1.toInt ≤ 1
  · exact ⟨kk_186, kk_187, [.inl (0, 1)], by decide +kernel, ok_186 l, ok_187 l, fun N ad => ⟨en_iv (by omega) (by omega), trivial⟩⟩
  by_cases h2 : 2 ≤ x1.toInt
  · exact ⟨kk_188, kk_189, [.inl (2, 2147483647)], by decide +kernel, ok_188 l, ok_189 l, fun N ad => ⟨en_iv (by omega) (by omega), trivial⟩⟩
  omega
theorem pr_deep (l : Launch) : ∃ (κa κb : en_K) (box : List en_V), lw_ck tW_39 0 84 81 85 0 κa κb box = true ∧ en_ok l κa ∧ en_ok l κb ∧ ∀ (N : Nat) (ad : Nat → Nat), en_vs N ad box [] := by
  exact ⟨kk_190, kk_191, [], by decide +kernel, ok_190 l, ok_191 l, fun N ad => trivial⟩
theorem pr_mix (l : Launch) : ∃ (κa κb : en_K) (box : List en_V), lw_ck tW_39 0 84 86 89 0 κa κb box = true ∧ en_ok l κa ∧ en_ok l κb ∧ ∀ (N : Nat) (ad : Nat → Nat), en_vs N ad box [] := by
  exact ⟨kk_193, kk_194, [], by decide +kernel, ok_193 l, ok_194 l, fun N ad => trivial⟩
theorem pr_watch (l : Launch) (x1 x2 : Int32) : ∃ (κa κb : en_K) (box : List en_V), lw_ck tW_39 0 84 90 93 2 κa κb box = true ∧ en_ok l κa ∧ en_ok l κb ∧ ∀ (N : Nat) (ad : Nat → Nat), en_vs N ad box [.int x1, .int x2] := by
  have r1 := fb_rng x1
  have r2 := fb_rng x2
  by_cases h0 : x1.toInt ≤ (-1)
  · exact ⟨kk_195, kk_196, [.inl ((-2147483648), (-1)), .inl ((-2147483648), 2147483647)], by decide +kernel, ok_195 l, ok_196 l, fun N ad => ⟨en_iv (by omega) (by omega), en_iv (by omega) (by omega), trivial⟩⟩
  by_cases h1 : 2 ≤ x1.toInt
  · exact ⟨kk_197, kk_198, [.inl (2, 2147483647), .inl ((-2147483648), 2147483647)], by decide +kernel, ok_197 l, ok_198 l, fun N ad => ⟨en_iv (by omega) (by omega), en_iv (by omega) (by omega), trivial⟩⟩
  by_cases h2 : 0 ≤ x1.toInt ∧ x1.toInt ≤ 1 ∧ x2.toInt ≤ (-1)
  · exact ⟨kk_199, kk_200, [.inl (0, 1), .inl ((-2147483648), (-1))], by decide +kernel, ok_199 l, ok_200 l, fun N ad => ⟨en_iv (by omega) (by omega), en_iv (by omega) (by omega), trivial⟩⟩
  by_cases h3 : 0 ≤ x1.toInt ∧ x1.toInt ≤ 1 ∧ 0 ≤ x2.toInt
  · exact ⟨kk_201, kk_202, [.inl (0, 1), .inl (0, 2147483647)], by decide +kernel, ok_201 l, ok_202 l, fun N ad => ⟨en_iv (by omega) (by omega), en_iv (by omega) (by omega), trivial⟩⟩
  omega
theorem pr_watched (l : Launch) (x1 x2 x3 : Int32) : ∃ (κa κb : en_K) (box : List en_V), lw_ck tW_39 0 84 94 98 3 κa κb box = true ∧ en_ok l κa ∧ en_ok l κb ∧ ∀ (N : Nat) (ad : Nat → Nat), en_vs N ad box [.int x1, .int x2, .int x3] := by
  have r1 := fb_rng x1
  have r2 := fb_rng x2
  have r3 := fb_rng x3
  by_cases h0 : x1.toInt ≤ (-1)
  · exact ⟨kk_203, kk_204, [.inl ((-2147483648), (-1)), .inl ((-2147483648), 2147483647), .inl ((-2147483648), 2147483647)], by decide +kernel, ok_203 l, ok_204 l, fun N ad => ⟨en_iv (by omega) (by omega), en_iv (by omega) (by omega), en_iv (by omega) (by omega), trivial⟩⟩
  by_cases h1 : 2 ≤ x1.toInt
  · exact ⟨kk_205, kk_206, [.inl (2, 2147483647), .inl ((-2147483648), 2147483647), .inl ((-2147483648), 2147483647)], by decide +kernel, ok_205 l, ok_206 l, fun N ad => ⟨en_iv (by omega) (by omega), en_iv (by omega) (by omega), en_iv (by omega) (by omega), trivial⟩⟩
  by_cases h2 : 0 ≤ x1.toInt ∧ x1.toInt ≤ 1 ∧ x2.toInt ≤ (-1)
  · exact ⟨kk_207, kk_208, [.inl (0, 1), .inl ((-2147483648), (-1)), .inl ((-2147483648), 2147483647)], by decide +kernel, ok_207 l, ok_208 l, fun N ad => ⟨en_iv (by omega) (by omega), en_iv (by omega) (by omega), en_iv (by omega) (by omega), trivial⟩⟩
  by_cases h3 : 0 ≤ x1.toInt ∧ x1.toInt ≤ 1 ∧ 0 ≤ x2.toInt ∧ x3.toInt ≤ (-1)
  · exact ⟨kk_209, kk_211, [.inl (0, 1), .inl (0, 2147483647), .inl ((-2147483648), (-1))], by decide +kernel, ok_209 l, ok_211 l, fun N ad => ⟨en_iv (by omega) (by omega), en_iv (by omega) (by omega), en_iv (by omega) (by omega), trivial⟩⟩
  by_cases h4 : 0 ≤ x1.toInt ∧ x1.toInt ≤ 1 ∧ 0 ≤ x2.toInt ∧ 0 ≤ x3.toInt ∧ x3.toInt ≤ 6
  · exact ⟨kk_212, kk_214, [.inl (0, 1), .inl (0, 2147483647), .inl (0, 6)], by decide +kernel, ok_212 l, ok_214 l, fun N ad => ⟨en_iv (by omega) (by omega), en_iv (by omega) (by omega), en_iv (by omega) (by omega), trivial⟩⟩
  by_cases h5 : 0 ≤ x1.toInt ∧ x1.toInt ≤ 1 ∧ 0 ≤ x2.toInt ∧ 7 ≤ x3.toInt
  · exact ⟨kk_215, kk_217, [.inl (0, 1), .inl (0, 2147483647), .inl (7, 2147483647)], by decide +kernel, ok_215 l, ok_217 l, fun N ad => ⟨en_iv (by omega) (by omega), en_iv (by omega) (by omega), en_iv (by omega) (by omega), trivial⟩⟩
  omega
theorem pr_forget (l : Launch) : ∃ (κa κb : en_K) (box : List en_V), lw_ck tW_39 0 84 99 102 0 κa κb box = true ∧ en_ok l κa ∧ en_ok l κb ∧ ∀ (N : Nat) (ad : Nat → Nat), en_vs N ad box [] := by
  exact ⟨kk_221, kk_223, [], by decide +kernel, ok_221 l, ok_223 l, fun N ad => trivial⟩
theorem pr_seed (l : Launch) (x1 : Int32) : ∃ (κa κb : en_K) (box : List en_V), lw_ck tW_39 0 84 103 107 1 κa κb box = true ∧ en_ok l κa ∧ en_ok l κb ∧ ∀ (N : Nat) (ad : Nat → Nat), en_vs N ad box [.int x1] := by
  have r1 := fb_rng x1
  by_cases h0 : x1.toInt ≤ (-1)
  · exact ⟨kk_224, kk_226, [.inl ((-2147483648), (-1))], by decide +kernel, ok_224 l, ok_226 l, fun N ad => ⟨en_iv (by omega) (by omega), trivial⟩⟩
  by_cases h1 : 0 ≤ x1.toInt ∧ x1.toInt ≤ 65535
  · exact ⟨kk_227, kk_229, [.inl (0, 65535)], by decide +kernel, ok_227 l, ok_229 l, fun N ad => ⟨en_iv (by omega) (by omega), trivial⟩⟩
  by_cases h2 : 65536 ≤ x1.toInt
  · exact ⟨kk_230, kk_232, [.inl (65536, 2147483647)], by decide +kernel, ok_230 l, ok_232 l, fun N ad => ⟨en_iv (by omega) (by omega), trivial⟩⟩
  omega
theorem pr_keep (l : Launch) : ∃ (κa κb : en_K) (box : List en_V), lw_ck tW_39 0 84 108 111 0 κa κb box = true ∧ en_ok l κa ∧ en_ok l κb ∧ ∀ (N : Nat) (ad : Nat → Nat), en_vs N ad box [] := by
  exact ⟨kk_236, kk_237, [], by decide +kernel, ok_236 l, ok_237 l, fun N ad => trivial⟩
theorem pr_undo (l : Launch) : ∃ (κa κb : en_K) (box : List en_V), lw_ck tW_39 0 84 112 116 0 κa κb box = true ∧ en_ok l κa ∧ en_ok l κb ∧ ∀ (N : Nat) (ad : Nat → Nat), en_vs N ad box [] := by
  exact ⟨kk_238, kk_239, [], by decide +kernel, ok_238 l, ok_239 l, fun N ad => trivial⟩
theorem pr_check (l : Launch) (x1 : Int32) : ∃ (κa κb : en_K) (box : List en_V), lw_ck tW_39 0 84 117 120 1 κa κb box = true ∧ en_ok l κa ∧ en_ok l κb ∧ ∀ (N : Nat) (ad : Nat → Nat), en_vs N ad box [.int x1] := by
  have r1 := fb_rng x1
  by_cases h0 : x1.toInt ≤ (-1)
  · exact ⟨kk_240, kk_242, [.inl ((-2147483648), (-1))], by decide +kernel, ok_240 l, ok_242 l, fun N ad => ⟨en_iv (by omega) (by omega), trivial⟩⟩
  by_cases h1 : 0 ≤ x1.toInt ∧ x1.toInt ≤ 0
  · exact ⟨kk_244, kk_246, [.inl (0, 0)], by decide +kernel, ok_244 l, ok_246 l, fun N ad => ⟨en_iv (by omega) (by omega), trivial⟩⟩
  by_cases h2 : 1 ≤ x1.toInt ∧ x1.toInt ≤ 64
  · exact ⟨kk_247, kk_249, [.inl (1, 64)], by decide +kernel, ok_247 l, ok_249 l, fun N ad => ⟨en_iv (by omega) (by omega), trivial⟩⟩
  by_cases h3 : 65 ≤ x1.toInt
  · exact ⟨kk_250, kk_252, [.inl (65, 2147483647)], by decide +kernel, ok_250 l, ok_252 l, fun N ad => ⟨en_iv (by omega) (by omega), trivial⟩⟩
  omega
theorem pr_count (l : Launch) (x1 : Int32) : ∃ (κa κb : en_K) (box : List en_V), lw_ck tW_39 0 84 121 124 1 κa κb box = true ∧ en_ok l κa ∧ en_ok l κb ∧ ∀ (N : Nat) (ad : Nat → Nat), en_vs N ad box [.int x1] := by
  have r1 := fb_rng x1
  by_cases h0 : x1.toInt ≤ (-1)
  · exact ⟨kk_253, kk_254, [.inl ((-2147483648), (-1))], by decide +kernel, ok_253 l, ok_254 l, fun N ad => ⟨en_iv (by omega) (by omega), trivial⟩⟩
  by_cases h1 : 0 ≤ x1.toInt ∧ x1.toInt ≤ 0
  · exact ⟨kk_255, kk_256, [.inl (0, 0)], by decide +kernel, ok_255 l, ok_256 l, fun N ad => ⟨en_iv (by omega) (by omega), trivial⟩⟩
  by_cases h2 : 1 ≤ x1.toInt ∧ x1.toInt ≤ 1
  · exact ⟨kk_257, kk_258, [.inl (1, 1)], by decide +kernel, ok_257 l, ok_258 l, fun N ad => ⟨en_iv (by omega) (by omega), trivial⟩⟩
  by_cases h3 : 2 ≤ x1.toInt ∧ x1.toInt ≤ 2
  · exact ⟨kk_260, kk_262, [.inl (2, 2)], by decide +kernel, ok_260 l, ok_262 l, fun N ad => ⟨en_iv (by omega) (by omega), trivial⟩⟩
  by_cases h4 : 3 ≤ x1.toInt ∧ x1.toInt ≤ 3
  · exact ⟨kk_264, kk_266, [.inl (3, 3)], by decide +kernel, ok_264 l, ok_266 l, fun N ad => ⟨en_iv (by omega) (by omega), trivial⟩⟩
  by_cases h5 : 4 ≤ x1.toInt ∧ x1.toInt ≤ 4
  · exact ⟨kk_267, kk_268, [.inl (4, 4)], by decide +kernel, ok_267 l, ok_268 l, fun N ad => ⟨en_iv (by omega) (by omega), trivial⟩⟩
  by_cases h6 : 5 ≤ x1.toInt ∧ x1.toInt ≤ 5
  · exact ⟨kk_269, kk_270, [.inl (5, 5)], by decide +kernel, ok_269 l, ok_270 l, fun N ad => ⟨en_iv (by omega) (by omega), trivial⟩⟩
  by_cases h7 : 6 ≤ x1.toInt ∧ x1.toInt ≤ 6
  · exact ⟨kk_271, kk_272, [.inl (6, 6)], by decide +kernel, ok_271 l, ok_272 l, fun N ad => ⟨en_iv (by omega) (by omega), trivial⟩⟩
  by_cases h8 : 7 ≤ x1.toInt ∧ x1.toInt ≤ 7
  · exact ⟨kk_273, kk_274, [.inl (7, 7)], by decide +kernel, ok_273 l, ok_274 l, fun N ad => ⟨en_iv (by omega) (by omega), trivial⟩⟩
  by_cases h9 : 8 ≤ x1.toInt ∧ x1.toInt ≤ 8
  · exact ⟨kk_275, kk_276, [.inl (8, 8)], by decide +kernel, ok_275 l, ok_276 l, fun N ad => ⟨en_iv (by omega) (by omega), trivial⟩⟩
  by_cases h10 : 9 ≤ x1.toInt ∧ x1.toInt ≤ 9
  · exact ⟨kk_277, kk_278, [.inl (9, 9)], by decide +kernel, ok_277 l, ok_278 l, fun N ad => ⟨en_iv (by omega) (by omega), trivial⟩⟩
  by_cases h11 : 10 ≤ x1.toInt ∧ x1.toInt ≤ 10
  · exact ⟨kk_279, kk_280, [.inl (10, 10)], by decide +kernel, ok_279 l, ok_280 l, fun N ad => ⟨en_iv (by omega) (by omega), trivial⟩⟩
  by_cases h12 : 11 ≤ x1.toInt ∧ x1.toInt ≤ 11
  · exact ⟨kk_282, kk_284, [.inl (11, 11)], by decide +kernel, ok_282 l, ok_284 l, fun N ad => ⟨en_iv (by omega) (by omega), trivial⟩⟩
  by_cases h13 : 12 ≤ x1.toInt
  · exact ⟨kk_285, kk_286, [.inl (12, 2147483647)], by decide +kernel, ok_285 l, ok_286 l, fun N ad => ⟨en_iv (by omega) (by omega), trivial⟩⟩
  omega
end
section
section ENT
variable {p : Program} {l : Launch} {e : Env} {s : State} {m : MethodId} {args : Array Value} {below : List Frame} {meth : Method} {c : Code} {Q : State → Prop} {D : va_G} {tys : List (ClassId × FieldType)} {aK aV b0 cs sl b L : Nat} {xs : Nat → Int32} {ls : Array Slot} {ad : Nat → Nat} {H : Heap} {locs : List Loc}
theorem lc_0 (C : en_cx p s m args meth c code 4 13 D tys aK aV b0) (hX : va_X b L xs s s.heap) (hbl : b < s.heap.size) (hbA : ¬ b0 ≤ b) (hL6 : 6 ≤ L) (hL : L < 2 ^ 31) (hl : lv_has ls 4 [(0, .ref b), (1, .ref (ad 0)), (2, .ref (ad 84)), (3, .int 0)]) (hcs : cs ≤ 600000) (hsl : sl ≤ 7302250) (hW : en_W D tys (fun q => b0 ≤ q) tW_39 ad H) (hS : va_S (fun q => b0 ≤ q) s.heap H locs) (k : lw_go p l e s m args below meth c Q D tys b0 ls cs sl 830) : W p l e room_1 s m args below meth c H locs cs sl Q (F0 m 152 ls []) := by
  obtain ⟨κa, κb, box, h1, h2, h3, h4⟩ := pr_register l (xs 1) (xs 2)
  refine lv_aload_n C.1 C.2.1 dL_152 rfl (lv_at hl 1 rfl) ?_
  refine lw_arg C.1 C.2.1 hX hbl hbA (lv_at hl 0 rfl) (lv_at hl 3 rfl) (k := 1) rfl (by omega) hL hS dL_153 dL_154 dL_155 dL_156 dL_157 ?_
  refine lw_arg C.1 C.2.1 hX hbl hbA (lv_at hl 0 rfl) (lv_at hl 3 rfl) (k := 2) rfl (by omega) hL hS dL_158 dL_159 dL_160 dL_161 dL_162 ?_
  refine lw_two C (j0 := 0) (j1 := 84) (ia := 13) (ib := 17) (n := 2) (As := [.int (xs 1), .int (xs 2)]) (pa := 163) (pb := 177) (pe := 830) h1 h2 h3 (h4 _ _) hl.1 hcs hsl dL_163 dL_177 dL_180 (by decide) hW hS (fun H locs x hS kk => ?_) k
  refine lv_aload_n C.1 C.2.1 dL_166 rfl (lv_at hl 2 rfl) ?_
  refine lw_arg C.1 C.2.1 hX hbl hbA (lv_at hl 0 rfl) (lv_at hl 3 rfl) (k := 1) rfl (by omega) hL hS dL_167 dL_168 dL_169 dL_170 dL_171 ?_
  refine lw_arg C.1 C.2.1 hX hbl hbA (lv_at hl 0 rfl) (lv_at hl 3 rfl) (k := 2) rfl (by omega) hL hS dL_172 dL_173 dL_174 dL_175 dL_176 ?_
  exact kk
theorem lc_1 (C : en_cx p s m args meth c code 4 13 D tys aK aV b0) (hX : va_X b L xs s s.heap) (hbl : b < s.heap.size) (hbA : ¬ b0 ≤ b) (hL6 : 6 ≤ L) (hL : L < 2 ^ 31) (hl : lv_has ls 4 [(0, .ref b), (1, .ref (ad 0)), (2, .ref (ad 84)), (3, .int 0)]) (hcs : cs ≤ 600000) (hsl : sl ≤ 7302250) (hW : en_W D tys (fun q => b0 ≤ q) tW_39 ad H) (hS : va_S (fun q => b0 ≤ q) s.heap H locs) (k : lw_go p l e s m args below meth c Q D tys b0 ls cs sl 830) : W p l e room_1 s m args below meth c H locs cs sl Q (F0 m 185 ls []) := by
  obtain ⟨κa, κb, box, h1, h2, h3, h4⟩ := pr_poke l (xs 1) (xs 2)
  refine lv_aload_n C.1 C.2.1 dL_185 rfl (lv_at hl 1 rfl) ?_
  refine lw_arg C.1 C.2.1 hX hbl hbA (lv_at hl 0 rfl) (lv_at hl 3 rfl) (k := 1) rfl (by omega) hL hS dL_186 dL_187 dL_188 dL_189 dL_190 ?_
  refine lw_arg C.1 C.2.1 hX hbl hbA (lv_at hl 0 rfl) (lv_at hl 3 rfl) (k := 2) rfl (by omega) hL hS dL_191 dL_192 dL_193 dL_194 dL_195 ?_
  refine lw_two C (j0 := 0) (j1 := 84) (ia := 18) (ib := 21) (n := 2) (As := [.int (xs 1), .int (xs 2)]) (pa := 196) (pb := 210) (pe := 830) h1 h2 h3 (h4 _ _) hl.1 hcs hsl dL_196 dL_210 dL_213 (by decide) hW hS (fun H locs x hS kk => ?_) k
  refine lv_aload_n C.1 C.2.1 dL_199 rfl (lv_at hl 2 rfl) ?_
  refine lw_arg C.1 C.2.1 hX hbl hbA (lv_at hl 0 rfl) (lv_at hl 3 rfl) (k := 1) rfl (by omega) hL hS dL_200 dL_201 dL_202 dL_203 dL_204 ?_
  refine lw_arg C.1 C.2.1 hX hbl hbA (lv_at hl 0 rfl) (lv_at hl 3 rfl) (k := 2) rfl (by omega) hL hS dL_205 dL_206 dL_207 dL_208 dL_209 ?_
  exact kk
theorem lc_2 (C : en_cx p s m args meth c code 4 13 D tys aK aV b0) (hX : va_X b L xs s s.heap) (hbl : b < s.heap.size) (hbA : ¬ b0 ≤ b) (hL6 : 6 ≤ L) (hL : L < 2 ^ 31) (hl : lv_has ls 4 [(0, .ref b), (1, .ref (ad 0)), (2, .ref (ad 84)), (3, .int 0)]) (hcs : cs ≤ 600000) (hsl : sl ≤ 7302250) (hW : en_W D tys (fun q => b0 ≤ q) tW_39 ad H) (hS : va_S (fun q => b0 ≤ q) s.heap H locs) (k : lw_go p l e s m args below meth c Q D tys b0 ls cs sl 830) : W p l e room_1 s m args below meth c H locs cs sl Q (F0 m 218 ls []) := by
  obtain ⟨κa, κb, box, h1, h2, h3, h4⟩ := pr_feed l (xs 1) (xs 2) (xs 3) (xs 4) (xs 5)
  refine lv_aload_n C.1 C.2.1 dL_218 rfl (lv_at hl 1 rfl) ?_
  refine lw_arg C.1 C.2.1 hX hbl hbA (lv_at hl 0 rfl) (lv_at hl 3 rfl) (k := 1) rfl (by omega) hL hS dL_219 dL_220 dL_221 dL_222 dL_223 ?_
  refine lw_arg C.1 C.2.1 hX hbl hbA (lv_at hl 0 rfl) (lv_at hl 3 rfl) (k := 2) rfl (by omega) hL hS dL_224 dL_225 dL_226 dL_227 dL_228 ?_
  refine lw_arg C.1 C.2.1 hX hbl hbA (lv_at hl 0 rfl) (lv_at hl 3 rfl) (k := 3) rfl (by omega) hL hS dL_229 dL_230 dL_231 dL_232 dL_233 ?_
  refine lw_arg C.1 C.2.1 hX hbl hbA (lv_at hl 0 rfl) (lv_at hl 3 rfl) (k := 4) rfl (by omega) hL hS dL_234 dL_235 dL_236 dL_237 dL_238 ?_
  refine lw_arg C.1 C.2.1 hX hbl hbA (lv_at hl 0 rfl) (lv_at hl 3 rfl) (k := 5) rfl (by omega) hL hS dL_239 dL_240 dL_241 dL_242 dL_243 ?_
  refine lw_two C (j0 := 0) (j1 := 84) (ia := 22) (ib := 26) (n := 5) (As := [.int (xs 1), .int (xs 2), .int (xs 3), .int (xs 4), .int (xs 5)]) (pa := 244) (pb := 273) (pe := 830) h1 h2 h3 (h4 _ _) hl.1 hcs hsl dL_244 dL_273 dL_276 (by decide) hW hS (fun H locs x hS kk => ?_) k
  refine lv_aload_n C.1 C.2.1 dL_247 rfl (lv_at hl 2 rfl) ?_
  refine lw_arg C.1 C.2.1 hX hbl hbA (lv_at hl 0 rfl) (lv_at hl 3 rfl) (k := 1) rfl (by omega) hL hS dL_248 dL_249 dL_250 dL_251 dL_252 ?_
  refine lw_arg C.1 C.2.1 hX hbl hbA (lv_at hl 0 rfl) (lv_at hl 3 rfl) (k := 2) rfl (by omega) hL hS dL_253 dL_254 dL_255 dL_256 dL_257 ?_
  refine lw_arg C.1 C.2.1 hX hbl hbA (lv_at hl 0 rfl) (lv_at hl 3 rfl) (k := 3) rfl (by omega) hL hS dL_258 dL_259 dL_260 dL_261 dL_262 ?_
  refine lw_arg C.1 C.2.1 hX hbl hbA (lv_at hl 0 rfl) (lv_at hl 3 rfl) (k := 4) rfl (by omega) hL hS dL_263 dL_264 dL_265 dL_266 dL_267 ?_
  refine lw_arg C.1 C.2.1 hX hbl hbA (lv_at hl 0 rfl) (lv_at hl 3 rfl) (k := 5) rfl (by omega) hL hS dL_268 dL_269 dL_270 dL_271 dL_272 ?_
  exact kk
theorem lc_3 (C : en_cx p s m args meth c code 4 13 D tys aK aV b0) (hX : va_X b L xs s s.heap) (hbl : b < s.heap.size) (hbA : ¬ b0 ≤ b) (hL6 : 6 ≤ L) (hL : L < 2 ^ 31) (hl : lv_has ls 4 [(0, .ref b), (1, .ref (ad 0)), (2, .ref (ad 84)), (3, .int 0)]) (hcs : cs ≤ 600000) (hsl : sl ≤ 7302250) (hW : en_W D tys (fun q => b0 ≤ q) tW_39 ad H) (hS : va_S (fun q => b0 ≤ q) s.heap H locs) (k : lw_go p l e s m args below meth c Q D tys b0 ls cs sl 830) : W p l e room_1 s m args below meth c H locs cs sl Q (F0 m 281 ls []) := by
  obtain ⟨κa, κb, box, h1, h2, h3, h4⟩ := pr_law l (xs 1)
  refine lv_aload_n C.1 C.2.1 dL_281 rfl (lv_at hl 1 rfl) ?_
  refine lw_arg C.1 C.2.1 hX hbl hbA (lv_at hl 0 rfl) (lv_at hl 3 rfl) (k := 1) rfl (by omega) hL hS dL_282 dL_283 dL_284 dL_285 dL_286 ?_
  refine lw_two C (j0 := 0) (j1 := 84) (ia := 27) (ib := 31) (n := 1) (As := [.int (xs 1)]) (pa := 287) (pb := 296) (pe := 830) h1 h2 h3 (h4 _ _) hl.1 hcs hsl dL_287 dL_296 dL_299 (by decide) hW hS (fun H locs x hS kk => ?_) k
  refine lv_aload_n C.1 C.2.1 dL_290 rfl (lv_at hl 2 rfl) ?_
  refine lw_arg C.1 C.2.1 hX hbl hbA (lv_at hl 0 rfl) (lv_at hl 3 rfl) (k := 1) rfl (by omega) hL hS dL_291 dL_292 dL_293 dL_294 dL_295 ?_
  exact kk
theorem lc_4 (C : en_cx p s m args meth c code 4 13 D tys aK aV b0) (hX : va_X b L xs s s.heap) (hbl : b < s.heap.size) (hbA : ¬ b0 ≤ b) (hL6 : 6 ≤ L) (hL : L < 2 ^ 31) (hl : lv_has ls 4 [(0, .ref b), (1, .ref (ad 0)), (2, .ref (ad 84)), (3, .int 0)]) (hcs : cs ≤ 600000) (hsl : sl ≤ 7302250) (hW : en_W D tys (fun q => b0 ≤ q) tW_39 ad H) (hS : va_S (fun q => b0 ≤ q) s.heap H locs) (k : lw_go p l e s m args below meth c Q D tys b0 ls cs sl 830) : W p l e room_1 s m args below meth c H locs cs sl Q (F0 m 304 ls []) := by
  obtain ⟨κa, κb, box, h1, h2, h3, h4⟩ := pr_program l (xs 1)
  refine lv_aload_n C.1 C.2.1 dL_304 rfl (lv_at hl 1 rfl) ?_
  refine lw_arg C.1 C.2.1 hX hbl hbA (lv_at hl 0 rfl) (lv_at hl 3 rfl) (k := 1) rfl (by omega) hL hS dL_305 dL_306 dL_307 dL_308 dL_309 ?_
  refine lw_two C (j0 := 0) (j1 := 84) (ia := 32) (ib := 35) (n := 1) (As := [.int (xs 1)]) (pa := 310) (pb := 319) (pe := 830) h1 h2 h3 (h4 _ _) hl.1 hcs hsl dL_310 dL_319 dL_322 (by decide) hW hS (fun H locs x hS kk => ?_) k
  refine lv_aload_n C.1 C.2.1 dL_313 rfl (lv_at hl 2 rfl) ?_
  refine lw_arg C.1 C.2.1 hX hbl hbA (lv_at hl 0 rfl) (lv_at hl 3 rfl) (k := 1) rfl (by omega) hL hS dL_314 dL_315 dL_316 dL_317 dL_318 ?_
  exact kk
theorem lc_5 (C : en_cx p s m args meth c code 4 13 D tys aK aV b0) (hX : va_X b L xs s s.heap) (hbl : b < s.heap.size) (hbA : ¬ b0 ≤ b) (hL6 : 6 ≤ L) (hL : L < 2 ^ 31) (hl : lv_has ls 4 [(0, .ref b), (1, .ref (ad 0)), (2, .ref (ad 84)), (3, .int 0)]) (hcs : cs ≤ 600000) (hsl : sl ≤ 7302250) (hW : en_W D tys (fun q => b0 ≤ q) tW_39 ad H) (hS : va_S (fun q => b0 ≤ q) s.heap H locs) (k : lw_go p l e s m args below meth c Q D tys b0 ls cs sl 830) : W p l e room_1 s m args below meth c H locs cs sl Q (F0 m 327 ls []) := by
  obtain ⟨κa, κb, box, h1, h2, h3, h4⟩ := pr_run l (xs 1)
  refine lv_aload_n C.1 C.2.1 dL_327 rfl (lv_at hl 1 rfl) ?_
  refine lw_arg C.1 C.2.1 hX hbl hbA (lv_at hl 0 rfl) (lv_at hl 3 rfl) (k := 1) rfl (by omega) hL hS dL_328 dL_329 dL_330 dL_331 dL_332 ?_
  refine lw_two C (j0 := 0) (j1 := 84) (ia := 36) (ib := 39) (n := 1) (As := [.int (xs 1)]) (pa := 333) (pb := 342) (pe := 830) h1 h2 h3 (h4 _ _) hl.1 hcs hsl dL_333 dL_342 dL_345 (by decide) hW hS (fun H locs x hS kk => ?_) k
  refine lv_aload_n C.1 C.2.1 dL_336 rfl (lv_at hl 2 rfl) ?_
  refine lw_arg C.1 C.2.1 hX hbl hbA (lv_at hl 0 rfl) (lv_at hl 3 rfl) (k := 1) rfl (by omega) hL hS dL_337 dL_338 dL_339 dL_340 dL_341 ?_
  exact kk
theorem lc_6 (C : en_cx p s m args meth c code 4 13 D tys aK aV b0) (hX : va_X b L xs s s.heap) (hbl : b < s.heap.size) (hbA : ¬ b0 ≤ b) (hL6 : 6 ≤ L) (hL : L < 2 ^ 31) (hl : lv_has ls 4 [(0, .ref b), (1, .ref (ad 0)), (2, .ref (ad 84)), (3, .int 0)]) (hcs : cs ≤ 600000) (hsl : sl ≤ 7302250) (hW : en_W D tys (fun q => b0 ≤ q) tW_39 ad H) (hS : va_S (fun q => b0 ≤ q) s.heap H locs) (k : lw_go p l e s m args below meth c Q D tys b0 ls cs sl 830) : W p l e room_1 s m args below meth c H locs cs sl Q (F0 m 350 ls []) := by
  obtain ⟨κa, κb, box, h1, h2, h3, h4⟩ := pr_tried l (xs 1) (xs 2)
  refine lv_aload_n C.1 C.2.1 dL_350 rfl (lv_at hl 1 rfl) ?_
  refine lw_arg C.1 C.2.1 hX hbl hbA (lv_at hl 0 rfl) (lv_at hl 3 rfl) (k := 1) rfl (by omega) hL hS dL_351 dL_352 dL_353 dL_354 dL_355 ?_
  refine lw_arg C.1 C.2.1 hX hbl hbA (lv_at hl 0 rfl) (lv_at hl 3 rfl) (k := 2) rfl (by omega) hL hS dL_356 dL_357 dL_358 dL_359 dL_360 ?_
  refine lw_two C (j0 := 0) (j1 := 84) (ia := 40) (ib := 44) (n := 2) (As := [.int (xs 1), .int (xs 2)]) (pa := 361) (pb := 375) (pe := 830) h1 h2 h3 (h4 _ _) hl.1 hcs hsl dL_361 dL_375 dL_378 (by decide) hW hS (fun H locs x hS kk => ?_) k
  refine lv_aload_n C.1 C.2.1 dL_364 rfl (lv_at hl 2 rfl) ?_
  refine lw_arg C.1 C.2.1 hX hbl hbA (lv_at hl 0 rfl) (lv_at hl 3 rfl) (k := 1) rfl (by omega) hL hS dL_365 dL_366 dL_367 dL_368 dL_369 ?_
  refine lw_arg C.1 C.2.1 hX hbl hbA (lv_at hl 0 rfl) (lv_at hl 3 rfl) (k := 2) rfl (by omega) hL hS dL_370 dL_371 dL_372 dL_373 dL_374 ?_
  exact kk
theorem lc_7 (C : en_cx p s m args meth c code 4 13 D tys aK aV b0) (hX : va_X b L xs s s.heap) (hbl : b < s.heap.size) (hbA : ¬ b0 ≤ b) (hL6 : 6 ≤ L) (hL : L < 2 ^ 31) (hl : lv_has ls 4 [(0, .ref b), (1, .ref (ad 0)), (2, .ref (ad 84)), (3, .int 0)]) (hcs : cs ≤ 600000) (hsl : sl ≤ 7302250) (hW : en_W D tys (fun q => b0 ≤ q) tW_39 ad H) (hS : va_S (fun q => b0 ≤ q) s.heap H locs) (k : lw_go p l e s m args below meth c Q D tys b0 ls cs sl 830) : W p l e room_1 s m args below meth c H locs cs sl Q (F0 m 383 ls []) := by
  obtain ⟨κa, κb, box, h1, h2, h3, h4⟩ := pr_lastRun l (xs 1)
  refine lv_aload_n C.1 C.2.1 dL_383 rfl (lv_at hl 1 rfl) ?_
  refine lw_arg C.1 C.2.1 hX hbl hbA (lv_at hl 0 rfl) (lv_at hl 3 rfl) (k := 1) rfl (by omega) hL hS dL_384 dL_385 dL_386 dL_387 dL_388 ?_
  refine lw_two C (j0 := 0) (j1 := 84) (ia := 45) (ib := 48) (n := 1) (As := [.int (xs 1)]) (pa := 389) (pb := 398) (pe := 830) h1 h2 h3 (h4 _ _) hl.1 hcs hsl dL_389 dL_398 dL_401 (by decide) hW hS (fun H locs x hS kk => ?_) k
  refine lv_aload_n C.1 C.2.1 dL_392 rfl (lv_at hl 2 rfl) ?_
  refine lw_arg C.1 C.2.1 hX hbl hbA (lv_at hl 0 rfl) (lv_at hl 3 rfl) (k := 1) rfl (by omega) hL hS dL_393 dL_394 dL_395 dL_396 dL_397 ?_
  exact kk
theorem lc_8 (C : en_cx p s m args meth c code 4 13 D tys aK aV b0) (hX : va_X b L xs s s.heap) (hbl : b < s.heap.size) (hbA : ¬ b0 ≤ b) (hL6 : 6 ≤ L) (hL : L < 2 ^ 31) (hl : lv_has ls 4 [(0, .ref b), (1, .ref (ad 0)), (2, .ref (ad 84)), (3, .int 0)]) (hcs : cs ≤ 600000) (hsl : sl ≤ 7302250) (hW : en_W D tys (fun q => b0 ≤ q) tW_39 ad H) (hS : va_S (fun q => b0 ≤ q) s.heap H locs) (k : lw_go p l e s m args below meth c Q D tys b0 ls cs sl 830) : W p l e room_1 s m args below meth c H locs cs sl Q (F0 m 406 ls []) := by
  obtain ⟨κa, κb, box, h1, h2, h3, h4⟩ := pr_opIs l (xs 1) (xs 2)
  refine lv_aload_n C.1 C.2.1 dL_406 rfl (lv_at hl 1 rfl) ?_
  refine lw_arg C.1 C.2.1 hX hbl hbA (lv_at hl 0 rfl) (lv_at hl 3 rfl) (k := 1) rfl (by omega) hL hS dL_407 dL_408 dL_409 dL_410 dL_411 ?_
  refine lw_arg C.1 C.2.1 hX hbl hbA (lv_at hl 0 rfl) (lv_at hl 3 rfl) (k := 2) rfl (by omega) hL hS dL_412 dL_413 dL_414 dL_415 dL_416 ?_
  refine lw_two C (j0 := 0) (j1 := 84) (ia := 49) (ib := 52) (n := 2) (As := [.int (xs 1), .int (xs 2)]) (pa := 417) (pb := 431) (pe := 830) h1 h2 h3 (h4 _ _) hl.1 hcs hsl dL_417 dL_431 dL_434 (by decide) hW hS (fun H locs x hS kk => ?_) k
  refine lv_aload_n C.1 C.2.1 dL_420 rfl (lv_at hl 2 rfl) ?_
  refine lw_arg C.1 C.2.1 hX hbl hbA (lv_at hl 0 rfl) (lv_at hl 3 rfl) (k := 1) rfl (by omega) hL hS dL_421 dL_422 dL_423 dL_424 dL_425 ?_
  refine lw_arg C.1 C.2.1 hX hbl hbA (lv_at hl 0 rfl) (lv_at hl 3 rfl) (k := 2) rfl (by omega) hL hS dL_426 dL_427 dL_428 dL_429 dL_430 ?_
  exact kk
theorem lc_9 (C : en_cx p s m args meth c code 4 13 D tys aK aV b0) (hX : va_X b L xs s s.heap) (hbl : b < s.heap.size) (hbA : ¬ b0 ≤ b) (hL6 : 6 ≤ L) (hL : L < 2 ^ 31) (hl : lv_has ls 4 [(0, .ref b), (1, .ref (ad 0)), (2, .ref (ad 84)), (3, .int 0)]) (hcs : cs ≤ 600000) (hsl : sl ≤ 7302250) (hW : en_W D tys (fun q => b0 ≤ q) tW_39 ad H) (hS : va_S (fun q => b0 ≤ q) s.heap H locs) (k : lw_go p l e s m args below meth c Q D tys b0 ls cs sl 830) : W p l e room_1 s m args below meth c H locs cs sl Q (F0 m 439 ls []) := by
  obtain ⟨κa, κb, box, h1, h2, h3, h4⟩ := pr_source l (xs 1) (xs 2)
  refine lv_aload_n C.1 C.2.1 dL_439 rfl (lv_at hl 1 rfl) ?_
  refine lw_arg C.1 C.2.1 hX hbl hbA (lv_at hl 0 rfl) (lv_at hl 3 rfl) (k := 1) rfl (by omega) hL hS dL_440 dL_441 dL_442 dL_443 dL_444 ?_
  refine lw_arg C.1 C.2.1 hX hbl hbA (lv_at hl 0 rfl) (lv_at hl 3 rfl) (k := 2) rfl (by omega) hL hS dL_445 dL_446 dL_447 dL_448 dL_449 ?_
  refine lw_two C (j0 := 0) (j1 := 84) (ia := 53) (ib := 56) (n := 2) (As := [.int (xs 1), .int (xs 2)]) (pa := 450) (pb := 464) (pe := 830) h1 h2 h3 (h4 _ _) hl.1 hcs hsl dL_450 dL_464 dL_467 (by decide) hW hS (fun H locs x hS kk => ?_) k
  refine lv_aload_n C.1 C.2.1 dL_453 rfl (lv_at hl 2 rfl) ?_
  refine lw_arg C.1 C.2.1 hX hbl hbA (lv_at hl 0 rfl) (lv_at hl 3 rfl) (k := 1) rfl (by omega) hL hS dL_454 dL_455 dL_456 dL_457 dL_458 ?_
  refine lw_arg C.1 C.2.1 hX hbl hbA (lv_at hl 0 rfl) (lv_at hl 3 rfl) (k := 2) rfl (by omega) hL hS dL_459 dL_460 dL_461 dL_462 dL_463 ?_
  exact kk
theorem lc_10 (C : en_cx p s m args meth c code 4 13 D tys aK aV b0) (hX : va_X b L xs s s.heap) (hbl : b < s.heap.size) (hbA : ¬ b0 ≤ b) (hL6 : 6 ≤ L) (hL : L < 2 ^ 31) (hl : lv_has ls 4 [(0, .ref b), (1, .ref (ad 0)), (2, .ref (ad 84)), (3, .int 0)]) (hcs : cs ≤ 600000) (hsl : sl ≤ 7302250) (hW : en_W D tys (fun q => b0 ≤ q) tW_39 ad H) (hS : va_S (fun q => b0 ≤ q) s.heap H locs) (k : lw_go p l e s m args below meth c Q D tys b0 ls cs sl 830) : W p l e room_1 s m args below meth c H locs cs sl Q (F0 m 472 ls []) := by
  obtain ⟨κa, κb, box, h1, h2, h3, h4⟩ := pr_now l (xs 1)
  refine lv_aload_n C.1 C.2.1 dL_472 rfl (lv_at hl 1 rfl) ?_
  refine lw_arg C.1 C.2.1 hX hbl hbA (lv_at hl 0 rfl) (lv_at hl 3 rfl) (k := 1) rfl (by omega) hL hS dL_473 dL_474 dL_475 dL_476 dL_477 ?_
  refine lw_two C (j0 := 0) (j1 := 84) (ia := 57) (ib := 60) (n := 1) (As := [.int (xs 1)]) (pa := 478) (pb := 487) (pe := 830) h1 h2 h3 (h4 _ _) hl.1 hcs hsl dL_478 dL_487 dL_490 (by decide) hW hS (fun H locs x hS kk => ?_) k
  refine lv_aload_n C.1 C.2.1 dL_481 rfl (lv_at hl 2 rfl) ?_
  refine lw_arg C.1 C.2.1 hX hbl hbA (lv_at hl 0 rfl) (lv_at hl 3 rfl) (k := 1) rfl (by omega) hL hS dL_482 dL_483 dL_484 dL_485 dL_486 ?_
  exact kk
theorem lc_11 (C : en_cx p s m args meth c code 4 13 D tys aK aV b0) (hX : va_X b L xs s s.heap) (hbl : b < s.heap.size) (hbA : ¬ b0 ≤ b) (hL6 : 6 ≤ L) (hL : L < 2 ^ 31) (hl : lv_has ls 4 [(0, .ref b), (1, .ref (ad 0)), (2, .ref (ad 84)), (3, .int 0)]) (hcs : cs ≤ 600000) (hsl : sl ≤ 7302250) (hW : en_W D tys (fun q => b0 ≤ q) tW_39 ad H) (hS : va_S (fun q => b0 ≤ q) s.heap H locs) (k : lw_go p l e s m args below meth c Q D tys b0 ls cs sl 830) : W p l e room_1 s m args below meth c H locs cs sl Q (F0 m 495 ls []) := by
  obtain ⟨κa, κb, box, h1, h2, h3, h4⟩ := pr_plain l (xs 1)
  refine lv_aload_n C.1 C.2.1 dL_495 rfl (lv_at hl 1 rfl) ?_
  refine lw_arg C.1 C.2.1 hX hbl hbA (lv_at hl 0 rfl) (lv_at hl 3 rfl) (k := 1) rfl (by omega) hL hS dL_496 dL_497 dL_498 dL_499 dL_500 ?_
  refine lw_two C (j0 := 0) (j1 := 84) (ia := 61) (ib := 64) (n := 1) (As := [.int (xs 1)]) (pa := 501) (pb := 510) (pe := 830) h1 h2 h3 (h4 _ _) hl.1 hcs hsl dL_501 dL_510 dL_513 (by decide) hW hS (fun H locs x hS kk => ?_) k
  refine lv_aload_n C.1 C.2.1 dL_504 rfl (lv_at hl 2 rfl) ?_
  refine lw_arg C.1 C.2.1 hX hbl hbA (lv_at hl 0 rfl) (lv_at hl 3 rfl) (k := 1) rfl (by omega) hL hS dL_505 dL_506 dL_507 dL_508 dL_509 ?_
  exact kk
theorem lc_12 (C : en_cx p s m args meth c code 4 13 D tys aK aV b0) (hX : va_X b L xs s s.heap) (hbl : b < s.heap.size) (hbA : ¬ b0 ≤ b) (hL6 : 6 ≤ L) (hL : L < 2 ^ 31) (hl : lv_has ls 4 [(0, .ref b), (1, .ref (ad 0)), (2, .ref (ad 84)), (3, .int 0)]) (hcs : cs ≤ 600000) (hsl : sl ≤ 7302250) (hW : en_W D tys (fun q => b0 ≤ q) tW_39 ad H) (hS : va_S (fun q => b0 ≤ q) s.heap H locs) (k : lw_go p l e s m args below meth c Q D tys b0 ls cs sl 830) : W p l e room_1 s m args below meth c H locs cs sl Q (F0 m 518 ls []) := by
  obtain ⟨κa, κb, box, h1, h2, h3, h4⟩ := pr_unlike l (xs 1)
  refine lv_aload_n C.1 C.2.1 dL_518 rfl (lv_at hl 1 rfl) ?_
  refine lw_arg C.1 C.2.1 hX hbl hbA (lv_at hl 0 rfl) (lv_at hl 3 rfl) (k := 1) rfl (by omega) hL hS dL_519 dL_520 dL_521 dL_522 dL_523 ?_
  refine lw_two C (j0 := 0) (j1 := 84) (ia := 65) (ib := 68) (n := 1) (As := [.int (xs 1)]) (pa := 524) (pb := 533) (pe := 830) h1 h2 h3 (h4 _ _) hl.1 hcs hsl dL_524 dL_533 dL_536 (by decide) hW hS (fun H locs x hS kk => ?_) k
  refine lv_aload_n C.1 C.2.1 dL_527 rfl (lv_at hl 2 rfl) ?_
  refine lw_arg C.1 C.2.1 hX hbl hbA (lv_at hl 0 rfl) (lv_at hl 3 rfl) (k := 1) rfl (by omega) hL hS dL_528 dL_529 dL_530 dL_531 dL_532 ?_
  exact kk
theorem lc_13 (C : en_cx p s m args meth c code 4 13 D tys aK aV b0) (hX : va_X b L xs s s.heap) (hbl : b < s.heap.size) (hbA : ¬ b0 ≤ b) (hL6 : 6 ≤ L) (hL : L < 2 ^ 31) (hl : lv_has ls 4 [(0, .ref b), (1, .ref (ad 0)), (2, .ref (ad 84)), (3, .int 0)]) (hcs : cs ≤ 600000) (hsl : sl ≤ 7302250) (hW : en_W D tys (fun q => b0 ≤ q) tW_39 ad H) (hS : va_S (fun q => b0 ≤ q) s.heap H locs) (k : lw_go p l e s m args below meth c Q D tys b0 ls cs sl 830) : W p l e room_1 s m args below meth c H locs cs sl Q (F0 m 541 ls []) := by
  obtain ⟨κa, κb, box, h1, h2, h3, h4⟩ := pr_fastest l (xs 1)
  refine lv_aload_n C.1 C.2.1 dL_541 rfl (lv_at hl 1 rfl) ?_
  refine lw_arg C.1 C.2.1 hX hbl hbA (lv_at hl 0 rfl) (lv_at hl 3 rfl) (k := 1) rfl (by omega) hL hS dL_542 dL_543 dL_544 dL_545 dL_546 ?_
  refine lw_two C (j0 := 0) (j1 := 84) (ia := 69) (ib := 72) (n := 1) (As := [.int (xs 1)]) (pa := 547) (pb := 556) (pe := 830) h1 h2 h3 (h4 _ _) hl.1 hcs hsl dL_547 dL_556 dL_559 (by decide) hW hS (fun H locs x hS kk => ?_) k
  refine lv_aload_n C.1 C.2.1 dL_550 rfl (lv_at hl 2 rfl) ?_
  refine lw_arg C.1 C.2.1 hX hbl hbA (lv_at hl 0 rfl) (lv_at hl 3 rfl) (k := 1) rfl (by omega) hL hS dL_551 dL_552 dL_553 dL_554 dL_555 ?_
  exact kk
theorem lc_14 (C : en_cx p s m args meth c code 4 13 D tys aK aV b0) (hX : va_X b L xs s s.heap) (hbl : b < s.heap.size) (hbA : ¬ b0 ≤ b) (hL6 : 6 ≤ L) (hL : L < 2 ^ 31) (hl : lv_has ls 4 [(0, .ref b), (1, .ref (ad 0)), (2, .ref (ad 84)), (3, .int 0)]) (hcs : cs ≤ 600000) (hsl : sl ≤ 7302250) (hW : en_W D tys (fun q => b0 ≤ q) tW_39 ad H) (hS : va_S (fun q => b0 ≤ q) s.heap H locs) (k : lw_go p l e s m args below meth c Q D tys b0 ls cs sl 830) : W p l e room_1 s m args below meth c H locs cs sl Q (F0 m 564 ls []) := by
  obtain ⟨κa, κb, box, h1, h2, h3, h4⟩ := pr_cautious l (xs 1) (xs 2)
  refine lv_aload_n C.1 C.2.1 dL_564 rfl (lv_at hl 1 rfl) ?_
  refine lw_arg C.1 C.2.1 hX hbl hbA (lv_at hl 0 rfl) (lv_at hl 3 rfl) (k := 1) rfl (by omega) hL hS dL_565 dL_566 dL_567 dL_568 dL_569 ?_
  refine lw_arg C.1 C.2.1 hX hbl hbA (lv_at hl 0 rfl) (lv_at hl 3 rfl) (k := 2) rfl (by omega) hL hS dL_570 dL_571 dL_572 dL_573 dL_574 ?_
  refine lw_two C (j0 := 0) (j1 := 84) (ia := 73) (ib := 76) (n := 2) (As := [.int (xs 1), .int (xs 2)]) (pa := 575) (pb := 589) (pe := 830) h1 h2 h3 (h4 _ _) hl.1 hcs hsl dL_575 dL_589 dL_592 (by decide) hW hS (fun H locs x hS kk => ?_) k
  refine lv_aload_n C.1 C.2.1 dL_578 rfl (lv_at hl 2 rfl) ?_
  refine lw_arg C.1 C.2.1 hX hbl hbA (lv_at hl 0 rfl) (lv_at hl 3 rfl) (k := 1) rfl (by omega) hL hS dL_579 dL_580 dL_581 dL_582 dL_583 ?_
  refine lw_arg C.1 C.2.1 hX hbl hbA (lv_at hl 0 rfl) (lv_at hl 3 rfl) (k := 2) rfl (by omega) hL hS dL_584 dL_585 dL_586 dL_587 dL_588 ?_
  exact kk
theorem lc_15 (C : en_cx p s m args meth c code 4 13 D tys aK aV b0) (hX : va_X b L xs s s.heap) (hbl : b < s.heap.size) (hbA : ¬ b0 ≤ b) (hL6 : 6 ≤ L) (hL : L < 2 ^ 31) (hl : lv_has ls 4 [(0, .ref b), (1, .ref (ad 0)), (2, .ref (ad 84)), (3, .int 0)]) (hcs : cs ≤ 600000) (hsl : sl ≤ 7302250) (hW : en_W D tys (fun q => b0 ≤ q) tW_39 ad H) (hS : va_S (fun q => b0 ≤ q) s.heap H locs) (k : lw_go p l e s m args below meth c Q D tys b0 ls cs sl 830) : W p l e room_1 s m args below meth c H locs cs sl Q (F0 m 597 ls []) := by
  obtain ⟨κa, κb, box, h1, h2, h3, h4⟩ := pr_worst l (xs 1)
  refine lv_aload_n C.1 C.2.1 dL_597 rfl (lv_at hl 1 rfl) ?_
  refine lw_arg C.1 C.2.1 hX hbl hbA (lv_at hl 0 rfl) (lv_at hl 3 rfl) (k := 1) rfl (by omega) hL hS dL_598 dL_599 dL_600 dL_601 dL_602 ?_
  refine lw_two C (j0 := 0) (j1 := 84) (ia := 77) (ib := 80) (n := 1) (As := [.int (xs 1)]) (pa := 603) (pb := 612) (pe := 830) h1 h2 h3 (h4 _ _) hl.1 hcs hsl dL_603 dL_612 dL_615 (by decide) hW hS (fun H locs x hS kk => ?_) k
  refine lv_aload_n C.1 C.2.1 dL_606 rfl (lv_at hl 2 rfl) ?_
  refine lw_arg C.1 C.2.1 hX hbl hbA (lv_at hl 0 rfl) (lv_at hl 3 rfl) (k := 1) rfl (by omega) hL hS dL_607 dL_608 dL_609 dL_610 dL_611 ?_
  exact kk
theorem lc_16 (C : en_cx p s m args meth c code 4 13 D tys aK aV b0) (hX : va_X b L xs s s.heap) (hbl : b < s.heap.size) (hbA : ¬ b0 ≤ b) (hL6 : 6 ≤ L) (hL : L < 2 ^ 31) (hl : lv_has ls 4 [(0, .ref b), (1, .ref (ad 0)), (2, .ref (ad 84)), (3, .int 0)]) (hcs : cs ≤ 600000) (hsl : sl ≤ 7302250) (hW : en_W D tys (fun q => b0 ≤ q) tW_39 ad H) (hS : va_S (fun q => b0 ≤ q) s.heap H locs) (k : lw_go p l e s m args below meth c Q D tys b0 ls cs sl 830) : W p l e room_1 s m args below meth c H locs cs sl Q (F0 m 620 ls []) := by
  obtain ⟨κa, κb, box, h1, h2, h3, h4⟩ := pr_deep l
  refine lv_aload_n C.1 C.2.1 dL_620 rfl (lv_at hl 1 rfl) ?_
  refine lw_two C (j0 := 0) (j1 := 84) (ia := 81) (ib := 85) (n := 0) (As := []) (pa := 621) (pb := 625) (pe := 830) h1 h2 h3 (h4 _ _) hl.1 hcs hsl dL_621 dL_625 dL_628 (by decide) hW hS (fun H locs x hS kk => ?_) k
  refine lv_aload_n C.1 C.2.1 dL_624 rfl (lv_at hl 2 rfl) ?_
  exact kk
theorem lc_17 (C : en_cx p s m args meth c code 4 13 D tys aK aV b0) (hX : va_X b L xs s s.heap) (hbl : b < s.heap.size) (hbA : ¬ b0 ≤ b) (hL6 : 6 ≤ L) (hL : L < 2 ^ 31) (hl : lv_has ls 4 [(0, .ref b), (1, .ref (ad 0)), (2, .ref (ad 84)), (3, .int 0)]) (hcs : cs ≤ 600000) (hsl : sl ≤ 7302250) (hW : en_W D tys (fun q => b0 ≤ q) tW_39 ad H) (hS : va_S (fun q => b0 ≤ q) s.heap H locs) (k : lw_go p l e s m args below meth c Q D tys b0 ls cs sl 830) : W p l e room_1 s m args below meth c H locs cs sl Q (F0 m 633 ls []) := by
  obtain ⟨κa, κb, box, h1, h2, h3, h4⟩ := pr_mix l
  refine lv_aload_n C.1 C.2.1 dL_633 rfl (lv_at hl 1 rfl) ?_
  refine lw_two C (j0 := 0) (j1 := 84) (ia := 86) (ib := 89) (n := 0) (As := []) (pa := 634) (pb := 638) (pe := 830) h1 h2 h3 (h4 _ _) hl.1 hcs hsl dL_634 dL_638 dL_641 (by decide) hW hS (fun H locs x hS kk => ?_) k
  refine lv_aload_n C.1 C.2.1 dL_637 rfl (lv_at hl 2 rfl) ?_
  exact kk
theorem lc_18 (C : en_cx p s m args meth c code 4 13 D tys aK aV b0) (hX : va_X b L xs s s.heap) (hbl : b < s.heap.size) (hbA : ¬ b0 ≤ b) (hL6 : 6 ≤ L) (hL : L < 2 ^ 31) (hl : lv_has ls 4 [(0, .ref b), (1, .ref (ad 0)), (2, .ref (ad 84)), (3, .int 0)]) (hcs : cs ≤ 600000) (hsl : sl ≤ 7302250) (hW : en_W D tys (fun q => b0 ≤ q) tW_39 ad H) (hS : va_S (fun q => b0 ≤ q) s.heap H locs) (k : lw_go p l e s m args below meth c Q D tys b0 ls cs sl 830) : W p l e room_1 s m args below meth c H locs cs sl Q (F0 m 646 ls []) := by
  obtain ⟨κa, κb, box, h1, h2, h3, h4⟩ := pr_watch l (xs 1) (xs 2)
  refine lv_aload_n C.1 C.2.1 dL_646 rfl (lv_at hl 1 rfl) ?_
  refine lw_arg C.1 C.2.1 hX hbl hbA (lv_at hl 0 rfl) (lv_at hl 3 rfl) (k := 1) rfl (by omega) hL hS dL_647 dL_648 dL_649 dL_650 dL_651 ?_
  refine lw_arg C.1 C.2.1 hX hbl hbA (lv_at hl 0 rfl) (lv_at hl 3 rfl) (k := 2) rfl (by omega) hL hS dL_652 dL_653 dL_654 dL_655 dL_656 ?_
  refine lw_two C (j0 := 0) (j1 := 84) (ia := 90) (ib := 93) (n := 2) (As := [.int (xs 1), .int (xs 2)]) (pa := 657) (pb := 671) (pe := 830) h1 h2 h3 (h4 _ _) hl.1 hcs hsl dL_657 dL_671 dL_674 (by decide) hW hS (fun H locs x hS kk => ?_) k
  refine lv_aload_n C.1 C.2.1 dL_660 rfl (lv_at hl 2 rfl) ?_
  refine lw_arg C.1 C.2.1 hX hbl hbA (lv_at hl 0 rfl) (lv_at hl 3 rfl) (k := 1) rfl (by omega) hL hS dL_661 dL_662 dL_663 dL_664 dL_665 ?_
  refine lw_arg C.1 C.2.1 hX hbl hbA (lv_at hl 0 rfl) (lv_at hl 3 rfl) (k := 2) rfl (by omega) hL hS dL_666 dL_667 dL_668 dL_669 dL_670 ?_
  exact kk
theorem lc_19 (C : en_cx p s m args meth c code 4 13 D tys aK aV b0) (hX : va_X b L xs s s.heap) (hbl : b < s.heap.size) (hbA : ¬ b0 ≤ b) (hL6 : 6 ≤ L) (hL : L < 2 ^ 31) (hl : lv_has ls 4 [(0, .ref b), (1, .ref (ad 0)), (2, .ref (ad 84)), (3, .int 0)]) (hcs : cs ≤ 600000) (hsl : sl ≤ 7302250) (hW : en_W D tys (fun q => b0 ≤ q) tW_39 ad H) (hS : va_S (fun q => b0 ≤ q) s.heap H locs) (k : lw_go p l e s m args below meth c Q D tys b0 ls cs sl 830) : W p l e room_1 s m args below meth c H locs cs sl Q (F0 m 679 ls []) := by
  obtain ⟨κa, κb, box, h1, h2, h3, h4⟩ := pr_watched l (xs 1) (xs 2) (xs 3)
  refine lv_aload_n C.1 C.2.1 dL_679 rfl (lv_at hl 1 rfl) ?_
  refine lw_arg C.1 C.2.1 hX hbl hbA (lv_at hl 0 rfl) (lv_at hl 3 rfl) (k := 1) rfl (by omega) hL hS dL_680 dL_681 dL_682 dL_683 dL_684 ?_
  refine lw_arg C.1 C.2.1 hX hbl hbA (lv_at hl 0 rfl) (lv_at hl 3 rfl) (k := 2) rfl (by omega) hL hS dL_685 dL_686 dL_687 dL_688 dL_689 ?_
  refine lw_arg C.1 C.2.1 hX hbl hbA (lv_at hl 0 rfl) (lv_at hl 3 rfl) (k := 3) rfl (by omega) hL hS dL_690 dL_691 dL_692 dL_693 dL_694 ?_
  refine lw_two C (j0 := 0) (j1 := 84) (ia := 94) (ib := 98) (n := 3) (As := [.int (xs 1), .int (xs 2), .int (xs 3)]) (pa := 695) (pb := 714) (pe := 830) h1 h2 h3 (h4 _ _) hl.1 hcs hsl dL_695 dL_714 dL_717 (by decide) hW hS (fun H locs x hS kk => ?_) k
  refine lv_aload_n C.1 C.2.1 dL_698 rfl (lv_at hl 2 rfl) ?_
  refine lw_arg C.1 C.2.1 hX hbl hbA (lv_at hl 0 rfl) (lv_at hl 3 rfl) (k := 1) rfl (by omega) hL hS dL_699 dL_700 dL_701 dL_702 dL_703 ?_
  refine lw_arg C.1 C.2.1 hX hbl hbA (lv_at hl 0 rfl) (lv_at hl 3 rfl) (k := 2) rfl (by omega) hL hS dL_704 dL_705 dL_706 dL_707 dL_708 ?_
  refine lw_arg C.1 C.2.1 hX hbl hbA (lv_at hl 0 rfl) (lv_at hl 3 rfl) (k := 3) rfl (by omega) hL hS dL_709 dL_710 dL_711 dL_712 dL_713 ?_
  exact kk
theorem lc_20 (C : en_cx p s m args meth c code 4 13 D tys aK aV b0) (hX : va_X b L xs s s.heap) (hbl : b < s.heap.size) (hbA : ¬ b0 ≤ b) (hL6 : 6 ≤ L) (hL : L < 2 ^ 31) (hl : lv_has ls 4 [(0, .ref b), (1, .ref (ad 0)), (2, .ref (ad 84)), (3, .int 0)]) (hcs : cs ≤ 600000) (hsl : sl ≤ 7302250) (hW : en_W D tys (fun q => b0 ≤ q) tW_39 ad H) (hS : va_S (fun q => b0 ≤ q) s.heap H locs) (k : lw_go p l e s m args below meth c Q D tys b0 ls cs sl 830) : W p l e room_1 s m args below meth c H locs cs sl Q (F0 m 722 ls []) := by
  obtain ⟨κa, κb, box, h1, h2, h3, h4⟩ := pr_forget l
  refine lv_aload_n C.1 C.2.1 dL_722 rfl (lv_at hl 1 rfl) ?_
  refine lw_two C (j0 := 0) (j1 := 84) (ia := 99) (ib := 102) (n := 0) (As := []) (pa := 723) (pb := 727) (pe := 830) h1 h2 h3 (h4 _ _) hl.1 hcs hsl dL_723 dL_727 dL_730 (by decide) hW hS (fun H locs x hS kk => ?_) k
  refine lv_aload_n C.1 C.2.1 dL_726 rfl (lv_at hl 2 rfl) ?_
  exact kk
theorem lc_21 (C : en_cx p s m args meth c code 4 13 D tys aK aV b0) (hX : va_X b L xs s s.heap) (hbl : b < s.heap.size) (hbA : ¬ b0 ≤ b) (hL6 : 6 ≤ L) (hL : L < 2 ^ 31) (hl : lv_has ls 4 [(0, .ref b), (1, .ref (ad 0)), (2, .ref (ad 84)), (3, .int 0)]) (hcs : cs ≤ 600000) (hsl : sl ≤ 7302250) (hW : en_W D tys (fun q => b0 ≤ q) tW_39 ad H) (hS : va_S (fun q => b0 ≤ q) s.heap H locs) (k : lw_go p l e s m args below meth c Q D tys b0 ls cs sl 830) : W p l e room_1 s m args below meth c H locs cs sl Q (F0 m 735 ls []) := by
  obtain ⟨κa, κb, box, h1, h2, h3, h4⟩ := pr_seed l (xs 1)
  refine lv_aload_n C.1 C.2.1 dL_735 rfl (lv_at hl 1 rfl) ?_
  refine lw_arg C.1 C.2.1 hX hbl hbA (lv_at hl 0 rfl) (lv_at hl 3 rfl) (k := 1) rfl (by omega) hL hS dL_736 dL_737 dL_738 dL_739 dL_740 ?_
  refine lw_two C (j0 := 0) (j1 := 84) (ia := 103) (ib := 107) (n := 1) (As := [.int (xs 1)]) (pa := 741) (pb := 750) (pe := 830) h1 h2 h3 (h4 _ _) hl.1 hcs hsl dL_741 dL_750 dL_753 (by decide) hW hS (fun H locs x hS kk => ?_) k
  refine lv_aload_n C.1 C.2.1 dL_744 rfl (lv_at hl 2 rfl) ?_
  refine lw_arg C.1 C.2.1 hX hbl hbA (lv_at hl 0 rfl) (lv_at hl 3 rfl) (k := 1) rfl (by omega) hL hS dL_745 dL_746 dL_747 dL_748 dL_749 ?_
  exact kk
theorem lc_22 (C : en_cx p s m args meth c code 4 13 D tys aK aV b0) (hX : va_X b L xs s s.heap) (hbl : b < s.heap.size) (hbA : ¬ b0 ≤ b) (hL6 : 6 ≤ L) (hL : L < 2 ^ 31) (hl : lv_has ls 4 [(0, .ref b), (1, .ref (ad 0)), (2, .ref (ad 84)), (3, .int 0)]) (hcs : cs ≤ 600000) (hsl : sl ≤ 7302250) (hW : en_W D tys (fun q => b0 ≤ q) tW_39 ad H) (hS : va_S (fun q => b0 ≤ q) s.heap H locs) (k : lw_go p l e s m args below meth c Q D tys b0 ls cs sl 830) : W p l e room_1 s m args below meth c H locs cs sl Q (F0 m 758 ls []) := by
  obtain ⟨κa, κb, box, h1, h2, h3, h4⟩ := pr_keep l
  refine lv_aload_n C.1 C.2.1 dL_758 rfl (lv_at hl 1 rfl) ?_
  refine lw_two C (j0 := 0) (j1 := 84) (ia := 108) (ib := 111) (n := 0) (As := []) (pa := 759) (pb := 763) (pe := 830) h1 h2 h3 (h4 _ _) hl.1 hcs hsl dL_759 dL_763 dL_766 (by decide) hW hS (fun H locs x hS kk => ?_) k
  refine lv_aload_n C.1 C.2.1 dL_762 rfl (lv_at hl 2 rfl) ?_
  exact kk
theorem lc_23 (C : en_cx p s m args meth c code 4 13 D tys aK aV b0) (hX : va_X b L xs s s.heap) (hbl : b < s.heap.size) (hbA : ¬ b0 ≤ b) (hL6 : 6 ≤ L) (hL : L < 2 ^ 31) (hl : lv_has ls 4 [(0, .ref b), (1, .ref (ad 0)), (2, .ref (ad 84)), (3, .int 0)]) (hcs : cs ≤ 600000) (hsl : sl ≤ 7302250) (hW : en_W D tys (fun q => b0 ≤ q) tW_39 ad H) (hS : va_S (fun q => b0 ≤ q) s.heap H locs) (k : lw_go p l e s m args below meth c Q D tys b0 ls cs sl 830) : W p l e room_1 s m args below meth c H locs cs sl Q (F0 m 771 ls []) := by
  obtain ⟨κa, κb, box, h1, h2, h3, h4⟩ := pr_undo l
  refine lv_aload_n C.1 C.2.1 dL_771 rfl (lv_at hl 1 rfl) ?_
  refine lw_two C (j0 := 0) (j1 := 84) (ia := 112) (ib := 116) (n := 0) (As := []) (pa := 772) (pb := 776) (pe := 830) h1 h2 h3 (h4 _ _) hl.1 hcs hsl dL_772 dL_776 dL_779 (by decide) hW hS (fun H locs x hS kk => ?_) k
  refine lv_aload_n C.1 C.2.1 dL_775 rfl (lv_at hl 2 rfl) ?_
  exact kk
theorem lc_24 (C : en_cx p s m args meth c code 4 13 D tys aK aV b0) (hX : va_X b L xs s s.heap) (hbl : b < s.heap.size) (hbA : ¬ b0 ≤ b) (hL6 : 6 ≤ L) (hL : L < 2 ^ 31) (hl : lv_has ls 4 [(0, .ref b), (1, .ref (ad 0)), (2, .ref (ad 84)), (3, .int 0)]) (hcs : cs ≤ 600000) (hsl : sl ≤ 7302250) (hW : en_W D tys (fun q => b0 ≤ q) tW_39 ad H) (hS : va_S (fun q => b0 ≤ q) s.heap H locs) (k : lw_go p l e s m args below meth c Q D tys b0 ls cs sl 830) : W p l e room_1 s m args below meth c H locs cs sl Q (F0 m 784 ls []) := by
  obtain ⟨κa, κb, box, h1, h2, h3, h4⟩ := pr_check l (xs 1)
  refine lv_aload_n C.1 C.2.1 dL_784 rfl (lv_at hl 1 rfl) ?_
  refine lw_arg C.1 C.2.1 hX hbl hbA (lv_at hl 0 rfl) (lv_at hl 3 rfl) (k := 1) rfl (by omega) hL hS dL_785 dL_786 dL_787 dL_788 dL_789 ?_
  refine lw_two C (j0 := 0) (j1 := 84) (ia := 117) (ib := 120) (n := 1) (As := [.int (xs 1)]) (pa := 790) (pb := 799) (pe := 830) h1 h2 h3 (h4 _ _) hl.1 hcs hsl dL_790 dL_799 dL_802 (by decide) hW hS (fun H locs x hS kk => ?_) k
  refine lv_aload_n C.1 C.2.1 dL_793 rfl (lv_at hl 2 rfl) ?_
  refine lw_arg C.1 C.2.1 hX hbl hbA (lv_at hl 0 rfl) (lv_at hl 3 rfl) (k := 1) rfl (by omega) hL hS dL_794 dL_795 dL_796 dL_797 dL_798 ?_
  exact kk
theorem lc_25 (C : en_cx p s m args meth c code 4 13 D tys aK aV b0) (hX : va_X b L xs s s.heap) (hbl : b < s.heap.size) (hbA : ¬ b0 ≤ b) (hL6 : 6 ≤ L) (hL : L < 2 ^ 31) (hl : lv_has ls 4 [(0, .ref b), (1, .ref (ad 0)), (2, .ref (ad 84)), (3, .int 0)]) (hcs : cs ≤ 600000) (hsl : sl ≤ 7302250) (hW : en_W D tys (fun q => b0 ≤ q) tW_39 ad H) (hS : va_S (fun q => b0 ≤ q) s.heap H locs) (k : lw_go p l e s m args below meth c Q D tys b0 ls cs sl 830) : W p l e room_1 s m args below meth c H locs cs sl Q (F0 m 807 ls []) := by
  obtain ⟨κa, κb, box, h1, h2, h3, h4⟩ := pr_count l (xs 1)
  refine lv_aload_n C.1 C.2.1 dL_807 rfl (lv_at hl 1 rfl) ?_
  refine lw_arg C.1 C.2.1 hX hbl hbA (lv_at hl 0 rfl) (lv_at hl 3 rfl) (k := 1) rfl (by omega) hL hS dL_808 dL_809 dL_810 dL_811 dL_812 ?_
  refine lw_two C (j0 := 0) (j1 := 84) (ia := 121) (ib := 124) (n := 1) (As := [.int (xs 1)]) (pa := 813) (pb := 822) (pe := 830) h1 h2 h3 (h4 _ _) hl.1 hcs hsl dL_813 dL_822 dL_825 (by decide) hW hS (fun H locs x hS kk => ?_) k
  refine lv_aload_n C.1 C.2.1 dL_816 rfl (lv_at hl 2 rfl) ?_
  refine lw_arg C.1 C.2.1 hX hbl hbA (lv_at hl 0 rfl) (lv_at hl 3 rfl) (k := 1) rfl (by omega) hL hS dL_817 dL_818 dL_819 dL_820 dL_821 ?_
  exact kk
end ENT
end
section
theorem lw_arr {args : Array Value} {s : State} {ty : FieldType} (h : (Cond.arrayClass ty).before args s = true) (ht : ty = .int ∨ ty = .boolean ∨ ty = .byte) : ∃ cA : ClassId, ArrOfT s cA ty ∧ va_RA s cA ty := by
  obtain ⟨cA, k, comp, h1, h2, h3⟩ := Cond.arrayClass_spec (args := args) (first := s) (o := none) (s := s) (idx := []) h
  refine ⟨cA, fun n z => ⟨(fun q hq => by cases hq), k, h2, comp, h3⟩, ?_⟩
  rcases ht with rfl | rfl | rfl <;> exact h1
set_option maxRecDepth 100000 in
set_option maxHeartbeats 4000000 in
theorem lw_cx {p : Program} {s : State} {m : MethodId} {meth : Method} {c : Code} {b L : Nat} {xs : Nat → Int32} (C0 : lw_At p s m meth c b L xs) : ∃ (D : va_G) (tys : List (ClassId × FieldType)) (aK aV : Nat), en_cx p s m #[Value.ref b] meth c code 4 13 D tys aK aV s.heap.size := by
  obtain ⟨hx, hb, hr, hml, hown, hts, hX, hbl, hlocks, hgv⟩ := C0
  obtain ⟨c0, i0, hk0⟩ := u_known (C := RX0) (T := TX0) (N := 9) (n := 9) hts inX0 (hts (.instantiable RX0 9) (List.mem_of_getElem? (i := 242) (by decide +kernel)))
  obtain ⟨c1, i1, hk1⟩ := u_known (C := RX1) (T := TX1) (N := 12) (n := 12) hts inX1 (hts (.instantiable RX1 12) (List.mem_of_getElem? (i := 168) (by decide +kernel)))
  obtain ⟨c2, i2, hk2⟩ := u_known (C := RX2) (T := TX2) (N := 2) (n := 2) hts inX2 (hts (.instantiable RX2 2) (List.mem_of_getElem? (i := 413) (by decide +kernel)))
  obtain ⟨c3, i3, hk3⟩ := u_known (C := RX3) (T := TX3) (N := 13) (n := 13) hts inX3 (hts (.instantiable RX3 13) (List.mem_of_getElem? (i := 174) (by decide +kernel)))
  obtain ⟨c4, i4, hk4⟩ := u_known (C := RX4) (T := TX4) (N := 6) (n := 6) hts inX4 (hts (.instantiable RX4 6) (List.mem_of_getElem? (i := 329) (by decide +kernel)))
  obtain ⟨c5, i5, hk5⟩ := u_known (C := RX5) (T := TX5) (N := 3) (n := 3) hts inX5 (hts (.instantiable RX5 3) (List.mem_of_getElem? (i := 433) (by decide +kernel)))
  obtain ⟨c6, i6, hk6⟩ := u_known (C := RX6) (T := TX6) (N := 6) (n := 6) hts inX6 (hts (.instantiable RX6 6) (List.mem_of_getElem? (i := 289) (by decide +kernel)))
  obtain ⟨c7, i7, hk7⟩ := u_known (C := RX7) (T := TX7) (N := 5) (n := 5) hts inX7 (hts (.instantiable RX7 5) (List.mem_of_getElem? (i := 143) (by decide +kernel)))
  obtain ⟨c8, i8, hk8⟩ := u_known (C := RX8) (T := TX8) (N := 11) (n := 11) hts inX8 (hts (.instantiable RX8 11) (List.mem_of_getElem? (i := 135) (by decide +kernel)))
  obtain ⟨c9, i9, hk9⟩ := u_known (C := RX9) (T := TX9) (N := 96) (n := 96) hts inX9 (hts (.instantiable RX9 96) (List.mem_of_getElem? (i := 1087) (by decide +kernel)))
  obtain ⟨dC, dI, hKc⟩ : ∃ (dC : Nat → ClassId) (dI : Nat → Nat → Nat), ∀ (k : Nat) (q : vw_C), vwCl[k]? = some q → u_Kn s q.1 q.2.1 q.2.2 (dC k) (dI k) := by
    refine ⟨fun k => match k with
      | 0 => c0
      | 1 => c1
      | 2 => c2
      | 3 => c3
      | 4 => c4
      | 5 => c5
      | 6 => c6
      | 7 => c7
      | 8 => c8
      | _ => c9, fun k => match k with
      | 0 => i0
      | 1 => i1
      | 2 => i2
      | 3 => i3
      | 4 => i4
      | 5 => i5
      | 6 => i6
      | 7 => i7
      | 8 => i8
      | _ => i9, ?_⟩
    intro k q hq
    match k, hq with
    | 0, hq => cases hq; exact hk0
    | 1, hq => cases hq; exact hk1
    | 2, hq => cases hq; exact hk2
    | 3, hq => cases hq; exact hk3
    | 4, hq => cases hq; exact hk4
    | 5, hq => cases hq; exact hk5
    | 6, hq => cases hq; exact hk6
    | 7, hq => cases hq; exact hk7
    | 8, hq => cases hq; exact hk8
    | 9, hq => cases hq; exact hk9
    | k + 10, hq => simp [vwCl] at hq
  obtain ⟨cI, hI1, hI2⟩ := lw_arr (hts _ (en_arr_in _ List.mem_cons_self)) (Or.inl rfl)
  obtain ⟨cZ, hZ1, hZ2⟩ := lw_arr (hts _ (en_arr_in _ (List.mem_cons_of_mem _ List.mem_cons_self))) (Or.inr (Or.inl rfl))
  obtain ⟨cB, hB1, hB2⟩ := lw_arr (hts _ (en_arr_in _ (List.mem_cons_of_mem _ (List.mem_cons_of_mem _ List.mem_cons_self)))) (Or.inr (Or.inr rfl))
  have hK : va_K (dC, dI) vwCl [(cI, .int), (cZ, .boolean), (cB, .byte)] s := ⟨hKc, fun k q hq => by
    match k, hq with
    | 0, hq => cases hq; exact ⟨hI1, hI2⟩
    | 1, hq => cases hq; exact ⟨hZ1, hZ2⟩
    | 2, hq => cases hq; exact ⟨hB1, hB2⟩
    | k + 3, hq => simp at hq⟩
  have hA : ∀ a : Nat, a < s.heap.size → ¬ (fun q : Nat => s.heap.size ≤ q) a := fun a h => by show ¬ s.heap.size ≤ a; omega
  have hf := flat_of_before _ hgv
  obtain ⟨adK, adV, hSt, hev⟩ := vk_Sof (args := #[Value.ref b]) (s := s) (N := 1) (tm := fun _ => .string "LoadsAhead$Law" 27) (len := [7]) (byt := [[105, 107, 99, 115, 110, 114, 119]]) (A := fun q => s.heap.size ≤ q) (fun i hi => by
      have : i = 0 := by omega
      subst this
      decide) (fun i hi => hf _ (by decide +kernel)) (fun i hi => hf _ (by decide +kernel)) (fun i hi => hf _ (by decide +kernel)) (fun i hi => by
      have : i = 0 := by omega
      subst this
      exact hf _ (by decide +kernel)) (fun i hi j hj => by
      have : i = 0 := by omega
      subst this
      have hj : j < 7 := hj
      match j, hj with
      | 0, _ => exact hf _ (by decide +kernel)
      | 1, _ => exact hf _ (by decide +kernel)
      | 2, _ => exact hf _ (by decide +kernel)
      | 3, _ => exact hf _ (by decide +kernel)
      | 4, _ => exact hf _ (by decide +kernel)
      | 5, _ => exact hf _ (by decide +kernel)
      | 6, _ => exact hf _ (by decide +kernel)
      | k + 7, h => omega) (fun i j hi hj hij => by omega) hA
  have hX4 : va_Z "java/lang/String" "COMPACT_STRINGS" "Z" (.int 1) (fun q => s.heap.size ≤ q) s s.heap := va_Zof (hts (.laysStatic "java/lang/String" "COMPACT_STRINGS" "Z") (List.mem_of_getElem? (i := 257) (by decide +kernel))) (hts (.initialized "java/lang/String") (List.mem_of_getElem? (i := 121) (by decide +kernel))) (va_eqt (hf _ (by decide +kernel))) hA
  have hX2 : vk_R "LoadsAhead$Law" 27 "ikcsnrw" (adK 0) s := vk_R.of (A := #[Value.ref b]) (hts (.stringRef "LoadsAhead$Law" 27 "ikcsnrw") (List.mem_of_getElem? (i := 247) (by decide +kernel))) (hev 0 Nat.zero_lt_one)
  refine ⟨(dC, dI), [(cI, .int), (cZ, .boolean), (cB, .byte)], adK 0, adV 0, hx, hb, hml, hown, fun w hw => hts w (List.mem_filter.mp hw).1, hK, fun t ht => ?_, Nat.le_refl _, ⟨fun w hw => ?_, hX2, ⟨fun i hi => ?_, fun i j hi hj _ => by omega⟩, hX4, ?_⟩, hlocks⟩
  · match t, ht with
    | 0, _ => exact ⟨cI, rfl⟩
    | 1, _ => exact ⟨cZ, rfl⟩
    | 2, _ => exact ⟨cB, rfl⟩
    | k + 3, h => omega
  · obtain ⟨a, i, x, t, rfl⟩ := en_nest_w hw
    exact va_Nw.of rfl (hts _ (en_nest_in _ hw))
  · have : i = 0 := by omega
    subst this
    exact hSt.1 0 hi
  · exact over_moved (Vm.Alike.refl s.vm) (hts (.arrayOver (.array .int)) (List.mem_of_getElem? (i := 439) (by decide +kernel)))
section ENZ
variable {p : Program} {l : Launch} {e : Env} {s : State} {m : MethodId} {below : List Frame} {meth : Method} {c : Code} {D : va_G} {tys : List (ClassId × FieldType)} {aK aV cs sl b L : Nat} {xs : Nat → Int32}
/-- the law's end, with 1 -/
theorem lw_out (C : en_cx p s m #[Value.ref b] meth c code 4 13 D tys aK aV s.heap.size) (hr : meth.sig.returnType = ret) (hcs : cs ≤ 600000) (hsl : sl ≤ 7302250) {ls : Array Slot} {H : Heap} {locs : List Loc} (hS : va_S (fun q => s.heap.size ≤ q) s.heap H locs) : W p l e room_1 s m #[Value.ref b] below meth c H locs cs sl (lw_Z below #[Value.ref b] s) (F0 m 836 ls []) := by
  refine lv_iconst (v := 1) C.1 C.2.1 dL_836 (by decide) ?_
  refine va_forget (fun q hq => hS.2.2 q hq) ?_
  refine W.widen (k := 600000) (n := 7302250) hcs hsl ?_
  exact lw_ret C.1 C.2.1 hr C.2.2.2.2.2.2.2.2.2 dL_837
theorem lw_sub6 (hL : L < 2 ^ 31) : (Int32.ofNat L - 6).toInt = (L : Int) - 6 := by
  have h1 : (Int32.ofNat L).toInt = (L : Int) := nI_toInt hL
  have h2 : (6 : Int32).toInt = 6 := rfl
  rw [fb_subI (by rw [h1, h2]; omega) (by rw [h1, h2]; omega), h1, h2]
theorem lw_fin (C : en_cx p s m #[Value.ref b] meth c code 4 13 D tys aK aV s.heap.size) (hr : meth.sig.returnType = ret) (hX : va_X b L xs s s.heap) (hbl : b < s.heap.size) (hL : L ≤ 6) {ls : Array Slot} {x1 x2 : Value} (hl : lv_has ls 4 [(0, .ref b), (1, x1), (2, x2), (3, .int 0)]) (hcs : cs ≤ 600000) (hsl : sl ≤ 7302250) : lw_go p l e s m #[Value.ref b] below meth c (lw_Z below #[Value.ref b] s) D tys s.heap.size ls cs sl 830 := by
  intro T ad H locs hW hS
  have hbA : ¬ (fun q : Nat => s.heap.size ≤ q) b := Nat.not_le.mpr hbl
  have hl2 := lv_sub (l' := [(3, .int 0), (0, .ref b)]) hl [3, 0] rfl
  refine lv_iinc (v := 6) (k := 0) (lv' := [(3, .int 6), (0, .ref b)]) C.1 C.2.1 dL_830 hl2 rfl (by decide) (by decide) rfl (fun ls hl => ?_)
  refine lv_goto (tgt := 18) C.1 C.2.1 dL_833 (by decide) ?_
  refine lv_iload_n C.1 C.2.1 dL_18 rfl (lv_at hl 0 rfl) ?_
  refine lv_aload_n C.1 C.2.1 dL_19 rfl (lv_at hl 1 rfl) ?_
  refine va_slen C.1 C.2.1 hX hbl hbA hS dL_20 ?_
  refine lv_bipush (v := 6) C.1 C.2.1 dL_21 (by decide) ?_
  refine lv_isub C.1 C.2.1 dL_23 ?_
  refine lv_icmp_gt (tgt := 836) C.1 C.2.1 dL_24 (by decide) (fun _ => lw_out C hr hcs hsl hS) (fun hc => absurd ?_ hc)
  rw [fa_lt, lw_sub6 (by omega)]
  show (L : Int) - 6 < 6
  omega
set_option maxHeartbeats 4000000 in
theorem lw_head (C : en_cx p s m #[Value.ref b] meth c code 4 13 D tys aK aV s.heap.size) (hr : meth.sig.returnType = ret) (hX : va_X b L xs s s.heap) (hbl : b < s.heap.size) (hL : L ≤ 6) {ls : Array Slot} {ad : Nat → Nat} {H : Heap} {locs : List Loc} (hl : lv_has ls 4 [(0, .ref b), (1, .ref (ad 0)), (2, .ref (ad 84)), (3, .int 0)]) (hcs : cs ≤ 600000) (hsl : sl ≤ 7302250) (hW : en_W D tys (fun q => s.heap.size ≤ q) tW_39 ad H) (hS : va_S (fun q => s.heap.size ≤ q) s.heap H locs) :
    W p l e room_1 s m #[Value.ref b] below meth c H locs cs sl (lw_Z below #[Value.ref b] s) (F0 m 18 ls []) := by
  have hbA : ¬ (fun q : Nat => s.heap.size ≤ q) b := Nat.not_le.mpr hbl
  have hL2 : L < 2 ^ 31 := by omega
  refine lv_iload_n C.1 C.2.1 dL_18 rfl (lv_at hl 3 rfl) ?_
  refine lv_aload_n C.1 C.2.1 dL_19 rfl (lv_at hl 0 rfl) ?_
  refine va_slen C.1 C.2.1 hX hbl hbA hS dL_20 ?_
  refine lv_bipush (v := 6) C.1 C.2.1 dL_21 (by decide) ?_
  refine lv_isub C.1 C.2.1 dL_23 ?_
  refine lv_icmp_gt (tgt := 836) C.1 C.2.1 dL_24 (by decide) (fun _ => lw_out C hr hcs hsl hS) (fun hc => ?_)
  rw [fa_lt, lw_sub6 hL2] at hc
  have hL6 : 6 ≤ L := by
    have h0 : (0 : Int32).toInt = 0 := rfl
    rw [h0] at hc
    omega
  have kk := lw_fin (p := p) (l := l) (e := e) (below := below) C hr hX hbl hL hl hcs hsl
  refine lv_aload_n C.1 C.2.1 dL_27 rfl (lv_at hl 0 rfl) ?_
  refine lv_iload_n C.1 C.2.1 dL_28 rfl (lv_at hl 3 rfl) ?_
  refine va_sld C.1 C.2.1 hX hbl hbA hS (i := 0) (vp_in_iff.mpr ⟨by decide, by show (0 : Int) < L; omega⟩) dL_29 ?_
  refine lv_bipush (v := 31) C.1 C.2.1 dL_30 (by decide) ?_
  refine lv_iand C.1 C.2.1 dL_32 ?_
  obtain ⟨j, hj, ej⟩ := pk_andE (xs (0 : Int32).toNatClampNeg) (m := 31) 5 rfl
  rw [ej]
  have hj : j < 32 := hj
  match j, hj with
  | 0, _ => exact lv_tableIn (tgt := 152) C.1 C.2.1 dL_33 (by decide) (by decide) (off := 119) (by decide) (by decide) (lc_0 C hX hbl hbA hL6 hL2 hl hcs hsl hW hS kk)
  | 1, _ => exact lv_tableIn (tgt := 185) C.1 C.2.1 dL_33 (by decide) (by decide) (off := 152) (by decide) (by decide) (lc_1 C hX hbl hbA hL6 hL2 hl hcs hsl hW hS kk)
  | 2, _ => exact lv_tableIn (tgt := 218) C.1 C.2.1 dL_33 (by decide) (by decide) (off := 185) (by decide) (by decide) (lc_2 C hX hbl hbA hL6 hL2 hl hcs hsl hW hS kk)
  | 3, _ => exact lv_tableIn (tgt := 281) C.1 C.2.1 dL_33 (by decide) (by decide) (off := 248) (by decide) (by decide) (lc_3 C hX hbl hbA hL6 hL2 hl hcs hsl hW hS kk)
  | 4, _ => exact lv_tableIn (tgt := 304) C.1 C.2.1 dL_33 (by decide) (by decide) (off := 271) (by decide) (by decide) (lc_4 C hX hbl hbA hL6 hL2 hl hcs hsl hW hS kk)
  | 5, _ => exact lv_tableIn (tgt := 327) C.1 C.2.1 dL_33 (by decide) (by decide) (off := 294) (by decide) (by decide) (lc_5 C hX hbl hbA hL6 hL2 hl hcs hsl hW hS kk)
  | 6, _ => exact lv_tableIn (tgt := 350) C.1 C.2.1 dL_33 (by decide) (by decide) (off := 317) (by decide) (by decide) (lc_6 C hX hbl hbA hL6 hL2 hl hcs hsl hW hS kk)
  | 7, _ => exact lv_tableIn (tgt := 383) C.1 C.2.1 dL_33 (by decide) (by decide) (off := 350) (by decide) (by decide) (lc_7 C hX hbl hbA hL6 hL2 hl hcs hsl hW hS kk)
  | 8, _ => exact lv_tableIn (tgt := 406) C.1 C.2.1 dL_33 (by decide) (by decide) (off := 373) (by decide) (by decide) (lc_8 C hX hbl hbA hL6 hL2 hl hcs hsl hW hS kk)
  | 9, _ => exact lv_tableIn (tgt := 439) C.1 C.2.1 dL_33 (by decide) (by decide) (off := 406) (by decide) (by decide) (lc_9 C hX hbl hbA hL6 hL2 hl hcs hsl hW hS kk)
  | 10, _ => exact lv_tableIn (tgt := 472) C.1 C.2.1 dL_33 (by decide) (by decide) (off := 439) (by decide) (by decide) (lc_10 C hX hbl hbA hL6 hL2 hl hcs hsl hW hS kk)
  | 11, _ => exact lv_tableIn (tgt := 495) C.1 C.2.1 dL_33 (by decide) (by decide) (off := 462) (by decide) (by decide) (lc_11 C hX hbl hbA hL6 hL2 hl hcs hsl hW hS kk)
  | 12, _ => exact lv_tableIn (tgt := 518) C.1 C.2.1 dL_33 (by decide) (by decide) (off := 485) (by decide) (by decide) (lc_12 C hX hbl hbA hL6 hL2 hl hcs hsl hW hS kk)
  | 13, _ => exact lv_tableIn (tgt := 541) C.1 C.2.1 dL_33 (by decide) (by decide) (off := 508) (by decide) (by decide) (lc_13 C hX hbl hbA hL6 hL2 hl hcs hsl hW hS kk)
  | 14, _ => exact lv_tableIn (tgt := 564) C.1 C.2.1 dL_33 (by decide) (by decide) (off := 531) (by decide) (by decide) (lc_14 C hX hbl hbA hL6 hL2 hl hcs hsl hW hS kk)
  | 15, _ => exact lv_tableIn (tgt := 597) C.1 C.2.1 dL_33 (by decide) (by decide) (off := 564) (by decide) (by decide) (lc_15 C hX hbl hbA hL6 hL2 hl hcs hsl hW hS kk)
  | 16, _ => exact lv_tableIn (tgt := 620) C.1 C.2.1 dL_33 (by decide) (by decide) (off := 587) (by decide) (by decide) (lc_16 C hX hbl hbA hL6 hL2 hl hcs hsl hW hS kk)
  | 17, _ => exact lv_tableIn (tgt := 633) C.1 C.2.1 dL_33 (by decide) (by decide) (off := 600) (by decide) (by decide) (lc_17 C hX hbl hbA hL6 hL2 hl hcs hsl hW hS kk)
  | 18, _ => exact lv_tableIn (tgt := 646) C.1 C.2.1 dL_33 (by decide) (by decide) (off := 613) (by decide) (by decide) (lc_18 C hX hbl hbA hL6 hL2 hl hcs hsl hW hS kk)
  | 19, _ => exact lv_tableIn (tgt := 679) C.1 C.2.1 dL_33 (by decide) (by decide) (off := 646) (by decide) (by decide) (lc_19 C hX hbl hbA hL6 hL2 hl hcs hsl hW hS kk)
  | 20, _ => exact lv_tableIn (tgt := 722) C.1 C.2.1 dL_33 (by decide) (by decide) (off := 689) (by decide) (by decide) (lc_20 C hX hbl hbA hL6 hL2 hl hcs hsl hW hS kk)
  | 21, _ => exact lv_tableIn (tgt := 735) C.1 C.2.1 dL_33 (by decide) (by decide) (off := 702) (by decide) (by decide) (lc_21 C hX hbl hbA hL6 hL2 hl hcs hsl hW hS kk)
  | 22, _ => exact lv_tableIn (tgt := 758) C.1 C.2.1 dL_33 (by decide) (by decide) (off := 725) (by decide) (by decide) (lc_22 C hX hbl hbA hL6 hL2 hl hcs hsl hW hS kk)
  | 23, _ => exact lv_tableIn (tgt := 771) C.1 C.2.1 dL_33 (by decide) (by decide) (off := 738) (by decide) (by decide) (lc_23 C hX hbl hbA hL6 hL2 hl hcs hsl hW hS kk)
  | 24, _ => exact lv_tableIn (tgt := 784) C.1 C.2.1 dL_33 (by decide) (by decide) (off := 751) (by decide) (by decide) (lc_24 C hX hbl hbA hL6 hL2 hl hcs hsl hW hS kk)
  | 25, _ => exact lv_tableIn (tgt := 807) C.1 C.2.1 dL_33 (by decide) (by decide) (off := 774) (by decide) (by decide) (lc_25 C hX hbl hbA hL6 hL2 hl hcs hsl hW hS kk)
  | 26, _ => exact lv_tableOut (tgt := 830) C.1 C.2.1 dL_33 (by decide) (by decide) (kk _ _ _ _ hW hS)
  | 27, _ => exact lv_tableOut (tgt := 830) C.1 C.2.1 dL_33 (by decide) (by decide) (kk _ _ _ _ hW hS)
  | 28, _ => exact lv_tableOut (tgt := 830) C.1 C.2.1 dL_33 (by decide) (by decide) (kk _ _ _ _ hW hS)
  | 29, _ => exact lv_tableOut (tgt := 830) C.1 C.2.1 dL_33 (by decide) (by decide) (kk _ _ _ _ hW hS)
  | 30, _ => exact lv_tableOut (tgt := 830) C.1 C.2.1 dL_33 (by decide) (by decide) (kk _ _ _ _ hW hS)
  | 31, _ => exact lv_tableOut (tgt := 830) C.1 C.2.1 dL_33 (by decide) (by decide) (kk _ _ _ _ hW hS)
  | k + 32, h => omega
end ENZ
set_option maxHeartbeats 4000000 in
set_option maxRecDepth 100000 in
theorem whole_start {p : Program} {e : Env} {s : State} {m : MethodId} {below : List Frame} {meth : Method} {c : Code} (l : Launch) (hflags : l.flags = flags0) {b L : Nat} {xs : Nat → Int32} (hL : L ≤ 6) (C0 : lw_At p s m meth c b L xs) : W p l e room_1 s m #[Value.ref b] below meth c s.heap [] 0 0 (lw_Z below #[Value.ref b] s) (entryFrame m ([Value.ref b] : List Value).toArray 4) := by
  obtain ⟨D, tys, aK, aV, C⟩ := lw_cx C0
  obtain ⟨hx, hb, hr, hml, hown, hts, hX, hbl, hlocks, hgv⟩ := C0
  have hS : va_S (fun q : Nat => s.heap.size ≤ q) s.heap s.heap [] := va_S.rf
  have hl := lv_entry ([.ref b]) (n := 4) (Nat.le_of_ble_eq_true rfl)
  rw [lg_entry_eq]
  generalize (lg_sl ([.ref b]) ++ List.replicate (4 - (lg_sl ([.ref b])).length) Slot.unset).toArray = ls at hl ⊢
  have hl : lv_has ls 4 [(0, .ref b)] := hl
  have hW : en_W D tys (fun q : Nat => s.heap.size ≤ q) [] (fun _ => 0) s.heap := ⟨[], rfl, fun k t h => by simp at h, fun k q h => by simp at h, ⟨fun i j p q h => by simp at h, fun k q h => by simp at h⟩⟩
  refine lw_new (T := []) (ad := fun _ => 0) (ci := 8) (r := (RX8, TX8, 11)) C rfl rfl (by decide +kernel) (Nat.le_of_ble_eq_true rfl) (Nat.le_of_ble_eq_true rfl) dL_0 hW hS (fun ad1 H1 _ hW1 hS1 => ?_)
  refine lv_dup C.1 C.2.1 dL_3 rfl ?_
  refine lw_callI (T := [.inr (8, en_df 8 11)]) (κ := kk_18) (j := 0) C (by decide +kernel : en_find 13 9 en_cl = some (3, 0, 0)) (r := (yX8_init, prog_1_method_1_code, 1, none)) rfl (ok_18 l) rfl rfl Nat.zero_lt_one (by decide +kernel) rfl (Nat.le_of_ble_eq_true rfl) (Nat.le_of_ble_eq_true rfl) (Nat.le_of_ble_eq_true rfl) (Nat.le_of_ble_eq_true rfl) (Nat.le_of_ble_eq_true rfl) hl.1 dL_4 hW1 hS1 (fun ad2 H2 locs2 hag2 hlen2 hW2 hS2 => ?_)
  have e2 : ad1 ([] : en_T).length = ad2 0 := (hag2 0 Nat.zero_lt_one).symm
  rw [e2]
  refine lv_astore_n (lv' := [(1, .ref (ad2 0)), (0, .ref b)]) C.1 C.2.1 dL_7 rfl hl (by decide) rfl (fun ls hl => ?_)
  refine lw_new (T := k_T1 kk_18) (ad := ad2) (ci := 9) (r := (RX9, TX9, 96)) C rfl rfl (by decide +kernel) (Nat.le_of_ble_eq_true rfl) (Nat.le_of_ble_eq_true rfl) dL_8 hW2 hS2 (fun ad3 H3 hag3 hW3 hS3 => ?_)
  refine lv_dup C.1 C.2.1 dL_11 rfl ?_
  have hlen : (k_T1 kk_18).length = 84 := by decide +kernel
  have hlen3 : (k_T1 kk_18 ++ [.inr (9, en_df 9 96)] : en_T).length = 84 + 1 := by rw [List.length_append, hlen]; rfl
  rw [hlen]
  refine lw_callI (T := k_T1 kk_18 ++ [.inr (9, en_df 9 96)]) (κ := kk_19) (j := 84) C (by decide +kernel : en_find 13 12 en_cl = some (3, 135, 0)) (r := (yX9_init, prog_11_method_1_code, 1, none)) rfl (ok_19 l) rfl rfl (by rw [hlen3]; decide) (by decide +kernel) rfl (Nat.le_of_ble_eq_true rfl) (Nat.le_of_ble_eq_true rfl) (Nat.le_of_ble_eq_true rfl) (Nat.le_of_ble_eq_true rfl) (Nat.le_of_ble_eq_true rfl) hl.1 dL_12 hW3 hS3 (fun ad4 H4 locs4 hag4 hlen4 hW4 hS4 => ?_)
  have e3 : ad3 84 = ad4 84 := (hag4 84 (by rw [hlen3]; decide)).symm
  rw [e3]
  refine lv_astore_n (lv' := [(2, .ref (ad4 84)), (1, .ref (ad2 0)), (0, .ref b)]) C.1 C.2.1 dL_15 rfl hl (by decide) rfl (fun ls hl => ?_)
  refine lv_iconst (v := 0) C.1 C.2.1 dL_16 (by decide) ?_
  refine lv_istore_n (lv' := [(3, .int 0), (2, .ref (ad4 84)), (1, .ref (ad2 0)), (0, .ref b)]) C.1 C.2.1 dL_17 rfl hl (by decide) rfl (fun ls hl => ?_)
  have e4 : ad2 0 = ad4 0 := by rw [hag4 0 (by rw [hlen3]; decide), hag3 0 (by rw [hlen]; decide)]
  rw [e4] at hl
  exact lw_head C hr hX hbl hL (lv_sub hl [3, 2, 1, 0] rfl) (Nat.le_of_ble_eq_true rfl) (Nat.le_of_ble_eq_true rfl) hW4 hS4
set_option maxHeartbeats 4000000 in
theorem lw_walk (l : Launch) (hflags : l.flags = flags0) (b : Addr) (xs : List Int32) : MetFree l x (headSpec (Jvm.Cond.code x code maxLocals ret :: tables_1) room_1) (lw_P b xs) (fun _ _ _ _ _ => True) lw_Q := by
  refine MetFree.of_bodyS (code := code) (maxLocals := maxLocals) (ret := ret) (by decide) ?_ ?_
  · intro args s m h hn
    obtain ⟨meth, c, h1, h2, h3, h4, h5, h6, -, -⟩ := Cond.code_spec hn (atoms_spec (ws := Jvm.Cond.code x code maxLocals ret :: tables_1) h _ List.mem_cons_self)
    exact ⟨meth, c, h1, h2, h3, h4, h5, h6⟩
  · intro p e s m args below meth c s₁ B hml0 hP _
    obtain ⟨rfl, hx, hbd, hgv⟩ := hP
    obtain ⟨scr, harrAt, hlist, hof, hsmall⟩ := hx
    obtain ⟨hcb, hkn, -, -⟩ := State.arrayAt?_spec harrAt
    have hown : s.vm.findClass R_law = some m.cls := findClass_of_methodNamed B.named
    have hts0 : ∀ c ∈ (Jvm.Cond.code x code maxLocals ret :: tables_1), c.before #[Value.ref b] s = true := atoms_spec (ws := Jvm.Cond.code x code maxLocals ret :: tables_1) B.pre
    have hts : ∀ w ∈ lw_tbl, w.before #[Value.ref b] s = true := k2_hts_sels lw_privs (fun w hw => hts0 w (List.mem_cons_of_mem _ hw)) lw_privs_ok
    have hml : c.maxLocals = 4 := B.maxLocals_eq (hts0 _ List.mem_cons_self)
    have X₀ : Stand p l e room_1 s m #[Value.ref b] below meth c s₁ [] 0 0 := Stand.of_body B
    have hh0 : s₁.heap = s.heap := by rw [B.state]; rfl
    have hsz : scr.slots.size = xs.length := by rw [← Array.length_toList, hlist, List.length_map]
    have hval : ∀ j : Nat, j < xs.length → scr.slots[j]? = some (.int (xs.getD j 0)) := fun j hj => by
      rw [← Array.getElem?_toList, hlist]
      simp [hj]
    have hbl : b < s.heap.size := (Array.getElem?_eq_some_iff.mp hcb).1
    have hX : va_X b xs.length (fun j => xs.getD j 0) s s.heap := ⟨scr, hcb, hof, hkn, hsz, hval⟩
    have K : W p l e room_1 s m #[Value.ref b] below meth c s₁.heap [] 0 0 (lw_Z below #[Value.ref b] s) (entryFrame m ([Value.ref b] : List Value).toArray 4) := by
      rw [hh0]
      exact whole_start l hflags hbd ⟨B.exec, B.bytes, B.returns, hml, hown, hts, hX, hbl, B.notSynchronized, hgv⟩
    obtain ⟨t, a1, o, b1, b2, b3⟩ := K s₁ rfl X₀
    exact ⟨t, o, a1, b1, b2, b3⟩
theorem lw_pre_spec {args : Array Value} {s : State} (h : (Jvm.Cond.and given_1 narrow_1).before args s = true) (hr : rest_1_c.before args s = true) : ∃ (b : Addr) (xs : List Int32), lw_P b xs args s := by
  have hs := flat_of_before _ h
  have hq := flat_of_before _ hr
  have hc : (Cond.count 1).before args s = true := hs _ (by decide +kernel)
  have harr : (Cond.arrayOf (.arg 0) .int).before args s = true := hs _ (by decide +kernel)
  have hle : (Cond.le (.length (.arg 0)) (.int 6)).before args s = true := hs _ (by decide +kernel)
  have hlen : (Cond.isInt (.length (.arg 0))).before args s = true := hq _ (by decide +kernel)
  have hall : (Cond.all (.arg 0) (.isInt (.elem (.arg 0) (.index 0)))).before args s = true := hq _ (by decide +kernel)
  obtain ⟨b, xs, hb, hx⟩ := State.ints_of_pre rfl harr hlen hall
  have hsm : xs.length < 2 ^ 31 := hx.choose_spec.2.2.2
  have hev : (Term.length (.arg 0)).eval args s none [] s = some (.int xs.length.toInt32) := hx.length_eval hb
  have hv := Cond.le_ints hev (show (Term.int 6).eval args s none [] s = some (.int 6) from rfl)
  have hd : xs.length.toInt32 ≤ 6 := by
    simpa [Cond.before, Cond.holds, hv] using hle
  have hN : xs.length ≤ 6 := (Int32.ofNat_le_ofNat hsm (by decide)).mp (show Int32.ofNat xs.length ≤ Int32.ofNat 6 from hd)
  exact ⟨b, xs, Cond.one_arg hc (show args[0]? = some (.ref b) from hb), hx, hN, h⟩
theorem lw_comes (l : Launch) (hflags : l.flags = flags0) : Comes l x (Jvm.Cond.code x code maxLocals ret :: tables_1) room_1 (fun tb e args s => Calls_1 tb e args s ∧ rest_1 tb e args s ∧ Pre_1 tb e args s)
    (fun _ _ args s o t => lw_Q args s o t) := by
  intro p e ha hc hk s m args below hf hfit hheap happ hpre
  obtain ⟨b, xs, hP⟩ := lw_pre_spec hpre.2.2 hpre.2.1
  obtain ⟨k, o, h1, h2, h3, hQ⟩ := lw_walk l hflags b xs p e ha hc hk s m args below hf ((Spec.applies_iff_loose hf).mp happ).1 hP trivial
  exact ⟨k, o, h1, h2, h3, hQ⟩
theorem lw_frame {s t : State} {o : Outcome} {args : Array Value} (h : Framed s o t [] 600000 7302250) :
    Framed s o t (fieldLocs frame_1_writes args s ++ arrayLocs frame_1_arrays args s ++ staticLocs frame_1_statics s) 600000 7302250 := h
theorem lw_limb (L : Cond) (hL : ∀ (args : Array Value) (s t : State), L.after args s (.returned (some (.int 1))) t = true) :
    ArmFor flags0 classFile x code maxLocals ret World_1 tables_1 room_1 Calls_1 rest_1 Pre_1
      (fun tb e a s o t => postC L tb e a s o t ∧ Framed s o t (fieldLocs frame_1_writes a s ++ arrayLocs frame_1_arrays a s ++ staticLocs frame_1_statics s) 600000 7302250) := by
  intro l hflags _ _ p e ha hc hk s m args below hf hfit hheap happ hpre
  obtain ⟨k, o, h1, h2, h3, rfl, hF⟩ := lw_comes l hflags p e ha hc hk s m args below hf hfit hheap happ hpre
  exact ⟨k, _, h1, h2, h3, hL args s _, lw_frame hF⟩
theorem i_vc : Claimed_1_1 ∧ Claimed_1_2 := ⟨lw_limb limb_1_1 (fun args s t => by simp [limb_1_1, Cond.after, Cond.holds, Cond.value]), lw_limb limb_1_2 (fun args s t => Cond.after_iff.mpr (by
  first | (rw [show limb_1_2 = Cond.eq .result (.int 1) from rfl, Cond.eq_ints (x := 1) (y := 1) rfl rfl]; simp; done) | (simp [limb_1_2, Cond.value, Term.eval]; done)))⟩
end
