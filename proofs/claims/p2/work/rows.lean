section
-- ===== PART A: goes FIRST, ahead of the names: the tables' words, and 'selects' of the private methods out of them =====
/-- a private method of a class that the tables say can be made, by its rows of tables_1 -/
def lw_okq (q : MethodName × Nat) : Prop := (q.1.cls ≠ "java/lang/invoke/MethodHandle" ∧ q.1.cls ≠ "java/lang/invoke/VarHandle") ∧ Cond.instantiable q.1.cls q.2 ∈ tables_1 ∧ Cond.privateMethod q.1 ∈ tables_1 ∧ Cond.instanceMethod q.1 ∈ tables_1
theorem lw_p0 : lw_okq (⟨"LoadsAhead$Law", "readRule", "(LLoadsAhead$Tape;I)Z"⟩, 9) := ⟨⟨by decide +kernel, by decide +kernel⟩, List.mem_of_getElem? (i := 127) (by decide +kernel), List.mem_of_getElem? (i := 403) (by decide +kernel), List.mem_of_getElem? (i := 404) (by decide +kernel)⟩
theorem lw_p1 : lw_okq (⟨"LoadsAhead$Law", "readSum", "(LLoadsAhead$Tape;I)Z"⟩, 9) := ⟨⟨by decide +kernel, by decide +kernel⟩, List.mem_of_getElem? (i := 127) (by decide +kernel), List.mem_of_getElem? (i := 419) (by decide +kernel), List.mem_of_getElem? (i := 420) (by decide +kernel)⟩
theorem lw_p2 : lw_okq (⟨"LoadsAhead$Law", "readProduct", "(LLoadsAhead$Tape;I)Z"⟩, 9) := ⟨⟨by decide +kernel, by decide +kernel⟩, List.mem_of_getElem? (i := 127) (by decide +kernel), List.mem_of_getElem? (i := 423) (by decide +kernel), List.mem_of_getElem? (i := 424) (by decide +kernel)⟩
theorem lw_p3 : lw_okq (⟨"LoadsAhead$Law", "readFactor", "(LLoadsAhead$Tape;I)Z"⟩, 9) := ⟨⟨by decide +kernel, by decide +kernel⟩, List.mem_of_getElem? (i := 127) (by decide +kernel), List.mem_of_getElem? (i := 427) (by decide +kernel), List.mem_of_getElem? (i := 428) (by decide +kernel)⟩
theorem lw_p4 : lw_okq (⟨"LoadsAhead$Law", "addStep", "(II)I"⟩, 9) := ⟨⟨by decide +kernel, by decide +kernel⟩, List.mem_of_getElem? (i := 127) (by decide +kernel), List.mem_of_getElem? (i := 449) (by decide +kernel), List.mem_of_getElem? (i := 450) (by decide +kernel)⟩
theorem lw_p5 : lw_okq (⟨"LoadsAhead$Law", "readEither", "(LLoadsAhead$Tape;I)Z"⟩, 9) := ⟨⟨by decide +kernel, by decide +kernel⟩, List.mem_of_getElem? (i := 127) (by decide +kernel), List.mem_of_getElem? (i := 531) (by decide +kernel), List.mem_of_getElem? (i := 532) (by decide +kernel)⟩
theorem lw_p6 : lw_okq (⟨"LoadsAhead$Law", "readBoth", "(LLoadsAhead$Tape;I)Z"⟩, 9) := ⟨⟨by decide +kernel, by decide +kernel⟩, List.mem_of_getElem? (i := 127) (by decide +kernel), List.mem_of_getElem? (i := 535) (by decide +kernel), List.mem_of_getElem? (i := 536) (by decide +kernel)⟩
theorem lw_p7 : lw_okq (⟨"LoadsAhead$Law", "readTest", "(LLoadsAhead$Tape;I)Z"⟩, 9) := ⟨⟨by decide +kernel, by decide +kernel⟩, List.mem_of_getElem? (i := 127) (by decide +kernel), List.mem_of_getElem? (i := 539) (by decide +kernel), List.mem_of_getElem? (i := 540) (by decide +kernel)⟩
theorem lw_p8 : lw_okq (⟨"LoadsAhead$Law", "skipToHere", "(I)V"⟩, 9) := ⟨⟨by decide +kernel, by decide +kernel⟩, List.mem_of_getElem? (i := 127) (by decide +kernel), List.mem_of_getElem? (i := 543) (by decide +kernel), List.mem_of_getElem? (i := 544) (by decide +kernel)⟩
theorem lw_p9 : lw_okq (⟨"LoadsAhead$Program", "readOp", "(LLoadsAhead$Tape;I)Z"⟩, 13) := ⟨⟨by decide +kernel, by decide +kernel⟩, List.mem_of_getElem? (i := 59) (by decide +kernel), List.mem_of_getElem? (i := 574) (by decide +kernel), List.mem_of_getElem? (i := 575) (by decide +kernel)⟩
theorem lw_p10 : lw_okq (⟨"LoadsAhead$Program", "readGiven", "(LLoadsAhead$Tape;I)Z"⟩, 13) := ⟨⟨by decide +kernel, by decide +kernel⟩, List.mem_of_getElem? (i := 59) (by decide +kernel), List.mem_of_getElem? (i := 584) (by decide +kernel), List.mem_of_getElem? (i := 585) (by decide +kernel)⟩
theorem lw_p11 : lw_okq (⟨"LoadsAhead$Program", "readNumber", "(LLoadsAhead$Tape;I)Z"⟩, 13) := ⟨⟨by decide +kernel, by decide +kernel⟩, List.mem_of_getElem? (i := 59) (by decide +kernel), List.mem_of_getElem? (i := 593) (by decide +kernel), List.mem_of_getElem? (i := 594) (by decide +kernel)⟩
theorem lw_p12 : lw_okq (⟨"LoadsAhead$Program", "readReckoning", "(LLoadsAhead$Tape;I)Z"⟩, 13) := ⟨⟨by decide +kernel, by decide +kernel⟩, List.mem_of_getElem? (i := 59) (by decide +kernel), List.mem_of_getElem? (i := 598) (by decide +kernel), List.mem_of_getElem? (i := 599) (by decide +kernel)⟩
theorem lw_p13 : lw_okq (⟨"LoadsAhead$Program", "readMove", "(LLoadsAhead$Tape;I)Z"⟩, 13) := ⟨⟨by decide +kernel, by decide +kernel⟩, List.mem_of_getElem? (i := 59) (by decide +kernel), List.mem_of_getElem? (i := 602) (by decide +kernel), List.mem_of_getElem? (i := 603) (by decide +kernel)⟩
theorem lw_p14 : lw_okq (⟨"LoadsAhead$Program", "findSources", "()V"⟩, 13) := ⟨⟨by decide +kernel, by decide +kernel⟩, List.mem_of_getElem? (i := 59) (by decide +kernel), List.mem_of_getElem? (i := 611) (by decide +kernel), List.mem_of_getElem? (i := 612) (by decide +kernel)⟩
theorem lw_p15 : lw_okq (⟨"LoadsAhead$Program", "giverOfRegister", "(I)I"⟩, 13) := ⟨⟨by decide +kernel, by decide +kernel⟩, List.mem_of_getElem? (i := 59) (by decide +kernel), List.mem_of_getElem? (i := 616) (by decide +kernel), List.mem_of_getElem? (i := 617) (by decide +kernel)⟩
def lw_privs_1 : List (MethodName × Nat) := [(⟨"LoadsAhead$Law", "readRule", "(LLoadsAhead$Tape;I)Z"⟩, 9), (⟨"LoadsAhead$Law", "readSum", "(LLoadsAhead$Tape;I)Z"⟩, 9), (⟨"LoadsAhead$Law", "readProduct", "(LLoadsAhead$Tape;I)Z"⟩, 9), (⟨"LoadsAhead$Law", "readFactor", "(LLoadsAhead$Tape;I)Z"⟩, 9), (⟨"LoadsAhead$Law", "addStep", "(II)I"⟩, 9), (⟨"LoadsAhead$Law", "readEither", "(LLoadsAhead$Tape;I)Z"⟩, 9), (⟨"LoadsAhead$Law", "readBoth", "(LLoadsAhead$Tape;I)Z"⟩, 9), (⟨"LoadsAhead$Law", "readTest", "(LLoadsAhead$Tape;I)Z"⟩, 9), (⟨"LoadsAhead$Law", "skipToHere", "(I)V"⟩, 9), (⟨"LoadsAhead$Program", "readOp", "(LLoadsAhead$Tape;I)Z"⟩, 13), (⟨"LoadsAhead$Program", "readGiven", "(LLoadsAhead$Tape;I)Z"⟩, 13), (⟨"LoadsAhead$Program", "readNumber", "(LLoadsAhead$Tape;I)Z"⟩, 13), (⟨"LoadsAhead$Program", "readReckoning", "(LLoadsAhead$Tape;I)Z"⟩, 13), (⟨"LoadsAhead$Program", "readMove", "(LLoadsAhead$Tape;I)Z"⟩, 13), (⟨"LoadsAhead$Program", "findSources", "()V"⟩, 13), (⟨"LoadsAhead$Program", "giverOfRegister", "(I)I"⟩, 13)]
theorem lw_r1 : ∀ q ∈ lw_privs_1, lw_okq q := List.forall_mem_cons.mpr ⟨lw_p0, List.forall_mem_cons.mpr ⟨lw_p1, List.forall_mem_cons.mpr ⟨lw_p2, List.forall_mem_cons.mpr ⟨lw_p3, List.forall_mem_cons.mpr ⟨lw_p4, List.forall_mem_cons.mpr ⟨lw_p5, List.forall_mem_cons.mpr ⟨lw_p6, List.forall_mem_cons.mpr ⟨lw_p7, List.forall_mem_cons.mpr ⟨lw_p8, List.forall_mem_cons.mpr ⟨lw_p9, List.forall_mem_cons.mpr ⟨lw_p10, List.forall_mem_cons.mpr ⟨lw_p11, List.forall_mem_cons.mpr ⟨lw_p12, List.forall_mem_cons.mpr ⟨lw_p13, List.forall_mem_cons.mpr ⟨lw_p14, List.forall_mem_cons.mpr ⟨lw_p15, fun _ h => absurd h List.not_mem_nil⟩⟩⟩⟩⟩⟩⟩⟩⟩⟩⟩⟩⟩⟩⟩⟩
theorem lw_p16 : lw_okq (⟨"LoadsAhead$Program", "depthOf", "(I)I"⟩, 13) := ⟨⟨by decide +kernel, by decide +kernel⟩, List.mem_of_getElem? (i := 59) (by decide +kernel), List.mem_of_getElem? (i := 623) (by decide +kernel), List.mem_of_getElem? (i := 624) (by decide +kernel)⟩
theorem lw_p17 : lw_okq (⟨"LoadsAhead", "canRun", "(I)Z"⟩, 11) := ⟨⟨by decide +kernel, by decide +kernel⟩, List.mem_of_getElem? (i := 20) (by decide +kernel), List.mem_of_getElem? (i := 646) (by decide +kernel), List.mem_of_getElem? (i := 647) (by decide +kernel)⟩
theorem lw_p18 : lw_okq (⟨"LoadsAhead$Machine", "begin", "()V"⟩, 12) := ⟨⟨by decide +kernel, by decide +kernel⟩, List.mem_of_getElem? (i := 53) (by decide +kernel), List.mem_of_getElem? (i := 654) (by decide +kernel), List.mem_of_getElem? (i := 655) (by decide +kernel)⟩
theorem lw_p19 : lw_okq (⟨"LoadsAhead$Machine", "finishOps", "()V"⟩, 12) := ⟨⟨by decide +kernel, by decide +kernel⟩, List.mem_of_getElem? (i := 53) (by decide +kernel), List.mem_of_getElem? (i := 677) (by decide +kernel), List.mem_of_getElem? (i := 678) (by decide +kernel)⟩
theorem lw_p20 : lw_okq (⟨"LoadsAhead$Machine", "valueRead", "(II)I"⟩, 12) := ⟨⟨by decide +kernel, by decide +kernel⟩, List.mem_of_getElem? (i := 53) (by decide +kernel), List.mem_of_getElem? (i := 681) (by decide +kernel), List.mem_of_getElem? (i := 682) (by decide +kernel)⟩
theorem lw_p21 : lw_okq (⟨"LoadsAhead$Machine", "takeBytes", "(I)V"⟩, 12) := ⟨⟨by decide +kernel, by decide +kernel⟩, List.mem_of_getElem? (i := 53) (by decide +kernel), List.mem_of_getElem? (i := 690) (by decide +kernel), List.mem_of_getElem? (i := 691) (by decide +kernel)⟩
theorem lw_p22 : lw_okq (⟨"LoadsAhead$Machine", "youngestCovering", "(II)I"⟩, 12) := ⟨⟨by decide +kernel, by decide +kernel⟩, List.mem_of_getElem? (i := 53) (by decide +kernel), List.mem_of_getElem? (i := 694) (by decide +kernel), List.mem_of_getElem? (i := 695) (by decide +kernel)⟩
theorem lw_p23 : lw_okq (⟨"LoadsAhead$Machine", "storedAt", "(II)I"⟩, 12) := ⟨⟨by decide +kernel, by decide +kernel⟩, List.mem_of_getElem? (i := 53) (by decide +kernel), List.mem_of_getElem? (i := 701) (by decide +kernel), List.mem_of_getElem? (i := 702) (by decide +kernel)⟩
theorem lw_p24 : lw_okq (⟨"LoadsAhead$Machine", "lookBack", "(I)V"⟩, 12) := ⟨⟨by decide +kernel, by decide +kernel⟩, List.mem_of_getElem? (i := 53) (by decide +kernel), List.mem_of_getElem? (i := 709) (by decide +kernel), List.mem_of_getElem? (i := 710) (by decide +kernel)⟩
theorem lw_p25 : lw_okq (⟨"LoadsAhead$Machine", "tookTooOld", "(II)Z"⟩, 12) := ⟨⟨by decide +kernel, by decide +kernel⟩, List.mem_of_getElem? (i := 53) (by decide +kernel), List.mem_of_getElem? (i := 713) (by decide +kernel), List.mem_of_getElem? (i := 714) (by decide +kernel)⟩
theorem lw_p26 : lw_okq (⟨"LoadsAhead$Machine", "replay", "(I)V"⟩, 12) := ⟨⟨by decide +kernel, by decide +kernel⟩, List.mem_of_getElem? (i := 53) (by decide +kernel), List.mem_of_getElem? (i := 723) (by decide +kernel), List.mem_of_getElem? (i := 724) (by decide +kernel)⟩
theorem lw_p27 : lw_okq (⟨"LoadsAhead$Machine", "makeWait", "(I)V"⟩, 12) := ⟨⟨by decide +kernel, by decide +kernel⟩, List.mem_of_getElem? (i := 53) (by decide +kernel), List.mem_of_getElem? (i := 727) (by decide +kernel), List.mem_of_getElem? (i := 728) (by decide +kernel)⟩
theorem lw_p28 : lw_okq (⟨"LoadsAhead$Machine", "undoDownTo", "(I)V"⟩, 12) := ⟨⟨by decide +kernel, by decide +kernel⟩, List.mem_of_getElem? (i := 53) (by decide +kernel), List.mem_of_getElem? (i := 731) (by decide +kernel), List.mem_of_getElem? (i := 732) (by decide +kernel)⟩
theorem lw_p29 : lw_okq (⟨"LoadsAhead$Machine", "dependsOn", "(II)Z"⟩, 12) := ⟨⟨by decide +kernel, by decide +kernel⟩, List.mem_of_getElem? (i := 53) (by decide +kernel), List.mem_of_getElem? (i := 735) (by decide +kernel), List.mem_of_getElem? (i := 736) (by decide +kernel)⟩
theorem lw_p30 : lw_okq (⟨"LoadsAhead$Machine", "sendOff", "(IZ)V"⟩, 12) := ⟨⟨by decide +kernel, by decide +kernel⟩, List.mem_of_getElem? (i := 53) (by decide +kernel), List.mem_of_getElem? (i := 743) (by decide +kernel), List.mem_of_getElem? (i := 744) (by decide +kernel)⟩
theorem lw_p31 : lw_okq (⟨"LoadsAhead$Machine", "isDone", "(I)Z"⟩, 12) := ⟨⟨by decide +kernel, by decide +kernel⟩, List.mem_of_getElem? (i := 53) (by decide +kernel), List.mem_of_getElem? (i := 747) (by decide +kernel), List.mem_of_getElem? (i := 748) (by decide +kernel)⟩
def lw_privs_2 : List (MethodName × Nat) := [(⟨"LoadsAhead$Program", "depthOf", "(I)I"⟩, 13), (⟨"LoadsAhead", "canRun", "(I)Z"⟩, 11), (⟨"LoadsAhead$Machine", "begin", "()V"⟩, 12), (⟨"LoadsAhead$Machine", "finishOps", "()V"⟩, 12), (⟨"LoadsAhead$Machine", "valueRead", "(II)I"⟩, 12), (⟨"LoadsAhead$Machine", "takeBytes", "(I)V"⟩, 12), (⟨"LoadsAhead$Machine", "youngestCovering", "(II)I"⟩, 12), (⟨"LoadsAhead$Machine", "storedAt", "(II)I"⟩, 12), (⟨"LoadsAhead$Machine", "lookBack", "(I)V"⟩, 12), (⟨"LoadsAhead$Machine", "tookTooOld", "(II)Z"⟩, 12), (⟨"LoadsAhead$Machine", "replay", "(I)V"⟩, 12), (⟨"LoadsAhead$Machine", "makeWait", "(I)V"⟩, 12), (⟨"LoadsAhead$Machine", "undoDownTo", "(I)V"⟩, 12), (⟨"LoadsAhead$Machine", "dependsOn", "(II)Z"⟩, 12), (⟨"LoadsAhead$Machine", "sendOff", "(IZ)V"⟩, 12), (⟨"LoadsAhead$Machine", "isDone", "(I)Z"⟩, 12)]
theorem lw_r2 : ∀ q ∈ lw_privs_2, lw_okq q := List.forall_mem_cons.mpr ⟨lw_p16, List.forall_mem_cons.mpr ⟨lw_p17, List.forall_mem_cons.mpr ⟨lw_p18, List.forall_mem_cons.mpr ⟨lw_p19, List.forall_mem_cons.mpr ⟨lw_p20, List.forall_mem_cons.mpr ⟨lw_p21, List.forall_mem_cons.mpr ⟨lw_p22, List.forall_mem_cons.mpr ⟨lw_p23, List.forall_mem_cons.mpr ⟨lw_p24, List.forall_mem_cons.mpr ⟨lw_p25, List.forall_mem_cons.mpr ⟨lw_p26, List.forall_mem_cons.mpr ⟨lw_p27, List.forall_mem_cons.mpr ⟨lw_p28, List.forall_mem_cons.mpr ⟨lw_p29, List.forall_mem_cons.mpr ⟨lw_p30, List.forall_mem_cons.mpr ⟨lw_p31, fun _ h => absurd h List.not_mem_nil⟩⟩⟩⟩⟩⟩⟩⟩⟩⟩⟩⟩⟩⟩⟩⟩
theorem lw_p32 : lw_okq (⟨"LoadsAhead$Machine", "mustWait", "(IZ)Z"⟩, 12) := ⟨⟨by decide +kernel, by decide +kernel⟩, List.mem_of_getElem? (i := 53) (by decide +kernel), List.mem_of_getElem? (i := 751) (by decide +kernel), List.mem_of_getElem? (i := 752) (by decide +kernel)⟩
theorem lw_p33 : lw_okq (⟨"LoadsAhead$Machine", "tellLaw", "(II)V"⟩, 12) := ⟨⟨by decide +kernel, by decide +kernel⟩, List.mem_of_getElem? (i := 53) (by decide +kernel), List.mem_of_getElem? (i := 760) (by decide +kernel), List.mem_of_getElem? (i := 761) (by decide +kernel)⟩
theorem lw_p34 : lw_okq (⟨"LoadsAhead$Law", "holds", "(I)Z"⟩, 9) := ⟨⟨by decide +kernel, by decide +kernel⟩, List.mem_of_getElem? (i := 127) (by decide +kernel), List.mem_of_getElem? (i := 772) (by decide +kernel), List.mem_of_getElem? (i := 773) (by decide +kernel)⟩
theorem lw_p35 : lw_okq (⟨"LoadsAhead$Law", "reckon", "(II)I"⟩, 9) := ⟨⟨by decide +kernel, by decide +kernel⟩, List.mem_of_getElem? (i := 127) (by decide +kernel), List.mem_of_getElem? (i := 776) (by decide +kernel), List.mem_of_getElem? (i := 777) (by decide +kernel)⟩
theorem lw_p36 : lw_okq (⟨"LoadsAhead$Machine", "retireOne", "()V"⟩, 12) := ⟨⟨by decide +kernel, by decide +kernel⟩, List.mem_of_getElem? (i := 53) (by decide +kernel), List.mem_of_getElem? (i := 785) (by decide +kernel), List.mem_of_getElem? (i := 786) (by decide +kernel)⟩
theorem lw_p37 : lw_okq (⟨"LoadsAhead$Machine", "oldestToRetire", "()I"⟩, 12) := ⟨⟨by decide +kernel, by decide +kernel⟩, List.mem_of_getElem? (i := 53) (by decide +kernel), List.mem_of_getElem? (i := 789) (by decide +kernel), List.mem_of_getElem? (i := 790) (by decide +kernel)⟩
theorem lw_p38 : lw_okq (⟨"LoadsAhead$Machine", "doneAhead", "(I)Z"⟩, 12) := ⟨⟨by decide +kernel, by decide +kernel⟩, List.mem_of_getElem? (i := 53) (by decide +kernel), List.mem_of_getElem? (i := 793) (by decide +kernel), List.mem_of_getElem? (i := 794) (by decide +kernel)⟩
theorem lw_p39 : lw_okq (⟨"LoadsAhead$Machine", "settled", "()Z"⟩, 12) := ⟨⟨by decide +kernel, by decide +kernel⟩, List.mem_of_getElem? (i := 53) (by decide +kernel), List.mem_of_getElem? (i := 805) (by decide +kernel), List.mem_of_getElem? (i := 806) (by decide +kernel)⟩
theorem lw_p40 : lw_okq (⟨"LoadsAhead$Machine", "giveRegisters", "()V"⟩, 12) := ⟨⟨by decide +kernel, by decide +kernel⟩, List.mem_of_getElem? (i := 53) (by decide +kernel), List.mem_of_getElem? (i := 809) (by decide +kernel), List.mem_of_getElem? (i := 810) (by decide +kernel)⟩
theorem lw_p41 : lw_okq (⟨"LoadsAhead", "isOp", "(I)Z"⟩, 11) := ⟨⟨by decide +kernel, by decide +kernel⟩, List.mem_of_getElem? (i := 20) (by decide +kernel), List.mem_of_getElem? (i := 839) (by decide +kernel), List.mem_of_getElem? (i := 840) (by decide +kernel)⟩
theorem lw_p42 : lw_okq (⟨"LoadsAhead", "giverOf", "(II)I"⟩, 11) := ⟨⟨by decide +kernel, by decide +kernel⟩, List.mem_of_getElem? (i := 20) (by decide +kernel), List.mem_of_getElem? (i := 844) (by decide +kernel), List.mem_of_getElem? (i := 845) (by decide +kernel)⟩
theorem lw_p43 : lw_okq (⟨"LoadsAhead$Plain", "valueIn", "(I)I"⟩, 2) := ⟨⟨by decide +kernel, by decide +kernel⟩, List.mem_of_getElem? (i := 298) (by decide +kernel), List.mem_of_getElem? (i := 872) (by decide +kernel), List.mem_of_getElem? (i := 873) (by decide +kernel)⟩
theorem lw_p44 : lw_okq (⟨"LoadsAhead$Plain", "loaded", "(II)I"⟩, 2) := ⟨⟨by decide +kernel, by decide +kernel⟩, List.mem_of_getElem? (i := 298) (by decide +kernel), List.mem_of_getElem? (i := 879) (by decide +kernel), List.mem_of_getElem? (i := 880) (by decide +kernel)⟩
theorem lw_p45 : lw_okq (⟨"LoadsAhead$Plain", "meet", "(LLoadsAhead$Program;II)Z"⟩, 2) := ⟨⟨by decide +kernel, by decide +kernel⟩, List.mem_of_getElem? (i := 298) (by decide +kernel), List.mem_of_getElem? (i := 915) (by decide +kernel), List.mem_of_getElem? (i := 916) (by decide +kernel)⟩
theorem lw_p46 : lw_okq (⟨"LoadsAheadModel", "types", "(I)V"⟩, 96) := ⟨⟨by decide +kernel, by decide +kernel⟩, List.mem_of_getElem? (i := 972) (by decide +kernel), List.mem_of_getElem? (i := 1282) (by decide +kernel), List.mem_of_getElem? (i := 1283) (by decide +kernel)⟩
theorem lw_p47 : lw_okq (⟨"LoadsAheadModel", "beginsText", "(I)V"⟩, 96) := ⟨⟨by decide +kernel, by decide +kernel⟩, List.mem_of_getElem? (i := 972) (by decide +kernel), List.mem_of_getElem? (i := 1290) (by decide +kernel), List.mem_of_getElem? (i := 1291) (by decide +kernel)⟩
def lw_privs_3 : List (MethodName × Nat) := [(⟨"LoadsAhead$Machine", "mustWait", "(IZ)Z"⟩, 12), (⟨"LoadsAhead$Machine", "tellLaw", "(II)V"⟩, 12), (⟨"LoadsAhead$Law", "holds", "(I)Z"⟩, 9), (⟨"LoadsAhead$Law", "reckon", "(II)I"⟩, 9), (⟨"LoadsAhead$Machine", "retireOne", "()V"⟩, 12), (⟨"LoadsAhead$Machine", "oldestToRetire", "()I"⟩, 12), (⟨"LoadsAhead$Machine", "doneAhead", "(I)Z"⟩, 12), (⟨"LoadsAhead$Machine", "settled", "()Z"⟩, 12), (⟨"LoadsAhead$Machine", "giveRegisters", "()V"⟩, 12), (⟨"LoadsAhead", "isOp", "(I)Z"⟩, 11), (⟨"LoadsAhead", "giverOf", "(II)I"⟩, 11), (⟨"LoadsAhead$Plain", "valueIn", "(I)I"⟩, 2), (⟨"LoadsAhead$Plain", "loaded", "(II)I"⟩, 2), (⟨"LoadsAhead$Plain", "meet", "(LLoadsAhead$Program;II)Z"⟩, 2), (⟨"LoadsAheadModel", "types", "(I)V"⟩, 96), (⟨"LoadsAheadModel", "beginsText", "(I)V"⟩, 96)]
theorem lw_r3 : ∀ q ∈ lw_privs_3, lw_okq q := List.forall_mem_cons.mpr ⟨lw_p32, List.forall_mem_cons.mpr ⟨lw_p33, List.forall_mem_cons.mpr ⟨lw_p34, List.forall_mem_cons.mpr ⟨lw_p35, List.forall_mem_cons.mpr ⟨lw_p36, List.forall_mem_cons.mpr ⟨lw_p37, List.forall_mem_cons.mpr ⟨lw_p38, List.forall_mem_cons.mpr ⟨lw_p39, List.forall_mem_cons.mpr ⟨lw_p40, List.forall_mem_cons.mpr ⟨lw_p41, List.forall_mem_cons.mpr ⟨lw_p42, List.forall_mem_cons.mpr ⟨lw_p43, List.forall_mem_cons.mpr ⟨lw_p44, List.forall_mem_cons.mpr ⟨lw_p45, List.forall_mem_cons.mpr ⟨lw_p46, List.forall_mem_cons.mpr ⟨lw_p47, fun _ h => absurd h List.not_mem_nil⟩⟩⟩⟩⟩⟩⟩⟩⟩⟩⟩⟩⟩⟩⟩⟩
theorem lw_p48 : lw_okq (⟨"LoadsAheadModel", "readsRule", "()Z"⟩, 96) := ⟨⟨by decide +kernel, by decide +kernel⟩, List.mem_of_getElem? (i := 972) (by decide +kernel), List.mem_of_getElem? (i := 1294) (by decide +kernel), List.mem_of_getElem? (i := 1295) (by decide +kernel)⟩
theorem lw_p49 : lw_okq (⟨"LoadsAheadModel", "here", "()I"⟩, 96) := ⟨⟨by decide +kernel, by decide +kernel⟩, List.mem_of_getElem? (i := 972) (by decide +kernel), List.mem_of_getElem? (i := 1298) (by decide +kernel), List.mem_of_getElem? (i := 1299) (by decide +kernel)⟩
theorem lw_p50 : lw_okq (⟨"LoadsAheadModel", "wrongAt", "(II)Z"⟩, 96) := ⟨⟨by decide +kernel, by decide +kernel⟩, List.mem_of_getElem? (i := 972) (by decide +kernel), List.mem_of_getElem? (i := 1302) (by decide +kernel), List.mem_of_getElem? (i := 1303) (by decide +kernel)⟩
theorem lw_p51 : lw_okq (⟨"LoadsAheadModel", "readsSum", "()Z"⟩, 96) := ⟨⟨by decide +kernel, by decide +kernel⟩, List.mem_of_getElem? (i := 972) (by decide +kernel), List.mem_of_getElem? (i := 1306) (by decide +kernel), List.mem_of_getElem? (i := 1307) (by decide +kernel)⟩
theorem lw_p52 : lw_okq (⟨"LoadsAheadModel", "readsFactor", "()Z"⟩, 96) := ⟨⟨by decide +kernel, by decide +kernel⟩, List.mem_of_getElem? (i := 972) (by decide +kernel), List.mem_of_getElem? (i := 1310) (by decide +kernel), List.mem_of_getElem? (i := 1311) (by decide +kernel)⟩
theorem lw_p53 : lw_okq (⟨"LoadsAheadModel", "opens", "(I)Z"⟩, 96) := ⟨⟨by decide +kernel, by decide +kernel⟩, List.mem_of_getElem? (i := 972) (by decide +kernel), List.mem_of_getElem? (i := 1314) (by decide +kernel), List.mem_of_getElem? (i := 1315) (by decide +kernel)⟩
theorem lw_p54 : lw_okq (⟨"LoadsAheadModel", "isDigit", "()Z"⟩, 96) := ⟨⟨by decide +kernel, by decide +kernel⟩, List.mem_of_getElem? (i := 972) (by decide +kernel), List.mem_of_getElem? (i := 1319) (by decide +kernel), List.mem_of_getElem? (i := 1320) (by decide +kernel)⟩
theorem lw_p55 : lw_okq (⟨"LoadsAheadModel", "readsNumber", "()Z"⟩, 96) := ⟨⟨by decide +kernel, by decide +kernel⟩, List.mem_of_getElem? (i := 972) (by decide +kernel), List.mem_of_getElem? (i := 1323) (by decide +kernel), List.mem_of_getElem? (i := 1324) (by decide +kernel)⟩
theorem lw_p56 : lw_okq (⟨"LoadsAheadModel", "notes", "(II)V"⟩, 96) := ⟨⟨by decide +kernel, by decide +kernel⟩, List.mem_of_getElem? (i := 972) (by decide +kernel), List.mem_of_getElem? (i := 1327) (by decide +kernel), List.mem_of_getElem? (i := 1328) (by decide +kernel)⟩
theorem lw_p57 : lw_okq (⟨"LoadsAheadModel", "closesSums", "(Z)V"⟩, 96) := ⟨⟨by decide +kernel, by decide +kernel⟩, List.mem_of_getElem? (i := 972) (by decide +kernel), List.mem_of_getElem? (i := 1337) (by decide +kernel), List.mem_of_getElem? (i := 1338) (by decide +kernel)⟩
theorem lw_p58 : lw_okq (⟨"LoadsAheadModel", "waitTop", "()I"⟩, 96) := ⟨⟨by decide +kernel, by decide +kernel⟩, List.mem_of_getElem? (i := 972) (by decide +kernel), List.mem_of_getElem? (i := 1341) (by decide +kernel), List.mem_of_getElem? (i := 1342) (by decide +kernel)⟩
theorem lw_p59 : lw_okq (⟨"LoadsAheadModel", "hasOpenSum", "(I)Z"⟩, 96) := ⟨⟨by decide +kernel, by decide +kernel⟩, List.mem_of_getElem? (i := 972) (by decide +kernel), List.mem_of_getElem? (i := 1345) (by decide +kernel), List.mem_of_getElem? (i := 1346) (by decide +kernel)⟩
theorem lw_p60 : lw_okq (⟨"LoadsAheadModel", "readsCondition", "()Z"⟩, 96) := ⟨⟨by decide +kernel, by decide +kernel⟩, List.mem_of_getElem? (i := 972) (by decide +kernel), List.mem_of_getElem? (i := 1349) (by decide +kernel), List.mem_of_getElem? (i := 1350) (by decide +kernel)⟩
theorem lw_p61 : lw_okq (⟨"LoadsAheadModel", "readsCompared", "()Z"⟩, 96) := ⟨⟨by decide +kernel, by decide +kernel⟩, List.mem_of_getElem? (i := 972) (by decide +kernel), List.mem_of_getElem? (i := 1353) (by decide +kernel), List.mem_of_getElem? (i := 1354) (by decide +kernel)⟩
theorem lw_p62 : lw_okq (⟨"LoadsAheadModel", "endsPiece", "()V"⟩, 96) := ⟨⟨by decide +kernel, by decide +kernel⟩, List.mem_of_getElem? (i := 972) (by decide +kernel), List.mem_of_getElem? (i := 1357) (by decide +kernel), List.mem_of_getElem? (i := 1358) (by decide +kernel)⟩
theorem lw_p63 : lw_okq (⟨"LoadsAheadModel", "lands", "(Z)V"⟩, 96) := ⟨⟨by decide +kernel, by decide +kernel⟩, List.mem_of_getElem? (i := 972) (by decide +kernel), List.mem_of_getElem? (i := 1361) (by decide +kernel), List.mem_of_getElem? (i := 1362) (by decide +kernel)⟩
def lw_privs_4 : List (MethodName × Nat) := [(⟨"LoadsAheadModel", "readsRule", "()Z"⟩, 96), (⟨"LoadsAheadModel", "here", "()I"⟩, 96), (⟨"LoadsAheadModel", "wrongAt", "(II)Z"⟩, 96), (⟨"LoadsAheadModel", "readsSum", "()Z"⟩, 96), (⟨"LoadsAheadModel", "readsFactor", "()Z"⟩, 96), (⟨"LoadsAheadModel", "opens", "(I)Z"⟩, 96), (⟨"LoadsAheadModel", "isDigit", "()Z"⟩, 96), (⟨"LoadsAheadModel", "readsNumber", "()Z"⟩, 96), (⟨"LoadsAheadModel", "notes", "(II)V"⟩, 96), (⟨"LoadsAheadModel", "closesSums", "(Z)V"⟩, 96), (⟨"LoadsAheadModel", "waitTop", "()I"⟩, 96), (⟨"LoadsAheadModel", "hasOpenSum", "(I)Z"⟩, 96), (⟨"LoadsAheadModel", "readsCondition", "()Z"⟩, 96), (⟨"LoadsAheadModel", "readsCompared", "()Z"⟩, 96), (⟨"LoadsAheadModel", "endsPiece", "()V"⟩, 96), (⟨"LoadsAheadModel", "lands", "(Z)V"⟩, 96)]
theorem lw_r4 : ∀ q ∈ lw_privs_4, lw_okq q := List.forall_mem_cons.mpr ⟨lw_p48, List.forall_mem_cons.mpr ⟨lw_p49, List.forall_mem_cons.mpr ⟨lw_p50, List.forall_mem_cons.mpr ⟨lw_p51, List.forall_mem_cons.mpr ⟨lw_p52, List.forall_mem_cons.mpr ⟨lw_p53, List.forall_mem_cons.mpr ⟨lw_p54, List.forall_mem_cons.mpr ⟨lw_p55, List.forall_mem_cons.mpr ⟨lw_p56, List.forall_mem_cons.mpr ⟨lw_p57, List.forall_mem_cons.mpr ⟨lw_p58, List.forall_mem_cons.mpr ⟨lw_p59, List.forall_mem_cons.mpr ⟨lw_p60, List.forall_mem_cons.mpr ⟨lw_p61, List.forall_mem_cons.mpr ⟨lw_p62, List.forall_mem_cons.mpr ⟨lw_p63, fun _ h => absurd h List.not_mem_nil⟩⟩⟩⟩⟩⟩⟩⟩⟩⟩⟩⟩⟩⟩⟩⟩
theorem lw_p64 : lw_okq (⟨"LoadsAheadModel", "jumps", "(I)V"⟩, 96) := ⟨⟨by decide +kernel, by decide +kernel⟩, List.mem_of_getElem? (i := 972) (by decide +kernel), List.mem_of_getElem? (i := 1365) (by decide +kernel), List.mem_of_getElem? (i := 1366) (by decide +kernel)⟩
theorem lw_p65 : lw_okq (⟨"LoadsAheadModel", "takes", "(I)Z"⟩, 96) := ⟨⟨by decide +kernel, by decide +kernel⟩, List.mem_of_getElem? (i := 972) (by decide +kernel), List.mem_of_getElem? (i := 1369) (by decide +kernel), List.mem_of_getElem? (i := 1370) (by decide +kernel)⟩
theorem lw_p66 : lw_okq (⟨"LoadsAheadModel", "readsOp", "()Z"⟩, 96) := ⟨⟨by decide +kernel, by decide +kernel⟩, List.mem_of_getElem? (i := 972) (by decide +kernel), List.mem_of_getElem? (i := 1377) (by decide +kernel), List.mem_of_getElem? (i := 1378) (by decide +kernel)⟩
theorem lw_p67 : lw_okq (⟨"LoadsAheadModel", "readsRegister", "()Z"⟩, 96) := ⟨⟨by decide +kernel, by decide +kernel⟩, List.mem_of_getElem? (i := 972) (by decide +kernel), List.mem_of_getElem? (i := 1387) (by decide +kernel), List.mem_of_getElem? (i := 1388) (by decide +kernel)⟩
theorem lw_p68 : lw_okq (⟨"LoadsAheadModel", "readsPlace", "(I)Z"⟩, 96) := ⟨⟨by decide +kernel, by decide +kernel⟩, List.mem_of_getElem? (i := 972) (by decide +kernel), List.mem_of_getElem? (i := 1391) (by decide +kernel), List.mem_of_getElem? (i := 1392) (by decide +kernel)⟩
theorem lw_p69 : lw_okq (⟨"LoadsAheadModel", "readsAmount", "()Z"⟩, 96) := ⟨⟨by decide +kernel, by decide +kernel⟩, List.mem_of_getElem? (i := 972) (by decide +kernel), List.mem_of_getElem? (i := 1395) (by decide +kernel), List.mem_of_getElem? (i := 1396) (by decide +kernel)⟩
theorem lw_p70 : lw_okq (⟨"LoadsAheadModel", "isOp", "(I)Z"⟩, 96) := ⟨⟨by decide +kernel, by decide +kernel⟩, List.mem_of_getElem? (i := 972) (by decide +kernel), List.mem_of_getElem? (i := 1403) (by decide +kernel), List.mem_of_getElem? (i := 1404) (by decide +kernel)⟩
theorem lw_p71 : lw_okq (⟨"LoadsAheadModel", "doesRead", "(II)Z"⟩, 96) := ⟨⟨by decide +kernel, by decide +kernel⟩, List.mem_of_getElem? (i := 972) (by decide +kernel), List.mem_of_getElem? (i := 1407) (by decide +kernel), List.mem_of_getElem? (i := 1408) (by decide +kernel)⟩
theorem lw_p72 : lw_okq (⟨"LoadsAheadModel", "giverOf", "(II)I"⟩, 96) := ⟨⟨by decide +kernel, by decide +kernel⟩, List.mem_of_getElem? (i := 972) (by decide +kernel), List.mem_of_getElem? (i := 1411) (by decide +kernel), List.mem_of_getElem? (i := 1412) (by decide +kernel)⟩
theorem lw_p73 : lw_okq (⟨"LoadsAheadModel", "gives", "(II)Z"⟩, 96) := ⟨⟨by decide +kernel, by decide +kernel⟩, List.mem_of_getElem? (i := 972) (by decide +kernel), List.mem_of_getElem? (i := 1415) (by decide +kernel), List.mem_of_getElem? (i := 1416) (by decide +kernel)⟩
theorem lw_p74 : lw_okq (⟨"LoadsAheadModel", "canRun", "(I)Z"⟩, 96) := ⟨⟨by decide +kernel, by decide +kernel⟩, List.mem_of_getElem? (i := 972) (by decide +kernel), List.mem_of_getElem? (i := 1423) (by decide +kernel), List.mem_of_getElem? (i := 1424) (by decide +kernel)⟩
theorem lw_p75 : lw_okq (⟨"LoadsAheadModel", "goesThrough", "(IZ)Z"⟩, 96) := ⟨⟨by decide +kernel, by decide +kernel⟩, List.mem_of_getElem? (i := 972) (by decide +kernel), List.mem_of_getElem? (i := 1427) (by decide +kernel), List.mem_of_getElem? (i := 1428) (by decide +kernel)⟩
theorem lw_p76 : lw_okq (⟨"LoadsAheadModel", "cycleGoes", "(II)V"⟩, 96) := ⟨⟨by decide +kernel, by decide +kernel⟩, List.mem_of_getElem? (i := 972) (by decide +kernel), List.mem_of_getElem? (i := 1431) (by decide +kernel), List.mem_of_getElem? (i := 1432) (by decide +kernel)⟩
theorem lw_p77 : lw_okq (⟨"LoadsAheadModel", "comesDone", "(II)V"⟩, 96) := ⟨⟨by decide +kernel, by decide +kernel⟩, List.mem_of_getElem? (i := 972) (by decide +kernel), List.mem_of_getElem? (i := 1435) (by decide +kernel), List.mem_of_getElem? (i := 1436) (by decide +kernel)⟩
theorem lw_p78 : lw_okq (⟨"LoadsAheadModel", "readBy", "(II)I"⟩, 96) := ⟨⟨by decide +kernel, by decide +kernel⟩, List.mem_of_getElem? (i := 972) (by decide +kernel), List.mem_of_getElem? (i := 1439) (by decide +kernel), List.mem_of_getElem? (i := 1440) (by decide +kernel)⟩
theorem lw_p79 : lw_okq (⟨"LoadsAheadModel", "placeBy", "(I)I"⟩, 96) := ⟨⟨by decide +kernel, by decide +kernel⟩, List.mem_of_getElem? (i := 972) (by decide +kernel), List.mem_of_getElem? (i := 1446) (by decide +kernel), List.mem_of_getElem? (i := 1447) (by decide +kernel)⟩
def lw_privs_5 : List (MethodName × Nat) := [(⟨"LoadsAheadModel", "jumps", "(I)V"⟩, 96), (⟨"LoadsAheadModel", "takes", "(I)Z"⟩, 96), (⟨"LoadsAheadModel", "readsOp", "()Z"⟩, 96), (⟨"LoadsAheadModel", "readsRegister", "()Z"⟩, 96), (⟨"LoadsAheadModel", "readsPlace", "(I)Z"⟩, 96), (⟨"LoadsAheadModel", "readsAmount", "()Z"⟩, 96), (⟨"LoadsAheadModel", "isOp", "(I)Z"⟩, 96), (⟨"LoadsAheadModel", "doesRead", "(II)Z"⟩, 96), (⟨"LoadsAheadModel", "giverOf", "(II)I"⟩, 96), (⟨"LoadsAheadModel", "gives", "(II)Z"⟩, 96), (⟨"LoadsAheadModel", "canRun", "(I)Z"⟩, 96), (⟨"LoadsAheadModel", "goesThrough", "(IZ)Z"⟩, 96), (⟨"LoadsAheadModel", "cycleGoes", "(II)V"⟩, 96), (⟨"LoadsAheadModel", "comesDone", "(II)V"⟩, 96), (⟨"LoadsAheadModel", "readBy", "(II)I"⟩, 96), (⟨"LoadsAheadModel", "placeBy", "(I)I"⟩, 96)]
theorem lw_r5 : ∀ q ∈ lw_privs_5, lw_okq q := List.forall_mem_cons.mpr ⟨lw_p64, List.forall_mem_cons.mpr ⟨lw_p65, List.forall_mem_cons.mpr ⟨lw_p66, List.forall_mem_cons.mpr ⟨lw_p67, List.forall_mem_cons.mpr ⟨lw_p68, List.forall_mem_cons.mpr ⟨lw_p69, List.forall_mem_cons.mpr ⟨lw_p70, List.forall_mem_cons.mpr ⟨lw_p71, List.forall_mem_cons.mpr ⟨lw_p72, List.forall_mem_cons.mpr ⟨lw_p73, List.forall_mem_cons.mpr ⟨lw_p74, List.forall_mem_cons.mpr ⟨lw_p75, List.forall_mem_cons.mpr ⟨lw_p76, List.forall_mem_cons.mpr ⟨lw_p77, List.forall_mem_cons.mpr ⟨lw_p78, List.forall_mem_cons.mpr ⟨lw_p79, fun _ h => absurd h List.not_mem_nil⟩⟩⟩⟩⟩⟩⟩⟩⟩⟩⟩⟩⟩⟩⟩⟩
theorem lw_p80 : lw_okq (⟨"LoadsAheadModel", "loads", "(I)V"⟩, 96) := ⟨⟨by decide +kernel, by decide +kernel⟩, List.mem_of_getElem? (i := 972) (by decide +kernel), List.mem_of_getElem? (i := 1450) (by decide +kernel), List.mem_of_getElem? (i := 1451) (by decide +kernel)⟩
theorem lw_p81 : lw_okq (⟨"LoadsAheadModel", "covers", "(II)Z"⟩, 96) := ⟨⟨by decide +kernel, by decide +kernel⟩, List.mem_of_getElem? (i := 972) (by decide +kernel), List.mem_of_getElem? (i := 1454) (by decide +kernel), List.mem_of_getElem? (i := 1455) (by decide +kernel)⟩
theorem lw_p82 : lw_okq (⟨"LoadsAheadModel", "looksBack", "(I)V"⟩, 96) := ⟨⟨by decide +kernel, by decide +kernel⟩, List.mem_of_getElem? (i := 972) (by decide +kernel), List.mem_of_getElem? (i := 1465) (by decide +kernel), List.mem_of_getElem? (i := 1466) (by decide +kernel)⟩
theorem lw_p83 : lw_okq (⟨"LoadsAheadModel", "tookOld", "(II)Z"⟩, 96) := ⟨⟨by decide +kernel, by decide +kernel⟩, List.mem_of_getElem? (i := 972) (by decide +kernel), List.mem_of_getElem? (i := 1469) (by decide +kernel), List.mem_of_getElem? (i := 1470) (by decide +kernel)⟩
theorem lw_p84 : lw_okq (⟨"LoadsAheadModel", "melts", "(II)V"⟩, 96) := ⟨⟨by decide +kernel, by decide +kernel⟩, List.mem_of_getElem? (i := 972) (by decide +kernel), List.mem_of_getElem? (i := 1473) (by decide +kernel), List.mem_of_getElem? (i := 1474) (by decide +kernel)⟩
theorem lw_p85 : lw_okq (⟨"LoadsAheadModel", "replaysAll", "(I)V"⟩, 96) := ⟨⟨by decide +kernel, by decide +kernel⟩, List.mem_of_getElem? (i := 972) (by decide +kernel), List.mem_of_getElem? (i := 1480) (by decide +kernel), List.mem_of_getElem? (i := 1481) (by decide +kernel)⟩
theorem lw_p86 : lw_okq (⟨"LoadsAheadModel", "lists", "(I)V"⟩, 96) := ⟨⟨by decide +kernel, by decide +kernel⟩, List.mem_of_getElem? (i := 972) (by decide +kernel), List.mem_of_getElem? (i := 1484) (by decide +kernel), List.mem_of_getElem? (i := 1485) (by decide +kernel)⟩
theorem lw_p87 : lw_okq (⟨"LoadsAheadModel", "listsThoseBy", "(I)V"⟩, 96) := ⟨⟨by decide +kernel, by decide +kernel⟩, List.mem_of_getElem? (i := 972) (by decide +kernel), List.mem_of_getElem? (i := 1488) (by decide +kernel), List.mem_of_getElem? (i := 1489) (by decide +kernel)⟩
theorem lw_p88 : lw_okq (⟨"LoadsAheadModel", "tookFrom", "(II)Z"⟩, 96) := ⟨⟨by decide +kernel, by decide +kernel⟩, List.mem_of_getElem? (i := 972) (by decide +kernel), List.mem_of_getElem? (i := 1492) (by decide +kernel), List.mem_of_getElem? (i := 1493) (by decide +kernel)⟩
theorem lw_p89 : lw_okq (⟨"LoadsAheadModel", "hasSource", "(II)Z"⟩, 96) := ⟨⟨by decide +kernel, by decide +kernel⟩, List.mem_of_getElem? (i := 972) (by decide +kernel), List.mem_of_getElem? (i := 1496) (by decide +kernel), List.mem_of_getElem? (i := 1497) (by decide +kernel)⟩
theorem lw_p90 : lw_okq (⟨"LoadsAheadModel", "undoesTo", "(I)V"⟩, 96) := ⟨⟨by decide +kernel, by decide +kernel⟩, List.mem_of_getElem? (i := 972) (by decide +kernel), List.mem_of_getElem? (i := 1500) (by decide +kernel), List.mem_of_getElem? (i := 1501) (by decide +kernel)⟩
theorem lw_p91 : lw_okq (⟨"LoadsAheadModel", "areSourcesDone", "(I)Z"⟩, 96) := ⟨⟨by decide +kernel, by decide +kernel⟩, List.mem_of_getElem? (i := 972) (by decide +kernel), List.mem_of_getElem? (i := 1504) (by decide +kernel), List.mem_of_getElem? (i := 1505) (by decide +kernel)⟩
theorem lw_p92 : lw_okq (⟨"LoadsAheadModel", "isKeptBack", "(I)Z"⟩, 96) := ⟨⟨by decide +kernel, by decide +kernel⟩, List.mem_of_getElem? (i := 972) (by decide +kernel), List.mem_of_getElem? (i := 1508) (by decide +kernel), List.mem_of_getElem? (i := 1509) (by decide +kernel)⟩
theorem lw_p93 : lw_okq (⟨"LoadsAheadModel", "areStoresDone", "(I)Z"⟩, 96) := ⟨⟨by decide +kernel, by decide +kernel⟩, List.mem_of_getElem? (i := 972) (by decide +kernel), List.mem_of_getElem? (i := 1512) (by decide +kernel), List.mem_of_getElem? (i := 1513) (by decide +kernel)⟩
theorem lw_p94 : lw_okq (⟨"LoadsAheadModel", "goesOff", "(II)V"⟩, 96) := ⟨⟨by decide +kernel, by decide +kernel⟩, List.mem_of_getElem? (i := 972) (by decide +kernel), List.mem_of_getElem? (i := 1516) (by decide +kernel), List.mem_of_getElem? (i := 1517) (by decide +kernel)⟩
theorem lw_p95 : lw_okq (⟨"LoadsAheadModel", "feels", "(III)V"⟩, 96) := ⟨⟨by decide +kernel, by decide +kernel⟩, List.mem_of_getElem? (i := 972) (by decide +kernel), List.mem_of_getElem? (i := 1521) (by decide +kernel), List.mem_of_getElem? (i := 1522) (by decide +kernel)⟩
def lw_privs_6 : List (MethodName × Nat) := [(⟨"LoadsAheadModel", "loads", "(I)V"⟩, 96), (⟨"LoadsAheadModel", "covers", "(II)Z"⟩, 96), (⟨"LoadsAheadModel", "looksBack", "(I)V"⟩, 96), (⟨"LoadsAheadModel", "tookOld", "(II)Z"⟩, 96), (⟨"LoadsAheadModel", "melts", "(II)V"⟩, 96), (⟨"LoadsAheadModel", "replaysAll", "(I)V"⟩, 96), (⟨"LoadsAheadModel", "lists", "(I)V"⟩, 96), (⟨"LoadsAheadModel", "listsThoseBy", "(I)V"⟩, 96), (⟨"LoadsAheadModel", "tookFrom", "(II)Z"⟩, 96), (⟨"LoadsAheadModel", "hasSource", "(II)Z"⟩, 96), (⟨"LoadsAheadModel", "undoesTo", "(I)V"⟩, 96), (⟨"LoadsAheadModel", "areSourcesDone", "(I)Z"⟩, 96), (⟨"LoadsAheadModel", "isKeptBack", "(I)Z"⟩, 96), (⟨"LoadsAheadModel", "areStoresDone", "(I)Z"⟩, 96), (⟨"LoadsAheadModel", "goesOff", "(II)V"⟩, 96), (⟨"LoadsAheadModel", "feels", "(III)V"⟩, 96)]
theorem lw_r6 : ∀ q ∈ lw_privs_6, lw_okq q := List.forall_mem_cons.mpr ⟨lw_p80, List.forall_mem_cons.mpr ⟨lw_p81, List.forall_mem_cons.mpr ⟨lw_p82, List.forall_mem_cons.mpr ⟨lw_p83, List.forall_mem_cons.mpr ⟨lw_p84, List.forall_mem_cons.mpr ⟨lw_p85, List.forall_mem_cons.mpr ⟨lw_p86, List.forall_mem_cons.mpr ⟨lw_p87, List.forall_mem_cons.mpr ⟨lw_p88, List.forall_mem_cons.mpr ⟨lw_p89, List.forall_mem_cons.mpr ⟨lw_p90, List.forall_mem_cons.mpr ⟨lw_p91, List.forall_mem_cons.mpr ⟨lw_p92, List.forall_mem_cons.mpr ⟨lw_p93, List.forall_mem_cons.mpr ⟨lw_p94, List.forall_mem_cons.mpr ⟨lw_p95, fun _ h => absurd h List.not_mem_nil⟩⟩⟩⟩⟩⟩⟩⟩⟩⟩⟩⟩⟩⟩⟩⟩
theorem lw_p96 : lw_okq (⟨"LoadsAheadModel", "delayOf", "(I)I"⟩, 96) := ⟨⟨by decide +kernel, by decide +kernel⟩, List.mem_of_getElem? (i := 972) (by decide +kernel), List.mem_of_getElem? (i := 1525) (by decide +kernel), List.mem_of_getElem? (i := 1526) (by decide +kernel)⟩
theorem lw_p97 : lw_okq (⟨"LoadsAheadModel", "reckonsTo", "(II)I"⟩, 96) := ⟨⟨by decide +kernel, by decide +kernel⟩, List.mem_of_getElem? (i := 972) (by decide +kernel), List.mem_of_getElem? (i := 1529) (by decide +kernel), List.mem_of_getElem? (i := 1530) (by decide +kernel)⟩
theorem lw_p98 : lw_okq (⟨"LoadsAheadModel", "retires", "(I)V"⟩, 96) := ⟨⟨by decide +kernel, by decide +kernel⟩, List.mem_of_getElem? (i := 972) (by decide +kernel), List.mem_of_getElem? (i := 1536) (by decide +kernel), List.mem_of_getElem? (i := 1537) (by decide +kernel)⟩
theorem lw_p99 : lw_okq (⟨"LoadsAheadModel", "oldestToRetire", "()I"⟩, 96) := ⟨⟨by decide +kernel, by decide +kernel⟩, List.mem_of_getElem? (i := 972) (by decide +kernel), List.mem_of_getElem? (i := 1540) (by decide +kernel), List.mem_of_getElem? (i := 1541) (by decide +kernel)⟩
theorem lw_p100 : lw_okq (⟨"LoadsAheadModel", "areAllDone", "(I)Z"⟩, 96) := ⟨⟨by decide +kernel, by decide +kernel⟩, List.mem_of_getElem? (i := 972) (by decide +kernel), List.mem_of_getElem? (i := 1544) (by decide +kernel), List.mem_of_getElem? (i := 1545) (by decide +kernel)⟩
theorem lw_p101 : lw_okq (⟨"LoadsAheadModel", "isHeldBack", "()Z"⟩, 96) := ⟨⟨by decide +kernel, by decide +kernel⟩, List.mem_of_getElem? (i := 972) (by decide +kernel), List.mem_of_getElem? (i := 1548) (by decide +kernel), List.mem_of_getElem? (i := 1549) (by decide +kernel)⟩
theorem lw_p102 : lw_okq (⟨"LoadsAheadModel", "isOver", "()Z"⟩, 96) := ⟨⟨by decide +kernel, by decide +kernel⟩, List.mem_of_getElem? (i := 972) (by decide +kernel), List.mem_of_getElem? (i := 1552) (by decide +kernel), List.mem_of_getElem? (i := 1553) (by decide +kernel)⟩
theorem lw_p103 : lw_okq (⟨"LoadsAheadModel", "putsSetsBack", "()V"⟩, 96) := ⟨⟨by decide +kernel, by decide +kernel⟩, List.mem_of_getElem? (i := 972) (by decide +kernel), List.mem_of_getElem? (i := 1556) (by decide +kernel), List.mem_of_getElem? (i := 1557) (by decide +kernel)⟩
theorem lw_p104 : lw_okq (⟨"LoadsAheadModel", "toldOf", "(I)I"⟩, 96) := ⟨⟨by decide +kernel, by decide +kernel⟩, List.mem_of_getElem? (i := 972) (by decide +kernel), List.mem_of_getElem? (i := 1560) (by decide +kernel), List.mem_of_getElem? (i := 1561) (by decide +kernel)⟩
theorem lw_p105 : lw_okq (⟨"LoadsAheadModel", "isTried", "(IZ)Z"⟩, 96) := ⟨⟨by decide +kernel, by decide +kernel⟩, List.mem_of_getElem? (i := 972) (by decide +kernel), List.mem_of_getElem? (i := 1568) (by decide +kernel), List.mem_of_getElem? (i := 1569) (by decide +kernel)⟩
theorem lw_p106 : lw_okq (⟨"LoadsAheadModel", "goesPlain", "()V"⟩, 96) := ⟨⟨by decide +kernel, by decide +kernel⟩, List.mem_of_getElem? (i := 972) (by decide +kernel), List.mem_of_getElem? (i := 1593) (by decide +kernel), List.mem_of_getElem? (i := 1594) (by decide +kernel)⟩
theorem lw_p107 : lw_okq (⟨"LoadsAheadModel", "doesPlain", "(I)V"⟩, 96) := ⟨⟨by decide +kernel, by decide +kernel⟩, List.mem_of_getElem? (i := 972) (by decide +kernel), List.mem_of_getElem? (i := 1597) (by decide +kernel), List.mem_of_getElem? (i := 1598) (by decide +kernel)⟩
theorem lw_p108 : lw_okq (⟨"LoadsAheadModel", "haveByte", "(II)Z"⟩, 96) := ⟨⟨by decide +kernel, by decide +kernel⟩, List.mem_of_getElem? (i := 972) (by decide +kernel), List.mem_of_getElem? (i := 1609) (by decide +kernel), List.mem_of_getElem? (i := 1610) (by decide +kernel)⟩
theorem lw_p109 : lw_okq (⟨"LoadsAheadModel", "toldOfOp", "(II)I"⟩, 96) := ⟨⟨by decide +kernel, by decide +kernel⟩, List.mem_of_getElem? (i := 972) (by decide +kernel), List.mem_of_getElem? (i := 1624) (by decide +kernel), List.mem_of_getElem? (i := 1625) (by decide +kernel)⟩
theorem lw_p110 : lw_okq (⟨"LoadsAheadModel", "worstOp", "()I"⟩, 96) := ⟨⟨by decide +kernel, by decide +kernel⟩, List.mem_of_getElem? (i := 972) (by decide +kernel), List.mem_of_getElem? (i := 1632) (by decide +kernel), List.mem_of_getElem? (i := 1633) (by decide +kernel)⟩
theorem lw_p111 : lw_okq (⟨"LoadsAheadModel", "withSet", "()I"⟩, 96) := ⟨⟨by decide +kernel, by decide +kernel⟩, List.mem_of_getElem? (i := 972) (by decide +kernel), List.mem_of_getElem? (i := 1648) (by decide +kernel), List.mem_of_getElem? (i := 1649) (by decide +kernel)⟩
def lw_privs_7 : List (MethodName × Nat) := [(⟨"LoadsAheadModel", "delayOf", "(I)I"⟩, 96), (⟨"LoadsAheadModel", "reckonsTo", "(II)I"⟩, 96), (⟨"LoadsAheadModel", "retires", "(I)V"⟩, 96), (⟨"LoadsAheadModel", "oldestToRetire", "()I"⟩, 96), (⟨"LoadsAheadModel", "areAllDone", "(I)Z"⟩, 96), (⟨"LoadsAheadModel", "isHeldBack", "()Z"⟩, 96), (⟨"LoadsAheadModel", "isOver", "()Z"⟩, 96), (⟨"LoadsAheadModel", "putsSetsBack", "()V"⟩, 96), (⟨"LoadsAheadModel", "toldOf", "(I)I"⟩, 96), (⟨"LoadsAheadModel", "isTried", "(IZ)Z"⟩, 96), (⟨"LoadsAheadModel", "goesPlain", "()V"⟩, 96), (⟨"LoadsAheadModel", "doesPlain", "(I)V"⟩, 96), (⟨"LoadsAheadModel", "haveByte", "(II)Z"⟩, 96), (⟨"LoadsAheadModel", "toldOfOp", "(II)I"⟩, 96), (⟨"LoadsAheadModel", "worstOp", "()I"⟩, 96), (⟨"LoadsAheadModel", "withSet", "()I"⟩, 96)]
theorem lw_r7 : ∀ q ∈ lw_privs_7, lw_okq q := List.forall_mem_cons.mpr ⟨lw_p96, List.forall_mem_cons.mpr ⟨lw_p97, List.forall_mem_cons.mpr ⟨lw_p98, List.forall_mem_cons.mpr ⟨lw_p99, List.forall_mem_cons.mpr ⟨lw_p100, List.forall_mem_cons.mpr ⟨lw_p101, List.forall_mem_cons.mpr ⟨lw_p102, List.forall_mem_cons.mpr ⟨lw_p103, List.forall_mem_cons.mpr ⟨lw_p104, List.forall_mem_cons.mpr ⟨lw_p105, List.forall_mem_cons.mpr ⟨lw_p106, List.forall_mem_cons.mpr ⟨lw_p107, List.forall_mem_cons.mpr ⟨lw_p108, List.forall_mem_cons.mpr ⟨lw_p109, List.forall_mem_cons.mpr ⟨lw_p110, List.forall_mem_cons.mpr ⟨lw_p111, fun _ h => absurd h List.not_mem_nil⟩⟩⟩⟩⟩⟩⟩⟩⟩⟩⟩⟩⟩⟩⟩⟩
theorem lw_p112 : lw_okq (⟨"LoadsAheadModel", "octet", "(I)I"⟩, 96) := ⟨⟨by decide +kernel, by decide +kernel⟩, List.mem_of_getElem? (i := 972) (by decide +kernel), List.mem_of_getElem? (i := 1668) (by decide +kernel), List.mem_of_getElem? (i := 1669) (by decide +kernel)⟩
theorem lw_p113 : lw_okq (⟨"LoadsAheadModel", "ofKind", "(I)I"⟩, 96) := ⟨⟨by decide +kernel, by decide +kernel⟩, List.mem_of_getElem? (i := 972) (by decide +kernel), List.mem_of_getElem? (i := 1676) (by decide +kernel), List.mem_of_getElem? (i := 1677) (by decide +kernel)⟩
theorem lw_p114 : lw_okq (⟨"LoadsAheadModel", "bytesThere", "()I"⟩, 96) := ⟨⟨by decide +kernel, by decide +kernel⟩, List.mem_of_getElem? (i := 972) (by decide +kernel), List.mem_of_getElem? (i := 1680) (by decide +kernel), List.mem_of_getElem? (i := 1681) (by decide +kernel)⟩
def lw_privs_8 : List (MethodName × Nat) := [(⟨"LoadsAheadModel", "octet", "(I)I"⟩, 96), (⟨"LoadsAheadModel", "ofKind", "(I)I"⟩, 96), (⟨"LoadsAheadModel", "bytesThere", "()I"⟩, 96)]
theorem lw_r8 : ∀ q ∈ lw_privs_8, lw_okq q := List.forall_mem_cons.mpr ⟨lw_p112, List.forall_mem_cons.mpr ⟨lw_p113, List.forall_mem_cons.mpr ⟨lw_p114, fun _ h => absurd h List.not_mem_nil⟩⟩⟩
def lw_privs : List (MethodName × Nat) := lw_privs_1 ++ (lw_privs_2 ++ (lw_privs_3 ++ (lw_privs_4 ++ (lw_privs_5 ++ (lw_privs_6 ++ (lw_privs_7 ++ (lw_privs_8)))))))
def lw_tbl : List Cond := k2_sels lw_privs ++ tables_1
theorem lw_privs_ok : ∀ q ∈ lw_privs, lw_okq q := by
  show ∀ q ∈ lw_privs_1 ++ (lw_privs_2 ++ (lw_privs_3 ++ (lw_privs_4 ++ (lw_privs_5 ++ (lw_privs_6 ++ (lw_privs_7 ++ (lw_privs_8))))))), lw_okq q
  exact List.forall_mem_append.mpr ⟨lw_r1, List.forall_mem_append.mpr ⟨lw_r2, List.forall_mem_append.mpr ⟨lw_r3, List.forall_mem_append.mpr ⟨lw_r4, List.forall_mem_append.mpr ⟨lw_r5, List.forall_mem_append.mpr ⟨lw_r6, List.forall_mem_append.mpr ⟨lw_r7, lw_r8⟩⟩⟩⟩⟩⟩⟩
end
section
/-! ===== BEGIN words of one list among another's, by their places ===== -/
theorem goodIn_r {big : List Cond} (ws : List Cond) (ps : List Nat) (hp : ws = ps.filterMap (fun i => big[i]?)) (h : ws.all goodWord = true) : GoodIn big ws := by
  intro w hw
  have h1 := List.all_eq_true.mp h w hw
  rw [hp] at hw
  obtain ⟨i, -, hi⟩ := List.mem_filterMap.mp hw
  have hm : w ∈ big := by first | exact List.mem_of_getElem? hi | exact List.getElem?_mem hi
  exact ⟨hm, good_of_word h1⟩
theorem goodIn_app {big a b : List Cond} (ha : GoodIn big a) (hb : GoodIn big b) : GoodIn big (a ++ b) := fun w h => (List.mem_append.mp h).elim (ha w) (hb w)
theorem goodIn_ca {big a b : List Cond} {c : Cond} (ha : GoodIn big (c :: a)) (hb : GoodIn big b) : GoodIn big (c :: (a ++ b)) := fun w h => (List.mem_cons.mp h).elim (fun e => ha w (List.mem_cons.mpr (Or.inl e))) (fun h => (List.mem_append.mp h).elim (fun h => ha w (List.mem_cons.mpr (Or.inr h))) (hb w))
theorem goodIn_sub {big ws : List Cond} (hm : ∀ w ∈ ws, w ∈ big) (h : ws.all goodWord = true) : GoodIn big ws := fun w hw => ⟨hm w hw, good_of_word (List.all_eq_true.mp h w hw)⟩
/-! ===== END ===== -/

/-! ===== BEGIN printed: names, fields, word lists, decode rows ===== -/
def RX0 : String := "LoadsAhead$Law"
def TX0 : u_T := fun k => match k with
  | 0 => ("LoadsAhead$Law", "kinds", "[I", true)
  | 1 => ("LoadsAhead$Law", "begins", "[I", true)
  | 2 => ("LoadsAhead$Law", "middles", "[I", true)
  | 3 => ("LoadsAhead$Law", "steps", "[I", true)
  | 4 => ("LoadsAhead$Law", "operands", "[I", true)
  | 5 => ("LoadsAhead$Law", "letters", "[I", true)
  | 6 => ("LoadsAhead$Law", "stack", "[I", true)
  | 7 => ("LoadsAhead$Law", "length", "I", false)
  | _ => ("LoadsAhead$Law", "stepCount", "I", false)
def tyX0 : Nat → FieldType := fun k => match k with
  | 0 => .array .int
  | 1 => .array .int
  | 2 => .array .int
  | 3 => .array .int
  | 4 => .array .int
  | 5 => .array .int
  | 6 => .array .int
  | 7 => .int
  | _ => .int
abbrev wsX00 : List Cond := u_ws RX0 TX0 9
theorem nmX0 : ∀ a, a < 9 → ∀ b, b < 9 → a ≠ b → (TX0 a).2.1 ≠ (TX0 b).2.1 := by decide +kernel
theorem tyX0_ok : ∀ k, k < 9 → parseFieldDescriptor (TX0 k).2.2.1 = some (tyX0 k) := by decide +kernel
abbrev cX0_init : ByteArray := prog_2_method_1_code
def yX0_init : MethodName := ⟨RX0, "<init>", "()V"⟩
abbrev cX0_copyFrom : ByteArray := prog_2_method_2_code
def yX0_copyFrom : MethodName := ⟨RX0, "copyFrom", "(LLoadsAhead$Law;)V"⟩
abbrev cX0_readFrom : ByteArray := prog_2_method_3_code
def yX0_readFrom : MethodName := ⟨RX0, "readFrom", "(LLoadsAhead$Tape;)I"⟩
abbrev cX0_readRule : ByteArray := prog_2_method_4_code
def yX0_readRule : MethodName := ⟨RX0, "readRule", "(LLoadsAhead$Tape;I)Z"⟩
abbrev cX0_readEither : ByteArray := prog_2_method_5_code
def yX0_readEither : MethodName := ⟨RX0, "readEither", "(LLoadsAhead$Tape;I)Z"⟩
abbrev cX0_readBoth : ByteArray := prog_2_method_6_code
def yX0_readBoth : MethodName := ⟨RX0, "readBoth", "(LLoadsAhead$Tape;I)Z"⟩
abbrev cX0_readTest : ByteArray := prog_2_method_7_code
def yX0_readTest : MethodName := ⟨RX0, "readTest", "(LLoadsAhead$Tape;I)Z"⟩
abbrev cX0_opens : ByteArray := prog_2_method_8_code
def yX0_opens : MethodName := ⟨RX0, "opens", "(LLoadsAhead$Tape;I)Z"⟩
abbrev cX0_readSum : ByteArray := prog_2_method_9_code
def yX0_readSum : MethodName := ⟨RX0, "readSum", "(LLoadsAhead$Tape;I)Z"⟩
abbrev cX0_readProduct : ByteArray := prog_2_method_10_code
def yX0_readProduct : MethodName := ⟨RX0, "readProduct", "(LLoadsAhead$Tape;I)Z"⟩
abbrev cX0_isOneOf : ByteArray := prog_2_method_11_code
def yX0_isOneOf : MethodName := ⟨RX0, "isOneOf", "(IIII)Z"⟩
abbrev cX0_readFactor : ByteArray := prog_2_method_12_code
def yX0_readFactor : MethodName := ⟨RX0, "readFactor", "(LLoadsAhead$Tape;I)Z"⟩
abbrev cX0_addStep : ByteArray := prog_2_method_13_code
def yX0_addStep : MethodName := ⟨RX0, "addStep", "(II)I"⟩
abbrev cX0_skipToHere : ByteArray := prog_2_method_14_code
def yX0_skipToHere : MethodName := ⟨RX0, "skipToHere", "(I)V"⟩
abbrev cX0_tell : ByteArray := prog_2_method_15_code
def yX0_tell : MethodName := ⟨RX0, "tell", "(IIIIIII)V"⟩
abbrev cX0_delay : ByteArray := prog_2_method_16_code
def yX0_delay : MethodName := ⟨RX0, "delay", "(I)I"⟩
abbrev cX0_holdsBack : ByteArray := prog_2_method_17_code
def yX0_holdsBack : MethodName := ⟨RX0, "holdsBack", "()Z"⟩
abbrev cX0_holds : ByteArray := prog_2_method_18_code
def yX0_holds : MethodName := ⟨RX0, "holds", "(I)Z"⟩
abbrev cX0_reckon : ByteArray := prog_2_method_19_code
def yX0_reckon : MethodName := ⟨RX0, "reckon", "(II)I"⟩
abbrev cX0_joined : ByteArray := prog_2_method_20_code
def yX0_joined : MethodName := ⟨RX0, "joined", "(III)I"⟩
def RX1 : String := "LoadsAhead$Machine"
def TX1 : u_T := fun k => match k with
  | 0 => ("LoadsAhead$Machine", "program", "LLoadsAhead$Program;", true)
  | 1 => ("LoadsAhead$Machine", "law", "LLoadsAhead$Law;", true)
  | 2 => ("LoadsAhead$Machine", "now", "LLoadsAhead$State;", true)
  | 3 => ("LoadsAhead$Machine", "after", "LLoadsAhead$State;", true)
  | 4 => ("LoadsAhead$Machine", "report", "LLoadsAhead$Report;", true)
  | 5 => ("LoadsAhead$Machine", "stages", "[I", true)
  | 6 => ("LoadsAhead$Machine", "until", "[I", true)
  | 7 => ("LoadsAhead$Machine", "retired", "[Z", true)
  | 8 => ("LoadsAhead$Machine", "remembered", "[I", true)
  | 9 => ("LoadsAhead$Machine", "wrongLoads", "[I", true)
  | 10 => ("LoadsAhead$Machine", "queue", "[I", true)
  | _ => ("LoadsAhead$Machine", "cycle", "I", false)
def tyX1 : Nat → FieldType := fun k => match k with
  | 0 => .object "LoadsAhead$Program"
  | 1 => .object "LoadsAhead$Law"
  | 2 => .object "LoadsAhead$State"
  | 3 => .object "LoadsAhead$State"
  | 4 => .object "LoadsAhead$Report"
  | 5 => .array .int
  | 6 => .array .int
  | 7 => .array .boolean
  | 8 => .array .int
  | 9 => .array .int
  | 10 => .array .int
  | _ => .int
abbrev wsX10 : List Cond := u_ws RX1 TX1 12
theorem nmX1 : ∀ a, a < 12 → ∀ b, b < 12 → a ≠ b → (TX1 a).2.1 ≠ (TX1 b).2.1 := by decide +kernel
theorem tyX1_ok : ∀ k, k < 12 → parseFieldDescriptor (TX1 k).2.2.1 = some (tyX1 k) := by decide +kernel
abbrev cX1_init : ByteArray := prog_3_method_1_code
def yX1_init : MethodName := ⟨RX1, "<init>", "()V"⟩
abbrev cX1_go : ByteArray := prog_3_method_2_code
def yX1_go : MethodName := ⟨RX1, "go", "(IZ)I"⟩
abbrev cX1_begin : ByteArray := prog_3_method_3_code
def yX1_begin : MethodName := ⟨RX1, "begin", "()V"⟩
abbrev cX1_finishOps : ByteArray := prog_3_method_4_code
def yX1_finishOps : MethodName := ⟨RX1, "finishOps", "()V"⟩
abbrev cX1_valueRead : ByteArray := prog_3_method_5_code
def yX1_valueRead : MethodName := ⟨RX1, "valueRead", "(II)I"⟩
abbrev cX1_takeBytes : ByteArray := prog_3_method_6_code
def yX1_takeBytes : MethodName := ⟨RX1, "takeBytes", "(I)V"⟩
abbrev cX1_youngestCovering : ByteArray := prog_3_method_7_code
def yX1_youngestCovering : MethodName := ⟨RX1, "youngestCovering", "(II)I"⟩
abbrev cX1_storedAt : ByteArray := prog_3_method_8_code
def yX1_storedAt : MethodName := ⟨RX1, "storedAt", "(II)I"⟩
abbrev cX1_lookBack : ByteArray := prog_3_method_9_code
def yX1_lookBack : MethodName := ⟨RX1, "lookBack", "(I)V"⟩
abbrev cX1_tookTooOld : ByteArray := prog_3_method_10_code
def yX1_tookTooOld : MethodName := ⟨RX1, "tookTooOld", "(II)Z"⟩
abbrev cX1_replay : ByteArray := prog_3_method_11_code
def yX1_replay : MethodName := ⟨RX1, "replay", "(I)V"⟩
abbrev cX1_dependsOn : ByteArray := prog_3_method_12_code
def yX1_dependsOn : MethodName := ⟨RX1, "dependsOn", "(II)Z"⟩
abbrev cX1_makeWait : ByteArray := prog_3_method_13_code
def yX1_makeWait : MethodName := ⟨RX1, "makeWait", "(I)V"⟩
abbrev cX1_undoDownTo : ByteArray := prog_3_method_14_code
def yX1_undoDownTo : MethodName := ⟨RX1, "undoDownTo", "(I)V"⟩
abbrev cX1_sendOff : ByteArray := prog_3_method_15_code
def yX1_sendOff : MethodName := ⟨RX1, "sendOff", "(IZ)V"⟩
abbrev cX1_isDone : ByteArray := prog_3_method_16_code
def yX1_isDone : MethodName := ⟨RX1, "isDone", "(I)Z"⟩
abbrev cX1_mustWait : ByteArray := prog_3_method_17_code
def yX1_mustWait : MethodName := ⟨RX1, "mustWait", "(IZ)Z"⟩
abbrev cX1_tellLaw : ByteArray := prog_3_method_18_code
def yX1_tellLaw : MethodName := ⟨RX1, "tellLaw", "(II)V"⟩
abbrev cX1_retireOne : ByteArray := prog_3_method_19_code
def yX1_retireOne : MethodName := ⟨RX1, "retireOne", "()V"⟩
abbrev cX1_oldestToRetire : ByteArray := prog_3_method_20_code
def yX1_oldestToRetire : MethodName := ⟨RX1, "oldestToRetire", "()I"⟩
abbrev cX1_doneAhead : ByteArray := prog_3_method_21_code
def yX1_doneAhead : MethodName := ⟨RX1, "doneAhead", "(I)Z"⟩
abbrev cX1_settled : ByteArray := prog_3_method_22_code
def yX1_settled : MethodName := ⟨RX1, "settled", "()Z"⟩
abbrev cX1_giveRegisters : ByteArray := prog_3_method_23_code
def yX1_giveRegisters : MethodName := ⟨RX1, "giveRegisters", "()V"⟩
def RX2 : String := "LoadsAhead$Plain"
def TX2 : u_T := fun k => match k with
  | 0 => ("LoadsAhead$Plain", "left", "LLoadsAhead$State;", true)
  | _ => ("LoadsAhead$Plain", "places", "[I", true)
def tyX2 : Nat → FieldType := fun k => match k with
  | 0 => .object "LoadsAhead$State"
  | _ => .array .int
abbrev wsX20 : List Cond := u_ws RX2 TX2 2
theorem nmX2 : ∀ a, a < 2 → ∀ b, b < 2 → a ≠ b → (TX2 a).2.1 ≠ (TX2 b).2.1 := by decide +kernel
theorem tyX2_ok : ∀ k, k < 2 → parseFieldDescriptor (TX2 k).2.2.1 = some (tyX2 k) := by decide +kernel
abbrev cX2_init : ByteArray := prog_4_method_1_code
def yX2_init : MethodName := ⟨RX2, "<init>", "()V"⟩
abbrev cX2_go : ByteArray := prog_4_method_2_code
def yX2_go : MethodName := ⟨RX2, "go", "(LLoadsAhead$Program;LLoadsAhead$State;)V"⟩
abbrev cX2_valueIn : ByteArray := prog_4_method_3_code
def yX2_valueIn : MethodName := ⟨RX2, "valueIn", "(I)I"⟩
abbrev cX2_loaded : ByteArray := prog_4_method_4_code
def yX2_loaded : MethodName := ⟨RX2, "loaded", "(II)I"⟩
abbrev cX2_sharedBytes : ByteArray := prog_4_method_5_code
def yX2_sharedBytes : MethodName := ⟨RX2, "sharedBytes", "(LLoadsAhead$Program;)I"⟩
abbrev cX2_meet : ByteArray := prog_4_method_6_code
def yX2_meet : MethodName := ⟨RX2, "meet", "(LLoadsAhead$Program;II)Z"⟩
def RX3 : String := "LoadsAhead$Program"
def TX3 : u_T := fun k => match k with
  | 0 => ("LoadsAhead$Program", "kinds", "[I", true)
  | 1 => ("LoadsAhead$Program", "signs", "[I", true)
  | 2 => ("LoadsAhead$Program", "sizes", "[I", true)
  | 3 => ("LoadsAhead$Program", "gives", "[I", true)
  | 4 => ("LoadsAhead$Program", "firsts", "[I", true)
  | 5 => ("LoadsAhead$Program", "seconds", "[I", true)
  | 6 => ("LoadsAhead$Program", "numbers", "[I", true)
  | 7 => ("LoadsAhead$Program", "firstSources", "[I", true)
  | 8 => ("LoadsAhead$Program", "secondSources", "[I", true)
  | 9 => ("LoadsAhead$Program", "givers", "[I", true)
  | 10 => ("LoadsAhead$Program", "depths", "[I", true)
  | 11 => ("LoadsAhead$Program", "length", "I", false)
  | _ => ("LoadsAhead$Program", "deepest", "I", false)
def tyX3 : Nat → FieldType := fun k => match k with
  | 0 => .array .int
  | 1 => .array .int
  | 2 => .array .int
  | 3 => .array .int
  | 4 => .array .int
  | 5 => .array .int
  | 6 => .array .int
  | 7 => .array .int
  | 8 => .array .int
  | 9 => .array .int
  | 10 => .array .int
  | 11 => .int
  | _ => .int
abbrev wsX30 : List Cond := u_ws RX3 TX3 13
theorem nmX3 : ∀ a, a < 13 → ∀ b, b < 13 → a ≠ b → (TX3 a).2.1 ≠ (TX3 b).2.1 := by decide +kernel
theorem tyX3_ok : ∀ k, k < 13 → parseFieldDescriptor (TX3 k).2.2.1 = some (tyX3 k) := by decide +kernel
abbrev cX3_init : ByteArray := prog_5_method_1_code
def yX3_init : MethodName := ⟨RX3, "<init>", "()V"⟩
abbrev cX3_copyFrom : ByteArray := prog_5_method_2_code
def yX3_copyFrom : MethodName := ⟨RX3, "copyFrom", "(LLoadsAhead$Program;)V"⟩
abbrev cX3_readFrom : ByteArray := prog_5_method_3_code
def yX3_readFrom : MethodName := ⟨RX3, "readFrom", "(LLoadsAhead$Tape;)I"⟩
abbrev cX3_readOp : ByteArray := prog_5_method_4_code
def yX3_readOp : MethodName := ⟨RX3, "readOp", "(LLoadsAhead$Tape;I)Z"⟩
abbrev cX3_kindOf : ByteArray := prog_5_method_5_code
def yX3_kindOf : MethodName := ⟨RX3, "kindOf", "(I)I"⟩
abbrev cX3_readGiven : ByteArray := prog_5_method_6_code
def yX3_readGiven : MethodName := ⟨RX3, "readGiven", "(LLoadsAhead$Tape;I)Z"⟩
abbrev cX3_readNumber : ByteArray := prog_5_method_7_code
def yX3_readNumber : MethodName := ⟨RX3, "readNumber", "(LLoadsAhead$Tape;I)Z"⟩
abbrev cX3_readReckoning : ByteArray := prog_5_method_8_code
def yX3_readReckoning : MethodName := ⟨RX3, "readReckoning", "(LLoadsAhead$Tape;I)Z"⟩
abbrev cX3_readMove : ByteArray := prog_5_method_9_code
def yX3_readMove : MethodName := ⟨RX3, "readMove", "(LLoadsAhead$Tape;I)Z"⟩
abbrev cX3_sizeOf : ByteArray := prog_5_method_10_code
def yX3_sizeOf : MethodName := ⟨RX3, "sizeOf", "(I)I"⟩
abbrev cX3_findSources : ByteArray := prog_5_method_11_code
def yX3_findSources : MethodName := ⟨RX3, "findSources", "()V"⟩
abbrev cX3_giverOfRegister : ByteArray := prog_5_method_12_code
def yX3_giverOfRegister : MethodName := ⟨RX3, "giverOfRegister", "(I)I"⟩
abbrev cX3_depthOf : ByteArray := prog_5_method_13_code
def yX3_depthOf : MethodName := ⟨RX3, "depthOf", "(I)I"⟩
abbrev cX3_moves : ByteArray := prog_5_method_14_code
def yX3_moves : MethodName := ⟨RX3, "moves", "(I)Z"⟩
abbrev cX3_ofKind : ByteArray := prog_5_method_15_code
def yX3_ofKind : MethodName := ⟨RX3, "ofKind", "(I)I"⟩
abbrev cX3_reckoned : ByteArray := prog_5_method_16_code
def yX3_reckoned : MethodName := ⟨RX3, "reckoned", "(III)I"⟩
abbrev cX3_placeBy : ByteArray := prog_5_method_17_code
def yX3_placeBy : MethodName := ⟨RX3, "placeBy", "(II)I"⟩
abbrev cX3_storedOf : ByteArray := prog_5_method_18_code
def yX3_storedOf : MethodName := ⟨RX3, "storedOf", "(II)I"⟩
def RX4 : String := "LoadsAhead$Report"
def TX4 : u_T := fun k => match k with
  | 0 => ("LoadsAhead$Report", "totals", "[I", true)
  | 1 => ("LoadsAhead$Report", "doneAt", "[I", true)
  | 2 => ("LoadsAhead$Report", "replays", "[I", true)
  | 3 => ("LoadsAhead$Report", "values", "[I", true)
  | 4 => ("LoadsAhead$Report", "places", "[I", true)
  | _ => ("LoadsAhead$Report", "givers", "[I", true)
def tyX4 : Nat → FieldType := fun k => match k with
  | 0 => .array .int
  | 1 => .array .int
  | 2 => .array .int
  | 3 => .array .int
  | 4 => .array .int
  | _ => .array .int
abbrev wsX40 : List Cond := u_ws RX4 TX4 6
theorem nmX4 : ∀ a, a < 6 → ∀ b, b < 6 → a ≠ b → (TX4 a).2.1 ≠ (TX4 b).2.1 := by decide +kernel
theorem tyX4_ok : ∀ k, k < 6 → parseFieldDescriptor (TX4 k).2.2.1 = some (tyX4 k) := by decide +kernel
abbrev cX4_init : ByteArray := prog_6_method_1_code
def yX4_init : MethodName := ⟨RX4, "<init>", "()V"⟩
abbrev cX4_clear : ByteArray := prog_6_method_2_code
def yX4_clear : MethodName := ⟨RX4, "clear", "()V"⟩
abbrev cX4_copyFrom : ByteArray := prog_6_method_3_code
def yX4_copyFrom : MethodName := ⟨RX4, "copyFrom", "(LLoadsAhead$Report;)V"⟩
def RX5 : String := "LoadsAhead$Rows"
def TX5 : u_T := fun k => match k with
  | 0 => ("LoadsAhead$Rows", "ops", "[[I", true)
  | 1 => ("LoadsAhead$Rows", "lengths", "[I", true)
  | _ => ("LoadsAhead$Rows", "misplaced", "I", false)
def tyX5 : Nat → FieldType := fun k => match k with
  | 0 => .array (.array .int)
  | 1 => .array .int
  | _ => .int
abbrev wsX50 : List Cond := u_ws RX5 TX5 3
theorem nmX5 : ∀ a, a < 3 → ∀ b, b < 3 → a ≠ b → (TX5 a).2.1 ≠ (TX5 b).2.1 := by decide +kernel
theorem tyX5_ok : ∀ k, k < 3 → parseFieldDescriptor (TX5 k).2.2.1 = some (tyX5 k) := by decide +kernel
abbrev cX5_init : ByteArray := prog_7_method_1_code
def yX5_init : MethodName := ⟨RX5, "<init>", "()V"⟩
abbrev cX5_clear : ByteArray := prog_7_method_2_code
def yX5_clear : MethodName := ⟨RX5, "clear", "()V"⟩
abbrev cX5_put : ByteArray := prog_7_method_3_code
def yX5_put : MethodName := ⟨RX5, "put", "(II)I"⟩
def RX6 : String := "LoadsAhead$State"
def TX6 : u_T := fun k => match k with
  | 0 => ("LoadsAhead$State", "registers", "[I", true)
  | 1 => ("LoadsAhead$State", "memory", "[I", true)
  | 2 => ("LoadsAhead$State", "sets", "[I", true)
  | 3 => ("LoadsAhead$State", "nextSet", "I", false)
  | 4 => ("LoadsAhead$State", "runs", "I", false)
  | _ => ("LoadsAhead$State", "x", "I", false)
def tyX6 : Nat → FieldType := fun k => match k with
  | 0 => .array .int
  | 1 => .array .int
  | 2 => .array .int
  | 3 => .int
  | 4 => .int
  | _ => .int
abbrev wsX60 : List Cond := u_ws RX6 TX6 6
theorem nmX6 : ∀ a, a < 6 → ∀ b, b < 6 → a ≠ b → (TX6 a).2.1 ≠ (TX6 b).2.1 := by decide +kernel
theorem tyX6_ok : ∀ k, k < 6 → parseFieldDescriptor (TX6 k).2.2.1 = some (tyX6 k) := by decide +kernel
abbrev cX6_init : ByteArray := prog_8_method_1_code
def yX6_init : MethodName := ⟨RX6, "<init>", "()V"⟩
abbrev cX6_copyFrom : ByteArray := prog_8_method_2_code
def yX6_copyFrom : MethodName := ⟨RX6, "copyFrom", "(LLoadsAhead$State;)V"⟩
abbrev cX6_copyCellsFrom : ByteArray := prog_8_method_3_code
def yX6_copyCellsFrom : MethodName := ⟨RX6, "copyCellsFrom", "(LLoadsAhead$State;)V"⟩
abbrev cX6_copySetsFrom : ByteArray := prog_8_method_4_code
def yX6_copySetsFrom : MethodName := ⟨RX6, "copySetsFrom", "(LLoadsAhead$State;)V"⟩
abbrev cX6_dropSets : ByteArray := prog_8_method_5_code
def yX6_dropSets : MethodName := ⟨RX6, "dropSets", "()V"⟩
abbrev cX6_withSet : ByteArray := prog_8_method_6_code
def yX6_withSet : MethodName := ⟨RX6, "withSet", "()I"⟩
abbrev cX6_bytesNotZero : ByteArray := prog_8_method_7_code
def yX6_bytesNotZero : MethodName := ⟨RX6, "bytesNotZero", "()I"⟩
abbrev cX6_draw : ByteArray := prog_8_method_8_code
def yX6_draw : MethodName := ⟨RX6, "draw", "()I"⟩
abbrev cX6_melt : ByteArray := prog_8_method_9_code
def yX6_melt : MethodName := ⟨RX6, "melt", "(II)V"⟩
abbrev cX6_putBytes : ByteArray := prog_8_method_10_code
def yX6_putBytes : MethodName := ⟨RX6, "putBytes", "(III)V"⟩
def RX7 : String := "LoadsAhead$Tape"
def TX7 : u_T := fun k => match k with
  | 0 => ("LoadsAhead$Tape", "bytes", "[I", true)
  | 1 => ("LoadsAhead$Tape", "length", "I", false)
  | 2 => ("LoadsAhead$Tape", "end", "I", false)
  | 3 => ("LoadsAhead$Tape", "at", "I", false)
  | _ => ("LoadsAhead$Tape", "fault", "I", false)
def tyX7 : Nat → FieldType := fun k => match k with
  | 0 => .array .int
  | 1 => .int
  | 2 => .int
  | 3 => .int
  | _ => .int
abbrev wsX70 : List Cond := u_ws RX7 TX7 5
theorem nmX7 : ∀ a, a < 5 → ∀ b, b < 5 → a ≠ b → (TX7 a).2.1 ≠ (TX7 b).2.1 := by decide +kernel
theorem tyX7_ok : ∀ k, k < 5 → parseFieldDescriptor (TX7 k).2.2.1 = some (tyX7 k) := by decide +kernel
abbrev cX7_init : ByteArray := prog_9_method_1_code
def yX7_init : MethodName := ⟨RX7, "<init>", "()V"⟩
abbrev cX7_add : ByteArray := prog_9_method_2_code
def yX7_add : MethodName := ⟨RX7, "add", "(I)V"⟩
abbrev cX7_clear : ByteArray := prog_9_method_3_code
def yX7_clear : MethodName := ⟨RX7, "clear", "()V"⟩
abbrev cX7_beginText : ByteArray := prog_9_method_4_code
def yX7_beginText : MethodName := ⟨RX7, "beginText", "(I)V"⟩
abbrev cX7_ended : ByteArray := prog_9_method_5_code
def yX7_ended : MethodName := ⟨RX7, "ended", "()Z"⟩
abbrev cX7_sign : ByteArray := prog_9_method_6_code
def yX7_sign : MethodName := ⟨RX7, "sign", "()I"⟩
abbrev cX7_digitNext : ByteArray := prog_9_method_7_code
def yX7_digitNext : MethodName := ⟨RX7, "digitNext", "()Z"⟩
abbrev cX7_step : ByteArray := prog_9_method_8_code
def yX7_step : MethodName := ⟨RX7, "step", "()V"⟩
abbrev cX7_accept : ByteArray := prog_9_method_9_code
def yX7_accept : MethodName := ⟨RX7, "accept", "(I)Z"⟩
abbrev cX7_fail : ByteArray := prog_9_method_10_code
def yX7_fail : MethodName := ⟨RX7, "fail", "(I)Z"⟩
abbrev cX7_fault : ByteArray := prog_9_method_11_code
def yX7_fault : MethodName := ⟨RX7, "fault", "()I"⟩
abbrev cX7_readDigits : ByteArray := prog_9_method_12_code
def yX7_readDigits : MethodName := ⟨RX7, "readDigits", "(I)I"⟩
abbrev cX7_readRegister : ByteArray := prog_9_method_13_code
def yX7_readRegister : MethodName := ⟨RX7, "readRegister", "()I"⟩
def RX8 : String := "LoadsAhead"
def TX8 : u_T := fun k => match k with
  | 0 => ("LoadsAhead", "tape", "LLoadsAhead$Tape;", true)
  | 1 => ("LoadsAhead", "machine", "LLoadsAhead$Machine;", true)
  | 2 => ("LoadsAhead", "spareProgram", "LLoadsAhead$Program;", true)
  | 3 => ("LoadsAhead", "spareLaw", "LLoadsAhead$Law;", true)
  | 4 => ("LoadsAhead", "inOrder", "LLoadsAhead$Plain;", true)
  | 5 => ("LoadsAhead", "last", "LLoadsAhead$Report;", true)
  | 6 => ("LoadsAhead", "kept", "LLoadsAhead$State;", true)
  | 7 => ("LoadsAhead", "rows", "LLoadsAhead$Rows;", true)
  | 8 => ("LoadsAhead", "hasLast", "Z", false)
  | 9 => ("LoadsAhead", "hasKept", "Z", false)
  | _ => ("LoadsAhead", "toldSinceKept", "Z", false)
def tyX8 : Nat → FieldType := fun k => match k with
  | 0 => .object "LoadsAhead$Tape"
  | 1 => .object "LoadsAhead$Machine"
  | 2 => .object "LoadsAhead$Program"
  | 3 => .object "LoadsAhead$Law"
  | 4 => .object "LoadsAhead$Plain"
  | 5 => .object "LoadsAhead$Report"
  | 6 => .object "LoadsAhead$State"
  | 7 => .object "LoadsAhead$Rows"
  | 8 => .boolean
  | 9 => .boolean
  | _ => .boolean
abbrev wsX80 : List Cond := u_ws RX8 TX8 11
theorem nmX8 : ∀ a, a < 11 → ∀ b, b < 11 → a ≠ b → (TX8 a).2.1 ≠ (TX8 b).2.1 := by decide +kernel
theorem tyX8_ok : ∀ k, k < 11 → parseFieldDescriptor (TX8 k).2.2.1 = some (tyX8 k) := by decide +kernel
abbrev cX8_init : ByteArray := prog_1_method_1_code
def yX8_init : MethodName := ⟨RX8, "<init>", "()V"⟩
abbrev cX8_register : ByteArray := prog_1_method_2_code
def yX8_register : MethodName := ⟨RX8, "register", "(II)Z"⟩
abbrev cX8_poke : ByteArray := prog_1_method_3_code
def yX8_poke : MethodName := ⟨RX8, "poke", "(II)Z"⟩
abbrev cX8_feed : ByteArray := prog_1_method_4_code
def yX8_feed : MethodName := ⟨RX8, "feed", "(IIIII)I"⟩
abbrev cX8_law : ByteArray := prog_1_method_5_code
def yX8_law : MethodName := ⟨RX8, "law", "(I)I"⟩
abbrev cX8_program : ByteArray := prog_1_method_6_code
def yX8_program : MethodName := ⟨RX8, "program", "(I)I"⟩
abbrev cX8_run : ByteArray := prog_1_method_7_code
def yX8_run : MethodName := ⟨RX8, "run", "(I)I"⟩
abbrev cX8_tried : ByteArray := prog_1_method_8_code
def yX8_tried : MethodName := ⟨RX8, "tried", "(II)I"⟩
abbrev cX8_lastRun : ByteArray := prog_1_method_9_code
def yX8_lastRun : MethodName := ⟨RX8, "lastRun", "(I)I"⟩
abbrev cX8_opIs : ByteArray := prog_1_method_10_code
def yX8_opIs : MethodName := ⟨RX8, "opIs", "(II)I"⟩
abbrev cX8_source : ByteArray := prog_1_method_11_code
def yX8_source : MethodName := ⟨RX8, "source", "(II)I"⟩
abbrev cX8_now : ByteArray := prog_1_method_12_code
def yX8_now : MethodName := ⟨RX8, "now", "(I)I"⟩
abbrev cX8_plain : ByteArray := prog_1_method_13_code
def yX8_plain : MethodName := ⟨RX8, "plain", "(I)I"⟩
abbrev cX8_unlike : ByteArray := prog_1_method_14_code
def yX8_unlike : MethodName := ⟨RX8, "unlike", "(I)I"⟩
abbrev cX8_fastest : ByteArray := prog_1_method_15_code
def yX8_fastest : MethodName := ⟨RX8, "fastest", "(I)I"⟩
abbrev cX8_cautious : ByteArray := prog_1_method_16_code
def yX8_cautious : MethodName := ⟨RX8, "cautious", "(II)I"⟩
abbrev cX8_worst : ByteArray := prog_1_method_17_code
def yX8_worst : MethodName := ⟨RX8, "worst", "(I)I"⟩
abbrev cX8_deep : ByteArray := prog_1_method_18_code
def yX8_deep : MethodName := ⟨RX8, "deep", "()I"⟩
abbrev cX8_mix : ByteArray := prog_1_method_19_code
def yX8_mix : MethodName := ⟨RX8, "mix", "()I"⟩
abbrev cX8_watch : ByteArray := prog_1_method_20_code
def yX8_watch : MethodName := ⟨RX8, "watch", "(II)I"⟩
abbrev cX8_watched : ByteArray := prog_1_method_21_code
def yX8_watched : MethodName := ⟨RX8, "watched", "(III)I"⟩
abbrev cX8_forget : ByteArray := prog_1_method_22_code
def yX8_forget : MethodName := ⟨RX8, "forget", "()I"⟩
abbrev cX8_seed : ByteArray := prog_1_method_23_code
def yX8_seed : MethodName := ⟨RX8, "seed", "(I)Z"⟩
abbrev cX8_keep : ByteArray := prog_1_method_24_code
def yX8_keep : MethodName := ⟨RX8, "keep", "()I"⟩
abbrev cX8_undo : ByteArray := prog_1_method_25_code
def yX8_undo : MethodName := ⟨RX8, "undo", "()Z"⟩
abbrev cX8_check : ByteArray := prog_1_method_26_code
def yX8_check : MethodName := ⟨RX8, "check", "(I)I"⟩
abbrev cX8_count : ByteArray := prog_1_method_27_code
def yX8_count : MethodName := ⟨RX8, "count", "(I)I"⟩
abbrev cX8_canRun : ByteArray := prog_1_method_28_code
def yX8_canRun : MethodName := ⟨RX8, "canRun", "(I)Z"⟩
abbrev cX8_isOp : ByteArray := prog_1_method_29_code
def yX8_isOp : MethodName := ⟨RX8, "isOp", "(I)Z"⟩
abbrev cX8_giverOf : ByteArray := prog_1_method_30_code
def yX8_giverOf : MethodName := ⟨RX8, "giverOf", "(II)I"⟩
abbrev cX8_isTotal : ByteArray := prog_1_method_31_code
def yX8_isTotal : MethodName := ⟨RX8, "isTotal", "(I)Z"⟩
abbrev cX8_isCell : ByteArray := prog_1_method_32_code
def yX8_isCell : MethodName := ⟨RX8, "isCell", "(I)Z"⟩
abbrev cX8_isByte : ByteArray := prog_1_method_33_code
def yX8_isByte : MethodName := ⟨RX8, "isByte", "(I)Z"⟩
abbrev cX8_orAbsent : ByteArray := prog_1_method_34_code
def yX8_orAbsent : MethodName := ⟨RX8, "orAbsent", "(I)I"⟩
abbrev cX8_differing : ByteArray := prog_1_method_35_code
def yX8_differing : MethodName := ⟨RX8, "differing", "([I[I)I"⟩
abbrev cX8_covers : ByteArray := prog_1_method_36_code
def yX8_covers : MethodName := ⟨RX8, "covers", "(III)Z"⟩
def RX9 : String := "LoadsAheadModel"
def TX9 : u_T := fun k => match k with
  | 0 => ("LoadsAheadModel", "lot", "I", false)
  | 1 => ("LoadsAheadModel", "runsSoFar", "I", false)
  | 2 => ("LoadsAheadModel", "ops", "I", false)
  | 3 => ("LoadsAheadModel", "nextSet", "I", false)
  | 4 => ("LoadsAheadModel", "misplaced", "I", false)
  | 5 => ("LoadsAheadModel", "programs", "I", false)
  | 6 => ("LoadsAheadModel", "registers", "[I", true)
  | 7 => ("LoadsAheadModel", "memory", "[I", true)
  | 8 => ("LoadsAheadModel", "opSet", "[I", true)
  | 9 => ("LoadsAheadModel", "opKind", "[I", true)
  | 10 => ("LoadsAheadModel", "opSign", "[I", true)
  | 11 => ("LoadsAheadModel", "opTo", "[I", true)
  | 12 => ("LoadsAheadModel", "opOne", "[I", true)
  | 13 => ("LoadsAheadModel", "opOther", "[I", true)
  | 14 => ("LoadsAheadModel", "opSize", "[I", true)
  | 15 => ("LoadsAheadModel", "opBase", "[I", true)
  | 16 => ("LoadsAheadModel", "opNumber", "[I", true)
  | 17 => ("LoadsAheadModel", "tape", "[B", true)
  | 18 => ("LoadsAheadModel", "taped", "I", false)
  | 19 => ("LoadsAheadModel", "place0", "I", false)
  | 20 => ("LoadsAheadModel", "length0", "I", false)
  | 21 => ("LoadsAheadModel", "fault", "I", false)
  | 22 => ("LoadsAheadModel", "number0", "I", false)
  | 23 => ("LoadsAheadModel", "open", "I", false)
  | 24 => ("LoadsAheadModel", "codeMany", "I", false)
  | 25 => ("LoadsAheadModel", "waiting", "I", false)
  | 26 => ("LoadsAheadModel", "saidMany", "I", false)
  | 27 => ("LoadsAheadModel", "clauses", "I", false)
  | 28 => ("LoadsAheadModel", "said", "[I", true)
  | 29 => ("LoadsAheadModel", "waitsAt", "[I", true)
  | 30 => ("LoadsAheadModel", "saidLetter", "[I", true)
  | 31 => ("LoadsAheadModel", "saidFrom", "[I", true)
  | 32 => ("LoadsAheadModel", "saidHalf", "[I", true)
  | 33 => ("LoadsAheadModel", "saidTo", "[I", true)
  | 34 => ("LoadsAheadModel", "codes", "[I", true)
  | 35 => ("LoadsAheadModel", "clauseOf", "[I", true)
  | 36 => ("LoadsAheadModel", "codeFrom", "[I", true)
  | 37 => ("LoadsAheadModel", "codeHalf", "[I", true)
  | 38 => ("LoadsAheadModel", "codeTo", "[I", true)
  | 39 => ("LoadsAheadModel", "stack", "[I", true)
  | 40 => ("LoadsAheadModel", "facts", "[I", true)
  | 41 => ("LoadsAheadModel", "newOps", "I", false)
  | 42 => ("LoadsAheadModel", "newKind", "[I", true)
  | 43 => ("LoadsAheadModel", "newSign", "[I", true)
  | 44 => ("LoadsAheadModel", "newTo", "[I", true)
  | 45 => ("LoadsAheadModel", "newOne", "[I", true)
  | 46 => ("LoadsAheadModel", "newOther", "[I", true)
  | 47 => ("LoadsAheadModel", "newSize", "[I", true)
  | 48 => ("LoadsAheadModel", "newBase", "[I", true)
  | 49 => ("LoadsAheadModel", "newNumber", "[I", true)
  | 50 => ("LoadsAheadModel", "stateOf", "[I", true)
  | 51 => ("LoadsAheadModel", "tillOf", "[I", true)
  | 52 => ("LoadsAheadModel", "valueOf", "[I", true)
  | 53 => ("LoadsAheadModel", "placeOf", "[I", true)
  | 54 => ("LoadsAheadModel", "doneOf", "[I", true)
  | 55 => ("LoadsAheadModel", "replayedOf", "[I", true)
  | 56 => ("LoadsAheadModel", "takenOf", "[I", true)
  | 57 => ("LoadsAheadModel", "before", "[I", true)
  | 58 => ("LoadsAheadModel", "isRetired", "[Z", true)
  | 59 => ("LoadsAheadModel", "memoryThen", "[I", true)
  | 60 => ("LoadsAheadModel", "memoryNow", "[I", true)
  | 61 => ("LoadsAheadModel", "setThen", "[I", true)
  | 62 => ("LoadsAheadModel", "endOf", "[I", true)
  | 63 => ("LoadsAheadModel", "cycles", "I", false)
  | 64 => ("LoadsAheadModel", "wrongs", "I", false)
  | 65 => ("LoadsAheadModel", "replays", "I", false)
  | 66 => ("LoadsAheadModel", "aheads", "I", false)
  | 67 => ("LoadsAheadModel", "undone", "I", false)
  | 68 => ("LoadsAheadModel", "waited", "I", false)
  | 69 => ("LoadsAheadModel", "nextThen", "I", false)
  | 70 => ("LoadsAheadModel", "isCareful", "Z", false)
  | 71 => ("LoadsAheadModel", "listOf", "[I", true)
  | 72 => ("LoadsAheadModel", "listed", "I", false)
  | 73 => ("LoadsAheadModel", "placeAt", "[I", true)
  | 74 => ("LoadsAheadModel", "wrongOf", "[I", true)
  | 75 => ("LoadsAheadModel", "hasLast", "Z", false)
  | 76 => ("LoadsAheadModel", "lastTold", "[I", true)
  | 77 => ("LoadsAheadModel", "lastDone", "[I", true)
  | 78 => ("LoadsAheadModel", "lastReplayed", "[I", true)
  | 79 => ("LoadsAheadModel", "lastValue", "[I", true)
  | 80 => ("LoadsAheadModel", "lastPlace", "[I", true)
  | 81 => ("LoadsAheadModel", "lastTaken", "[I", true)
  | 82 => ("LoadsAheadModel", "plainRegister", "[I", true)
  | 83 => ("LoadsAheadModel", "plainMemory", "[I", true)
  | 84 => ("LoadsAheadModel", "plainPlace", "[I", true)
  | 85 => ("LoadsAheadModel", "deepOf", "[I", true)
  | 86 => ("LoadsAheadModel", "watchedOf", "[I", true)
  | 87 => ("LoadsAheadModel", "watchedMany", "[I", true)
  | 88 => ("LoadsAheadModel", "isKept", "Z", false)
  | 89 => ("LoadsAheadModel", "keptPrograms", "I", false)
  | 90 => ("LoadsAheadModel", "keptNext", "I", false)
  | 91 => ("LoadsAheadModel", "keptRuns", "I", false)
  | 92 => ("LoadsAheadModel", "keptLot", "I", false)
  | 93 => ("LoadsAheadModel", "keptRegister", "[I", true)
  | 94 => ("LoadsAheadModel", "keptMemory", "[I", true)
  | _ => ("LoadsAheadModel", "keptSet", "[I", true)
def tyX9 : Nat → FieldType := fun k => match k with
  | 0 => .int
  | 1 => .int
  | 2 => .int
  | 3 => .int
  | 4 => .int
  | 5 => .int
  | 6 => .array .int
  | 7 => .array .int
  | 8 => .array .int
  | 9 => .array .int
  | 10 => .array .int
  | 11 => .array .int
  | 12 => .array .int
  | 13 => .array .int
  | 14 => .array .int
  | 15 => .array .int
  | 16 => .array .int
  | 17 => .array .byte
  | 18 => .int
  | 19 => .int
  | 20 => .int
  | 21 => .int
  | 22 => .int
  | 23 => .int
  | 24 => .int
  | 25 => .int
  | 26 => .int
  | 27 => .int
  | 28 => .array .int
  | 29 => .array .int
  | 30 => .array .int
  | 31 => .array .int
  | 32 => .array .int
  | 33 => .array .int
  | 34 => .array .int
  | 35 => .array .int
  | 36 => .array .int
  | 37 => .array .int
  | 38 => .array .int
  | 39 => .array .int
  | 40 => .array .int
  | 41 => .int
  | 42 => .array .int
  | 43 => .array .int
  | 44 => .array .int
  | 45 => .array .int
  | 46 => .array .int
  | 47 => .array .int
  | 48 => .array .int
  | 49 => .array .int
  | 50 => .array .int
  | 51 => .array .int
  | 52 => .array .int
  | 53 => .array .int
  | 54 => .array .int
  | 55 => .array .int
  | 56 => .array .int
  | 57 => .array .int
  | 58 => .array .boolean
  | 59 => .array .int
  | 60 => .array .int
  | 61 => .array .int
  | 62 => .array .int
  | 63 => .int
  | 64 => .int
  | 65 => .int
  | 66 => .int
  | 67 => .int
  | 68 => .int
  | 69 => .int
  | 70 => .boolean
  | 71 => .array .int
  | 72 => .int
  | 73 => .array .int
  | 74 => .array .int
  | 75 => .boolean
  | 76 => .array .int
  | 77 => .array .int
  | 78 => .array .int
  | 79 => .array .int
  | 80 => .array .int
  | 81 => .array .int
  | 82 => .array .int
  | 83 => .array .int
  | 84 => .array .int
  | 85 => .array .int
  | 86 => .array .int
  | 87 => .array .int
  | 88 => .boolean
  | 89 => .int
  | 90 => .int
  | 91 => .int
  | 92 => .int
  | 93 => .array .int
  | 94 => .array .int
  | _ => .array .int
abbrev wsX90 : List Cond := u_ws RX9 TX9 96
theorem nmX9 : ∀ a, a < 96 → ∀ b, b < 96 → a ≠ b → (TX9 a).2.1 ≠ (TX9 b).2.1 := by decide +kernel
theorem tyX9_ok : ∀ k, k < 96 → parseFieldDescriptor (TX9 k).2.2.1 = some (tyX9 k) := by decide +kernel
abbrev cX9_init : ByteArray := prog_11_method_1_code
def yX9_init : MethodName := ⟨RX9, "<init>", "()V"⟩
abbrev cX9_in : ByteArray := prog_11_method_2_code
def yX9_in : MethodName := ⟨RX9, "in", "(III)Z"⟩
abbrev cX9_max : ByteArray := prog_11_method_3_code
def yX9_max : MethodName := ⟨RX9, "max", "(II)I"⟩
abbrev cX9_min : ByteArray := prog_11_method_4_code
def yX9_min : MethodName := ⟨RX9, "min", "(II)I"⟩
abbrev cX9_isOp : ByteArray := prog_11_method_5_code
def yX9_isOp : MethodName := ⟨RX9, "isOp", "(I)Z"⟩
abbrev cX9_register : ByteArray := prog_11_method_6_code
def yX9_register : MethodName := ⟨RX9, "register", "(II)Z"⟩
abbrev cX9_poke : ByteArray := prog_11_method_7_code
def yX9_poke : MethodName := ⟨RX9, "poke", "(II)Z"⟩
abbrev cX9_types : ByteArray := prog_11_method_8_code
def yX9_types : MethodName := ⟨RX9, "types", "(I)V"⟩
abbrev cX9_feed : ByteArray := prog_11_method_9_code
def yX9_feed : MethodName := ⟨RX9, "feed", "(IIIII)I"⟩
abbrev cX9_octet : ByteArray := prog_11_method_10_code
def yX9_octet : MethodName := ⟨RX9, "octet", "(I)I"⟩
abbrev cX9_here : ByteArray := prog_11_method_11_code
def yX9_here : MethodName := ⟨RX9, "here", "()I"⟩
abbrev cX9_isDigit : ByteArray := prog_11_method_12_code
def yX9_isDigit : MethodName := ⟨RX9, "isDigit", "()Z"⟩
abbrev cX9_wrongAt : ByteArray := prog_11_method_13_code
def yX9_wrongAt : MethodName := ⟨RX9, "wrongAt", "(II)Z"⟩
abbrev cX9_takes : ByteArray := prog_11_method_14_code
def yX9_takes : MethodName := ⟨RX9, "takes", "(I)Z"⟩
abbrev cX9_readsNumber : ByteArray := prog_11_method_15_code
def yX9_readsNumber : MethodName := ⟨RX9, "readsNumber", "()Z"⟩
abbrev cX9_notes : ByteArray := prog_11_method_16_code
def yX9_notes : MethodName := ⟨RX9, "notes", "(II)V"⟩
abbrev cX9_opens : ByteArray := prog_11_method_17_code
def yX9_opens : MethodName := ⟨RX9, "opens", "(I)Z"⟩
abbrev cX9_waitTop : ByteArray := prog_11_method_18_code
def yX9_waitTop : MethodName := ⟨RX9, "waitTop", "()I"⟩
abbrev cX9_factOf : ByteArray := prog_11_method_19_code
def yX9_factOf : MethodName := ⟨RX9, "factOf", "(I)I"⟩
abbrev cX9_sumSign : ByteArray := prog_11_method_20_code
def yX9_sumSign : MethodName := ⟨RX9, "sumSign", "(I)I"⟩
abbrev cX9_closesSums : ByteArray := prog_11_method_21_code
def yX9_closesSums : MethodName := ⟨RX9, "closesSums", "(Z)V"⟩
abbrev cX9_readsFactor : ByteArray := prog_11_method_22_code
def yX9_readsFactor : MethodName := ⟨RX9, "readsFactor", "()Z"⟩
abbrev cX9_hasOpenSum : ByteArray := prog_11_method_23_code
def yX9_hasOpenSum : MethodName := ⟨RX9, "hasOpenSum", "(I)Z"⟩
abbrev cX9_readsSum : ByteArray := prog_11_method_24_code
def yX9_readsSum : MethodName := ⟨RX9, "readsSum", "()Z"⟩
abbrev cX9_endsPiece : ByteArray := prog_11_method_25_code
def yX9_endsPiece : MethodName := ⟨RX9, "endsPiece", "()V"⟩
abbrev cX9_lands : ByteArray := prog_11_method_26_code
def yX9_lands : MethodName := ⟨RX9, "lands", "(Z)V"⟩
abbrev cX9_jumps : ByteArray := prog_11_method_27_code
def yX9_jumps : MethodName := ⟨RX9, "jumps", "(I)V"⟩
abbrev cX9_readsCompared : ByteArray := prog_11_method_28_code
def yX9_readsCompared : MethodName := ⟨RX9, "readsCompared", "()Z"⟩
abbrev cX9_readsCondition : ByteArray := prog_11_method_29_code
def yX9_readsCondition : MethodName := ⟨RX9, "readsCondition", "()Z"⟩
abbrev cX9_readsRule : ByteArray := prog_11_method_30_code
def yX9_readsRule : MethodName := ⟨RX9, "readsRule", "()Z"⟩
abbrev cX9_beginsText : ByteArray := prog_11_method_31_code
def yX9_beginsText : MethodName := ⟨RX9, "beginsText", "(I)V"⟩
abbrev cX9_law : ByteArray := prog_11_method_32_code
def yX9_law : MethodName := ⟨RX9, "law", "(I)I"⟩
abbrev cX9_reckon : ByteArray := prog_11_method_33_code
def yX9_reckon : MethodName := ⟨RX9, "reckon", "(III)I"⟩
abbrev cX9_reckonsTo : ByteArray := prog_11_method_34_code
def yX9_reckonsTo : MethodName := ⟨RX9, "reckonsTo", "(II)I"⟩
abbrev cX9_delayOf : ByteArray := prog_11_method_35_code
def yX9_delayOf : MethodName := ⟨RX9, "delayOf", "(I)I"⟩
abbrev cX9_isHeldBack : ByteArray := prog_11_method_36_code
def yX9_isHeldBack : MethodName := ⟨RX9, "isHeldBack", "()Z"⟩
abbrev cX9_feels : ByteArray := prog_11_method_37_code
def yX9_feels : MethodName := ⟨RX9, "feels", "(III)V"⟩
abbrev cX9_readsRegister : ByteArray := prog_11_method_38_code
def yX9_readsRegister : MethodName := ⟨RX9, "readsRegister", "()Z"⟩
abbrev cX9_readsAmount : ByteArray := prog_11_method_39_code
def yX9_readsAmount : MethodName := ⟨RX9, "readsAmount", "()Z"⟩
abbrev cX9_kindBy : ByteArray := prog_11_method_40_code
def yX9_kindBy : MethodName := ⟨RX9, "kindBy", "(I)I"⟩
abbrev cX9_sizeBy : ByteArray := prog_11_method_41_code
def yX9_sizeBy : MethodName := ⟨RX9, "sizeBy", "(I)I"⟩
abbrev cX9_readsPlace : ByteArray := prog_11_method_42_code
def yX9_readsPlace : MethodName := ⟨RX9, "readsPlace", "(I)Z"⟩
abbrev cX9_readsOp : ByteArray := prog_11_method_43_code
def yX9_readsOp : MethodName := ⟨RX9, "readsOp", "()Z"⟩
abbrev cX9_program : ByteArray := prog_11_method_44_code
def yX9_program : MethodName := ⟨RX9, "program", "(I)I"⟩
abbrev cX9_gives : ByteArray := prog_11_method_45_code
def yX9_gives : MethodName := ⟨RX9, "gives", "(II)Z"⟩
abbrev cX9_doesRead : ByteArray := prog_11_method_46_code
def yX9_doesRead : MethodName := ⟨RX9, "doesRead", "(II)Z"⟩
abbrev cX9_giverOf : ByteArray := prog_11_method_47_code
def yX9_giverOf : MethodName := ⟨RX9, "giverOf", "(II)I"⟩
abbrev cX9_source : ByteArray := prog_11_method_48_code
def yX9_source : MethodName := ⟨RX9, "source", "(II)I"⟩
abbrev cX9_hasSource : ByteArray := prog_11_method_49_code
def yX9_hasSource : MethodName := ⟨RX9, "hasSource", "(II)Z"⟩
abbrev cX9_reckoned : ByteArray := prog_11_method_50_code
def yX9_reckoned : MethodName := ⟨RX9, "reckoned", "(III)I"⟩
abbrev cX9_cut : ByteArray := prog_11_method_51_code
def yX9_cut : MethodName := ⟨RX9, "cut", "(II)I"⟩
abbrev cX9_readBy : ByteArray := prog_11_method_52_code
def yX9_readBy : MethodName := ⟨RX9, "readBy", "(II)I"⟩
abbrev cX9_placeBy : ByteArray := prog_11_method_53_code
def yX9_placeBy : MethodName := ⟨RX9, "placeBy", "(I)I"⟩
abbrev cX9_covers : ByteArray := prog_11_method_54_code
def yX9_covers : MethodName := ⟨RX9, "covers", "(II)Z"⟩
abbrev cX9_byteOf : ByteArray := prog_11_method_55_code
def yX9_byteOf : MethodName := ⟨RX9, "byteOf", "(II)I"⟩
abbrev cX9_areSourcesDone : ByteArray := prog_11_method_56_code
def yX9_areSourcesDone : MethodName := ⟨RX9, "areSourcesDone", "(I)Z"⟩
abbrev cX9_areStoresDone : ByteArray := prog_11_method_57_code
def yX9_areStoresDone : MethodName := ⟨RX9, "areStoresDone", "(I)Z"⟩
abbrev cX9_isKeptBack : ByteArray := prog_11_method_58_code
def yX9_isKeptBack : MethodName := ⟨RX9, "isKeptBack", "(I)Z"⟩
abbrev cX9_melts : ByteArray := prog_11_method_59_code
def yX9_melts : MethodName := ⟨RX9, "melts", "(II)V"⟩
abbrev cX9_lists : ByteArray := prog_11_method_60_code
def yX9_lists : MethodName := ⟨RX9, "lists", "(I)V"⟩
abbrev cX9_tookFrom : ByteArray := prog_11_method_61_code
def yX9_tookFrom : MethodName := ⟨RX9, "tookFrom", "(II)Z"⟩
abbrev cX9_listsThoseBy : ByteArray := prog_11_method_62_code
def yX9_listsThoseBy : MethodName := ⟨RX9, "listsThoseBy", "(I)V"⟩
abbrev cX9_replaysAll : ByteArray := prog_11_method_63_code
def yX9_replaysAll : MethodName := ⟨RX9, "replaysAll", "(I)V"⟩
abbrev cX9_undoesTo : ByteArray := prog_11_method_64_code
def yX9_undoesTo : MethodName := ⟨RX9, "undoesTo", "(I)V"⟩
abbrev cX9_tookOld : ByteArray := prog_11_method_65_code
def yX9_tookOld : MethodName := ⟨RX9, "tookOld", "(II)Z"⟩
abbrev cX9_looksBack : ByteArray := prog_11_method_66_code
def yX9_looksBack : MethodName := ⟨RX9, "looksBack", "(I)V"⟩
abbrev cX9_loads : ByteArray := prog_11_method_67_code
def yX9_loads : MethodName := ⟨RX9, "loads", "(I)V"⟩
abbrev cX9_comesDone : ByteArray := prog_11_method_68_code
def yX9_comesDone : MethodName := ⟨RX9, "comesDone", "(II)V"⟩
abbrev cX9_goesOff : ByteArray := prog_11_method_69_code
def yX9_goesOff : MethodName := ⟨RX9, "goesOff", "(II)V"⟩
abbrev cX9_areAllDone : ByteArray := prog_11_method_70_code
def yX9_areAllDone : MethodName := ⟨RX9, "areAllDone", "(I)Z"⟩
abbrev cX9_oldestToRetire : ByteArray := prog_11_method_71_code
def yX9_oldestToRetire : MethodName := ⟨RX9, "oldestToRetire", "()I"⟩
abbrev cX9_retires : ByteArray := prog_11_method_72_code
def yX9_retires : MethodName := ⟨RX9, "retires", "(I)V"⟩
abbrev cX9_isOver : ByteArray := prog_11_method_73_code
def yX9_isOver : MethodName := ⟨RX9, "isOver", "()Z"⟩
abbrev cX9_cycleGoes : ByteArray := prog_11_method_74_code
def yX9_cycleGoes : MethodName := ⟨RX9, "cycleGoes", "(II)V"⟩
abbrev cX9_goesThrough : ByteArray := prog_11_method_75_code
def yX9_goesThrough : MethodName := ⟨RX9, "goesThrough", "(IZ)Z"⟩
abbrev cX9_putsSetsBack : ByteArray := prog_11_method_76_code
def yX9_putsSetsBack : MethodName := ⟨RX9, "putsSetsBack", "()V"⟩
abbrev cX9_isTried : ByteArray := prog_11_method_77_code
def yX9_isTried : MethodName := ⟨RX9, "isTried", "(IZ)Z"⟩
abbrev cX9_canRun : ByteArray := prog_11_method_78_code
def yX9_canRun : MethodName := ⟨RX9, "canRun", "(I)Z"⟩
abbrev cX9_toldOf : ByteArray := prog_11_method_79_code
def yX9_toldOf : MethodName := ⟨RX9, "toldOf", "(I)I"⟩
abbrev cX9_run : ByteArray := prog_11_method_80_code
def yX9_run : MethodName := ⟨RX9, "run", "(I)I"⟩
abbrev cX9_tried : ByteArray := prog_11_method_81_code
def yX9_tried : MethodName := ⟨RX9, "tried", "(II)I"⟩
abbrev cX9_cautious : ByteArray := prog_11_method_82_code
def yX9_cautious : MethodName := ⟨RX9, "cautious", "(II)I"⟩
abbrev cX9_fastest : ByteArray := prog_11_method_83_code
def yX9_fastest : MethodName := ⟨RX9, "fastest", "(I)I"⟩
abbrev cX9_lastRun : ByteArray := prog_11_method_84_code
def yX9_lastRun : MethodName := ⟨RX9, "lastRun", "(I)I"⟩
abbrev cX9_goesPlain : ByteArray := prog_11_method_85_code
def yX9_goesPlain : MethodName := ⟨RX9, "goesPlain", "()V"⟩
abbrev cX9_doesPlain : ByteArray := prog_11_method_86_code
def yX9_doesPlain : MethodName := ⟨RX9, "doesPlain", "(I)V"⟩
abbrev cX9_now : ByteArray := prog_11_method_87_code
def yX9_now : MethodName := ⟨RX9, "now", "(I)I"⟩
abbrev cX9_plain : ByteArray := prog_11_method_88_code
def yX9_plain : MethodName := ⟨RX9, "plain", "(I)I"⟩
abbrev cX9_unlike : ByteArray := prog_11_method_89_code
def yX9_unlike : MethodName := ⟨RX9, "unlike", "(I)I"⟩
abbrev cX9_haveByte : ByteArray := prog_11_method_90_code
def yX9_haveByte : MethodName := ⟨RX9, "haveByte", "(II)Z"⟩
abbrev cX9_mix : ByteArray := prog_11_method_91_code
def yX9_mix : MethodName := ⟨RX9, "mix", "()I"⟩
abbrev cX9_deep : ByteArray := prog_11_method_92_code
def yX9_deep : MethodName := ⟨RX9, "deep", "()I"⟩
abbrev cX9_toldOfOp : ByteArray := prog_11_method_93_code
def yX9_toldOfOp : MethodName := ⟨RX9, "toldOfOp", "(II)I"⟩
abbrev cX9_opIs : ByteArray := prog_11_method_94_code
def yX9_opIs : MethodName := ⟨RX9, "opIs", "(II)I"⟩
abbrev cX9_worstOp : ByteArray := prog_11_method_95_code
def yX9_worstOp : MethodName := ⟨RX9, "worstOp", "()I"⟩
abbrev cX9_worst : ByteArray := prog_11_method_96_code
def yX9_worst : MethodName := ⟨RX9, "worst", "(I)I"⟩
abbrev cX9_watch : ByteArray := prog_11_method_97_code
def yX9_watch : MethodName := ⟨RX9, "watch", "(II)I"⟩
abbrev cX9_watched : ByteArray := prog_11_method_98_code
def yX9_watched : MethodName := ⟨RX9, "watched", "(III)I"⟩
abbrev cX9_withSet : ByteArray := prog_11_method_99_code
def yX9_withSet : MethodName := ⟨RX9, "withSet", "()I"⟩
abbrev cX9_forget : ByteArray := prog_11_method_100_code
def yX9_forget : MethodName := ⟨RX9, "forget", "()I"⟩
abbrev cX9_seed : ByteArray := prog_11_method_101_code
def yX9_seed : MethodName := ⟨RX9, "seed", "(I)Z"⟩
abbrev cX9_keep : ByteArray := prog_11_method_102_code
def yX9_keep : MethodName := ⟨RX9, "keep", "()I"⟩
abbrev cX9_undo : ByteArray := prog_11_method_103_code
def yX9_undo : MethodName := ⟨RX9, "undo", "()Z"⟩
abbrev cX9_check : ByteArray := prog_11_method_104_code
def yX9_check : MethodName := ⟨RX9, "check", "(I)I"⟩
abbrev cX9_ofKind : ByteArray := prog_11_method_105_code
def yX9_ofKind : MethodName := ⟨RX9, "ofKind", "(I)I"⟩
abbrev cX9_bytesThere : ByteArray := prog_11_method_106_code
def yX9_bytesThere : MethodName := ⟨RX9, "bytesThere", "()I"⟩
abbrev cX9_count : ByteArray := prog_11_method_107_code
def yX9_count : MethodName := ⟨RX9, "count", "(I)I"⟩
def RJ11 : String := "java/lang/Character"
abbrev cJ11_isValidCodePoint_9a6ad : ByteArray := prog_12_method_11_code
def yJ11_isValidCodePoint_9a6ad : MethodName := ⟨RJ11, "isValidCodePoint", "(I)Z"⟩
abbrev cJ11_highSurrogate_5068e : ByteArray := prog_12_method_28_code
def yJ11_highSurrogate_5068e : MethodName := ⟨RJ11, "highSurrogate", "(I)C"⟩
abbrev cJ11_lowSurrogate_5068e : ByteArray := prog_12_method_29_code
def yJ11_lowSurrogate_5068e : MethodName := ⟨RJ11, "lowSurrogate", "(I)C"⟩
def RJ9 : String := "java/lang/Math"
abbrev cJ9_max_7cf53 : ByteArray := prog_13_method_65_code
def yJ9_max_7cf53 : MethodName := ⟨RJ9, "max", "(II)I"⟩
abbrev cJ9_min_7cf53 : ByteArray := prog_13_method_69_code
def yJ9_min_7cf53 : MethodName := ⟨RJ9, "min", "(II)I"⟩
def RJ0 : String := "java/lang/String"
abbrev cJ0_length_8abf5 : ByteArray := prog_14_method_54_code
def yJ0_length_8abf5 : MethodName := ⟨RJ0, "length", "()I"⟩
abbrev cJ0_indexOf_0f7a4 : ByteArray := prog_14_method_79_code
def yJ0_indexOf_0f7a4 : MethodName := ⟨RJ0, "indexOf", "(I)I"⟩
abbrev cJ0_indexOf_7cf53 : ByteArray := prog_14_method_80_code
def yJ0_indexOf_7cf53 : MethodName := ⟨RJ0, "indexOf", "(II)I"⟩
abbrev cJ0_coder_7d493 : ByteArray := prog_14_method_152_code
def yJ0_coder_7d493 : MethodName := ⟨RJ0, "coder", "()B"⟩
abbrev cJ0_isLatin1_aae02 : ByteArray := prog_14_method_154_code
def yJ0_isLatin1_aae02 : MethodName := ⟨RJ0, "isLatin1", "()Z"⟩
abbrev cJ0_checkBoundsBeginEnd_23922 : ByteArray := prog_14_method_158_code
def yJ0_checkBoundsBeginEnd_23922 : MethodName := ⟨RJ0, "checkBoundsBeginEnd", "(III)V"⟩
def RJ1 : String := "java/lang/StringLatin1"
abbrev cJ1_canEncode_9a6ad : ByteArray := prog_15_method_4_code
def yJ1_canEncode_9a6ad : MethodName := ⟨RJ1, "canEncode", "(I)Z"⟩
abbrev cJ1_indexOf_4cfef : ByteArray := prog_15_method_22_code
def yJ1_indexOf_4cfef : MethodName := ⟨RJ1, "indexOf", "([BIII)I"⟩
abbrev cJ1_indexOfChar_4cfef : ByteArray := prog_15_method_23_code
def yJ1_indexOfChar_4cfef : MethodName := ⟨RJ1, "indexOfChar", "([BIII)I"⟩
def RJ2 : String := "java/lang/StringUTF16"
abbrev cJ2_getChar_3b067 : ByteArray := prog_16_method_5_code
def yJ2_getChar_3b067 : MethodName := ⟨RJ2, "getChar", "([BI)C"⟩
abbrev cJ2_length_9d52b : ByteArray := prog_16_method_6_code
def yJ2_length_9d52b : MethodName := ⟨RJ2, "length", "([B)I"⟩
abbrev cJ2_indexOf_4cfef : ByteArray := prog_16_method_40_code
def yJ2_indexOf_4cfef : MethodName := ⟨RJ2, "indexOf", "([BIII)I"⟩
abbrev cJ2_indexOfChar_4cfef : ByteArray := prog_16_method_47_code
def yJ2_indexOfChar_4cfef : MethodName := ⟨RJ2, "indexOfChar", "([BIII)I"⟩
abbrev cJ2_indexOfCharUnsafe_4cfef : ByteArray := prog_16_method_48_code
def yJ2_indexOfCharUnsafe_4cfef : MethodName := ⟨RJ2, "indexOfCharUnsafe", "([BIII)I"⟩
abbrev cJ2_indexOfSupplementary_4cfef : ByteArray := prog_16_method_49_code
def yJ2_indexOfSupplementary_4cfef : MethodName := ⟨RJ2, "indexOfSupplementary", "([BIII)I"⟩
abbrev cJ2_checkBoundsBeginEnd_d044e : ByteArray := prog_16_method_93_code
def yJ2_checkBoundsBeginEnd_d044e : MethodName := ⟨RJ2, "checkBoundsBeginEnd", "(II[B)V"⟩
def RJ10 : String := "java/lang/System"
def RJ7 : String := "java/util/Arrays"
abbrev cJ7_fill_53178 : ByteArray := prog_18_method_103_code
def yJ7_fill_53178 : MethodName := ⟨RJ7, "fill", "([II)V"⟩
def RJ3 : String := "jdk/internal/util/Preconditions"
abbrev cJ3_checkFromToIndex_8c36e : ByteArray := prog_19_method_12_code
def yJ3_checkFromToIndex_8c36e : MethodName := ⟨RJ3, "checkFromToIndex", "(IIILjava/util/function/BiFunction;)I"⟩
def RL : String := "LoadsAheadLaw"
abbrev cL_law : ByteArray := code
def yL_law : MethodName := ⟨RL, "law", "([I)Z"⟩
abbrev vwCl : List vw_C := [(RX0, TX0, 9), (RX1, TX1, 12), (RX2, TX2, 2), (RX3, TX3, 13), (RX4, TX4, 6), (RX5, TX5, 3), (RX6, TX6, 6), (RX7, TX7, 5), (RX8, TX8, 11), (RX9, TX9, 96)]
end
section
theorem fb_rng (x : Int32) : -2147483648 ≤ x.toInt ∧ x.toInt < 2147483648 := ⟨x.le_toInt, x.toInt_lt⟩
theorem fb_bmod {z : Int} (h1 : -2147483648 ≤ z) (h2 : z < 2147483648) : z.bmod (2 ^ 32) = z := Int.bmod_eq_of_le (by omega) (by omega)
theorem fb_addI {x y : Int32} (h1 : -2147483648 ≤ x.toInt + y.toInt) (h2 : x.toInt + y.toInt < 2147483648) : (x + y).toInt = x.toInt + y.toInt := by rw [Int32.toInt_add]; exact fb_bmod h1 h2
theorem fb_subI {x y : Int32} (h1 : -2147483648 ≤ x.toInt - y.toInt) (h2 : x.toInt - y.toInt < 2147483648) : (x - y).toInt = x.toInt - y.toInt := by rw [Int32.toInt_sub]; exact fb_bmod h1 h2
theorem fb_mulI {x y : Int32} (h1 : -2147483648 ≤ x.toInt * y.toInt) (h2 : x.toInt * y.toInt < 2147483648) : (x * y).toInt = x.toInt * y.toInt := by rw [Int32.toInt_mul]; exact fb_bmod h1 h2
theorem fa_lt (a b : Int32) : a < b ↔ a.toInt < b.toInt := Int32.lt_iff_toInt_lt
theorem fa_le (a b : Int32) : a ≤ b ↔ a.toInt ≤ b.toInt := Int32.le_iff_toInt_le
theorem fa_eq (a b : Int32) : a = b ↔ a.toInt = b.toInt := ⟨fun h => by rw [h], fun h => Int32.toInt_inj.mp h⟩
abbrev en_V : Type := (Int × Int) ⊕ Nat
abbrev en_C : Type := (Nat × Nat × Int × Int) ⊕ (Nat × List en_V)
abbrev en_L : Type := List (Option en_V)
abbrev en_T : Type := List en_C
abbrev en_S : Type := Nat × en_L × List en_V × en_T × Nat × Nat
/-- what a number of bounds, a cell's number + 2, 1 (null), 0 (null or any cell) stand for -/
def en_v (N : Nat) (ad : Nat → Nat) (a : en_V) (x : Value) : Prop := match a with
  | .inl q => ∃ i : Int32, x = .int i ∧ q.1 ≤ i.toInt ∧ i.toInt ≤ q.2
  | .inr 0 => x = .null ∨ ∃ a : Nat, x = .ref a
  | .inr 1 => x = .null
  | .inr (k + 2) => x = .ref (ad k) ∧ k < N
def en_vs (N : Nat) (ad : Nat → Nat) : List en_V → List Value → Prop
  | [], [] => True
  | a :: as, x :: xs => en_v N ad a x ∧ en_vs N ad as xs
  | _, _ => False
def en_ty : Nat → FieldType
  | 0 => .int
  | 1 => .boolean
  | _ => .byte
def en_c (tys : List (ClassId × FieldType)) (N : Nat) (ad : Nat → Nat) (t : en_C) (e : va_E) : Prop := match t with
  | .inl q => ∃ (cA : ClassId) (f : Nat → Int32), e = .inl (cA, q.2.1, .inl f) ∧ tys[q.1]? = some (cA, en_ty q.1) ∧ ∀ j, j < q.2.1 → q.2.2.1 ≤ (f j).toInt ∧ (f j).toInt ≤ q.2.2.2
  | .inr q => ∃ vs : List Value, e = .inr (q.1, vs) ∧ en_vs N ad q.2 vs
def en_W (D : va_G) (tys : List (ClassId × FieldType)) (A : Nat → Prop) (T : en_T) (ad : Nat → Nat) (H : Heap) : Prop :=
  ∃ ws : va_W, ws.length = T.length ∧ (∀ (k : Nat) (t : en_C), T[k]? = some t → ∃ e : va_E, ws[k]? = some (ad k, e) ∧ en_c tys T.length ad t e) ∧ va_P D vwCl ws H ∧ va_D A ws
def en_l (N : Nat) (ad : Nat → Nat) (L : en_L) (nL : Nat) (ls : Array Slot) : Prop :=
  ls.size = nL ∧ lv_wf ls ∧ ∀ (i : Nat) (a : en_V), L[i]? = some (some a) → ∃ x : Value, ls[i]? = some (.val x) ∧ en_v N ad a x
theorem en_v_cat {N : Nat} {ad : Nat → Nat} {a : en_V} {x : Value} (h : en_v N ad a x) : x.category = 1 := by
  match a, h with
  | .inl q, ⟨i, e, _⟩ => subst e; rfl
  | .inr 0, h => rcases h with rfl | ⟨a, rfl⟩ <;> rfl
  | .inr 1, h => have h : x = .null := h; subst h; rfl
  | .inr (k + 2), h => have h : x = .ref (ad k) ∧ k < N := h; rw [h.1]; rfl
theorem en_v_r {N : Nat} {ad : Nat → Nat} {k : Nat} {x : Value} (h : en_v N ad (.inr k) x) : x = .null ∨ ∃ a : Nat, x = .ref a := by
  match k, h with
  | 0, h => exact h
  | 1, h => exact Or.inl h
  | k + 2, h => exact Or.inr ⟨_, h.1⟩
theorem en_v_mono {N M : Nat} {ad ad' : Nat → Nat} (hN : N ≤ M) (hq : ∀ k, k < N → ad' k = ad k) {a : en_V} {x : Value} (h : en_v N ad a x) : en_v M ad' a x := by
  match a, h with
  | .inl q, h => exact h
  | .inr 0, h => exact h
  | .inr 1, h => exact h
  | .inr (k + 2), h =>
    have h : x = .ref (ad k) ∧ k < N := h
    exact ⟨by rw [hq k h.2]; exact h.1, Nat.lt_of_lt_of_le h.2 hN⟩
theorem en_vs_mono {N M : Nat} {ad ad' : Nat → Nat} (hN : N ≤ M) (hq : ∀ k, k < N → ad' k = ad k) : ∀ {as : List en_V} {xs : List Value}, en_vs N ad as xs → en_vs M ad' as xs
  | [], [], _ => trivial
  | _ :: _, _ :: _, h => ⟨en_v_mono hN hq h.1, en_vs_mono hN hq h.2⟩
  | [], _ :: _, h => h.elim
  | _ :: _, [], h => h.elim
theorem en_c_mono {tys : List (ClassId × FieldType)} {N M : Nat} {ad ad' : Nat → Nat} (hN : N ≤ M) (hq : ∀ k, k < N → ad' k = ad k) {t : en_C} {e : va_E} (h : en_c tys N ad t e) : en_c tys M ad' t e := by
  match t, h with
  | .inl q, h => exact h
  | .inr q, ⟨vs, h1, h2⟩ => exact ⟨vs, h1, en_vs_mono hN hq h2⟩
theorem en_vs_len {N : Nat} {ad : Nat → Nat} : ∀ {as : List en_V} {xs : List Value}, en_vs N ad as xs → as.length = xs.length
  | [], [], _ => rfl
  | _ :: _, _ :: _, h => by rw [List.length_cons, List.length_cons, en_vs_len h.2]
  | [], _ :: _, h => h.elim
  | _ :: _, [], h => h.elim
theorem en_vs_cat {N : Nat} {ad : Nat → Nat} : ∀ {as : List en_V} {xs : List Value}, en_vs N ad as xs → (xs.map fun v => v.category).sum = as.length
  | [], [], _ => rfl
  | _ :: _, _ :: _, h => by rw [List.map_cons, List.sum_cons, en_vs_cat h.2, en_v_cat h.1, List.length_cons, Nat.add_comm]
  | [], _ :: _, h => h.elim
  | _ :: _, [], h => h.elim
theorem en_vs_get {N : Nat} {ad : Nat → Nat} : ∀ {as : List en_V} {xs : List Value} {k : Nat} {a : en_V}, en_vs N ad as xs → as[k]? = some a → ∃ x, xs[k]? = some x ∧ en_v N ad a x
  | [], [], k, a, _, hk => by simp at hk
  | a0 :: _, x0 :: _, 0, a, h, hk => by
    rw [List.getElem?_cons_zero] at hk
    cases hk
    exact ⟨x0, rfl, h.1⟩
  | _ :: _, _ :: _, k + 1, a, h, hk => by
    rw [List.getElem?_cons_succ] at hk
    obtain ⟨x, h1, h2⟩ := en_vs_get h.2 hk
    exact ⟨x, by rw [List.getElem?_cons_succ]; exact h1, h2⟩
  | [], _ :: _, _, _, h, _ => h.elim
  | _ :: _, [], _, _, h, _ => h.elim
theorem en_vs_set {N : Nat} {ad : Nat → Nat} {a : en_V} {x : Value} (hx : en_v N ad a x) : ∀ {as : List en_V} {xs : List Value} (k : Nat), en_vs N ad as xs → en_vs N ad (as.set k a) (xs.set k x)
  | [], [], _, _ => trivial
  | _ :: _, _ :: _, 0, h => ⟨hx, h.2⟩
  | _ :: _, _ :: _, k + 1, h => ⟨h.1, en_vs_set hx k h.2⟩
  | [], _ :: _, _, h => h.elim
  | _ :: _, [], _, h => h.elim
theorem en_vs_app {N : Nat} {ad : Nat → Nat} : ∀ {as bs : List en_V} {zs : List Value}, en_vs N ad (as ++ bs) zs → ∃ xs ys, zs = xs ++ ys ∧ en_vs N ad as xs ∧ en_vs N ad bs ys
  | [], bs, zs, h => ⟨[], zs, rfl, trivial, h⟩
  | a :: as, bs, z :: zs, h => by
    obtain ⟨xs, ys, h1, h2, h3⟩ := en_vs_app (as := as) h.2
    exact ⟨z :: xs, ys, by rw [h1]; rfl, ⟨h.1, h2⟩, h3⟩
  | _ :: _, _, [], h => h.elim
theorem en_vs_snoc {N : Nat} {ad : Nat → Nat} {b : en_V} {y : Value} (hb : en_v N ad b y) : ∀ {as : List en_V} {xs : List Value}, en_vs N ad as xs → en_vs N ad (as ++ [b]) (xs ++ [y])
  | [], [], _ => ⟨hb, trivial⟩
  | _ :: _, _ :: _, h => ⟨h.1, en_vs_snoc hb h.2⟩
  | [], _ :: _, h => h.elim
  | _ :: _, [], h => h.elim
theorem en_vs_rev {N : Nat} {ad : Nat → Nat} : ∀ {as : List en_V} {xs : List Value}, en_vs N ad as xs → en_vs N ad as.reverse xs.reverse
  | [], [], _ => trivial
  | a :: as, x :: xs, h => by
    rw [List.reverse_cons, List.reverse_cons]
    exact en_vs_snoc h.1 (en_vs_rev h.2)
  | [], _ :: _, h => h.elim
  | _ :: _, [], h => h.elim
/-- locals -/
theorem en_l_get {N : Nat} {ad : Nat → Nat} {L : en_L} {nL : Nat} {ls : Array Slot} (h : en_l N ad L nL ls) {i : Nat} {a : en_V} (hi : L[i]? = some (some a)) : ∃ x : Value, ls[i]? = some (.val x) ∧ en_v N ad a x := h.2.2 i a hi
theorem en_l_mono {N M : Nat} {ad ad' : Nat → Nat} (hN : N ≤ M) (hq : ∀ k, k < N → ad' k = ad k) {L : en_L} {nL : Nat} {ls : Array Slot} (h : en_l N ad L nL ls) : en_l M ad' L nL ls :=
  ⟨h.1, h.2.1, fun i a hi => by obtain ⟨x, h1, h2⟩ := h.2.2 i a hi; exact ⟨x, h1, en_v_mono hN hq h2⟩⟩
def en_lv (ls : Array Slot) : List (Nat × Value) := (List.range ls.size).filterMap (fun (i : Nat) => match (ls[i]? : Option Slot) with
  | some (Slot.val v) => some (i, v)
  | _ => none)
theorem en_lv_mem {ls : Array Slot} {i : Nat} {v : Value} : (i, v) ∈ en_lv ls ↔ ls[i]? = some (.val v) := by
  unfold en_lv
  rw [List.mem_filterMap]
  constructor
  · rintro ⟨j, hj, h⟩
    split at h
    · rename_i w hw
      cases h
      exact hw
    · cases h
  · intro h
    refine ⟨i, List.mem_range.mpr (lv_lt h), ?_⟩
    rw [h]
theorem en_lv_has {ls : Array Slot} {nL : Nat} (h1 : ls.size = nL) (h2 : lv_wf ls) : lv_has ls nL (en_lv ls) := ⟨h1, h2, fun q hq => en_lv_mem.mp hq⟩
theorem en_l_set {N : Nat} {ad : Nat → Nat} {L : en_L} {nL : Nat} {ls ls' : Array Slot} (h : en_l N ad L nL ls) {i : Nat} {a : en_V} {x : Value} (hx : en_v N ad a x)
    (h' : lv_has ls' nL ((i, x) :: (en_lv ls).filter (fun q => !(q.1 == i) && !(q.1 + 1 == i && q.2.category == 2)))) : en_l N ad (L.set i (some a)) nL ls' := by
  refine ⟨h'.1, h'.2.1, fun j b hj => ?_⟩
  by_cases hji : j = i
  · subst hji
    have hb : b = a := by
      by_cases hl : j < L.length
      · rw [List.getElem?_set_self hl] at hj
        exact (Option.some.inj (Option.some.inj hj)).symm
      · rw [List.getElem?_eq_none (by rw [List.length_set]; omega)] at hj
        cases hj
    subst hb
    exact ⟨x, h'.2.2 (j, x) List.mem_cons_self, hx⟩
  · rw [List.getElem?_set_ne (Ne.symm hji)] at hj
    obtain ⟨y, h1, h2⟩ := h.2.2 j b hj
    refine ⟨y, h'.2.2 (j, y) (List.mem_cons_of_mem _ (List.mem_filter.mpr ⟨en_lv_mem.mpr h1, ?_⟩)), h2⟩
    have hc := en_v_cat h2
    simp [hji, hc]
def en_le (a b : en_V) : Bool := match a, b with
  | .inl q, .inl r => decide (r.1 ≤ q.1) && decide (q.2 ≤ r.2)
  | .inr k, .inr j => j == 0 || k == j
  | _, _ => false
def en_all2 {α β : Type} (f : α → β → Bool) : List α → List β → Bool
  | [], [] => true
  | a :: as, b :: bs => f a b && en_all2 f as bs
  | _, _ => false
def en_cle (a b : en_C) : Bool := match a, b with
  | .inl q, .inl r => q.1 == r.1 && q.2.1 == r.2.1 && decide (r.2.2.1 ≤ q.2.2.1) && decide (q.2.2.2 ≤ r.2.2.2)
  | .inr q, .inr r => q.1 == r.1 && en_all2 en_le q.2 r.2
  | _, _ => false
theorem en_le_ok {N : Nat} {ad : Nat → Nat} {a b : en_V} {x : Value} (h : en_le a b = true) (hx : en_v N ad a x) : en_v N ad b x := by
  match a, b, h with
  | .inl q, .inl r, h =>
    simp only [en_le, Bool.and_eq_true, decide_eq_true_eq] at h
    obtain ⟨i, e, h1, h2⟩ := hx
    exact ⟨i, e, by omega, by omega⟩
  | .inr k, .inr j, h =>
    simp only [en_le, Bool.or_eq_true, beq_iff_eq] at h
    rcases h with h | h
    · subst h
      exact en_v_r hx
    · subst h
      exact hx
theorem en_all2_vs {N : Nat} {ad : Nat → Nat} : ∀ {as bs : List en_V} {xs : List Value}, en_all2 en_le as bs = true → en_vs N ad as xs → en_vs N ad bs xs
  | [], [], xs, _, h => h
  | a :: as, b :: bs, x :: xs, h, hx => by
    simp only [en_all2, Bool.and_eq_true] at h
    exact ⟨en_le_ok h.1 hx.1, en_all2_vs h.2 hx.2⟩
  | _ :: _, _ :: _, [], _, hx => hx.elim
  | [], _ :: _, _, h, _ => by simp [en_all2] at h
  | _ :: _, [], _, h, _ => by simp [en_all2] at h
theorem en_cle_ok {tys : List (ClassId × FieldType)} {N : Nat} {ad : Nat → Nat} {a b : en_C} {e : va_E} (h : en_cle a b = true) (hx : en_c tys N ad a e) : en_c tys N ad b e := by
  match a, b, h with
  | .inl q, .inl r, h =>
    simp only [en_cle, Bool.and_eq_true, decide_eq_true_eq, beq_iff_eq] at h
    obtain ⟨⟨⟨h1, h2⟩, h3⟩, h4⟩ := h
    obtain ⟨cA, f, e1, e2, e3⟩ := hx
    exact ⟨cA, f, by rw [← h2]; exact e1, by rw [← h1]; exact e2, fun j hj => by have := e3 j (by omega); omega⟩
  | .inr q, .inr r, h =>
    simp only [en_cle, Bool.and_eq_true, beq_iff_eq] at h
    obtain ⟨vs, e1, e2⟩ := hx
    exact ⟨vs, by rw [← h.1]; exact e1, en_all2_vs h.2 e2⟩
theorem en_all2_len {α β : Type} {f : α → β → Bool} : ∀ {as : List α} {bs : List β}, en_all2 f as bs = true → as.length = bs.length
  | [], [], _ => rfl
  | _ :: _, _ :: _, h => by
    simp only [en_all2, Bool.and_eq_true] at h
    rw [List.length_cons, List.length_cons, en_all2_len h.2]
  | [], _ :: _, h => by simp [en_all2] at h
  | _ :: _, [], h => by simp [en_all2] at h
theorem en_all2_get {α β : Type} {f : α → β → Bool} : ∀ {as : List α} {bs : List β} {k : Nat} {b : β}, en_all2 f as bs = true → bs[k]? = some b → ∃ a, as[k]? = some a ∧ f a b = true
  | [], [], k, b, _, hk => by simp at hk
  | a :: _, _ :: _, 0, b, h, hk => by
    simp only [en_all2, Bool.and_eq_true] at h
    rw [List.getElem?_cons_zero] at hk
    cases hk
    exact ⟨a, rfl, h.1⟩
  | _ :: _, _ :: _, k + 1, b, h, hk => by
    simp only [en_all2, Bool.and_eq_true] at h
    rw [List.getElem?_cons_succ] at hk
    obtain ⟨a, h1, h2⟩ := en_all2_get h.2 hk
    exact ⟨a, by rw [List.getElem?_cons_succ]; exact h1, h2⟩
  | [], _ :: _, _, _, h, _ => by simp [en_all2] at h
  | _ :: _, [], _, _, h, _ => by simp [en_all2] at h
section ENW
variable {D : va_G} {tys : List (ClassId × FieldType)} {A : Nat → Prop} {T T' : en_T} {ad ad' : Nat → Nat} {H H1 : Heap}
theorem en_W.le (h : en_W D tys A T ad H) (hT : en_all2 en_cle T T' = true) : en_W D tys A T' ad H := by
  obtain ⟨ws, h1, h2, h3, h4⟩ := h
  have hl := en_all2_len hT
  refine ⟨ws, h1.trans hl, fun k t hk => ?_, h3, h4⟩
  obtain ⟨a, g1, g2⟩ := en_all2_get hT hk
  obtain ⟨e, g3, g4⟩ := h2 k a g1
  exact ⟨e, g3, en_cle_ok g2 (by rw [← hl]; exact g4)⟩
theorem en_W.kept (h : en_W D tys A T ad H) (hq : ∀ q : Nat, q < H.size → H1[q]? = H[q]?) : en_W D tys A T ad H1 := by
  obtain ⟨ws, h1, h2, h3, h4⟩ := h
  exact ⟨ws, h1, h2, h3.kept (fun k q hk => hq q.1 ((h3 k q hk).lt)), h4⟩
theorem en_W.put {ws : va_W} {k : Nat} {e : va_E} {t : en_C} (h1 : ws.length = T.length) (h2 : ∀ (k : Nat) (t : en_C), T[k]? = some t → ∃ e : va_E, ws[k]? = some (ad k, e) ∧ en_c tys T.length ad t e)
    (hP : va_P D vwCl (ws.set k (ad k, e)) H1) (hD : va_D A (ws.set k (ad k, e))) (he : en_c tys T.length ad t e) : en_W D tys A (T.set k t) ad H1 := by
  refine ⟨ws.set k (ad k, e), by rw [List.length_set, List.length_set]; exact h1, fun j u hj => ?_, hP, hD⟩
  rw [List.length_set]
  by_cases hjk : j = k
  · subst hjk
    by_cases hl : j < T.length
    · rw [List.getElem?_set_self hl] at hj
      cases hj
      exact ⟨e, List.getElem?_set_self (by omega), he⟩
    · rw [List.getElem?_eq_none (by rw [List.length_set]; omega)] at hj
      cases hj
  · rw [List.getElem?_set_ne (Ne.symm hjk)] at hj
    rw [List.getElem?_set_ne (Ne.symm hjk)]
    exact h2 j u hj
/-- the addresses with one more -/
def en_up (ad : Nat → Nat) (n q : Nat) : Nat → Nat := fun k => if k = n then q else ad k
theorem en_up_lt {ad : Nat → Nat} {n q k : Nat} (h : k < n) : en_up ad n q k = ad k := if_neg (by omega)
theorem en_up_at {ad : Nat → Nat} {n q : Nat} : en_up ad n q n = q := if_pos rfl
theorem en_W.push {ws : va_W} {q : Nat} {e : va_E} {t : en_C} (h1 : ws.length = T.length) (h2 : ∀ (k : Nat) (t : en_C), T[k]? = some t → ∃ e : va_E, ws[k]? = some (ad k, e) ∧ en_c tys T.length ad t e)
    (hP : va_P D vwCl (ws ++ [(q, e)]) H1) (hD : va_D A (ws ++ [(q, e)])) (he : en_c tys T.length ad t e) : en_W D tys A (T ++ [t]) (en_up ad T.length q) H1 := by
  refine ⟨ws ++ [(q, e)], by rw [List.length_append, List.length_append, h1]; rfl, fun j u hj => ?_, hP, hD⟩
  rw [List.length_append]
  by_cases hl : j < T.length
  · rw [List.getElem?_append_left hl] at hj
    obtain ⟨e0, g1, g2⟩ := h2 j u hj
    refine ⟨e0, ?_, en_c_mono (Nat.le_add_right _ _) (fun k hk => en_up_lt hk) g2⟩
    rw [List.getElem?_append_left (by omega), en_up_lt hl]
    exact g1
  · rw [List.getElem?_append_right (by omega)] at hj
    have hz : j - T.length < 1 := (List.getElem?_eq_some_iff.mp hj).1
    have hj0 : j = T.length := by omega
    subst hj0
    rw [Nat.sub_self] at hj
    cases hj
    refine ⟨e, ?_, en_c_mono (Nat.le_add_right _ _) (fun k hk => en_up_lt hk) he⟩
    rw [List.getElem?_append_right (by omega), h1, Nat.sub_self, en_up_at]
    rfl
end ENW
end
section
def en_nm : Nat → String
  | 0 => RX0
  | 1 => RX1
  | 2 => RX2
  | 3 => RX3
  | 4 => RX4
  | 5 => RX5
  | 6 => RX6
  | 7 => RX7
  | 8 => RX8
  | 9 => RX9
  | 10 => RJ7
  | 11 => RJ9
  | 12 => RJ0
  | 13 => RL
  | _ => RJ10
theorem en_sub_1 : ∀ w ∈ tables_1_1, w ∈ lw_tbl := fun w h => List.mem_append_right _ (show w ∈ tables_1_1 ++ (tables_1_2 ++ (tables_1_3 ++ (tables_1_4 ++ (tables_1_5 ++ (tables_1_6 ++ (tables_1_7 ++ tables_1_8)))))) from (List.mem_append_left _ h))
theorem en_sub_2 : ∀ w ∈ tables_1_2, w ∈ lw_tbl := fun w h => List.mem_append_right _ (show w ∈ tables_1_1 ++ (tables_1_2 ++ (tables_1_3 ++ (tables_1_4 ++ (tables_1_5 ++ (tables_1_6 ++ (tables_1_7 ++ tables_1_8)))))) from List.mem_append_right _ ((List.mem_append_left _ h)))
theorem en_sub_3 : ∀ w ∈ tables_1_3, w ∈ lw_tbl := fun w h => List.mem_append_right _ (show w ∈ tables_1_1 ++ (tables_1_2 ++ (tables_1_3 ++ (tables_1_4 ++ (tables_1_5 ++ (tables_1_6 ++ (tables_1_7 ++ tables_1_8)))))) from List.mem_append_right _ (List.mem_append_right _ ((List.mem_append_left _ h))))
theorem en_sub_4 : ∀ w ∈ tables_1_4, w ∈ lw_tbl := fun w h => List.mem_append_right _ (show w ∈ tables_1_1 ++ (tables_1_2 ++ (tables_1_3 ++ (tables_1_4 ++ (tables_1_5 ++ (tables_1_6 ++ (tables_1_7 ++ tables_1_8)))))) from List.mem_append_right _ (List.mem_append_right _ (List.mem_append_right _ ((List.mem_append_left _ h)))))
theorem en_sub_5 : ∀ w ∈ tables_1_5, w ∈ lw_tbl := fun w h => List.mem_append_right _ (show w ∈ tables_1_1 ++ (tables_1_2 ++ (tables_1_3 ++ (tables_1_4 ++ (tables_1_5 ++ (tables_1_6 ++ (tables_1_7 ++ tables_1_8)))))) from List.mem_append_right _ (List.mem_append_right _ (List.mem_append_right _ (List.mem_append_right _ ((List.mem_append_left _ h))))))
theorem en_sub_6 : ∀ w ∈ tables_1_6, w ∈ lw_tbl := fun w h => List.mem_append_right _ (show w ∈ tables_1_1 ++ (tables_1_2 ++ (tables_1_3 ++ (tables_1_4 ++ (tables_1_5 ++ (tables_1_6 ++ (tables_1_7 ++ tables_1_8)))))) from List.mem_append_right _ (List.mem_append_right _ (List.mem_append_right _ (List.mem_append_right _ (List.mem_append_right _ ((List.mem_append_left _ h)))))))
theorem en_sub_7 : ∀ w ∈ tables_1_7, w ∈ lw_tbl := fun w h => List.mem_append_right _ (show w ∈ tables_1_1 ++ (tables_1_2 ++ (tables_1_3 ++ (tables_1_4 ++ (tables_1_5 ++ (tables_1_6 ++ (tables_1_7 ++ tables_1_8)))))) from List.mem_append_right _ (List.mem_append_right _ (List.mem_append_right _ (List.mem_append_right _ (List.mem_append_right _ (List.mem_append_right _ ((List.mem_append_left _ h))))))))
theorem en_sub_8 : ∀ w ∈ tables_1_8, w ∈ lw_tbl := fun w h => List.mem_append_right _ (show w ∈ tables_1_1 ++ (tables_1_2 ++ (tables_1_3 ++ (tables_1_4 ++ (tables_1_5 ++ (tables_1_6 ++ (tables_1_7 ++ tables_1_8)))))) from List.mem_append_right _ (List.mem_append_right _ (List.mem_append_right _ (List.mem_append_right _ (List.mem_append_right _ (List.mem_append_right _ (List.mem_append_right _ ((h)))))))))
def en_mw (r : MethodName × ByteArray × Nat × Option FieldType) : Cond := .code r.1 r.2.1 r.2.2.1 r.2.2.2
def en_ms_0 : List (MethodName × ByteArray × Nat × Option FieldType) := [(yX8_init, prog_1_method_1_code, 1, none), (yX7_init, prog_9_method_1_code, 1, none), (yX1_init, prog_3_method_1_code, 1, none), (yX3_init, prog_5_method_1_code, 1, none), (yX0_init, prog_2_method_1_code, 1, none), (yX6_init, prog_8_method_1_code, 1, none), (yJ7_fill_53178, prog_18_method_103_code, 4, none), (yX4_init, prog_6_method_1_code, 1, none), (yX2_init, prog_4_method_1_code, 1, none), (yX5_init, prog_7_method_1_code, 1, none), (yX8_register, prog_1_method_2_code, 3, some .boolean), (yX8_poke, prog_1_method_3_code, 3, some .boolean), (yX8_feed, prog_1_method_4_code, 6, some .int), (yX7_add, prog_9_method_2_code, 3, none), (yX8_law, prog_1_method_5_code, 3, some .int), (yX7_beginText, prog_9_method_4_code, 2, none), (yJ9_min_7cf53, prog_13_method_69_code, 2, some .int), (yX0_readFrom, prog_2_method_3_code, 3, some .int), (yX0_readRule, prog_2_method_4_code, 4, some .boolean), (yX7_sign, prog_9_method_6_code, 1, some .int)]
theorem en_mi_0 : en_mw (yX8_init, prog_1_method_1_code, 1, none) ∈ lw_tbl := en_sub_1 _ (List.mem_of_getElem? (i := 23) rfl)
theorem en_mi_1 : en_mw (yX7_init, prog_9_method_1_code, 1, none) ∈ lw_tbl := en_sub_1 _ (List.mem_of_getElem? (i := 31) rfl)
theorem en_mi_2 : en_mw (yX1_init, prog_3_method_1_code, 1, none) ∈ lw_tbl := en_sub_1 _ (List.mem_of_getElem? (i := 56) rfl)
theorem en_mi_3 : en_mw (yX3_init, prog_5_method_1_code, 1, none) ∈ lw_tbl := en_sub_1 _ (List.mem_of_getElem? (i := 62) rfl)
theorem en_mi_4 : en_mw (yX0_init, prog_2_method_1_code, 1, none) ∈ lw_tbl := en_sub_1 _ (List.mem_of_getElem? (i := 130) rfl)
theorem en_mi_5 : en_mw (yX6_init, prog_8_method_1_code, 1, none) ∈ lw_tbl := en_sub_1 _ (List.mem_of_getElem? (i := 177) rfl)
theorem en_mi_6 : en_mw (yJ7_fill_53178, prog_18_method_103_code, 4, none) ∈ lw_tbl := en_sub_1 _ (List.mem_of_getElem? (i := 181) rfl)
theorem en_mi_7 : en_mw (yX4_init, prog_6_method_1_code, 1, none) ∈ lw_tbl := en_sub_1 _ (List.mem_of_getElem? (i := 217) rfl)
theorem en_mi_8 : en_mw (yX2_init, prog_4_method_1_code, 1, none) ∈ lw_tbl := en_sub_2 _ (List.mem_of_getElem? (i := 61) rfl)
theorem en_mi_9 : en_mw (yX5_init, prog_7_method_1_code, 1, none) ∈ lw_tbl := en_sub_2 _ (List.mem_of_getElem? (i := 81) rfl)
theorem en_mi_10 : en_mw (yX8_register, prog_1_method_2_code, 3, some .boolean) ∈ lw_tbl := en_sub_2 _ (List.mem_of_getElem? (i := 134) rfl)
theorem en_mi_11 : en_mw (yX8_poke, prog_1_method_3_code, 3, some .boolean) ∈ lw_tbl := en_sub_2 _ (List.mem_of_getElem? (i := 138) rfl)
theorem en_mi_12 : en_mw (yX8_feed, prog_1_method_4_code, 6, some .int) ∈ lw_tbl := en_sub_2 _ (List.mem_of_getElem? (i := 142) rfl)
theorem en_mi_13 : en_mw (yX7_add, prog_9_method_2_code, 3, none) ∈ lw_tbl := en_sub_2 _ (List.mem_of_getElem? (i := 146) rfl)
theorem en_mi_14 : en_mw (yX8_law, prog_1_method_5_code, 3, some .int) ∈ lw_tbl := en_sub_2 _ (List.mem_of_getElem? (i := 150) rfl)
theorem en_mi_15 : en_mw (yX7_beginText, prog_9_method_4_code, 2, none) ∈ lw_tbl := en_sub_2 _ (List.mem_of_getElem? (i := 154) rfl)
theorem en_mi_16 : en_mw (yJ9_min_7cf53, prog_13_method_69_code, 2, some .int) ∈ lw_tbl := en_sub_2 _ (List.mem_of_getElem? (i := 157) rfl)
theorem en_mi_17 : en_mw (yX0_readFrom, prog_2_method_3_code, 3, some .int) ∈ lw_tbl := en_sub_2 _ (List.mem_of_getElem? (i := 161) rfl)
theorem en_mi_18 : en_mw (yX0_readRule, prog_2_method_4_code, 4, some .boolean) ∈ lw_tbl := en_sub_2 _ (List.mem_of_getElem? (i := 165) rfl)
theorem en_mi_19 : en_mw (yX7_sign, prog_9_method_6_code, 1, some .int) ∈ lw_tbl := en_sub_2 _ (List.mem_of_getElem? (i := 169) rfl)
theorem en_ms_in_0 : ∀ r ∈ en_ms_0, en_mw r ∈ lw_tbl := List.forall_mem_cons.mpr ⟨en_mi_0, List.forall_mem_cons.mpr ⟨en_mi_1, List.forall_mem_cons.mpr ⟨en_mi_2, List.forall_mem_cons.mpr ⟨en_mi_3, List.forall_mem_cons.mpr ⟨en_mi_4, List.forall_mem_cons.mpr ⟨en_mi_5, List.forall_mem_cons.mpr ⟨en_mi_6, List.forall_mem_cons.mpr ⟨en_mi_7, List.forall_mem_cons.mpr ⟨en_mi_8, List.forall_mem_cons.mpr ⟨en_mi_9, List.forall_mem_cons.mpr ⟨en_mi_10, List.forall_mem_cons.mpr ⟨en_mi_11, List.forall_mem_cons.mpr ⟨en_mi_12, List.forall_mem_cons.mpr ⟨en_mi_13, List.forall_mem_cons.mpr ⟨en_mi_14, List.forall_mem_cons.mpr ⟨en_mi_15, List.forall_mem_cons.mpr ⟨en_mi_16, List.forall_mem_cons.mpr ⟨en_mi_17, List.forall_mem_cons.mpr ⟨en_mi_18, List.forall_mem_cons.mpr ⟨en_mi_19, fun _ h => absurd h List.not_mem_nil⟩⟩⟩⟩⟩⟩⟩⟩⟩⟩⟩⟩⟩⟩⟩⟩⟩⟩⟩⟩
def en_ms_1 : List (MethodName × ByteArray × Nat × Option FieldType) := [(yX7_fail, prog_9_method_10_code, 2, some .boolean), (yX7_step, prog_9_method_8_code, 1, none), (yX0_readSum, prog_2_method_9_code, 5, some .boolean), (yX0_readProduct, prog_2_method_10_code, 5, some .boolean), (yX0_readFactor, prog_2_method_12_code, 5, some .boolean), (yX0_opens, prog_2_method_8_code, 2, some .boolean), (yX7_accept, prog_9_method_9_code, 2, some .boolean), (yX7_digitNext, prog_9_method_7_code, 1, some .boolean), (yX7_readDigits, prog_9_method_12_code, 4, some .int), (yX0_addStep, prog_2_method_13_code, 3, some .int), (yJ9_max_7cf53, prog_13_method_65_code, 2, some .int), (yX0_isOneOf, prog_2_method_11_code, 4, some .boolean), (yX0_readEither, prog_2_method_5_code, 5, some .boolean), (yX0_readBoth, prog_2_method_6_code, 5, some .boolean), (yX0_readTest, prog_2_method_7_code, 4, some .boolean), (yX0_skipToHere, prog_2_method_14_code, 2, none), (yX7_fault, prog_9_method_11_code, 1, some .int), (yX7_ended, prog_9_method_5_code, 1, some .boolean), (yX0_copyFrom, prog_2_method_2_code, 2, none), (yX7_clear, prog_9_method_3_code, 1, none)]
theorem en_mi_20 : en_mw (yX7_fail, prog_9_method_10_code, 2, some .boolean) ∈ lw_tbl := en_sub_2 _ (List.mem_of_getElem? (i := 173) rfl)
theorem en_mi_21 : en_mw (yX7_step, prog_9_method_8_code, 1, none) ∈ lw_tbl := en_sub_2 _ (List.mem_of_getElem? (i := 177) rfl)
theorem en_mi_22 : en_mw (yX0_readSum, prog_2_method_9_code, 5, some .boolean) ∈ lw_tbl := en_sub_2 _ (List.mem_of_getElem? (i := 181) rfl)
theorem en_mi_23 : en_mw (yX0_readProduct, prog_2_method_10_code, 5, some .boolean) ∈ lw_tbl := en_sub_2 _ (List.mem_of_getElem? (i := 185) rfl)
theorem en_mi_24 : en_mw (yX0_readFactor, prog_2_method_12_code, 5, some .boolean) ∈ lw_tbl := en_sub_2 _ (List.mem_of_getElem? (i := 189) rfl)
theorem en_mi_25 : en_mw (yX0_opens, prog_2_method_8_code, 2, some .boolean) ∈ lw_tbl := en_sub_2 _ (List.mem_of_getElem? (i := 192) rfl)
theorem en_mi_26 : en_mw (yX7_accept, prog_9_method_9_code, 2, some .boolean) ∈ lw_tbl := en_sub_2 _ (List.mem_of_getElem? (i := 196) rfl)
theorem en_mi_27 : en_mw (yX7_digitNext, prog_9_method_7_code, 1, some .boolean) ∈ lw_tbl := en_sub_2 _ (List.mem_of_getElem? (i := 202) rfl)
theorem en_mi_28 : en_mw (yX7_readDigits, prog_9_method_12_code, 4, some .int) ∈ lw_tbl := en_sub_2 _ (List.mem_of_getElem? (i := 206) rfl)
theorem en_mi_29 : en_mw (yX0_addStep, prog_2_method_13_code, 3, some .int) ∈ lw_tbl := en_sub_2 _ (List.mem_of_getElem? (i := 211) rfl)
theorem en_mi_30 : en_mw (yJ9_max_7cf53, prog_13_method_65_code, 2, some .int) ∈ lw_tbl := en_sub_2 _ (List.mem_of_getElem? (i := 233) rfl)
theorem en_mi_31 : en_mw (yX0_isOneOf, prog_2_method_11_code, 4, some .boolean) ∈ lw_tbl := en_sub_3 _ (List.mem_of_getElem? (i := 49) rfl)
theorem en_mi_32 : en_mw (yX0_readEither, prog_2_method_5_code, 5, some .boolean) ∈ lw_tbl := en_sub_3 _ (List.mem_of_getElem? (i := 53) rfl)
theorem en_mi_33 : en_mw (yX0_readBoth, prog_2_method_6_code, 5, some .boolean) ∈ lw_tbl := en_sub_3 _ (List.mem_of_getElem? (i := 57) rfl)
theorem en_mi_34 : en_mw (yX0_readTest, prog_2_method_7_code, 4, some .boolean) ∈ lw_tbl := en_sub_3 _ (List.mem_of_getElem? (i := 61) rfl)
theorem en_mi_35 : en_mw (yX0_skipToHere, prog_2_method_14_code, 2, none) ∈ lw_tbl := en_sub_3 _ (List.mem_of_getElem? (i := 65) rfl)
theorem en_mi_36 : en_mw (yX7_fault, prog_9_method_11_code, 1, some .int) ∈ lw_tbl := en_sub_3 _ (List.mem_of_getElem? (i := 69) rfl)
theorem en_mi_37 : en_mw (yX7_ended, prog_9_method_5_code, 1, some .boolean) ∈ lw_tbl := en_sub_3 _ (List.mem_of_getElem? (i := 73) rfl)
theorem en_mi_38 : en_mw (yX0_copyFrom, prog_2_method_2_code, 2, none) ∈ lw_tbl := en_sub_3 _ (List.mem_of_getElem? (i := 77) rfl)
theorem en_mi_39 : en_mw (yX7_clear, prog_9_method_3_code, 1, none) ∈ lw_tbl := en_sub_3 _ (List.mem_of_getElem? (i := 84) rfl)
theorem en_ms_in_1 : ∀ r ∈ en_ms_1, en_mw r ∈ lw_tbl := List.forall_mem_cons.mpr ⟨en_mi_20, List.forall_mem_cons.mpr ⟨en_mi_21, List.forall_mem_cons.mpr ⟨en_mi_22, List.forall_mem_cons.mpr ⟨en_mi_23, List.forall_mem_cons.mpr ⟨en_mi_24, List.forall_mem_cons.mpr ⟨en_mi_25, List.forall_mem_cons.mpr ⟨en_mi_26, List.forall_mem_cons.mpr ⟨en_mi_27, List.forall_mem_cons.mpr ⟨en_mi_28, List.forall_mem_cons.mpr ⟨en_mi_29, List.forall_mem_cons.mpr ⟨en_mi_30, List.forall_mem_cons.mpr ⟨en_mi_31, List.forall_mem_cons.mpr ⟨en_mi_32, List.forall_mem_cons.mpr ⟨en_mi_33, List.forall_mem_cons.mpr ⟨en_mi_34, List.forall_mem_cons.mpr ⟨en_mi_35, List.forall_mem_cons.mpr ⟨en_mi_36, List.forall_mem_cons.mpr ⟨en_mi_37, List.forall_mem_cons.mpr ⟨en_mi_38, List.forall_mem_cons.mpr ⟨en_mi_39, fun _ h => absurd h List.not_mem_nil⟩⟩⟩⟩⟩⟩⟩⟩⟩⟩⟩⟩⟩⟩⟩⟩⟩⟩⟩⟩
def en_ms_2 : List (MethodName × ByteArray × Nat × Option FieldType) := [(yX8_program, prog_1_method_6_code, 3, some .int), (yX3_readFrom, prog_5_method_3_code, 3, some .int), (yX3_readOp, prog_5_method_4_code, 5, some .boolean), (yX3_kindOf, prog_5_method_5_code, 1, some .int), (yX3_readGiven, prog_5_method_6_code, 3, some .boolean), (yX7_readRegister, prog_9_method_13_code, 2, some .int), (yX3_readNumber, prog_5_method_7_code, 3, some .boolean), (yX3_readReckoning, prog_5_method_8_code, 3, some .boolean), (yX3_readMove, prog_5_method_9_code, 3, some .boolean), (yX3_sizeOf, prog_5_method_10_code, 1, some .int), (yX3_findSources, prog_5_method_11_code, 2, none), (yX3_giverOfRegister, prog_5_method_12_code, 2, some .int), (yX8_isCell, prog_1_method_32_code, 1, some .boolean), (yX3_depthOf, prog_5_method_13_code, 2, some .int), (yX3_copyFrom, prog_5_method_2_code, 2, none), (yX6_dropSets, prog_8_method_5_code, 1, none), (yX5_clear, prog_7_method_2_code, 1, none), (yX8_run, prog_1_method_7_code, 3, some .int), (yX8_canRun, prog_1_method_28_code, 2, some .boolean), (yX1_go, prog_3_method_2_code, 4, some .int)]
theorem en_mi_40 : en_mw (yX8_program, prog_1_method_6_code, 3, some .int) ∈ lw_tbl := en_sub_3 _ (List.mem_of_getElem? (i := 88) rfl)
theorem en_mi_41 : en_mw (yX3_readFrom, prog_5_method_3_code, 3, some .int) ∈ lw_tbl := en_sub_3 _ (List.mem_of_getElem? (i := 92) rfl)
theorem en_mi_42 : en_mw (yX3_readOp, prog_5_method_4_code, 5, some .boolean) ∈ lw_tbl := en_sub_3 _ (List.mem_of_getElem? (i := 96) rfl)
theorem en_mi_43 : en_mw (yX3_kindOf, prog_5_method_5_code, 1, some .int) ∈ lw_tbl := en_sub_3 _ (List.mem_of_getElem? (i := 100) rfl)
theorem en_mi_44 : en_mw (yX3_readGiven, prog_5_method_6_code, 3, some .boolean) ∈ lw_tbl := en_sub_3 _ (List.mem_of_getElem? (i := 106) rfl)
theorem en_mi_45 : en_mw (yX7_readRegister, prog_9_method_13_code, 2, some .int) ∈ lw_tbl := en_sub_3 _ (List.mem_of_getElem? (i := 110) rfl)
theorem en_mi_46 : en_mw (yX3_readNumber, prog_5_method_7_code, 3, some .boolean) ∈ lw_tbl := en_sub_3 _ (List.mem_of_getElem? (i := 115) rfl)
theorem en_mi_47 : en_mw (yX3_readReckoning, prog_5_method_8_code, 3, some .boolean) ∈ lw_tbl := en_sub_3 _ (List.mem_of_getElem? (i := 120) rfl)
theorem en_mi_48 : en_mw (yX3_readMove, prog_5_method_9_code, 3, some .boolean) ∈ lw_tbl := en_sub_3 _ (List.mem_of_getElem? (i := 124) rfl)
theorem en_mi_49 : en_mw (yX3_sizeOf, prog_5_method_10_code, 1, some .int) ∈ lw_tbl := en_sub_3 _ (List.mem_of_getElem? (i := 127) rfl)
theorem en_mi_50 : en_mw (yX3_findSources, prog_5_method_11_code, 2, none) ∈ lw_tbl := en_sub_3 _ (List.mem_of_getElem? (i := 133) rfl)
theorem en_mi_51 : en_mw (yX3_giverOfRegister, prog_5_method_12_code, 2, some .int) ∈ lw_tbl := en_sub_3 _ (List.mem_of_getElem? (i := 138) rfl)
theorem en_mi_52 : en_mw (yX8_isCell, prog_1_method_32_code, 1, some .boolean) ∈ lw_tbl := en_sub_3 _ (List.mem_of_getElem? (i := 141) rfl)
theorem en_mi_53 : en_mw (yX3_depthOf, prog_5_method_13_code, 2, some .int) ∈ lw_tbl := en_sub_3 _ (List.mem_of_getElem? (i := 145) rfl)
theorem en_mi_54 : en_mw (yX3_copyFrom, prog_5_method_2_code, 2, none) ∈ lw_tbl := en_sub_3 _ (List.mem_of_getElem? (i := 150) rfl)
theorem en_mi_55 : en_mw (yX6_dropSets, prog_8_method_5_code, 1, none) ∈ lw_tbl := en_sub_3 _ (List.mem_of_getElem? (i := 155) rfl)
theorem en_mi_56 : en_mw (yX5_clear, prog_7_method_2_code, 1, none) ∈ lw_tbl := en_sub_3 _ (List.mem_of_getElem? (i := 159) rfl)
theorem en_mi_57 : en_mw (yX8_run, prog_1_method_7_code, 3, some .int) ∈ lw_tbl := en_sub_3 _ (List.mem_of_getElem? (i := 164) rfl)
theorem en_mi_58 : en_mw (yX8_canRun, prog_1_method_28_code, 2, some .boolean) ∈ lw_tbl := en_sub_3 _ (List.mem_of_getElem? (i := 168) rfl)
theorem en_mi_59 : en_mw (yX1_go, prog_3_method_2_code, 4, some .int) ∈ lw_tbl := en_sub_3 _ (List.mem_of_getElem? (i := 172) rfl)
theorem en_ms_in_2 : ∀ r ∈ en_ms_2, en_mw r ∈ lw_tbl := List.forall_mem_cons.mpr ⟨en_mi_40, List.forall_mem_cons.mpr ⟨en_mi_41, List.forall_mem_cons.mpr ⟨en_mi_42, List.forall_mem_cons.mpr ⟨en_mi_43, List.forall_mem_cons.mpr ⟨en_mi_44, List.forall_mem_cons.mpr ⟨en_mi_45, List.forall_mem_cons.mpr ⟨en_mi_46, List.forall_mem_cons.mpr ⟨en_mi_47, List.forall_mem_cons.mpr ⟨en_mi_48, List.forall_mem_cons.mpr ⟨en_mi_49, List.forall_mem_cons.mpr ⟨en_mi_50, List.forall_mem_cons.mpr ⟨en_mi_51, List.forall_mem_cons.mpr ⟨en_mi_52, List.forall_mem_cons.mpr ⟨en_mi_53, List.forall_mem_cons.mpr ⟨en_mi_54, List.forall_mem_cons.mpr ⟨en_mi_55, List.forall_mem_cons.mpr ⟨en_mi_56, List.forall_mem_cons.mpr ⟨en_mi_57, List.forall_mem_cons.mpr ⟨en_mi_58, List.forall_mem_cons.mpr ⟨en_mi_59, fun _ h => absurd h List.not_mem_nil⟩⟩⟩⟩⟩⟩⟩⟩⟩⟩⟩⟩⟩⟩⟩⟩⟩⟩⟩⟩
def en_ms_3 : List (MethodName × ByteArray × Nat × Option FieldType) := [(yX1_begin, prog_3_method_3_code, 2, none), (yX6_copyFrom, prog_8_method_2_code, 2, none), (yX6_copyCellsFrom, prog_8_method_3_code, 2, none), (yX6_copySetsFrom, prog_8_method_4_code, 2, none), (yX4_clear, prog_6_method_2_code, 1, none), (yX1_finishOps, prog_3_method_4_code, 4, none), (yX1_valueRead, prog_3_method_5_code, 3, some .int), (yX3_placeBy, prog_5_method_17_code, 3, some .int), (yX1_takeBytes, prog_3_method_6_code, 7, none), (yX1_youngestCovering, prog_3_method_7_code, 4, some .int), (yX8_covers, prog_1_method_36_code, 3, some .boolean), (yX1_storedAt, prog_3_method_8_code, 4, some .int), (yX3_storedOf, prog_5_method_18_code, 3, some .int), (yX1_lookBack, prog_3_method_9_code, 4, none), (yX1_tookTooOld, prog_3_method_10_code, 5, some .boolean), (yX6_melt, prog_8_method_9_code, 4, none), (yX1_replay, prog_3_method_11_code, 5, none), (yX1_makeWait, prog_3_method_13_code, 2, none), (yX1_undoDownTo, prog_3_method_14_code, 4, none), (yX1_dependsOn, prog_3_method_12_code, 4, some .boolean)]
theorem en_mi_60 : en_mw (yX1_begin, prog_3_method_3_code, 2, none) ∈ lw_tbl := en_sub_3 _ (List.mem_of_getElem? (i := 176) rfl)
theorem en_mi_61 : en_mw (yX6_copyFrom, prog_8_method_2_code, 2, none) ∈ lw_tbl := en_sub_3 _ (List.mem_of_getElem? (i := 180) rfl)
theorem en_mi_62 : en_mw (yX6_copyCellsFrom, prog_8_method_3_code, 2, none) ∈ lw_tbl := en_sub_3 _ (List.mem_of_getElem? (i := 184) rfl)
theorem en_mi_63 : en_mw (yX6_copySetsFrom, prog_8_method_4_code, 2, none) ∈ lw_tbl := en_sub_3 _ (List.mem_of_getElem? (i := 189) rfl)
theorem en_mi_64 : en_mw (yX4_clear, prog_6_method_2_code, 1, none) ∈ lw_tbl := en_sub_3 _ (List.mem_of_getElem? (i := 193) rfl)
theorem en_mi_65 : en_mw (yX1_finishOps, prog_3_method_4_code, 4, none) ∈ lw_tbl := en_sub_3 _ (List.mem_of_getElem? (i := 199) rfl)
theorem en_mi_66 : en_mw (yX1_valueRead, prog_3_method_5_code, 3, some .int) ∈ lw_tbl := en_sub_3 _ (List.mem_of_getElem? (i := 203) rfl)
theorem en_mi_67 : en_mw (yX3_placeBy, prog_5_method_17_code, 3, some .int) ∈ lw_tbl := en_sub_3 _ (List.mem_of_getElem? (i := 208) rfl)
theorem en_mi_68 : en_mw (yX1_takeBytes, prog_3_method_6_code, 7, none) ∈ lw_tbl := en_sub_3 _ (List.mem_of_getElem? (i := 212) rfl)
theorem en_mi_69 : en_mw (yX1_youngestCovering, prog_3_method_7_code, 4, some .int) ∈ lw_tbl := en_sub_3 _ (List.mem_of_getElem? (i := 216) rfl)
theorem en_mi_70 : en_mw (yX8_covers, prog_1_method_36_code, 3, some .boolean) ∈ lw_tbl := en_sub_3 _ (List.mem_of_getElem? (i := 219) rfl)
theorem en_mi_71 : en_mw (yX1_storedAt, prog_3_method_8_code, 4, some .int) ∈ lw_tbl := en_sub_3 _ (List.mem_of_getElem? (i := 223) rfl)
theorem en_mi_72 : en_mw (yX3_storedOf, prog_5_method_18_code, 3, some .int) ∈ lw_tbl := en_sub_3 _ (List.mem_of_getElem? (i := 227) rfl)
theorem en_mi_73 : en_mw (yX1_lookBack, prog_3_method_9_code, 4, none) ∈ lw_tbl := en_sub_3 _ (List.mem_of_getElem? (i := 231) rfl)
theorem en_mi_74 : en_mw (yX1_tookTooOld, prog_3_method_10_code, 5, some .boolean) ∈ lw_tbl := en_sub_3 _ (List.mem_of_getElem? (i := 235) rfl)
theorem en_mi_75 : en_mw (yX6_melt, prog_8_method_9_code, 4, none) ∈ lw_tbl := en_sub_3 _ (List.mem_of_getElem? (i := 239) rfl)
theorem en_mi_76 : en_mw (yX1_replay, prog_3_method_11_code, 5, none) ∈ lw_tbl := en_sub_4 _ (List.mem_of_getElem? (i := 5) rfl)
theorem en_mi_77 : en_mw (yX1_makeWait, prog_3_method_13_code, 2, none) ∈ lw_tbl := en_sub_4 _ (List.mem_of_getElem? (i := 9) rfl)
theorem en_mi_78 : en_mw (yX1_undoDownTo, prog_3_method_14_code, 4, none) ∈ lw_tbl := en_sub_4 _ (List.mem_of_getElem? (i := 13) rfl)
theorem en_mi_79 : en_mw (yX1_dependsOn, prog_3_method_12_code, 4, some .boolean) ∈ lw_tbl := en_sub_4 _ (List.mem_of_getElem? (i := 17) rfl)
theorem en_ms_in_3 : ∀ r ∈ en_ms_3, en_mw r ∈ lw_tbl := List.forall_mem_cons.mpr ⟨en_mi_60, List.forall_mem_cons.mpr ⟨en_mi_61, List.forall_mem_cons.mpr ⟨en_mi_62, List.forall_mem_cons.mpr ⟨en_mi_63, List.forall_mem_cons.mpr ⟨en_mi_64, List.forall_mem_cons.mpr ⟨en_mi_65, List.forall_mem_cons.mpr ⟨en_mi_66, List.forall_mem_cons.mpr ⟨en_mi_67, List.forall_mem_cons.mpr ⟨en_mi_68, List.forall_mem_cons.mpr ⟨en_mi_69, List.forall_mem_cons.mpr ⟨en_mi_70, List.forall_mem_cons.mpr ⟨en_mi_71, List.forall_mem_cons.mpr ⟨en_mi_72, List.forall_mem_cons.mpr ⟨en_mi_73, List.forall_mem_cons.mpr ⟨en_mi_74, List.forall_mem_cons.mpr ⟨en_mi_75, List.forall_mem_cons.mpr ⟨en_mi_76, List.forall_mem_cons.mpr ⟨en_mi_77, List.forall_mem_cons.mpr ⟨en_mi_78, List.forall_mem_cons.mpr ⟨en_mi_79, fun _ h => absurd h List.not_mem_nil⟩⟩⟩⟩⟩⟩⟩⟩⟩⟩⟩⟩⟩⟩⟩⟩⟩⟩⟩⟩
def en_ms_4 : List (MethodName × ByteArray × Nat × Option FieldType) := [(yX3_reckoned, prog_5_method_16_code, 4, some .int), (yX1_sendOff, prog_3_method_15_code, 5, none), (yX1_isDone, prog_3_method_16_code, 2, some .boolean), (yX1_mustWait, prog_3_method_17_code, 6, some .boolean), (yX6_draw, prog_8_method_8_code, 1, some .int), (yX1_tellLaw, prog_3_method_18_code, 4, none), (yX0_tell, prog_2_method_15_code, 8, none), (yX0_delay, prog_2_method_16_code, 4, some .int), (yX0_holds, prog_2_method_18_code, 2, some .boolean), (yX0_reckon, prog_2_method_19_code, 7, some .int), (yX0_joined, prog_2_method_20_code, 3, some .int), (yX1_retireOne, prog_3_method_19_code, 5, none), (yX1_oldestToRetire, prog_3_method_20_code, 2, some .int), (yX1_doneAhead, prog_3_method_21_code, 3, some .boolean), (yX0_holdsBack, prog_2_method_17_code, 2, some .boolean), (yX6_putBytes, prog_8_method_10_code, 5, none), (yX1_settled, prog_3_method_22_code, 2, some .boolean), (yX1_giveRegisters, prog_3_method_23_code, 2, none), (yX4_copyFrom, prog_6_method_3_code, 2, none), (yX8_tried, prog_1_method_8_code, 5, some .int)]
theorem en_mi_80 : en_mw (yX3_reckoned, prog_5_method_16_code, 4, some .int) ∈ lw_tbl := en_sub_4 _ (List.mem_of_getElem? (i := 21) rfl)
theorem en_mi_81 : en_mw (yX1_sendOff, prog_3_method_15_code, 5, none) ∈ lw_tbl := en_sub_4 _ (List.mem_of_getElem? (i := 25) rfl)
theorem en_mi_82 : en_mw (yX1_isDone, prog_3_method_16_code, 2, some .boolean) ∈ lw_tbl := en_sub_4 _ (List.mem_of_getElem? (i := 29) rfl)
theorem en_mi_83 : en_mw (yX1_mustWait, prog_3_method_17_code, 6, some .boolean) ∈ lw_tbl := en_sub_4 _ (List.mem_of_getElem? (i := 33) rfl)
theorem en_mi_84 : en_mw (yX6_draw, prog_8_method_8_code, 1, some .int) ∈ lw_tbl := en_sub_4 _ (List.mem_of_getElem? (i := 37) rfl)
theorem en_mi_85 : en_mw (yX1_tellLaw, prog_3_method_18_code, 4, none) ∈ lw_tbl := en_sub_4 _ (List.mem_of_getElem? (i := 42) rfl)
theorem en_mi_86 : en_mw (yX0_tell, prog_2_method_15_code, 8, none) ∈ lw_tbl := en_sub_4 _ (List.mem_of_getElem? (i := 46) rfl)
theorem en_mi_87 : en_mw (yX0_delay, prog_2_method_16_code, 4, some .int) ∈ lw_tbl := en_sub_4 _ (List.mem_of_getElem? (i := 50) rfl)
theorem en_mi_88 : en_mw (yX0_holds, prog_2_method_18_code, 2, some .boolean) ∈ lw_tbl := en_sub_4 _ (List.mem_of_getElem? (i := 54) rfl)
theorem en_mi_89 : en_mw (yX0_reckon, prog_2_method_19_code, 7, some .int) ∈ lw_tbl := en_sub_4 _ (List.mem_of_getElem? (i := 58) rfl)
theorem en_mi_90 : en_mw (yX0_joined, prog_2_method_20_code, 3, some .int) ∈ lw_tbl := en_sub_4 _ (List.mem_of_getElem? (i := 61) rfl)
theorem en_mi_91 : en_mw (yX1_retireOne, prog_3_method_19_code, 5, none) ∈ lw_tbl := en_sub_4 _ (List.mem_of_getElem? (i := 67) rfl)
theorem en_mi_92 : en_mw (yX1_oldestToRetire, prog_3_method_20_code, 2, some .int) ∈ lw_tbl := en_sub_4 _ (List.mem_of_getElem? (i := 71) rfl)
theorem en_mi_93 : en_mw (yX1_doneAhead, prog_3_method_21_code, 3, some .boolean) ∈ lw_tbl := en_sub_4 _ (List.mem_of_getElem? (i := 75) rfl)
theorem en_mi_94 : en_mw (yX0_holdsBack, prog_2_method_17_code, 2, some .boolean) ∈ lw_tbl := en_sub_4 _ (List.mem_of_getElem? (i := 79) rfl)
theorem en_mi_95 : en_mw (yX6_putBytes, prog_8_method_10_code, 5, none) ∈ lw_tbl := en_sub_4 _ (List.mem_of_getElem? (i := 83) rfl)
theorem en_mi_96 : en_mw (yX1_settled, prog_3_method_22_code, 2, some .boolean) ∈ lw_tbl := en_sub_4 _ (List.mem_of_getElem? (i := 87) rfl)
theorem en_mi_97 : en_mw (yX1_giveRegisters, prog_3_method_23_code, 2, none) ∈ lw_tbl := en_sub_4 _ (List.mem_of_getElem? (i := 91) rfl)
theorem en_mi_98 : en_mw (yX4_copyFrom, prog_6_method_3_code, 2, none) ∈ lw_tbl := en_sub_4 _ (List.mem_of_getElem? (i := 97) rfl)
theorem en_mi_99 : en_mw (yX8_tried, prog_1_method_8_code, 5, some .int) ∈ lw_tbl := en_sub_4 _ (List.mem_of_getElem? (i := 102) rfl)
theorem en_ms_in_4 : ∀ r ∈ en_ms_4, en_mw r ∈ lw_tbl := List.forall_mem_cons.mpr ⟨en_mi_80, List.forall_mem_cons.mpr ⟨en_mi_81, List.forall_mem_cons.mpr ⟨en_mi_82, List.forall_mem_cons.mpr ⟨en_mi_83, List.forall_mem_cons.mpr ⟨en_mi_84, List.forall_mem_cons.mpr ⟨en_mi_85, List.forall_mem_cons.mpr ⟨en_mi_86, List.forall_mem_cons.mpr ⟨en_mi_87, List.forall_mem_cons.mpr ⟨en_mi_88, List.forall_mem_cons.mpr ⟨en_mi_89, List.forall_mem_cons.mpr ⟨en_mi_90, List.forall_mem_cons.mpr ⟨en_mi_91, List.forall_mem_cons.mpr ⟨en_mi_92, List.forall_mem_cons.mpr ⟨en_mi_93, List.forall_mem_cons.mpr ⟨en_mi_94, List.forall_mem_cons.mpr ⟨en_mi_95, List.forall_mem_cons.mpr ⟨en_mi_96, List.forall_mem_cons.mpr ⟨en_mi_97, List.forall_mem_cons.mpr ⟨en_mi_98, List.forall_mem_cons.mpr ⟨en_mi_99, fun _ h => absurd h List.not_mem_nil⟩⟩⟩⟩⟩⟩⟩⟩⟩⟩⟩⟩⟩⟩⟩⟩⟩⟩⟩⟩
def en_ms_5 : List (MethodName × ByteArray × Nat × Option FieldType) := [(yX8_isTotal, prog_1_method_31_code, 1, some .boolean), (yX8_isByte, prog_1_method_33_code, 1, some .boolean), (yX8_lastRun, prog_1_method_9_code, 2, some .int), (yX8_opIs, prog_1_method_10_code, 3, some .int), (yX8_isOp, prog_1_method_29_code, 2, some .boolean), (yX8_giverOf, prog_1_method_30_code, 3, some .int), (yX8_orAbsent, prog_1_method_34_code, 1, some .int), (yX3_moves, prog_5_method_14_code, 2, some .boolean), (yX8_source, prog_1_method_11_code, 3, some .int), (yX8_now, prog_1_method_12_code, 2, some .int), (yX8_plain, prog_1_method_13_code, 2, some .int), (yX2_go, prog_4_method_2_code, 6, none), (yX2_valueIn, prog_4_method_3_code, 2, some .int), (yX2_loaded, prog_4_method_4_code, 5, some .int), (yX8_unlike, prog_1_method_14_code, 2, some .int), (yX8_differing, prog_1_method_35_code, 4, some .int), (yX8_fastest, prog_1_method_15_code, 6, some .int), (yX8_cautious, prog_1_method_16_code, 3, some .int), (yX8_worst, prog_1_method_17_code, 4, some .int), (yX8_deep, prog_1_method_18_code, 1, some .int)]
theorem en_mi_100 : en_mw (yX8_isTotal, prog_1_method_31_code, 1, some .boolean) ∈ lw_tbl := en_sub_4 _ (List.mem_of_getElem? (i := 105) rfl)
theorem en_mi_101 : en_mw (yX8_isByte, prog_1_method_33_code, 1, some .boolean) ∈ lw_tbl := en_sub_4 _ (List.mem_of_getElem? (i := 109) rfl)
theorem en_mi_102 : en_mw (yX8_lastRun, prog_1_method_9_code, 2, some .int) ∈ lw_tbl := en_sub_4 _ (List.mem_of_getElem? (i := 113) rfl)
theorem en_mi_103 : en_mw (yX8_opIs, prog_1_method_10_code, 3, some .int) ∈ lw_tbl := en_sub_4 _ (List.mem_of_getElem? (i := 117) rfl)
theorem en_mi_104 : en_mw (yX8_isOp, prog_1_method_29_code, 2, some .boolean) ∈ lw_tbl := en_sub_4 _ (List.mem_of_getElem? (i := 121) rfl)
theorem en_mi_105 : en_mw (yX8_giverOf, prog_1_method_30_code, 3, some .int) ∈ lw_tbl := en_sub_4 _ (List.mem_of_getElem? (i := 126) rfl)
theorem en_mi_106 : en_mw (yX8_orAbsent, prog_1_method_34_code, 1, some .int) ∈ lw_tbl := en_sub_4 _ (List.mem_of_getElem? (i := 129) rfl)
theorem en_mi_107 : en_mw (yX3_moves, prog_5_method_14_code, 2, some .boolean) ∈ lw_tbl := en_sub_4 _ (List.mem_of_getElem? (i := 133) rfl)
theorem en_mi_108 : en_mw (yX8_source, prog_1_method_11_code, 3, some .int) ∈ lw_tbl := en_sub_4 _ (List.mem_of_getElem? (i := 137) rfl)
theorem en_mi_109 : en_mw (yX8_now, prog_1_method_12_code, 2, some .int) ∈ lw_tbl := en_sub_4 _ (List.mem_of_getElem? (i := 141) rfl)
theorem en_mi_110 : en_mw (yX8_plain, prog_1_method_13_code, 2, some .int) ∈ lw_tbl := en_sub_4 _ (List.mem_of_getElem? (i := 145) rfl)
theorem en_mi_111 : en_mw (yX2_go, prog_4_method_2_code, 6, none) ∈ lw_tbl := en_sub_4 _ (List.mem_of_getElem? (i := 149) rfl)
theorem en_mi_112 : en_mw (yX2_valueIn, prog_4_method_3_code, 2, some .int) ∈ lw_tbl := en_sub_4 _ (List.mem_of_getElem? (i := 154) rfl)
theorem en_mi_113 : en_mw (yX2_loaded, prog_4_method_4_code, 5, some .int) ∈ lw_tbl := en_sub_4 _ (List.mem_of_getElem? (i := 161) rfl)
theorem en_mi_114 : en_mw (yX8_unlike, prog_1_method_14_code, 2, some .int) ∈ lw_tbl := en_sub_4 _ (List.mem_of_getElem? (i := 166) rfl)
theorem en_mi_115 : en_mw (yX8_differing, prog_1_method_35_code, 4, some .int) ∈ lw_tbl := en_sub_4 _ (List.mem_of_getElem? (i := 169) rfl)
theorem en_mi_116 : en_mw (yX8_fastest, prog_1_method_15_code, 6, some .int) ∈ lw_tbl := en_sub_4 _ (List.mem_of_getElem? (i := 173) rfl)
theorem en_mi_117 : en_mw (yX8_cautious, prog_1_method_16_code, 3, some .int) ∈ lw_tbl := en_sub_4 _ (List.mem_of_getElem? (i := 177) rfl)
theorem en_mi_118 : en_mw (yX8_worst, prog_1_method_17_code, 4, some .int) ∈ lw_tbl := en_sub_4 _ (List.mem_of_getElem? (i := 181) rfl)
theorem en_mi_119 : en_mw (yX8_deep, prog_1_method_18_code, 1, some .int) ∈ lw_tbl := en_sub_4 _ (List.mem_of_getElem? (i := 185) rfl)
theorem en_ms_in_5 : ∀ r ∈ en_ms_5, en_mw r ∈ lw_tbl := List.forall_mem_cons.mpr ⟨en_mi_100, List.forall_mem_cons.mpr ⟨en_mi_101, List.forall_mem_cons.mpr ⟨en_mi_102, List.forall_mem_cons.mpr ⟨en_mi_103, List.forall_mem_cons.mpr ⟨en_mi_104, List.forall_mem_cons.mpr ⟨en_mi_105, List.forall_mem_cons.mpr ⟨en_mi_106, List.forall_mem_cons.mpr ⟨en_mi_107, List.forall_mem_cons.mpr ⟨en_mi_108, List.forall_mem_cons.mpr ⟨en_mi_109, List.forall_mem_cons.mpr ⟨en_mi_110, List.forall_mem_cons.mpr ⟨en_mi_111, List.forall_mem_cons.mpr ⟨en_mi_112, List.forall_mem_cons.mpr ⟨en_mi_113, List.forall_mem_cons.mpr ⟨en_mi_114, List.forall_mem_cons.mpr ⟨en_mi_115, List.forall_mem_cons.mpr ⟨en_mi_116, List.forall_mem_cons.mpr ⟨en_mi_117, List.forall_mem_cons.mpr ⟨en_mi_118, List.forall_mem_cons.mpr ⟨en_mi_119, fun _ h => absurd h List.not_mem_nil⟩⟩⟩⟩⟩⟩⟩⟩⟩⟩⟩⟩⟩⟩⟩⟩⟩⟩⟩⟩
def en_ms_6 : List (MethodName × ByteArray × Nat × Option FieldType) := [(yX8_mix, prog_1_method_19_code, 1, some .int), (yX2_sharedBytes, prog_4_method_5_code, 5, some .int), (yX2_meet, prog_4_method_6_code, 4, some .boolean), (yX8_watch, prog_1_method_20_code, 3, some .int), (yX5_put, prog_7_method_3_code, 3, some .int), (yX8_watched, prog_1_method_21_code, 5, some .int), (yX8_forget, prog_1_method_22_code, 2, some .int), (yX6_withSet, prog_8_method_6_code, 3, some .int), (yX8_seed, prog_1_method_23_code, 2, some .boolean), (yX8_keep, prog_1_method_24_code, 1, some .int), (yX8_undo, prog_1_method_25_code, 1, some .boolean), (yX8_check, prog_1_method_26_code, 4, some .int), (yX8_count, prog_1_method_27_code, 2, some .int), (yX3_ofKind, prog_5_method_15_code, 4, some .int), (yX6_bytesNotZero, prog_8_method_7_code, 3, some .int), (yX9_init, prog_11_method_1_code, 1, none), (yX9_register, prog_11_method_6_code, 3, some .boolean), (yX9_in, prog_11_method_2_code, 3, some .boolean), (yX9_poke, prog_11_method_7_code, 3, some .boolean), (yX9_feed, prog_11_method_9_code, 6, some .int)]
theorem en_mi_120 : en_mw (yX8_mix, prog_1_method_19_code, 1, some .int) ∈ lw_tbl := en_sub_4 _ (List.mem_of_getElem? (i := 189) rfl)
theorem en_mi_121 : en_mw (yX2_sharedBytes, prog_4_method_5_code, 5, some .int) ∈ lw_tbl := en_sub_4 _ (List.mem_of_getElem? (i := 193) rfl)
theorem en_mi_122 : en_mw (yX2_meet, prog_4_method_6_code, 4, some .boolean) ∈ lw_tbl := en_sub_4 _ (List.mem_of_getElem? (i := 197) rfl)
theorem en_mi_123 : en_mw (yX8_watch, prog_1_method_20_code, 3, some .int) ∈ lw_tbl := en_sub_4 _ (List.mem_of_getElem? (i := 202) rfl)
theorem en_mi_124 : en_mw (yX5_put, prog_7_method_3_code, 3, some .int) ∈ lw_tbl := en_sub_4 _ (List.mem_of_getElem? (i := 206) rfl)
theorem en_mi_125 : en_mw (yX8_watched, prog_1_method_21_code, 5, some .int) ∈ lw_tbl := en_sub_4 _ (List.mem_of_getElem? (i := 210) rfl)
theorem en_mi_126 : en_mw (yX8_forget, prog_1_method_22_code, 2, some .int) ∈ lw_tbl := en_sub_4 _ (List.mem_of_getElem? (i := 215) rfl)
theorem en_mi_127 : en_mw (yX6_withSet, prog_8_method_6_code, 3, some .int) ∈ lw_tbl := en_sub_4 _ (List.mem_of_getElem? (i := 219) rfl)
theorem en_mi_128 : en_mw (yX8_seed, prog_1_method_23_code, 2, some .boolean) ∈ lw_tbl := en_sub_4 _ (List.mem_of_getElem? (i := 223) rfl)
theorem en_mi_129 : en_mw (yX8_keep, prog_1_method_24_code, 1, some .int) ∈ lw_tbl := en_sub_4 _ (List.mem_of_getElem? (i := 228) rfl)
theorem en_mi_130 : en_mw (yX8_undo, prog_1_method_25_code, 1, some .boolean) ∈ lw_tbl := en_sub_4 _ (List.mem_of_getElem? (i := 232) rfl)
theorem en_mi_131 : en_mw (yX8_check, prog_1_method_26_code, 4, some .int) ∈ lw_tbl := en_sub_4 _ (List.mem_of_getElem? (i := 238) rfl)
theorem en_mi_132 : en_mw (yX8_count, prog_1_method_27_code, 2, some .int) ∈ lw_tbl := en_sub_5 _ (List.mem_of_getElem? (i := 2) rfl)
theorem en_mi_133 : en_mw (yX3_ofKind, prog_5_method_15_code, 4, some .int) ∈ lw_tbl := en_sub_5 _ (List.mem_of_getElem? (i := 6) rfl)
theorem en_mi_134 : en_mw (yX6_bytesNotZero, prog_8_method_7_code, 3, some .int) ∈ lw_tbl := en_sub_5 _ (List.mem_of_getElem? (i := 10) rfl)
theorem en_mi_135 : en_mw (yX9_init, prog_11_method_1_code, 1, none) ∈ lw_tbl := en_sub_5 _ (List.mem_of_getElem? (i := 15) rfl)
theorem en_mi_136 : en_mw (yX9_register, prog_11_method_6_code, 3, some .boolean) ∈ lw_tbl := en_sub_6 _ (List.mem_of_getElem? (i := 69) rfl)
theorem en_mi_137 : en_mw (yX9_in, prog_11_method_2_code, 3, some .boolean) ∈ lw_tbl := en_sub_6 _ (List.mem_of_getElem? (i := 72) rfl)
theorem en_mi_138 : en_mw (yX9_poke, prog_11_method_7_code, 3, some .boolean) ∈ lw_tbl := en_sub_6 _ (List.mem_of_getElem? (i := 76) rfl)
theorem en_mi_139 : en_mw (yX9_feed, prog_11_method_9_code, 6, some .int) ∈ lw_tbl := en_sub_6 _ (List.mem_of_getElem? (i := 80) rfl)
theorem en_ms_in_6 : ∀ r ∈ en_ms_6, en_mw r ∈ lw_tbl := List.forall_mem_cons.mpr ⟨en_mi_120, List.forall_mem_cons.mpr ⟨en_mi_121, List.forall_mem_cons.mpr ⟨en_mi_122, List.forall_mem_cons.mpr ⟨en_mi_123, List.forall_mem_cons.mpr ⟨en_mi_124, List.forall_mem_cons.mpr ⟨en_mi_125, List.forall_mem_cons.mpr ⟨en_mi_126, List.forall_mem_cons.mpr ⟨en_mi_127, List.forall_mem_cons.mpr ⟨en_mi_128, List.forall_mem_cons.mpr ⟨en_mi_129, List.forall_mem_cons.mpr ⟨en_mi_130, List.forall_mem_cons.mpr ⟨en_mi_131, List.forall_mem_cons.mpr ⟨en_mi_132, List.forall_mem_cons.mpr ⟨en_mi_133, List.forall_mem_cons.mpr ⟨en_mi_134, List.forall_mem_cons.mpr ⟨en_mi_135, List.forall_mem_cons.mpr ⟨en_mi_136, List.forall_mem_cons.mpr ⟨en_mi_137, List.forall_mem_cons.mpr ⟨en_mi_138, List.forall_mem_cons.mpr ⟨en_mi_139, fun _ h => absurd h List.not_mem_nil⟩⟩⟩⟩⟩⟩⟩⟩⟩⟩⟩⟩⟩⟩⟩⟩⟩⟩⟩⟩
def en_ms_7 : List (MethodName × ByteArray × Nat × Option FieldType) := [(yX9_types, prog_11_method_8_code, 3, none), (yX9_law, prog_11_method_32_code, 4, some .int), (yX9_beginsText, prog_11_method_31_code, 2, none), (yX9_readsRule, prog_11_method_30_code, 2, some .boolean), (yX9_here, prog_11_method_11_code, 1, some .int), (yX9_wrongAt, prog_11_method_13_code, 3, some .boolean), (yX9_readsSum, prog_11_method_24_code, 3, some .boolean), (yX9_readsFactor, prog_11_method_22_code, 2, some .boolean), (yX9_opens, prog_11_method_17_code, 2, some .boolean), (yX9_isDigit, prog_11_method_12_code, 1, some .boolean), (yX9_readsNumber, prog_11_method_15_code, 2, some .boolean), (yX9_notes, prog_11_method_16_code, 3, none), (yX9_factOf, prog_11_method_19_code, 1, some .int), (yX9_sumSign, prog_11_method_20_code, 1, some .int), (yX9_closesSums, prog_11_method_21_code, 2, none), (yX9_waitTop, prog_11_method_18_code, 1, some .int), (yX9_hasOpenSum, prog_11_method_23_code, 3, some .boolean), (yX9_readsCondition, prog_11_method_29_code, 1, some .boolean), (yX9_readsCompared, prog_11_method_28_code, 2, some .boolean), (yX9_endsPiece, prog_11_method_25_code, 1, none)]
theorem en_mi_140 : en_mw (yX9_types, prog_11_method_8_code, 3, none) ∈ lw_tbl := en_sub_6 _ (List.mem_of_getElem? (i := 84) rfl)
theorem en_mi_141 : en_mw (yX9_law, prog_11_method_32_code, 4, some .int) ∈ lw_tbl := en_sub_6 _ (List.mem_of_getElem? (i := 88) rfl)
theorem en_mi_142 : en_mw (yX9_beginsText, prog_11_method_31_code, 2, none) ∈ lw_tbl := en_sub_6 _ (List.mem_of_getElem? (i := 92) rfl)
theorem en_mi_143 : en_mw (yX9_readsRule, prog_11_method_30_code, 2, some .boolean) ∈ lw_tbl := en_sub_6 _ (List.mem_of_getElem? (i := 96) rfl)
theorem en_mi_144 : en_mw (yX9_here, prog_11_method_11_code, 1, some .int) ∈ lw_tbl := en_sub_6 _ (List.mem_of_getElem? (i := 100) rfl)
theorem en_mi_145 : en_mw (yX9_wrongAt, prog_11_method_13_code, 3, some .boolean) ∈ lw_tbl := en_sub_6 _ (List.mem_of_getElem? (i := 104) rfl)
theorem en_mi_146 : en_mw (yX9_readsSum, prog_11_method_24_code, 3, some .boolean) ∈ lw_tbl := en_sub_6 _ (List.mem_of_getElem? (i := 108) rfl)
theorem en_mi_147 : en_mw (yX9_readsFactor, prog_11_method_22_code, 2, some .boolean) ∈ lw_tbl := en_sub_6 _ (List.mem_of_getElem? (i := 112) rfl)
theorem en_mi_148 : en_mw (yX9_opens, prog_11_method_17_code, 2, some .boolean) ∈ lw_tbl := en_sub_6 _ (List.mem_of_getElem? (i := 116) rfl)
theorem en_mi_149 : en_mw (yX9_isDigit, prog_11_method_12_code, 1, some .boolean) ∈ lw_tbl := en_sub_6 _ (List.mem_of_getElem? (i := 121) rfl)
theorem en_mi_150 : en_mw (yX9_readsNumber, prog_11_method_15_code, 2, some .boolean) ∈ lw_tbl := en_sub_6 _ (List.mem_of_getElem? (i := 125) rfl)
theorem en_mi_151 : en_mw (yX9_notes, prog_11_method_16_code, 3, none) ∈ lw_tbl := en_sub_6 _ (List.mem_of_getElem? (i := 129) rfl)
theorem en_mi_152 : en_mw (yX9_factOf, prog_11_method_19_code, 1, some .int) ∈ lw_tbl := en_sub_6 _ (List.mem_of_getElem? (i := 132) rfl)
theorem en_mi_153 : en_mw (yX9_sumSign, prog_11_method_20_code, 1, some .int) ∈ lw_tbl := en_sub_6 _ (List.mem_of_getElem? (i := 135) rfl)
theorem en_mi_154 : en_mw (yX9_closesSums, prog_11_method_21_code, 2, none) ∈ lw_tbl := en_sub_6 _ (List.mem_of_getElem? (i := 139) rfl)
theorem en_mi_155 : en_mw (yX9_waitTop, prog_11_method_18_code, 1, some .int) ∈ lw_tbl := en_sub_6 _ (List.mem_of_getElem? (i := 143) rfl)
theorem en_mi_156 : en_mw (yX9_hasOpenSum, prog_11_method_23_code, 3, some .boolean) ∈ lw_tbl := en_sub_6 _ (List.mem_of_getElem? (i := 147) rfl)
theorem en_mi_157 : en_mw (yX9_readsCondition, prog_11_method_29_code, 1, some .boolean) ∈ lw_tbl := en_sub_6 _ (List.mem_of_getElem? (i := 151) rfl)
theorem en_mi_158 : en_mw (yX9_readsCompared, prog_11_method_28_code, 2, some .boolean) ∈ lw_tbl := en_sub_6 _ (List.mem_of_getElem? (i := 155) rfl)
theorem en_mi_159 : en_mw (yX9_endsPiece, prog_11_method_25_code, 1, none) ∈ lw_tbl := en_sub_6 _ (List.mem_of_getElem? (i := 159) rfl)
theorem en_ms_in_7 : ∀ r ∈ en_ms_7, en_mw r ∈ lw_tbl := List.forall_mem_cons.mpr ⟨en_mi_140, List.forall_mem_cons.mpr ⟨en_mi_141, List.forall_mem_cons.mpr ⟨en_mi_142, List.forall_mem_cons.mpr ⟨en_mi_143, List.forall_mem_cons.mpr ⟨en_mi_144, List.forall_mem_cons.mpr ⟨en_mi_145, List.forall_mem_cons.mpr ⟨en_mi_146, List.forall_mem_cons.mpr ⟨en_mi_147, List.forall_mem_cons.mpr ⟨en_mi_148, List.forall_mem_cons.mpr ⟨en_mi_149, List.forall_mem_cons.mpr ⟨en_mi_150, List.forall_mem_cons.mpr ⟨en_mi_151, List.forall_mem_cons.mpr ⟨en_mi_152, List.forall_mem_cons.mpr ⟨en_mi_153, List.forall_mem_cons.mpr ⟨en_mi_154, List.forall_mem_cons.mpr ⟨en_mi_155, List.forall_mem_cons.mpr ⟨en_mi_156, List.forall_mem_cons.mpr ⟨en_mi_157, List.forall_mem_cons.mpr ⟨en_mi_158, List.forall_mem_cons.mpr ⟨en_mi_159, fun _ h => absurd h List.not_mem_nil⟩⟩⟩⟩⟩⟩⟩⟩⟩⟩⟩⟩⟩⟩⟩⟩⟩⟩⟩⟩
def en_ms_8 : List (MethodName × ByteArray × Nat × Option FieldType) := [(yX9_lands, prog_11_method_26_code, 3, none), (yX9_jumps, prog_11_method_27_code, 2, none), (yX9_takes, prog_11_method_14_code, 2, some .boolean), (yX9_program, prog_11_method_44_code, 4, some .int), (yX9_readsOp, prog_11_method_43_code, 3, some .boolean), (yX9_kindBy, prog_11_method_40_code, 1, some .int), (yX9_sizeBy, prog_11_method_41_code, 1, some .int), (yX9_readsRegister, prog_11_method_38_code, 1, some .boolean), (yX9_readsPlace, prog_11_method_42_code, 2, some .boolean), (yX9_readsAmount, prog_11_method_39_code, 2, some .boolean), (yX9_source, prog_11_method_48_code, 4, some .int), (yX9_isOp, prog_11_method_5_code, 2, some .boolean), (yX9_doesRead, prog_11_method_46_code, 3, some .boolean), (yX9_giverOf, prog_11_method_47_code, 4, some .int), (yX9_gives, prog_11_method_45_code, 3, some .boolean), (yX9_run, prog_11_method_80_code, 3, some .int), (yX9_canRun, prog_11_method_78_code, 2, some .boolean), (yX9_goesThrough, prog_11_method_75_code, 4, some .boolean), (yX9_cycleGoes, prog_11_method_74_code, 5, none), (yX9_comesDone, prog_11_method_68_code, 3, none)]
theorem en_mi_160 : en_mw (yX9_lands, prog_11_method_26_code, 3, none) ∈ lw_tbl := en_sub_6 _ (List.mem_of_getElem? (i := 163) rfl)
theorem en_mi_161 : en_mw (yX9_jumps, prog_11_method_27_code, 2, none) ∈ lw_tbl := en_sub_6 _ (List.mem_of_getElem? (i := 167) rfl)
theorem en_mi_162 : en_mw (yX9_takes, prog_11_method_14_code, 2, some .boolean) ∈ lw_tbl := en_sub_6 _ (List.mem_of_getElem? (i := 171) rfl)
theorem en_mi_163 : en_mw (yX9_program, prog_11_method_44_code, 4, some .int) ∈ lw_tbl := en_sub_6 _ (List.mem_of_getElem? (i := 175) rfl)
theorem en_mi_164 : en_mw (yX9_readsOp, prog_11_method_43_code, 3, some .boolean) ∈ lw_tbl := en_sub_6 _ (List.mem_of_getElem? (i := 179) rfl)
theorem en_mi_165 : en_mw (yX9_kindBy, prog_11_method_40_code, 1, some .int) ∈ lw_tbl := en_sub_6 _ (List.mem_of_getElem? (i := 182) rfl)
theorem en_mi_166 : en_mw (yX9_sizeBy, prog_11_method_41_code, 1, some .int) ∈ lw_tbl := en_sub_6 _ (List.mem_of_getElem? (i := 185) rfl)
theorem en_mi_167 : en_mw (yX9_readsRegister, prog_11_method_38_code, 1, some .boolean) ∈ lw_tbl := en_sub_6 _ (List.mem_of_getElem? (i := 189) rfl)
theorem en_mi_168 : en_mw (yX9_readsPlace, prog_11_method_42_code, 2, some .boolean) ∈ lw_tbl := en_sub_6 _ (List.mem_of_getElem? (i := 193) rfl)
theorem en_mi_169 : en_mw (yX9_readsAmount, prog_11_method_39_code, 2, some .boolean) ∈ lw_tbl := en_sub_6 _ (List.mem_of_getElem? (i := 197) rfl)
theorem en_mi_170 : en_mw (yX9_source, prog_11_method_48_code, 4, some .int) ∈ lw_tbl := en_sub_6 _ (List.mem_of_getElem? (i := 201) rfl)
theorem en_mi_171 : en_mw (yX9_isOp, prog_11_method_5_code, 2, some .boolean) ∈ lw_tbl := en_sub_6 _ (List.mem_of_getElem? (i := 205) rfl)
theorem en_mi_172 : en_mw (yX9_doesRead, prog_11_method_46_code, 3, some .boolean) ∈ lw_tbl := en_sub_6 _ (List.mem_of_getElem? (i := 209) rfl)
theorem en_mi_173 : en_mw (yX9_giverOf, prog_11_method_47_code, 4, some .int) ∈ lw_tbl := en_sub_6 _ (List.mem_of_getElem? (i := 213) rfl)
theorem en_mi_174 : en_mw (yX9_gives, prog_11_method_45_code, 3, some .boolean) ∈ lw_tbl := en_sub_6 _ (List.mem_of_getElem? (i := 217) rfl)
theorem en_mi_175 : en_mw (yX9_run, prog_11_method_80_code, 3, some .int) ∈ lw_tbl := en_sub_6 _ (List.mem_of_getElem? (i := 221) rfl)
theorem en_mi_176 : en_mw (yX9_canRun, prog_11_method_78_code, 2, some .boolean) ∈ lw_tbl := en_sub_6 _ (List.mem_of_getElem? (i := 225) rfl)
theorem en_mi_177 : en_mw (yX9_goesThrough, prog_11_method_75_code, 4, some .boolean) ∈ lw_tbl := en_sub_6 _ (List.mem_of_getElem? (i := 229) rfl)
theorem en_mi_178 : en_mw (yX9_cycleGoes, prog_11_method_74_code, 5, none) ∈ lw_tbl := en_sub_6 _ (List.mem_of_getElem? (i := 233) rfl)
theorem en_mi_179 : en_mw (yX9_comesDone, prog_11_method_68_code, 3, none) ∈ lw_tbl := en_sub_6 _ (List.mem_of_getElem? (i := 237) rfl)
theorem en_ms_in_8 : ∀ r ∈ en_ms_8, en_mw r ∈ lw_tbl := List.forall_mem_cons.mpr ⟨en_mi_160, List.forall_mem_cons.mpr ⟨en_mi_161, List.forall_mem_cons.mpr ⟨en_mi_162, List.forall_mem_cons.mpr ⟨en_mi_163, List.forall_mem_cons.mpr ⟨en_mi_164, List.forall_mem_cons.mpr ⟨en_mi_165, List.forall_mem_cons.mpr ⟨en_mi_166, List.forall_mem_cons.mpr ⟨en_mi_167, List.forall_mem_cons.mpr ⟨en_mi_168, List.forall_mem_cons.mpr ⟨en_mi_169, List.forall_mem_cons.mpr ⟨en_mi_170, List.forall_mem_cons.mpr ⟨en_mi_171, List.forall_mem_cons.mpr ⟨en_mi_172, List.forall_mem_cons.mpr ⟨en_mi_173, List.forall_mem_cons.mpr ⟨en_mi_174, List.forall_mem_cons.mpr ⟨en_mi_175, List.forall_mem_cons.mpr ⟨en_mi_176, List.forall_mem_cons.mpr ⟨en_mi_177, List.forall_mem_cons.mpr ⟨en_mi_178, List.forall_mem_cons.mpr ⟨en_mi_179, fun _ h => absurd h List.not_mem_nil⟩⟩⟩⟩⟩⟩⟩⟩⟩⟩⟩⟩⟩⟩⟩⟩⟩⟩⟩⟩
def en_ms_9 : List (MethodName × ByteArray × Nat × Option FieldType) := [(yX9_readBy, prog_11_method_52_code, 4, some .int), (yX9_reckoned, prog_11_method_50_code, 3, some .int), (yX9_placeBy, prog_11_method_53_code, 3, some .int), (yX9_loads, prog_11_method_67_code, 6, none), (yX9_covers, prog_11_method_54_code, 3, some .boolean), (yX9_byteOf, prog_11_method_55_code, 2, some .int), (yX9_cut, prog_11_method_51_code, 2, some .int), (yX9_looksBack, prog_11_method_66_code, 4, none), (yX9_tookOld, prog_11_method_65_code, 4, some .boolean), (yX9_melts, prog_11_method_59_code, 6, none), (yX9_min, prog_11_method_4_code, 2, some .int), (yX9_replaysAll, prog_11_method_63_code, 4, none), (yX9_lists, prog_11_method_60_code, 2, none), (yX9_listsThoseBy, prog_11_method_62_code, 4, none), (yX9_tookFrom, prog_11_method_61_code, 4, some .boolean), (yX9_hasSource, prog_11_method_49_code, 4, some .boolean), (yX9_undoesTo, prog_11_method_64_code, 4, none), (yX9_areSourcesDone, prog_11_method_56_code, 4, some .boolean), (yX9_isKeptBack, prog_11_method_58_code, 3, some .boolean), (yX9_areStoresDone, prog_11_method_57_code, 3, some .boolean)]
theorem en_mi_180 : en_mw (yX9_readBy, prog_11_method_52_code, 4, some .int) ∈ lw_tbl := en_sub_7 _ (List.mem_of_getElem? (i := 1) rfl)
theorem en_mi_181 : en_mw (yX9_reckoned, prog_11_method_50_code, 3, some .int) ∈ lw_tbl := en_sub_7 _ (List.mem_of_getElem? (i := 4) rfl)
theorem en_mi_182 : en_mw (yX9_placeBy, prog_11_method_53_code, 3, some .int) ∈ lw_tbl := en_sub_7 _ (List.mem_of_getElem? (i := 8) rfl)
theorem en_mi_183 : en_mw (yX9_loads, prog_11_method_67_code, 6, none) ∈ lw_tbl := en_sub_7 _ (List.mem_of_getElem? (i := 12) rfl)
theorem en_mi_184 : en_mw (yX9_covers, prog_11_method_54_code, 3, some .boolean) ∈ lw_tbl := en_sub_7 _ (List.mem_of_getElem? (i := 16) rfl)
theorem en_mi_185 : en_mw (yX9_byteOf, prog_11_method_55_code, 2, some .int) ∈ lw_tbl := en_sub_7 _ (List.mem_of_getElem? (i := 19) rfl)
theorem en_mi_186 : en_mw (yX9_cut, prog_11_method_51_code, 2, some .int) ∈ lw_tbl := en_sub_7 _ (List.mem_of_getElem? (i := 22) rfl)
theorem en_mi_187 : en_mw (yX9_looksBack, prog_11_method_66_code, 4, none) ∈ lw_tbl := en_sub_7 _ (List.mem_of_getElem? (i := 27) rfl)
theorem en_mi_188 : en_mw (yX9_tookOld, prog_11_method_65_code, 4, some .boolean) ∈ lw_tbl := en_sub_7 _ (List.mem_of_getElem? (i := 31) rfl)
theorem en_mi_189 : en_mw (yX9_melts, prog_11_method_59_code, 6, none) ∈ lw_tbl := en_sub_7 _ (List.mem_of_getElem? (i := 35) rfl)
theorem en_mi_190 : en_mw (yX9_min, prog_11_method_4_code, 2, some .int) ∈ lw_tbl := en_sub_7 _ (List.mem_of_getElem? (i := 38) rfl)
theorem en_mi_191 : en_mw (yX9_replaysAll, prog_11_method_63_code, 4, none) ∈ lw_tbl := en_sub_7 _ (List.mem_of_getElem? (i := 42) rfl)
theorem en_mi_192 : en_mw (yX9_lists, prog_11_method_60_code, 2, none) ∈ lw_tbl := en_sub_7 _ (List.mem_of_getElem? (i := 46) rfl)
theorem en_mi_193 : en_mw (yX9_listsThoseBy, prog_11_method_62_code, 4, none) ∈ lw_tbl := en_sub_7 _ (List.mem_of_getElem? (i := 50) rfl)
theorem en_mi_194 : en_mw (yX9_tookFrom, prog_11_method_61_code, 4, some .boolean) ∈ lw_tbl := en_sub_7 _ (List.mem_of_getElem? (i := 54) rfl)
theorem en_mi_195 : en_mw (yX9_hasSource, prog_11_method_49_code, 4, some .boolean) ∈ lw_tbl := en_sub_7 _ (List.mem_of_getElem? (i := 58) rfl)
theorem en_mi_196 : en_mw (yX9_undoesTo, prog_11_method_64_code, 4, none) ∈ lw_tbl := en_sub_7 _ (List.mem_of_getElem? (i := 62) rfl)
theorem en_mi_197 : en_mw (yX9_areSourcesDone, prog_11_method_56_code, 4, some .boolean) ∈ lw_tbl := en_sub_7 _ (List.mem_of_getElem? (i := 66) rfl)
theorem en_mi_198 : en_mw (yX9_isKeptBack, prog_11_method_58_code, 3, some .boolean) ∈ lw_tbl := en_sub_7 _ (List.mem_of_getElem? (i := 70) rfl)
theorem en_mi_199 : en_mw (yX9_areStoresDone, prog_11_method_57_code, 3, some .boolean) ∈ lw_tbl := en_sub_7 _ (List.mem_of_getElem? (i := 74) rfl)
theorem en_ms_in_9 : ∀ r ∈ en_ms_9, en_mw r ∈ lw_tbl := List.forall_mem_cons.mpr ⟨en_mi_180, List.forall_mem_cons.mpr ⟨en_mi_181, List.forall_mem_cons.mpr ⟨en_mi_182, List.forall_mem_cons.mpr ⟨en_mi_183, List.forall_mem_cons.mpr ⟨en_mi_184, List.forall_mem_cons.mpr ⟨en_mi_185, List.forall_mem_cons.mpr ⟨en_mi_186, List.forall_mem_cons.mpr ⟨en_mi_187, List.forall_mem_cons.mpr ⟨en_mi_188, List.forall_mem_cons.mpr ⟨en_mi_189, List.forall_mem_cons.mpr ⟨en_mi_190, List.forall_mem_cons.mpr ⟨en_mi_191, List.forall_mem_cons.mpr ⟨en_mi_192, List.forall_mem_cons.mpr ⟨en_mi_193, List.forall_mem_cons.mpr ⟨en_mi_194, List.forall_mem_cons.mpr ⟨en_mi_195, List.forall_mem_cons.mpr ⟨en_mi_196, List.forall_mem_cons.mpr ⟨en_mi_197, List.forall_mem_cons.mpr ⟨en_mi_198, List.forall_mem_cons.mpr ⟨en_mi_199, fun _ h => absurd h List.not_mem_nil⟩⟩⟩⟩⟩⟩⟩⟩⟩⟩⟩⟩⟩⟩⟩⟩⟩⟩⟩⟩
def en_ms_10 : List (MethodName × ByteArray × Nat × Option FieldType) := [(yX9_goesOff, prog_11_method_69_code, 3, none), (yX9_feels, prog_11_method_37_code, 4, none), (yX9_delayOf, prog_11_method_35_code, 4, some .int), (yX9_reckonsTo, prog_11_method_34_code, 8, some .int), (yX9_reckon, prog_11_method_33_code, 3, some .int), (yX9_retires, prog_11_method_72_code, 6, none), (yX9_oldestToRetire, prog_11_method_71_code, 2, some .int), (yX9_areAllDone, prog_11_method_70_code, 3, some .boolean), (yX9_isHeldBack, prog_11_method_36_code, 2, some .boolean), (yX9_isOver, prog_11_method_73_code, 2, some .boolean), (yX9_putsSetsBack, prog_11_method_76_code, 2, none), (yX9_toldOf, prog_11_method_79_code, 2, some .int), (yX9_tried, prog_11_method_81_code, 5, some .int), (yX9_isTried, prog_11_method_77_code, 5, some .boolean), (yX9_cautious, prog_11_method_82_code, 3, some .int), (yX9_fastest, prog_11_method_83_code, 5, some .int), (yX9_lastRun, prog_11_method_84_code, 2, some .int), (yX9_now, prog_11_method_87_code, 2, some .int), (yX9_plain, prog_11_method_88_code, 2, some .int), (yX9_goesPlain, prog_11_method_85_code, 2, none)]
theorem en_mi_200 : en_mw (yX9_goesOff, prog_11_method_69_code, 3, none) ∈ lw_tbl := en_sub_7 _ (List.mem_of_getElem? (i := 78) rfl)
theorem en_mi_201 : en_mw (yX9_feels, prog_11_method_37_code, 4, none) ∈ lw_tbl := en_sub_7 _ (List.mem_of_getElem? (i := 83) rfl)
theorem en_mi_202 : en_mw (yX9_delayOf, prog_11_method_35_code, 4, some .int) ∈ lw_tbl := en_sub_7 _ (List.mem_of_getElem? (i := 87) rfl)
theorem en_mi_203 : en_mw (yX9_reckonsTo, prog_11_method_34_code, 8, some .int) ∈ lw_tbl := en_sub_7 _ (List.mem_of_getElem? (i := 91) rfl)
theorem en_mi_204 : en_mw (yX9_reckon, prog_11_method_33_code, 3, some .int) ∈ lw_tbl := en_sub_7 _ (List.mem_of_getElem? (i := 94) rfl)
theorem en_mi_205 : en_mw (yX9_retires, prog_11_method_72_code, 6, none) ∈ lw_tbl := en_sub_7 _ (List.mem_of_getElem? (i := 98) rfl)
theorem en_mi_206 : en_mw (yX9_oldestToRetire, prog_11_method_71_code, 2, some .int) ∈ lw_tbl := en_sub_7 _ (List.mem_of_getElem? (i := 102) rfl)
theorem en_mi_207 : en_mw (yX9_areAllDone, prog_11_method_70_code, 3, some .boolean) ∈ lw_tbl := en_sub_7 _ (List.mem_of_getElem? (i := 106) rfl)
theorem en_mi_208 : en_mw (yX9_isHeldBack, prog_11_method_36_code, 2, some .boolean) ∈ lw_tbl := en_sub_7 _ (List.mem_of_getElem? (i := 110) rfl)
theorem en_mi_209 : en_mw (yX9_isOver, prog_11_method_73_code, 2, some .boolean) ∈ lw_tbl := en_sub_7 _ (List.mem_of_getElem? (i := 114) rfl)
theorem en_mi_210 : en_mw (yX9_putsSetsBack, prog_11_method_76_code, 2, none) ∈ lw_tbl := en_sub_7 _ (List.mem_of_getElem? (i := 118) rfl)
theorem en_mi_211 : en_mw (yX9_toldOf, prog_11_method_79_code, 2, some .int) ∈ lw_tbl := en_sub_7 _ (List.mem_of_getElem? (i := 122) rfl)
theorem en_mi_212 : en_mw (yX9_tried, prog_11_method_81_code, 5, some .int) ∈ lw_tbl := en_sub_7 _ (List.mem_of_getElem? (i := 126) rfl)
theorem en_mi_213 : en_mw (yX9_isTried, prog_11_method_77_code, 5, some .boolean) ∈ lw_tbl := en_sub_7 _ (List.mem_of_getElem? (i := 130) rfl)
theorem en_mi_214 : en_mw (yX9_cautious, prog_11_method_82_code, 3, some .int) ∈ lw_tbl := en_sub_7 _ (List.mem_of_getElem? (i := 134) rfl)
theorem en_mi_215 : en_mw (yX9_fastest, prog_11_method_83_code, 5, some .int) ∈ lw_tbl := en_sub_7 _ (List.mem_of_getElem? (i := 138) rfl)
theorem en_mi_216 : en_mw (yX9_lastRun, prog_11_method_84_code, 2, some .int) ∈ lw_tbl := en_sub_7 _ (List.mem_of_getElem? (i := 142) rfl)
theorem en_mi_217 : en_mw (yX9_now, prog_11_method_87_code, 2, some .int) ∈ lw_tbl := en_sub_7 _ (List.mem_of_getElem? (i := 146) rfl)
theorem en_mi_218 : en_mw (yX9_plain, prog_11_method_88_code, 2, some .int) ∈ lw_tbl := en_sub_7 _ (List.mem_of_getElem? (i := 151) rfl)
theorem en_mi_219 : en_mw (yX9_goesPlain, prog_11_method_85_code, 2, none) ∈ lw_tbl := en_sub_7 _ (List.mem_of_getElem? (i := 155) rfl)
theorem en_ms_in_10 : ∀ r ∈ en_ms_10, en_mw r ∈ lw_tbl := List.forall_mem_cons.mpr ⟨en_mi_200, List.forall_mem_cons.mpr ⟨en_mi_201, List.forall_mem_cons.mpr ⟨en_mi_202, List.forall_mem_cons.mpr ⟨en_mi_203, List.forall_mem_cons.mpr ⟨en_mi_204, List.forall_mem_cons.mpr ⟨en_mi_205, List.forall_mem_cons.mpr ⟨en_mi_206, List.forall_mem_cons.mpr ⟨en_mi_207, List.forall_mem_cons.mpr ⟨en_mi_208, List.forall_mem_cons.mpr ⟨en_mi_209, List.forall_mem_cons.mpr ⟨en_mi_210, List.forall_mem_cons.mpr ⟨en_mi_211, List.forall_mem_cons.mpr ⟨en_mi_212, List.forall_mem_cons.mpr ⟨en_mi_213, List.forall_mem_cons.mpr ⟨en_mi_214, List.forall_mem_cons.mpr ⟨en_mi_215, List.forall_mem_cons.mpr ⟨en_mi_216, List.forall_mem_cons.mpr ⟨en_mi_217, List.forall_mem_cons.mpr ⟨en_mi_218, List.forall_mem_cons.mpr ⟨en_mi_219, fun _ h => absurd h List.not_mem_nil⟩⟩⟩⟩⟩⟩⟩⟩⟩⟩⟩⟩⟩⟩⟩⟩⟩⟩⟩⟩
def en_ms_11 : List (MethodName × ByteArray × Nat × Option FieldType) := [(yX9_doesPlain, prog_11_method_86_code, 6, none), (yX9_unlike, prog_11_method_89_code, 4, some .int), (yX9_mix, prog_11_method_91_code, 4, some .int), (yX9_haveByte, prog_11_method_90_code, 4, some .boolean), (yX9_deep, prog_11_method_92_code, 4, some .int), (yX9_max, prog_11_method_3_code, 2, some .int), (yX9_opIs, prog_11_method_94_code, 4, some .int), (yX9_toldOfOp, prog_11_method_93_code, 3, some .int), (yX9_worst, prog_11_method_96_code, 2, some .int), (yX9_worstOp, prog_11_method_95_code, 3, some .int), (yX9_watch, prog_11_method_97_code, 4, some .int), (yX9_watched, prog_11_method_98_code, 5, some .int), (yX9_forget, prog_11_method_100_code, 3, some .int), (yX9_withSet, prog_11_method_99_code, 3, some .int), (yX9_seed, prog_11_method_101_code, 2, some .boolean), (yX9_keep, prog_11_method_102_code, 2, some .int), (yX9_undo, prog_11_method_103_code, 2, some .boolean), (yX9_check, prog_11_method_104_code, 3, some .int), (yX9_octet, prog_11_method_10_code, 2, some .int), (yX9_count, prog_11_method_107_code, 2, some .int)]
theorem en_mi_220 : en_mw (yX9_doesPlain, prog_11_method_86_code, 6, none) ∈ lw_tbl := en_sub_7 _ (List.mem_of_getElem? (i := 159) rfl)
theorem en_mi_221 : en_mw (yX9_unlike, prog_11_method_89_code, 4, some .int) ∈ lw_tbl := en_sub_7 _ (List.mem_of_getElem? (i := 163) rfl)
theorem en_mi_222 : en_mw (yX9_mix, prog_11_method_91_code, 4, some .int) ∈ lw_tbl := en_sub_7 _ (List.mem_of_getElem? (i := 167) rfl)
theorem en_mi_223 : en_mw (yX9_haveByte, prog_11_method_90_code, 4, some .boolean) ∈ lw_tbl := en_sub_7 _ (List.mem_of_getElem? (i := 171) rfl)
theorem en_mi_224 : en_mw (yX9_deep, prog_11_method_92_code, 4, some .int) ∈ lw_tbl := en_sub_7 _ (List.mem_of_getElem? (i := 175) rfl)
theorem en_mi_225 : en_mw (yX9_max, prog_11_method_3_code, 2, some .int) ∈ lw_tbl := en_sub_7 _ (List.mem_of_getElem? (i := 178) rfl)
theorem en_mi_226 : en_mw (yX9_opIs, prog_11_method_94_code, 4, some .int) ∈ lw_tbl := en_sub_7 _ (List.mem_of_getElem? (i := 182) rfl)
theorem en_mi_227 : en_mw (yX9_toldOfOp, prog_11_method_93_code, 3, some .int) ∈ lw_tbl := en_sub_7 _ (List.mem_of_getElem? (i := 186) rfl)
theorem en_mi_228 : en_mw (yX9_worst, prog_11_method_96_code, 2, some .int) ∈ lw_tbl := en_sub_7 _ (List.mem_of_getElem? (i := 190) rfl)
theorem en_mi_229 : en_mw (yX9_worstOp, prog_11_method_95_code, 3, some .int) ∈ lw_tbl := en_sub_7 _ (List.mem_of_getElem? (i := 194) rfl)
theorem en_mi_230 : en_mw (yX9_watch, prog_11_method_97_code, 4, some .int) ∈ lw_tbl := en_sub_7 _ (List.mem_of_getElem? (i := 198) rfl)
theorem en_mi_231 : en_mw (yX9_watched, prog_11_method_98_code, 5, some .int) ∈ lw_tbl := en_sub_7 _ (List.mem_of_getElem? (i := 202) rfl)
theorem en_mi_232 : en_mw (yX9_forget, prog_11_method_100_code, 3, some .int) ∈ lw_tbl := en_sub_7 _ (List.mem_of_getElem? (i := 206) rfl)
theorem en_mi_233 : en_mw (yX9_withSet, prog_11_method_99_code, 3, some .int) ∈ lw_tbl := en_sub_7 _ (List.mem_of_getElem? (i := 210) rfl)
theorem en_mi_234 : en_mw (yX9_seed, prog_11_method_101_code, 2, some .boolean) ∈ lw_tbl := en_sub_7 _ (List.mem_of_getElem? (i := 214) rfl)
theorem en_mi_235 : en_mw (yX9_keep, prog_11_method_102_code, 2, some .int) ∈ lw_tbl := en_sub_7 _ (List.mem_of_getElem? (i := 218) rfl)
theorem en_mi_236 : en_mw (yX9_undo, prog_11_method_103_code, 2, some .boolean) ∈ lw_tbl := en_sub_7 _ (List.mem_of_getElem? (i := 222) rfl)
theorem en_mi_237 : en_mw (yX9_check, prog_11_method_104_code, 3, some .int) ∈ lw_tbl := en_sub_7 _ (List.mem_of_getElem? (i := 226) rfl)
theorem en_mi_238 : en_mw (yX9_octet, prog_11_method_10_code, 2, some .int) ∈ lw_tbl := en_sub_7 _ (List.mem_of_getElem? (i := 230) rfl)
theorem en_mi_239 : en_mw (yX9_count, prog_11_method_107_code, 2, some .int) ∈ lw_tbl := en_sub_7 _ (List.mem_of_getElem? (i := 234) rfl)
theorem en_ms_in_11 : ∀ r ∈ en_ms_11, en_mw r ∈ lw_tbl := List.forall_mem_cons.mpr ⟨en_mi_220, List.forall_mem_cons.mpr ⟨en_mi_221, List.forall_mem_cons.mpr ⟨en_mi_222, List.forall_mem_cons.mpr ⟨en_mi_223, List.forall_mem_cons.mpr ⟨en_mi_224, List.forall_mem_cons.mpr ⟨en_mi_225, List.forall_mem_cons.mpr ⟨en_mi_226, List.forall_mem_cons.mpr ⟨en_mi_227, List.forall_mem_cons.mpr ⟨en_mi_228, List.forall_mem_cons.mpr ⟨en_mi_229, List.forall_mem_cons.mpr ⟨en_mi_230, List.forall_mem_cons.mpr ⟨en_mi_231, List.forall_mem_cons.mpr ⟨en_mi_232, List.forall_mem_cons.mpr ⟨en_mi_233, List.forall_mem_cons.mpr ⟨en_mi_234, List.forall_mem_cons.mpr ⟨en_mi_235, List.forall_mem_cons.mpr ⟨en_mi_236, List.forall_mem_cons.mpr ⟨en_mi_237, List.forall_mem_cons.mpr ⟨en_mi_238, List.forall_mem_cons.mpr ⟨en_mi_239, fun _ h => absurd h List.not_mem_nil⟩⟩⟩⟩⟩⟩⟩⟩⟩⟩⟩⟩⟩⟩⟩⟩⟩⟩⟩⟩
def en_ms_12 : List (MethodName × ByteArray × Nat × Option FieldType) := [(yX9_ofKind, prog_11_method_105_code, 4, some .int), (yX9_bytesThere, prog_11_method_106_code, 3, some .int)]
theorem en_mi_240 : en_mw (yX9_ofKind, prog_11_method_105_code, 4, some .int) ∈ lw_tbl := en_sub_7 _ (List.mem_of_getElem? (i := 238) rfl)
theorem en_mi_241 : en_mw (yX9_bytesThere, prog_11_method_106_code, 3, some .int) ∈ lw_tbl := en_sub_8 _ (List.mem_of_getElem? (i := 2) rfl)
theorem en_ms_in_12 : ∀ r ∈ en_ms_12, en_mw r ∈ lw_tbl := List.forall_mem_cons.mpr ⟨en_mi_240, List.forall_mem_cons.mpr ⟨en_mi_241, fun _ h => absurd h List.not_mem_nil⟩⟩
def en_ms : List (MethodName × ByteArray × Nat × Option FieldType) := en_ms_0 ++ (en_ms_1 ++ (en_ms_2 ++ (en_ms_3 ++ (en_ms_4 ++ (en_ms_5 ++ (en_ms_6 ++ (en_ms_7 ++ (en_ms_8 ++ (en_ms_9 ++ (en_ms_10 ++ (en_ms_11 ++ (en_ms_12))))))))))))
theorem en_ms_in : ∀ r ∈ en_ms, Cond.code r.1 r.2.1 r.2.2.1 r.2.2.2 ∈ lw_tbl := by
  intro q hq
  unfold en_ms at hq
  rcases List.mem_append.mp hq with hq | hq
  · exact en_ms_in_0 q hq
  rcases List.mem_append.mp hq with hq | hq
  · exact en_ms_in_1 q hq
  rcases List.mem_append.mp hq with hq | hq
  · exact en_ms_in_2 q hq
  rcases List.mem_append.mp hq with hq | hq
  · exact en_ms_in_3 q hq
  rcases List.mem_append.mp hq with hq | hq
  · exact en_ms_in_4 q hq
  rcases List.mem_append.mp hq with hq | hq
  · exact en_ms_in_5 q hq
  rcases List.mem_append.mp hq with hq | hq
  · exact en_ms_in_6 q hq
  rcases List.mem_append.mp hq with hq | hq
  · exact en_ms_in_7 q hq
  rcases List.mem_append.mp hq with hq | hq
  · exact en_ms_in_8 q hq
  rcases List.mem_append.mp hq with hq | hq
  · exact en_ms_in_9 q hq
  rcases List.mem_append.mp hq with hq | hq
  · exact en_ms_in_10 q hq
  rcases List.mem_append.mp hq with hq | hq
  · exact en_ms_in_11 q hq
  exact en_ms_in_12 q hq
def en_fl : List (Nat × Nat × Nat × Nat) := [(7, 9, 7, 0), (8, 257, 7, 0), (7, 15, 7, 1), (8, 85, 7, 1), (7, 25, 7, 2), (7, 28, 7, 3), (7, 31, 7, 4), (3, 9, 3, 0), (2, 46, 3, 0), (1, 124, 3, 0), (8, 175, 3, 0), (3, 15, 3, 1), (3, 18, 3, 2), (2, 49, 3, 2), (1, 157, 3, 2), (8, 267, 3, 2), (3, 21, 3, 3), (2, 56, 3, 3), (1, 240, 3, 3), (3, 24, 3, 4), (2, 32, 3, 4), (1, 111, 3, 4), (8, 200, 3, 4), (3, 27, 3, 5), (2, 39, 3, 5), (1, 121, 3, 5), (8, 206, 3, 5), (3, 30, 3, 6), (3, 33, 3, 7), (1, 108, 3, 7), (8, 203, 3, 7), (3, 36, 3, 8), (1, 118, 3, 8), (8, 209, 3, 8), (3, 39, 3, 9), (3, 42, 3, 10), (2, 26, 3, 11), (3, 51, 3, 11), (1, 102, 3, 11), (8, 222, 3, 11), (3, 55, 3, 12), (8, 223, 3, 12), (0, 9, 0, 0), (0, 15, 0, 1), (0, 18, 0, 2), (0, 21, 0, 3), (0, 24, 0, 4), (0, 35, 0, 5), (0, 38, 0, 6), (0, 47, 0, 7), (8, 263, 0, 7), (0, 50, 0, 8), (6, 9, 6, 0), (8, 78, 6, 0), (2, 63, 6, 0), (1, 154, 6, 0), (6, 15, 6, 1), (8, 82, 6, 1), (2, 73, 6, 1), (1, 163, 6, 1), (6, 18, 6, 2), (8, 178, 6, 2), (1, 217, 6, 2), (6, 27, 6, 3), (8, 120, 6, 3), (6, 31, 6, 4), (8, 141, 6, 4), (1, 220, 6, 4), (6, 34, 6, 5), (8, 135, 6, 5), (4, 9, 4, 0), (1, 83, 4, 0), (8, 165, 4, 0), (4, 15, 4, 1), (1, 105, 4, 1), (8, 185, 4, 1), (4, 18, 4, 2), (8, 188, 4, 2), (1, 193, 4, 2), (4, 21, 4, 3), (1, 137, 4, 3), (8, 191, 4, 3), (4, 24, 4, 4), (1, 127, 4, 4), (8, 197, 4, 4), (4, 27, 4, 5), (1, 169, 4, 5), (8, 270, 4, 5), (1, 12, 1, 0), (8, 111, 1, 0), (1, 21, 1, 1), (8, 100, 1, 1), (1, 28, 1, 2), (8, 75, 1, 2), (1, 32, 1, 3), (8, 132, 1, 3), (1, 38, 1, 4), (8, 150, 1, 4), (1, 42, 1, 5), (1, 46, 1, 6), (1, 49, 1, 7), (1, 53, 1, 8), (1, 56, 1, 9), (1, 59, 1, 10), (1, 65, 1, 11), (2, 12, 2, 0), (8, 215, 2, 0), (2, 18, 2, 1), (5, 11, 5, 0), (8, 239, 5, 0), (5, 16, 5, 1), (8, 230, 5, 1), (8, 233, 5, 2), (8, 10, 8, 0), (8, 19, 8, 1), (8, 26, 8, 2), (8, 33, 8, 3), (8, 40, 8, 4), (8, 47, 8, 5), (8, 54, 8, 6), (8, 61, 8, 7), (8, 65, 8, 8), (8, 69, 8, 9), (8, 72, 8, 10), (9, 204, 9, 0), (9, 328, 9, 1), (9, 208, 9, 2), (9, 352, 9, 3), (9, 529, 9, 4), (9, 359, 9, 5), (9, 7, 9, 6), (9, 13, 9, 7), (9, 16, 9, 8), (9, 19, 9, 9), (9, 22, 9, 10), (9, 25, 9, 11), (9, 28, 9, 12), (9, 31, 9, 13), (9, 34, 9, 14), (9, 37, 9, 15), (9, 40, 9, 16), (9, 43, 9, 17), (9, 215, 9, 18), (9, 222, 9, 19), (9, 225, 9, 20), (9, 232, 9, 21), (9, 239, 9, 22), (9, 250, 9, 23), (9, 246, 9, 24), (9, 253, 9, 25), (9, 302, 9, 26), (9, 317, 9, 27), (9, 47, 9, 28), (9, 50, 9, 29), (9, 53, 9, 30), (9, 56, 9, 31), (9, 59, 9, 32), (9, 62, 9, 33), (9, 65, 9, 34), (9, 68, 9, 35), (9, 71, 9, 36), (9, 74, 9, 37), (9, 77, 9, 38), (9, 80, 9, 39), (9, 83, 9, 40), (9, 340, 9, 41), (9, 86, 9, 42), (9, 89, 9, 43), (9, 92, 9, 44), (9, 95, 9, 45), (9, 98, 9, 46), (9, 101, 9, 47), (9, 104, 9, 48), (9, 107, 9, 49), (9, 110, 9, 50), (9, 113, 9, 51), (9, 116, 9, 52), (9, 119, 9, 53), (9, 122, 9, 54), (9, 125, 9, 55), (9, 128, 9, 56), (9, 131, 9, 57), (9, 134, 9, 58), (9, 138, 9, 59), (9, 141, 9, 60), (9, 144, 9, 61), (9, 147, 9, 62), (9, 482, 9, 63), (9, 417, 9, 64), (9, 402, 9, 65), (9, 461, 9, 66), (9, 408, 9, 67), (9, 473, 9, 68), (9, 485, 9, 69), (9, 378, 9, 70), (9, 150, 9, 71), (9, 387, 9, 72), (9, 153, 9, 73), (9, 156, 9, 74), (9, 355, 9, 75), (9, 159, 9, 76), (9, 162, 9, 77), (9, 165, 9, 78), (9, 168, 9, 79), (9, 171, 9, 80), (9, 174, 9, 81), (9, 177, 9, 82), (9, 180, 9, 83), (9, 183, 9, 84), (9, 186, 9, 85), (9, 189, 9, 86), (9, 192, 9, 87), (9, 535, 9, 88), (9, 538, 9, 89), (9, 541, 9, 90), (9, 544, 9, 91), (9, 547, 9, 92), (9, 195, 9, 93), (9, 198, 9, 94), (9, 201, 9, 95)]
def en_nw : List (Nat × Nat × Nat) := [(13, 7, 8), (8, 7, 7), (8, 16, 1), (1, 9, 3), (1, 18, 0), (1, 25, 6), (1, 35, 4), (8, 23, 3), (8, 30, 0), (8, 37, 2), (2, 9, 6), (8, 44, 4), (8, 51, 6), (8, 58, 5), (13, 10, 9)]
def en_kc : List (Nat × Nat × Int) := [(6, 50, 65535), (8, 171, -100000), (8, 250, 65536), (9, 249, 1048576), (9, 374, 65535), (9, 444, 65536), (9, 513, -100000)]
def en_fw (q : Nat × Nat × Nat × Nat) : Cond := match vwCl[q.2.2.1]? with
  | some r => .fieldLink (en_nm q.1) q.2.1 (r.2.1 q.2.2.2).1 (r.2.1 q.2.2.2).2.1 (r.2.1 q.2.2.2).2.2.1
  | none => .fieldLink "" 0 "" "" ""
theorem en_fl_in : ∀ w ∈ en_fl.map en_fw, w ∈ lw_tbl := fun w h => (goodIn_r (big := lw_tbl) (en_fl.map en_fw) [148, 149, 150, 151, 152, 153, 154, 179, 180, 181, 182, 183, 184, 185, 186, 187, 188, 189, 190, 191, 192, 193, 194, 195, 196, 197, 198, 199, 200, 201, 202, 203, 204, 205, 206, 207, 208, 209, 210, 211, 212, 213, 258, 259, 260, 261, 262, 263, 264, 265, 266, 267, 297, 298, 299, 300, 301, 302, 303, 304, 305, 306, 307, 308, 309, 310, 311, 312, 313, 314, 334, 335, 336, 337, 338, 339, 340, 341, 342, 343, 344, 345, 346, 347, 348, 349, 350, 351, 365, 366, 367, 368, 369, 370, 371, 372, 373, 374, 375, 376, 377, 378, 379, 380, 381, 420, 421, 422, 440, 441, 442, 443, 444, 452, 453, 454, 455, 456, 457, 458, 459, 460, 461, 462, 1092, 1093, 1094, 1095, 1096, 1097, 1098, 1099, 1100, 1101, 1102, 1103, 1104, 1105, 1106, 1107, 1108, 1109, 1110, 1111, 1112, 1113, 1114, 1115, 1116, 1117, 1118, 1119, 1120, 1121, 1122, 1123, 1124, 1125, 1126, 1127, 1128, 1129, 1130, 1131, 1132, 1133, 1134, 1135, 1136, 1137, 1138, 1139, 1140, 1141, 1142, 1143, 1144, 1145, 1146, 1147, 1148, 1149, 1150, 1151, 1152, 1153, 1154, 1155, 1156, 1157, 1158, 1159, 1160, 1161, 1162, 1163, 1164, 1165, 1166, 1167, 1168, 1169, 1170, 1171, 1172, 1173, 1174, 1175, 1176, 1177, 1178, 1179, 1180, 1181, 1182, 1183, 1184, 1185, 1186, 1187] (by decide +kernel) (by decide +kernel) w h).1
def en_nww (q : Nat × Nat × Nat) : List Cond := match vwCl[q.2.2]? with
  | some r => [.classLink (en_nm q.1) q.2.1 r.1, .instantiable r.1 r.2.2, .initialized r.1]
  | none => []
theorem en_nw_in : ∀ w ∈ en_nw.flatMap en_nww, w ∈ lw_tbl := fun w h => (goodIn_r (big := lw_tbl) (en_nw.flatMap en_nww) [134, 135, 116, 142, 143, 117, 167, 168, 118, 173, 174, 119, 241, 242, 120, 288, 289, 122, 328, 329, 124, 408, 174, 119, 410, 242, 120, 412, 413, 125, 418, 289, 122, 428, 329, 124, 430, 289, 122, 432, 433, 126, 1086, 1087, 127] (by decide +kernel) (by decide +kernel) w h).1
theorem en_kc_in : ∀ w ∈ en_kc.map (fun q => Cond.constant (en_nm q.1) q.2.1 (Int32.ofInt q.2.2)), w ∈ lw_tbl := fun w h => (goodIn_r (big := lw_tbl) (en_kc.map (fun q => Cond.constant (en_nm q.1) q.2.1 (Int32.ofInt q.2.2))) [873, 957, 1059, 1432, 1578, 1634, 1702] (by decide +kernel) (by decide +kernel) w h).1
def en_cw (q : Nat × Nat × Nat × Nat × Nat) : List Cond := match en_ms[q.2.2.2.1]? with
  | some r => match q.2.2.1 with
    | 0 => [.methodLink (en_nm q.1) q.2.1 r.1, .instanceMethod r.1, .selects r.1.cls r.1 r.1, .initialized r.1.cls]
    | 1 => [.methodLink (en_nm q.1) q.2.1 r.1, .static r.1, .initialized r.1.cls]
    | 2 => [.static r.1, .initialized r.1.cls]
    | 3 => [.methodLink (en_nm q.1) q.2.1 r.1, .instanceMethod r.1, .initialized r.1.cls]
    | _ => [.instanceMethod r.1, .initialized r.1.cls]
  | none => []
def en_cl_0 : List (Nat × Nat × Nat × Nat × Nat) := [(13, 9, 3, 0, 0), (8, 9, 4, 1, 0), (8, 18, 4, 2, 0), (1, 11, 4, 3, 0), (1, 20, 4, 4, 0), (1, 27, 3, 5, 0), (6, 21, 1, 6, 2), (1, 37, 4, 7, 0), (8, 25, 4, 3, 0), (8, 32, 4, 4, 0), (8, 39, 4, 8, 0), (2, 11, 3, 5, 0), (8, 46, 4, 7, 0), (8, 53, 3, 5, 0), (8, 60, 4, 9, 0), (13, 13, 0, 10, 2), (13, 18, 0, 11, 2), (13, 22, 0, 12, 5), (8, 89, 0, 13, 1), (13, 27, 0, 14, 1), (8, 93, 0, 15, 1), (7, 19, 1, 16, 2), (8, 96, 0, 17, 1), (0, 53, 0, 18, 2), (0, 70, 0, 19, 0), (0, 73, 0, 20, 1), (0, 76, 0, 21, 0), (0, 79, 0, 22, 2), (0, 102, 0, 23, 2), (0, 109, 0, 24, 2), (0, 99, 1, 25, 2), (0, 66, 0, 26, 1), (7, 34, 0, 19, 0), (7, 38, 0, 20, 1), (0, 112, 0, 27, 0), (0, 115, 0, 28, 1), (7, 42, 0, 27, 0), (0, 88, 0, 29, 2), (0, 105, 1, 31, 4), (0, 82, 0, 32, 2), (0, 85, 0, 33, 2), (0, 96, 0, 34, 2), (0, 92, 0, 35, 1), (0, 57, 0, 36, 0), (0, 62, 0, 37, 0), (8, 103, 0, 38, 1), (8, 107, 0, 39, 0), (13, 32, 0, 40, 1), (8, 110, 0, 41, 1), (3, 58, 0, 42, 2)]
set_option maxRecDepth 100000 in
theorem en_cl_in_0 : ∀ w ∈ en_cl_0.flatMap en_cw, w ∈ lw_tbl := fun w h => (goodIn_r (big := lw_tbl) (en_cl_0.flatMap en_cw) [136, 137, 116, 145, 117, 170, 118, 176, 119, 244, 120, 290, 291, 122, 294, 295, 123, 331, 124, 176, 119, 244, 120, 415, 125, 419, 291, 122, 331, 124, 431, 291, 122, 435, 126, 486, 487, 488, 116, 490, 491, 492, 116, 494, 495, 496, 116, 498, 499, 500, 117, 502, 503, 504, 116, 506, 507, 508, 117, 510, 511, 128, 513, 514, 515, 120, 517, 519, 0, 120, 521, 522, 523, 117, 525, 526, 527, 117, 529, 530, 531, 117, 533, 535, 1, 120, 537, 539, 2, 120, 541, 543, 3, 120, 545, 546, 120, 548, 549, 550, 117, 552, 522, 523, 117, 553, 526, 527, 117, 554, 555, 556, 117, 558, 559, 560, 117, 562, 555, 556, 117, 563, 565, 4, 120, 642, 643, 120, 645, 647, 5, 120, 649, 651, 6, 120, 653, 655, 7, 120, 657, 659, 8, 120, 661, 662, 663, 117, 665, 666, 667, 117, 669, 670, 671, 120, 676, 677, 678, 117, 680, 681, 682, 116, 684, 685, 686, 119, 688, 690, 9, 119] (by decide +kernel) (by decide +kernel) w h).1
def en_cl_1 : List (Nat × Nat × Nat × Nat × Nat) := [(3, 79, 0, 19, 0), (3, 82, 1, 43, 1), (3, 86, 0, 20, 1), (3, 89, 0, 21, 0), (3, 92, 0, 44, 2), (3, 104, 0, 45, 0), (3, 75, 0, 26, 1), (3, 95, 0, 46, 2), (3, 107, 0, 28, 1), (3, 98, 0, 47, 2), (3, 101, 0, 48, 2), (3, 110, 1, 49, 1), (3, 62, 0, 36, 0), (3, 68, 0, 37, 0), (3, 72, 0, 50, 0), (3, 113, 1, 6, 2), (3, 119, 0, 51, 1), (3, 131, 2, 52, 1), (3, 122, 0, 53, 1), (3, 125, 1, 30, 2), (8, 114, 0, 54, 1), (8, 117, 0, 55, 0), (8, 123, 0, 56, 0), (5, 20, 1, 6, 2), (13, 36, 0, 57, 1), (8, 124, 0, 58, 1), (8, 128, 0, 59, 2), (1, 62, 0, 60, 0), (1, 89, 0, 61, 1), (6, 37, 0, 62, 1), (6, 41, 0, 63, 1), (1, 93, 0, 64, 0), (4, 30, 1, 6, 2), (1, 96, 1, 6, 2), (1, 69, 0, 65, 0), (1, 114, 0, 66, 2), (1, 150, 2, 52, 1), (1, 130, 0, 67, 2), (1, 133, 0, 68, 1), (1, 160, 0, 69, 2), (1, 172, 2, 70, 3), (1, 166, 0, 71, 2), (1, 140, 0, 72, 2), (1, 143, 0, 73, 1), (1, 176, 0, 74, 2), (1, 180, 0, 75, 2), (6, 51, 1, 16, 2), (6, 57, 1, 30, 2), (1, 184, 0, 76, 1), (1, 187, 0, 77, 1)]
set_option maxRecDepth 100000 in
theorem en_cl_in_1 : ∀ w ∈ en_cl_1.flatMap en_cw, w ∈ lw_tbl := fun w h => (goodIn_r (big := lw_tbl) (en_cl_1.flatMap en_cw) [692, 522, 523, 117, 693, 694, 119, 696, 526, 527, 117, 697, 530, 531, 117, 698, 700, 10, 119, 702, 703, 704, 117, 706, 549, 550, 117, 707, 709, 11, 119, 711, 559, 560, 117, 712, 714, 12, 119, 716, 718, 13, 119, 720, 721, 119, 723, 662, 663, 117, 724, 666, 667, 117, 725, 727, 14, 119, 729, 295, 123, 730, 732, 15, 119, 735, 116, 737, 739, 16, 119, 741, 587, 128, 742, 743, 744, 119, 747, 748, 749, 122, 751, 752, 753, 126, 755, 295, 123, 756, 757, 758, 116, 760, 762, 17, 116, 764, 765, 766, 118, 768, 770, 18, 118, 772, 773, 774, 122, 776, 777, 778, 122, 781, 782, 783, 122, 785, 786, 787, 124, 789, 295, 123, 790, 295, 123, 791, 793, 19, 118, 795, 797, 20, 118, 735, 116, 800, 801, 802, 119, 804, 806, 21, 118, 808, 810, 22, 118, 813, 116, 815, 817, 23, 118, 819, 820, 821, 119, 823, 825, 24, 118, 827, 829, 25, 118, 831, 832, 833, 122, 835, 511, 128, 836, 587, 128, 837, 839, 26, 118, 841, 843, 27, 118] (by decide +kernel) (by decide +kernel) w h).1
def en_cl_2 : List (Nat × Nat × Nat × Nat × Nat) := [(1, 196, 0, 78, 1), (1, 190, 0, 79, 2), (1, 146, 0, 80, 3), (1, 72, 0, 81, 2), (1, 199, 0, 82, 1), (1, 202, 0, 83, 2), (1, 206, 0, 84, 0), (1, 210, 0, 85, 2), (1, 223, 0, 86, 7), (1, 213, 0, 87, 1), (0, 122, 0, 88, 1), (0, 125, 0, 89, 2), (0, 136, 1, 90, 3), (0, 128, 1, 16, 2), (0, 133, 1, 30, 2), (1, 76, 0, 91, 0), (1, 227, 0, 92, 0), (1, 230, 0, 93, 1), (1, 233, 0, 94, 0), (1, 236, 0, 95, 3), (1, 79, 0, 96, 0), (1, 86, 0, 97, 0), (8, 138, 0, 61, 1), (8, 144, 1, 16, 2), (8, 153, 0, 98, 1), (13, 40, 0, 99, 2), (8, 156, 1, 100, 1), (8, 159, 1, 52, 1), (8, 162, 1, 101, 1), (13, 45, 0, 102, 1), (13, 49, 0, 103, 2), (8, 168, 0, 104, 1), (8, 172, 0, 105, 2), (8, 181, 1, 106, 1), (8, 194, 0, 107, 1), (13, 53, 0, 108, 2), (13, 57, 0, 109, 1), (13, 61, 0, 110, 1), (8, 212, 0, 111, 2), (2, 22, 0, 61, 1), (2, 35, 0, 112, 1), (2, 59, 2, 52, 1), (2, 42, 0, 67, 2), (2, 52, 0, 95, 3), (2, 66, 0, 113, 2), (2, 69, 0, 80, 3), (13, 65, 0, 114, 1), (8, 218, 1, 115, 2), (13, 69, 0, 116, 1), (13, 73, 0, 117, 2)]
set_option maxRecDepth 100000 in
theorem en_cl_in_2 : ∀ w ∈ en_cl_2.flatMap en_cw, w ∈ lw_tbl := fun w h => (goodIn_r (big := lw_tbl) (en_cl_2.flatMap en_cw) [845, 847, 28, 118, 849, 851, 29, 118, 853, 854, 855, 119, 857, 859, 30, 118, 861, 863, 31, 118, 865, 867, 32, 118, 869, 870, 871, 122, 874, 876, 33, 118, 878, 879, 880, 120, 882, 883, 884, 120, 886, 888, 34, 120, 890, 892, 35, 120, 894, 895, 120, 897, 511, 128, 898, 587, 128, 899, 901, 36, 118, 903, 905, 37, 118, 907, 909, 38, 118, 911, 912, 913, 120, 915, 916, 917, 122, 919, 921, 39, 118, 923, 925, 40, 118, 927, 773, 774, 122, 928, 511, 128, 929, 930, 931, 124, 934, 935, 936, 116, 938, 939, 116, 941, 735, 116, 942, 943, 116, 945, 946, 947, 116, 949, 950, 951, 116, 953, 955, 41, 116, 958, 960, 42, 116, 962, 963, 116, 965, 966, 967, 119, 969, 970, 971, 116, 973, 974, 975, 116, 977, 978, 979, 116, 981, 982, 983, 125, 985, 773, 774, 122, 986, 988, 43, 125, 735, 116, 991, 801, 802, 119, 992, 916, 917, 122, 993, 995, 44, 125, 997, 854, 855, 119, 998, 999, 1000, 116, 1002, 1003, 116, 1005, 1006, 1007, 116, 1009, 1010, 1011, 116] (by decide +kernel) (by decide +kernel) w h).1
def en_cl_3 : List (Nat × Nat × Nat × Nat × Nat) := [(13, 77, 0, 118, 1), (13, 81, 0, 119, 0), (13, 86, 0, 120, 0), (8, 226, 0, 121, 1), (2, 76, 0, 122, 3), (2, 80, 2, 70, 3), (13, 90, 0, 123, 2), (8, 236, 0, 124, 2), (13, 94, 0, 125, 3), (8, 243, 0, 103, 2), (13, 99, 0, 126, 0), (8, 246, 0, 127, 0), (13, 103, 0, 128, 1), (13, 108, 0, 129, 0), (13, 112, 0, 130, 0), (8, 251, 0, 62, 1), (8, 254, 0, 63, 1), (13, 117, 0, 131, 1), (13, 121, 0, 132, 1), (8, 260, 0, 133, 1), (8, 264, 0, 134, 0), (13, 12, 3, 135, 0), (13, 17, 0, 136, 2), (9, 211, 1, 137, 3), (13, 21, 0, 138, 2), (13, 26, 0, 139, 5), (9, 218, 0, 140, 1), (13, 31, 0, 141, 1), (9, 308, 0, 142, 1), (9, 311, 0, 143, 0), (9, 228, 0, 144, 0), (9, 235, 0, 145, 2), (9, 287, 0, 146, 0), (9, 274, 0, 147, 0), (9, 263, 0, 148, 1), (9, 242, 0, 149, 0), (9, 267, 0, 150, 0), (9, 259, 0, 151, 2), (9, 270, 1, 152, 1), (9, 277, 1, 153, 1), (9, 280, 0, 154, 1), (9, 256, 0, 155, 0), (9, 284, 0, 156, 1), (9, 305, 0, 157, 0), (9, 293, 0, 158, 0), (9, 290, 0, 159, 0), (9, 296, 0, 160, 1), (9, 299, 0, 161, 1), (9, 314, 0, 162, 1), (13, 35, 0, 163, 1)]
set_option maxRecDepth 100000 in
theorem en_cl_in_3 : ∀ w ∈ en_cl_3.flatMap en_cw, w ∈ lw_tbl := fun w h => (goodIn_r (big := lw_tbl) (en_cl_3.flatMap en_cw) [1013, 1014, 1015, 116, 1017, 1018, 1019, 116, 1021, 1022, 1023, 116, 1025, 1026, 1027, 125, 1029, 1031, 45, 125, 813, 116, 1034, 1035, 1036, 116, 1038, 1039, 1040, 126, 1042, 1043, 1044, 116, 1046, 950, 951, 116, 1047, 1048, 1049, 116, 1051, 1052, 1053, 122, 1055, 1056, 1057, 116, 1060, 1061, 1062, 116, 1064, 1065, 1066, 116, 1068, 777, 778, 122, 1069, 782, 783, 122, 1070, 1071, 1072, 116, 1074, 1075, 1076, 116, 1078, 1079, 1080, 119, 1082, 1083, 1084, 122, 1088, 1089, 127, 1381, 1382, 1383, 127, 1385, 1386, 127, 1388, 1389, 1390, 127, 1392, 1393, 1394, 127, 1396, 1398, 46, 127, 1400, 1401, 1402, 127, 1404, 1406, 47, 127, 1408, 1410, 48, 127, 1412, 1414, 49, 127, 1416, 1418, 50, 127, 1420, 1422, 51, 127, 1424, 1426, 52, 127, 1428, 1430, 53, 127, 1433, 1435, 54, 127, 1437, 1439, 55, 127, 1441, 1443, 56, 127, 1445, 1446, 127, 1448, 1449, 127, 1451, 1453, 57, 127, 1455, 1457, 58, 127, 1459, 1461, 59, 127, 1463, 1465, 60, 127, 1467, 1469, 61, 127, 1471, 1473, 62, 127, 1475, 1477, 63, 127, 1479, 1481, 64, 127, 1483, 1485, 65, 127, 1487, 1488, 1489, 127] (by decide +kernel) (by decide +kernel) w h).1
def en_cl_4 : List (Nat × Nat × Nat × Nat × Nat) := [(9, 349, 0, 164, 0), (9, 337, 1, 165, 1), (9, 343, 1, 166, 1), (9, 331, 0, 167, 0), (9, 346, 0, 168, 1), (9, 334, 0, 169, 0), (13, 56, 0, 170, 2), (9, 365, 0, 171, 1), (9, 368, 0, 172, 2), (9, 371, 0, 173, 2), (9, 362, 0, 174, 2), (13, 39, 0, 175, 1), (9, 501, 0, 176, 1), (9, 494, 0, 177, 2), (9, 488, 0, 178, 2), (9, 464, 0, 179, 2), (9, 375, 0, 180, 2), (9, 429, 1, 181, 3), (9, 432, 0, 182, 1), (9, 435, 0, 183, 1), (9, 411, 0, 184, 2), (9, 426, 1, 185, 2), (9, 438, 1, 186, 2), (9, 441, 0, 187, 1), (9, 414, 0, 188, 2), (9, 420, 0, 189, 2), (9, 384, 1, 190, 2), (9, 423, 0, 191, 1), (9, 396, 0, 192, 1), (9, 399, 0, 193, 1), (9, 390, 0, 194, 2), (9, 393, 0, 195, 2), (9, 405, 0, 196, 1), (9, 467, 0, 197, 1), (9, 470, 0, 198, 1), (9, 381, 0, 199, 1), (9, 476, 0, 200, 2), (9, 445, 0, 201, 3), (9, 449, 0, 202, 1), (9, 324, 0, 203, 2), (9, 320, 1, 204, 3), (9, 479, 0, 205, 1), (9, 452, 0, 206, 0), (9, 455, 0, 207, 1), (9, 458, 0, 208, 0), (9, 491, 0, 209, 0), (9, 498, 0, 210, 0), (9, 504, 0, 211, 1), (13, 44, 0, 212, 2), (9, 507, 0, 213, 2)]
set_option maxRecDepth 100000 in
theorem en_cl_in_4 : ∀ w ∈ en_cl_4.flatMap en_cw, w ∈ lw_tbl := fun w h => (goodIn_r (big := lw_tbl) (en_cl_4.flatMap en_cw) [1491, 1493, 66, 127, 1495, 1496, 127, 1498, 1499, 127, 1501, 1503, 67, 127, 1505, 1507, 68, 127, 1509, 1511, 69, 127, 1513, 1514, 1515, 127, 1517, 1519, 70, 127, 1521, 1523, 71, 127, 1525, 1527, 72, 127, 1529, 1531, 73, 127, 1533, 1534, 1535, 127, 1537, 1539, 74, 127, 1541, 1543, 75, 127, 1545, 1547, 76, 127, 1549, 1551, 77, 127, 1553, 1555, 78, 127, 1557, 1558, 127, 1560, 1562, 79, 127, 1564, 1566, 80, 127, 1568, 1570, 81, 127, 1572, 1573, 127, 1575, 1576, 127, 1579, 1581, 82, 127, 1583, 1585, 83, 127, 1587, 1589, 84, 127, 1591, 1592, 127, 1594, 1596, 85, 127, 1598, 1600, 86, 127, 1602, 1604, 87, 127, 1606, 1608, 88, 127, 1610, 1612, 89, 127, 1614, 1616, 90, 127, 1618, 1620, 91, 127, 1622, 1624, 92, 127, 1626, 1628, 93, 127, 1630, 1632, 94, 127, 1635, 1637, 95, 127, 1639, 1641, 96, 127, 1643, 1645, 97, 127, 1647, 1648, 127, 1650, 1652, 98, 127, 1654, 1656, 99, 127, 1658, 1660, 100, 127, 1662, 1664, 101, 127, 1666, 1668, 102, 127, 1670, 1672, 103, 127, 1674, 1676, 104, 127, 1678, 1679, 1680, 127, 1682, 1684, 105, 127] (by decide +kernel) (by decide +kernel) w h).1
def en_cl_5 : List (Nat × Nat × Nat × Nat × Nat) := [(13, 76, 0, 214, 2), (13, 72, 0, 215, 1), (13, 48, 0, 216, 1), (13, 60, 0, 217, 1), (13, 64, 0, 218, 1), (9, 514, 0, 219, 0), (9, 510, 0, 220, 1), (13, 68, 0, 221, 1), (13, 89, 0, 222, 0), (9, 517, 0, 223, 2), (13, 85, 0, 224, 0), (9, 520, 1, 225, 2), (13, 52, 0, 226, 2), (9, 523, 0, 227, 2), (13, 80, 0, 228, 1), (9, 526, 0, 229, 0), (13, 93, 0, 230, 2), (13, 98, 0, 231, 3), (13, 102, 0, 232, 0), (9, 532, 0, 233, 0), (13, 107, 0, 234, 1), (13, 111, 0, 235, 0), (13, 116, 0, 236, 0), (13, 120, 0, 237, 1), (9, 550, 0, 238, 1), (13, 124, 0, 239, 1), (9, 553, 0, 240, 1), (9, 556, 0, 241, 0)]
set_option maxRecDepth 100000 in
theorem en_cl_in_5 : ∀ w ∈ en_cl_5.flatMap en_cw, w ∈ lw_tbl := fun w h => (goodIn_r (big := lw_tbl) (en_cl_5.flatMap en_cw) [1686, 1687, 1688, 127, 1690, 1691, 1692, 127, 1694, 1695, 1696, 127, 1698, 1699, 1700, 127, 1703, 1704, 1705, 127, 1707, 1709, 106, 127, 1711, 1713, 107, 127, 1715, 1716, 1717, 127, 1719, 1720, 1721, 127, 1723, 1725, 108, 127, 1727, 1728, 1729, 127, 1731, 1732, 127, 1734, 1735, 1736, 127, 1738, 1740, 109, 127, 1742, 1743, 1744, 127, 1746, 1748, 110, 127, 1750, 1751, 1752, 127, 1754, 1755, 1756, 127, 1758, 1759, 1760, 127, 1762, 1764, 111, 127, 1766, 1767, 1768, 127, 1770, 1771, 1772, 127, 1774, 1775, 1776, 127, 1778, 1779, 1780, 127, 1782, 1784, 112, 127, 1786, 1787, 1788, 127, 1790, 1792, 113, 127, 1794, 1796, 114, 127] (by decide +kernel) (by decide +kernel) w h).1
def en_cl : List (Nat × Nat × Nat × Nat × Nat) := en_cl_0 ++ (en_cl_1 ++ (en_cl_2 ++ (en_cl_3 ++ (en_cl_4 ++ (en_cl_5)))))
theorem en_cl_in : ∀ q ∈ en_cl, ∀ w ∈ en_cw q, w ∈ lw_tbl := by
  intro q hq w hw
  unfold en_cl at hq
  rcases List.mem_append.mp hq with hq | hq
  · exact en_cl_in_0 w (List.mem_flatMap.mpr ⟨q, hq, hw⟩)
  rcases List.mem_append.mp hq with hq | hq
  · exact en_cl_in_1 w (List.mem_flatMap.mpr ⟨q, hq, hw⟩)
  rcases List.mem_append.mp hq with hq | hq
  · exact en_cl_in_2 w (List.mem_flatMap.mpr ⟨q, hq, hw⟩)
  rcases List.mem_append.mp hq with hq | hq
  · exact en_cl_in_3 w (List.mem_flatMap.mpr ⟨q, hq, hw⟩)
  rcases List.mem_append.mp hq with hq | hq
  · exact en_cl_in_4 w (List.mem_flatMap.mpr ⟨q, hq, hw⟩)
  exact en_cl_in_5 w (List.mem_flatMap.mpr ⟨q, hq, hw⟩)
def en_mok (r : MethodName × ByteArray × Nat × Option FieldType) : Bool := decide (r.1.cls ≠ "java/lang/invoke/MethodHandle") && decide (r.1.cls ≠ "java/lang/invoke/VarHandle")
def en_cok (q : Nat × Nat × Nat × Nat × Nat) : Bool := match en_ms[q.2.2.2.1]? with
  | some r => en_mok r && decide ((parseMethodDescriptor r.1.desc).map (fun d => d.parameters.length) = some q.2.2.2.2) && (decide (q.2.2.1 < 3) || (decide (r.1.name = "<init>") && decide (r.2.2.2 = none)))
  | none => false
theorem en_cl_ok_0 : en_cl_0.all en_cok = true := by decide +kernel
theorem en_cl_ok_1 : en_cl_1.all en_cok = true := by decide +kernel
theorem en_cl_ok_2 : en_cl_2.all en_cok = true := by decide +kernel
theorem en_cl_ok_3 : en_cl_3.all en_cok = true := by decide +kernel
theorem en_cl_ok_4 : en_cl_4.all en_cok = true := by decide +kernel
theorem en_cl_ok_5 : en_cl_5.all en_cok = true := by decide +kernel
theorem en_cl_ok : ∀ q ∈ en_cl, en_cok q = true := by
  intro q hq
  unfold en_cl at hq
  rcases List.mem_append.mp hq with hq | hq
  · exact List.all_eq_true.mp en_cl_ok_0 q hq
  rcases List.mem_append.mp hq with hq | hq
  · exact List.all_eq_true.mp en_cl_ok_1 q hq
  rcases List.mem_append.mp hq with hq | hq
  · exact List.all_eq_true.mp en_cl_ok_2 q hq
  rcases List.mem_append.mp hq with hq | hq
  · exact List.all_eq_true.mp en_cl_ok_3 q hq
  rcases List.mem_append.mp hq with hq | hq
  · exact List.all_eq_true.mp en_cl_ok_4 q hq
  exact List.all_eq_true.mp en_cl_ok_5 q hq
def en_nest : List Cond := (en_cl.filter (fun q => q.2.2.1 == 2 || q.2.2.1 == 4)).flatMap (fun q => match en_ms[q.2.2.2.1]? with
  | some r => [Cond.methodLinkNest (en_nm q.1) q.2.1 r.1 "LoadsAhead"]
  | none => [])
theorem en_nest_in : ∀ w ∈ en_nest, w ∈ lw_tbl := by
  have h : en_nest = ([144, 169, 175, 243, 330, 409, 411, 414, 429, 434, 734, 799, 812, 990, 1033] : List Nat).filterMap (fun i => lw_tbl[i]?) := by decide +kernel
  intro w hw
  rw [h] at hw
  obtain ⟨i, -, hi⟩ := List.mem_filterMap.mp hw
  exact List.mem_of_getElem? hi
def en_oi : List (Nat × Nat) := [(8, 1), (7, 3), (1, 3), (3, 3), (0, 3), (6, 3), (4, 3), (2, 3), (5, 3), (9, 1)]
theorem en_oi_in : ∀ w ∈ en_oi.map (fun q => Cond.methodLink (en_nm q.1) q.2 objectInit), w ∈ lw_tbl := fun w h => (goodIn_r (big := lw_tbl) (en_oi.map (fun q => Cond.methodLink (en_nm q.1) q.2 objectInit)) [139, 147, 172, 178, 246, 293, 333, 417, 437, 1091] (by decide +kernel) (by decide +kernel) w h).1
theorem en_oi_c : ∀ w ∈ ([.instanceMethod objectInit, .code objectInit ⟨#[0xb1]⟩ 1 none] : List Cond), w ∈ lw_tbl := fun w h => (goodIn_r (big := lw_tbl) _ [140, 141] (by decide +kernel) (by decide +kernel) w h).1
def en_ac : List (Nat × Nat) := [(0, 41), (3, 45), (6, 44), (4, 36)]
theorem en_ac_in : ∀ w ∈ en_ac.map (fun q => Cond.methodLink (en_nm q.1) q.2 arraycopyName), w ∈ lw_tbl := fun w h => (goodIn_r (big := lw_tbl) (en_ac.map (fun q => Cond.methodLink (en_nm q.1) q.2 arraycopyName)) [673, 746, 780, 933] (by decide +kernel) (by decide +kernel) w h).1
theorem en_ac_c : ∀ w ∈ ([.native arraycopyName, .static arraycopyName, .initialized "java/lang/System"] : List Cond), w ∈ lw_tbl := by
  have h : ([.native arraycopyName, .static arraycopyName, .initialized "java/lang/System"] : List Cond) = ([675, 674, 133] : List Nat).filterMap (fun i => lw_tbl[i]?) := by decide +kernel
  intro w hw
  rw [h] at hw
  obtain ⟨i, -, hi⟩ := List.mem_filterMap.mp hw
  exact List.mem_of_getElem? hi
theorem en_arr_in : ∀ w ∈ ([.arrayClass .int, .arrayClass .boolean, .arrayClass .byte] : List Cond), w ∈ lw_tbl := fun w h => (goodIn_r (big := lw_tbl) _ [166, 407, 287] (by decide +kernel) (by decide +kernel) w h).1
set_option maxRecDepth 100000 in
theorem inX0 : ∀ w ∈ wsX00, w ∈ lw_tbl := fun w h => (goodIn_r (big := lw_tbl) wsX00 [268, 270, 272, 274, 276, 278, 280, 282, 284] (by decide +kernel) (by decide +kernel) w h).1
set_option maxRecDepth 100000 in
theorem inX1 : ∀ w ∈ wsX10, w ∈ lw_tbl := fun w h => (goodIn_r (big := lw_tbl) wsX10 [382, 384, 386, 388, 390, 392, 394, 396, 398, 400, 402, 404] (by decide +kernel) (by decide +kernel) w h).1
set_option maxRecDepth 100000 in
theorem inX2 : ∀ w ∈ wsX20, w ∈ lw_tbl := fun w h => (goodIn_r (big := lw_tbl) wsX20 [423, 425] (by decide +kernel) (by decide +kernel) w h).1
set_option maxRecDepth 100000 in
theorem inX3 : ∀ w ∈ wsX30, w ∈ lw_tbl := fun w h => (goodIn_r (big := lw_tbl) wsX30 [214, 216, 218, 220, 222, 224, 226, 228, 230, 232, 234, 236, 238] (by decide +kernel) (by decide +kernel) w h).1
set_option maxRecDepth 100000 in
theorem inX4 : ∀ w ∈ wsX40, w ∈ lw_tbl := fun w h => (goodIn_r (big := lw_tbl) wsX40 [352, 354, 356, 358, 360, 362] (by decide +kernel) (by decide +kernel) w h).1
set_option maxRecDepth 100000 in
theorem inX5 : ∀ w ∈ wsX50, w ∈ lw_tbl := fun w h => (goodIn_r (big := lw_tbl) wsX50 [445, 447, 449] (by decide +kernel) (by decide +kernel) w h).1
set_option maxRecDepth 100000 in
theorem inX6 : ∀ w ∈ wsX60, w ∈ lw_tbl := fun w h => (goodIn_r (big := lw_tbl) wsX60 [315, 317, 319, 321, 323, 325] (by decide +kernel) (by decide +kernel) w h).1
set_option maxRecDepth 100000 in
theorem inX7 : ∀ w ∈ wsX70, w ∈ lw_tbl := fun w h => (goodIn_r (big := lw_tbl) wsX70 [155, 157, 159, 161, 163] (by decide +kernel) (by decide +kernel) w h).1
set_option maxRecDepth 100000 in
theorem inX8 : ∀ w ∈ wsX80, w ∈ lw_tbl := fun w h => (goodIn_r (big := lw_tbl) wsX80 [463, 465, 467, 469, 471, 473, 475, 477, 479, 481, 483] (by decide +kernel) (by decide +kernel) w h).1
set_option maxRecDepth 100000 in
theorem inX9 : ∀ w ∈ wsX90, w ∈ lw_tbl := fun w h => (goodIn_r (big := lw_tbl) wsX90 [1188, 1190, 1192, 1194, 1196, 1198, 1200, 1202, 1204, 1206, 1208, 1210, 1212, 1214, 1216, 1218, 1220, 1222, 1224, 1226, 1228, 1230, 1232, 1234, 1236, 1238, 1240, 1242, 1244, 1246, 1248, 1250, 1252, 1254, 1256, 1258, 1260, 1262, 1264, 1266, 1268, 1270, 1272, 1274, 1276, 1278, 1280, 1282, 1284, 1286, 1288, 1290, 1292, 1294, 1296, 1298, 1300, 1302, 1304, 1306, 1308, 1310, 1312, 1314, 1316, 1318, 1320, 1322, 1324, 1326, 1328, 1330, 1332, 1334, 1336, 1338, 1340, 1342, 1344, 1346, 1348, 1350, 1352, 1354, 1356, 1358, 1360, 1362, 1364, 1366, 1368, 1370, 1372, 1374, 1376, 1378] (by decide +kernel) (by decide +kernel) w h).1
def en_tyX : Nat → Nat → FieldType
  | 0 => tyX0
  | 1 => tyX1
  | 2 => tyX2
  | 3 => tyX3
  | 4 => tyX4
  | 5 => tyX5
  | 6 => tyX6
  | 7 => tyX7
  | 8 => tyX8
  | _ => tyX9
theorem en_cls : ∀ (ci : Nat) (r : vw_C), vwCl[ci]? = some r → (∀ w ∈ u_ws r.1 r.2.1 r.2.2, w ∈ lw_tbl) ∧ (∀ k, k < r.2.2 → parseFieldDescriptor (r.2.1 k).2.2.1 = some (en_tyX ci k)) ∧ (∀ a, a < r.2.2 → ∀ b, b < r.2.2 → a ≠ b → (r.2.1 a).2.1 ≠ (r.2.1 b).2.1) := by
  intro ci r h
  match ci, h with
  | 0, h => cases h; exact ⟨inX0, tyX0_ok, nmX0⟩
  | 1, h => cases h; exact ⟨inX1, tyX1_ok, nmX1⟩
  | 2, h => cases h; exact ⟨inX2, tyX2_ok, nmX2⟩
  | 3, h => cases h; exact ⟨inX3, tyX3_ok, nmX3⟩
  | 4, h => cases h; exact ⟨inX4, tyX4_ok, nmX4⟩
  | 5, h => cases h; exact ⟨inX5, tyX5_ok, nmX5⟩
  | 6, h => cases h; exact ⟨inX6, tyX6_ok, nmX6⟩
  | 7, h => cases h; exact ⟨inX7, tyX7_ok, nmX7⟩
  | 8, h => cases h; exact ⟨inX8, tyX8_ok, nmX8⟩
  | 9, h => cases h; exact ⟨inX9, tyX9_ok, nmX9⟩
  | k + 10, h => simp [vwCl] at h
end
section
def en_ws : List Cond := lw_tbl.filter goodWord
theorem en_ws_in {w : Cond} (h : w ∈ lw_tbl) (hg : goodWord w = true) : w ∈ en_ws := List.mem_filter.mpr ⟨h, hg⟩
theorem en_ws_good (big : List Cond) (h : ∀ w ∈ en_ws, w ∈ big) : GoodIn big en_ws := fun w hw => ⟨h w hw, good_of_word (List.mem_filter.mp hw).2⟩
def en_X (b0 aK aV : Nat) (U : State) : Prop := (∀ w ∈ en_nest, va_Nw w U) ∧ vk_R "LoadsAhead$Law" 27 "ikcsnrw" aK U ∧ vk_S 1 [7] [[105, 107, 99, 115, 110, 114, 119]] (fun _ => aK) (fun _ => aV) (fun q => b0 ≤ q) U U.heap ∧ va_Z "java/lang/String" "COMPACT_STRINGS" "Z" (.int 1) (fun q => b0 ≤ q) U U.heap ∧ (Cond.arrayOver (.array .int)).before #[] U = true
theorem en_nest_w {w : Cond} (h : w ∈ en_nest) : ∃ (a : String) (i : Nat) (x : MethodName) (t : String), w = .methodLinkNest a i x t := by
  unfold en_nest at h
  obtain ⟨q, -, hq⟩ := List.mem_flatMap.mp h
  split at hq
  · rw [List.mem_singleton] at hq
    exact ⟨_, _, _, _, hq⟩
  · exact absurd hq List.not_mem_nil
theorem en_X.call {b0 aK aV : Nat} {U : State} {g : JFrame} {mk : MethodId} {a : Array Value} (h : en_X b0 aK aV U) : en_X b0 aK aV (U.calling g mk a) := by
  obtain ⟨h1, h2, h3, h4, h5⟩ := h
  refine ⟨fun w hw => ?_, vk_R.same rfl h2, ?_, ?_, over_moved (u := U) (Vm.Alike.refl U.vm) h5⟩
  · obtain ⟨a0, i, x, t, e⟩ := en_nest_w hw
    subst e
    exact va_Nw.same (u := U) rfl rfl (h1 _ hw)
  · exact vk_S.moved (u := U) (Vm.Alike.refl U.vm) h3
  · exact va_Z.moved (u := U) (Vm.Alike.refl U.vm) h4
theorem en_X.go {b0 b1 aK aV : Nat} {s U : State} {H : Heap} {locs : List Loc} (hb : b0 ≤ b1) (h : en_X b0 aK aV s) (hS : va_S (fun q => b0 ≤ q) s.heap H locs) (hU : U.heap = H) (hW : s.WarmedH U.vm) : en_X b1 aK aV U := by
  obtain ⟨h1, h2, h3, h4, h5⟩ := h
  refine ⟨fun w hw => ?_, vk_R.warm hW h2, ?_, ?_, over_moved hW.alike h5⟩
  · obtain ⟨a0, i, x, t, e⟩ := en_nest_w hw
    subst e
    exact va_Nw.warmM hW (h1 _ hw)
  · rw [hU]
    exact ((h3.kept hS.2.1).moved hW.alike).narrow (fun q hq => Nat.le_trans hb hq)
  · rw [hU]
    exact ((h4.kept hS.2.1).moved hW.alike).narrow (fun q hq => Nat.le_trans hb hq)
def en_g {α : Type} (b : Bool) (x : Option α) : Option α := match b with
  | true => x
  | false => none
theorem en_g_some {α : Type} {b : Bool} {x : Option α} {y : α} (h : en_g b x = some y) : b = true ∧ x = some y := by
  cases b
  · cases h
  · exact ⟨rfl, h⟩
def en_find {β : Type} (o i : Nat) : List (Nat × Nat × β) → Option β
  | [] => none
  | q :: r => match q.1 == o && q.2.1 == i with
    | true => some q.2.2
    | false => en_find o i r
theorem en_find_mem {β : Type} {o i : Nat} {b : β} : ∀ {t : List (Nat × Nat × β)}, en_find o i t = some b → (o, i, b) ∈ t
  | [], h => by cases h
  | q :: r, h => by
    unfold en_find at h
    split at h
    · rename_i hq
      simp only [Bool.and_eq_true, beq_iff_eq] at hq
      cases h
      obtain ⟨h1, h2⟩ := hq
      subst h1
      subst h2
      exact List.mem_cons_self
    · exact List.mem_cons_of_mem _ (en_find_mem h)
def en_full : Int × Int := (-2147483648, 2147483647)
def en_clip (a b : Int) : Int × Int := match decide (-2147483648 ≤ a) && decide (b ≤ 2147483647) with
  | true => (a, b)
  | false => en_full
def en_add (q r : Int × Int) : Int × Int := en_clip (q.1 + r.1) (q.2 + r.2)
def en_sub (q r : Int × Int) : Int × Int := en_clip (q.1 - r.2) (q.2 - r.1)
def en_mul (q r : Int × Int) : Int × Int := match decide (0 ≤ q.1) && decide (0 ≤ r.1) with
  | true => en_clip (q.1 * r.1) (q.2 * r.2)
  | false => en_full
def en_and (q r : Int × Int) : Int × Int := match decide (0 ≤ r.1) with
  | true => (0, r.2)
  | false => match decide (0 ≤ q.1) with
    | true => (0, q.2)
    | false => en_full
def en_in (q : Int × Int) (x : Int32) : Prop := q.1 ≤ x.toInt ∧ x.toInt ≤ q.2
theorem en_full_in (x : Int32) : en_in en_full x := by
  have := fb_rng x
  exact ⟨this.1, by show x.toInt ≤ 2147483647; omega⟩
theorem en_add_in {q r : Int × Int} {x y : Int32} (hx : en_in q x) (hy : en_in r y) : en_in (en_add q r) (x + y) := by
  unfold en_add en_clip
  split
  · rename_i h
    simp only [Bool.and_eq_true, decide_eq_true_eq] at h
    obtain ⟨h1, h2⟩ := hx
    obtain ⟨h3, h4⟩ := hy
    have e := fb_addI (x := x) (y := y) (by omega) (by omega)
    exact ⟨by rw [e]; show q.1 + r.1 ≤ _; omega, by rw [e]; show _ ≤ q.2 + r.2; omega⟩
  · exact en_full_in _
theorem en_sub_in {q r : Int × Int} {x y : Int32} (hx : en_in q x) (hy : en_in r y) : en_in (en_sub q r) (x - y) := by
  unfold en_sub en_clip
  split
  · rename_i h
    simp only [Bool.and_eq_true, decide_eq_true_eq] at h
    obtain ⟨h1, h2⟩ := hx
    obtain ⟨h3, h4⟩ := hy
    have e := fb_subI (x := x) (y := y) (by omega) (by omega)
    exact ⟨by rw [e]; show q.1 - r.2 ≤ _; omega, by rw [e]; show _ ≤ q.2 - r.1; omega⟩
  · exact en_full_in _
theorem en_mul_in {q r : Int × Int} {x y : Int32} (hx : en_in q x) (hy : en_in r y) : en_in (en_mul q r) (x * y) := by
  unfold en_mul en_clip
  split
  · rename_i h0
    split
    · rename_i h
      simp only [Bool.and_eq_true, decide_eq_true_eq] at h h0
      obtain ⟨h1, h2⟩ := hx
      obtain ⟨h3, h4⟩ := hy
      have a1 : q.1 * r.1 ≤ x.toInt * y.toInt := Int.mul_le_mul h1 h3 h0.2 (Int.le_trans h0.1 h1)
      have a2 : x.toInt * y.toInt ≤ q.2 * r.2 := Int.mul_le_mul h2 h4 (Int.le_trans h0.2 h3) (Int.le_trans (Int.le_trans h0.1 h1) h2)
      have e := fb_mulI (x := x) (y := y) (by omega) (by omega)
      exact ⟨by rw [e]; exact a1, by rw [e]; exact a2⟩
    · exact en_full_in _
  · exact en_full_in _
theorem en_and_r (x y : Int32) (h : 0 ≤ y.toInt) : 0 ≤ (x &&& y).toInt ∧ (x &&& y).toInt ≤ y.toInt := by
  have e : (x &&& y).toBitVec = x.toBitVec &&& y.toBitVec := rfl
  have hy : y.toInt = (y.toBitVec.toNat : Int) := by
    have h1 : y.toInt = y.toBitVec.toInt := rfl
    rw [h1, BitVec.toInt_eq_toNat_cond] at h ⊢
    split at h
    · rename_i h2
      rw [if_pos h2]
    · have := y.toBitVec.isLt
      omega
  have hle : (x &&& y).toBitVec.toNat ≤ y.toBitVec.toNat := by
    rw [e, BitVec.toNat_and]
    exact Nat.and_le_right
  have hylt : 2 * y.toBitVec.toNat < 2 ^ 32 := by
    have := fb_rng y
    omega
  have h2 : (x &&& y).toInt = ((x &&& y).toBitVec.toNat : Int) := by
    show (x &&& y).toBitVec.toInt = _
    rw [BitVec.toInt_eq_toNat_cond, if_pos (by omega)]
  rw [h2, hy]
  omega
theorem en_and_in {q r : Int × Int} {x y : Int32} (hx : en_in q x) (hy : en_in r y) : en_in (en_and q r) (x &&& y) := by
  obtain ⟨h1, h2⟩ := hx
  obtain ⟨h3, h4⟩ := hy
  unfold en_and
  split
  · rename_i h
    simp only [decide_eq_true_eq] at h
    have := en_and_r x y (by omega)
    exact ⟨this.1, by show _ ≤ r.2; omega⟩
  · split
    · rename_i h
      simp only [decide_eq_true_eq] at h
      have := en_and_r y x (by omega)
      rw [Int32.and_comm] at this
      exact ⟨this.1, by show _ ≤ q.2; omega⟩
    · exact en_full_in _
theorem en_i2b_in (x : Int32) : en_in (-128, 127) (x.toInt8.toInt32) := by
  have e : (x.toInt8.toInt32).toInt = x.toInt8.toInt := by simp
  have h1 := x.toInt8.le_toInt
  have h2 := x.toInt8.toInt_lt
  exact ⟨by rw [e]; show -128 ≤ _; omega, by rw [e]; show _ ≤ 127; omega⟩
def en_may (cd : Jvm.ClassFile.Cond) (q r : Int × Int) : Bool × Bool := match cd with
  | .lt => (decide (q.1 < r.2), decide (r.1 ≤ q.2))
  | .ge => (decide (r.1 ≤ q.2), decide (q.1 < r.2))
  | .gt => (decide (r.1 < q.2), decide (q.1 ≤ r.2))
  | .le => (decide (q.1 ≤ r.2), decide (r.1 < q.2))
  | .eq => (decide (q.1 ≤ r.2) && decide (r.1 ≤ q.2), !(decide (q.1 = q.2) && decide (r.1 = r.2) && decide (q.1 = r.1)))
  | .ne => (!(decide (q.1 = q.2) && decide (r.1 = r.2) && decide (q.1 = r.1)), decide (q.1 ≤ r.2) && decide (r.1 ≤ q.2))
def en_put (ty : FieldType) (a : en_V) : Bool := match ty, a with
  | .int, .inl _ => true
  | .boolean, .inl q => decide (0 ≤ q.1) && decide (q.2 ≤ 1)
  | .object _, .inr _ => true
  | .array _, .inr _ => true
  | _, _ => false
theorem en_put_ok {N : Nat} {ad : Nat → Nat} {ty : FieldType} {a : en_V} {x : Value} (h : en_put ty a = true) (hx : en_v N ad a x) : narrow ty x = x ∧ fits ty x = true := by
  unfold en_put at h
  split at h
  · obtain ⟨i, e, -⟩ := hx
    subst e
    exact ⟨rfl, rfl⟩
  · obtain ⟨i, e, h1, h2⟩ := hx
    subst e
    simp only [Bool.and_eq_true, decide_eq_true_eq] at h
    have hi : i = 0 ∨ i = 1 := by
      rcases (show i.toInt = 0 ∨ i.toInt = 1 by omega) with q | q
      · exact Or.inl ((fa_eq _ _).mpr q)
      · exact Or.inr ((fa_eq _ _).mpr q)
    rcases hi with rfl | rfl <;> exact ⟨rfl, rfl⟩
  · rcases en_v_r hx with rfl | ⟨a, rfl⟩ <;> exact ⟨rfl, rfl⟩
  · rcases en_v_r hx with rfl | ⟨a, rfl⟩ <;> exact ⟨rfl, rfl⟩
  · cases h
def en_dv (ty : FieldType) : en_V := match ty with
  | .object _ => .inr 1
  | .array _ => .inr 1
  | _ => .inl (0, 0)
def en_dok (ty : FieldType) : Bool := match ty with
  | .object _ => true
  | .array _ => true
  | .int => true
  | .boolean => true
  | _ => false
theorem en_dv_ok {N : Nat} {ad : Nat → Nat} {ty : FieldType} (h : en_dok ty = true) : en_v N ad (en_dv ty) (defaultValue ty) := by
  unfold en_dok at h
  split at h
  · exact rfl
  · exact rfl
  · exact ⟨0, rfl, by decide, by decide⟩
  · exact ⟨0, rfl, by decide, by decide⟩
  · cases h
def en_df (ci n : Nat) : List en_V := (List.range n).map (fun j => en_dv (en_tyX ci j))
abbrev ev_t : Type := Nat × Nat × Nat × Int
abbrev ev_s : Type := en_V × ev_t
abbrev ev_l : Type := Option (en_V × Option (Nat × Int))
abbrev ev_f : Type := (Nat × Nat × Nat) × (Int × Int) × Option (Nat × Int)
abbrev ev_r : Type := Nat × Nat × Int
abbrev ev_S : Type := Nat × List ev_l × List ev_s × List ev_f × List ev_r
def ev_nt : ev_t := (0, 0, 0, 0)
/-- a cell's type: an array of numbers; with 3 a row of cells, from the cell of that number on; an object -/
def ev_c (tys : List (ClassId × FieldType)) (N : Nat) (ad : Nat → Nat) (t : en_C) (e : va_E) : Prop := match t with
  | .inl q => if q.1 = 3 then ∃ (cA : ClassId) (f : Nat → Option Nat), e = .inl (cA, q.2.1, .inr (.inr (.inr (.inr f)))) ∧ tys[3]? = some (cA, .array .int) ∧ ∀ j, j < q.2.1 → f j = some (ad (q.2.2.1.toNat + j)) ∧ q.2.2.1.toNat + j < N
    else ∃ (cA : ClassId) (f : Nat → Int32), e = .inl (cA, q.2.1, .inl f) ∧ tys[q.1]? = some (cA, en_ty q.1) ∧ ∀ j, j < q.2.1 → en_in q.2.2 (f j)
  | .inr q => ∃ vs : List Value, e = .inr (q.1, vs) ∧ en_vs N ad q.2 vs
def ev_w (tys : List (ClassId × FieldType)) (T : en_T) (ad : Nat → Nat) (ws : va_W) : Prop :=
  ws.length = T.length ∧ ∀ (k : Nat) (t : en_C), T[k]? = some t → ∃ e : va_E, ws[k]? = some (ad k, e) ∧ ev_c tys T.length ad t e
/-- the value at a place: a local's; a field's (cell, slot); an element's (cell, the local that holds the index) -/
def ev_loc (ls : Array Slot) (ws : va_W) (q : Nat × Nat × Nat) (x : Int32) : Prop := match q.1 with
  | 1 => ls[q.2.1]? = some (.val (.int x))
  | 2 => ∃ (a ci : Nat) (vs : List Value), ws[q.2.1]? = some (a, .inr (ci, vs)) ∧ vs[q.2.2]? = some (.int x)
  | 3 => ∃ (a : Nat) (cA : ClassId) (n : Nat) (f : Nat → Int32) (y : Int32), ws[q.2.1]? = some (a, .inl (cA, n, .inl f)) ∧ ls[q.2.2]? = some (.val (.int y)) ∧ 0 ≤ y.toInt ∧ y.toInt < n ∧ f y.toNatClampNeg = x
  | _ => False
theorem ev_loc_one {ls : Array Slot} {ws : va_W} {q : Nat × Nat × Nat} {x y : Int32} (hx : ev_loc ls ws q x) (hy : ev_loc ls ws q y) : x = y := by
  obtain ⟨k, a, b⟩ := q
  match k, hx, hy with
  | 1, hx, hy => exact Value.int.inj (Slot.val.inj (Option.some.inj ((hx : ls[a]? = _).symm.trans hy)))
  | 2, ⟨_, _, vs, h1, h2⟩, ⟨_, _, us, h3, h4⟩ =>
    have e := h1.symm.trans h3
    cases e
    exact Value.int.inj (Option.some.inj (h2.symm.trans h4))
  | 3, ⟨_, _, _, f, i, h1, h2, _, _, h5⟩, ⟨_, _, _, g, j, h6, h7, _, _, h10⟩ =>
    have e := h1.symm.trans h6
    cases e
    have e2 := h2.symm.trans h7
    cases e2
    exact h5.symm.trans h10
def ev_gt (γ : Nat → Int) (g : Option (Nat × Int)) (x : Value) : Prop := match g with
  | none => True
  | some q => ∃ i : Int32, x = .int i ∧ i.toInt = γ q.1 + q.2
def ev_tag (ls : Array Slot) (ws : va_W) (t : ev_t) (x : Value) : Prop := t.1 = 0 ∨ ∃ (i y : Int32), x = .int i ∧ ev_loc ls ws (t.1, t.2.1, t.2.2.1) y ∧ i.toInt = y.toInt + t.2.2.2
def ev_fact (γ : Nat → Int) (ls : Array Slot) (ws : va_W) (f : ev_f) : Prop := ∃ x : Int32, ev_loc ls ws f.1 x ∧ en_in f.2.1 x ∧ ev_gt γ f.2.2 (.int x)
def ev_rel (ls : Array Slot) (r : ev_r) : Prop := ∃ x y : Int32, ls[r.1]? = some (.val (.int x)) ∧ ls[r.2.1]? = some (.val (.int y)) ∧ x.toInt ≤ y.toInt + r.2.2
def ev_stk (N : Nat) (ad : Nat → Nat) (ls : Array Slot) (ws : va_W) : List ev_s → List Value → Prop
  | [], [] => True
  | a :: as, x :: xs => (en_v N ad a.1 x ∧ ev_tag ls ws a.2 x) ∧ ev_stk N ad ls ws as xs
  | _, _ => False
/-- what may have been written: (cell, slot) of objects, (cell, 999) of arrays -/
def ev_fe (Wr : List (Nat × Nat)) (k : Nat) (e0 e : va_E) : Prop := match e0, e with
  | .inl a, .inl b => (k, 999) ∈ Wr ∨ a = b
  | .inr a, .inr b => a.1 = b.1 ∧ a.2.length = b.2.length ∧ ∀ f, (k, f) ∉ Wr → a.2[f]? = b.2[f]?
  | _, _ => False
def ev_fr (Wr : List (Nat × Nat)) (w0 w : va_W) : Prop := w0.length = w.length ∧ ∀ (k : Nat) (q0 q : Nat × va_E), w0[k]? = some q0 → w[k]? = some q → q0.1 = q.1 ∧ ev_fe Wr k q0.2 q.2
theorem ev_fe.rf (Wr : List (Nat × Nat)) (k : Nat) : ∀ e : va_E, ev_fe Wr k e e
  | .inl _ => Or.inr rfl
  | .inr _ => ⟨rfl, rfl, fun _ _ => rfl⟩
theorem ev_fr.rf (Wr : List (Nat × Nat)) (w : va_W) : ev_fr Wr w w := ⟨rfl, fun k q0 q h0 h => by
  rw [h0] at h
  cases h
  exact ⟨rfl, ev_fe.rf Wr k _⟩⟩
theorem ev_fe.tr {W1 W2 : List (Nat × Nat)} (hs : ∀ q ∈ W2, q ∈ W1) {k : Nat} : ∀ {a b c : va_E}, ev_fe W1 k a b → ev_fe W2 k b c → ev_fe W1 k a c
  | .inl a, .inl b, .inl c, h1, h2 => by
    rcases h1 with h1 | h1
    · exact Or.inl h1
    · rcases h2 with h2 | h2
      · exact Or.inl (hs _ h2)
      · exact Or.inr (h1.trans h2)
  | .inr a, .inr b, .inr c, h1, h2 => ⟨h1.1.trans h2.1, h1.2.1.trans h2.2.1, fun f hf => (h1.2.2 f hf).trans (h2.2.2 f (fun h => hf (hs _ h)))⟩
  | .inl _, .inr _, _, h1, _ => h1.elim
  | .inr _, .inl _, _, h1, _ => h1.elim
  | .inl _, .inl _, .inr _, _, h2 => h2.elim
  | .inr _, .inr _, .inl _, _, h2 => h2.elim
theorem ev_fr.tr {W1 W2 : List (Nat × Nat)} {a b c : va_W} (h1 : ev_fr W1 a b) (h2 : ev_fr W2 b c) (hs : ∀ q ∈ W2, q ∈ W1) : ev_fr W1 a c := by
  refine ⟨h1.1.trans h2.1, fun k q0 q h0 h => ?_⟩
  have hk : k < b.length := by
    have := (List.getElem?_eq_some_iff.mp h0).1
    have := h1.1
    omega
  obtain ⟨e1, e2⟩ := h1.2 k q0 b[k] h0 (List.getElem?_eq_getElem hk)
  obtain ⟨e3, e4⟩ := h2.2 k b[k] q (List.getElem?_eq_getElem hk) h
  exact ⟨e1.trans e3, ev_fe.tr hs e2 e4⟩
/-- a place that was not written has its value still -/
def ev_hit (Wr : List (Nat × Nat)) (q : Nat × Nat × Nat) : Bool := match q.1 with
  | 2 => Wr.contains (q.2.1, q.2.2)
  | 3 => Wr.contains (q.2.1, 999)
  | _ => false
theorem ev_loc_fr {Wr : List (Nat × Nat)} {w0 w : va_W} {ls : Array Slot} {q : Nat × Nat × Nat} {x : Int32} (h : ev_fr Wr w0 w) (hq : ev_hit Wr q = false) (hx : ev_loc ls w0 q x) : ev_loc ls w q x := by
  obtain ⟨k, a, b⟩ := q
  match k, hq, hx with
  | 1, _, hx => exact hx
  | 2, hq, ⟨a0, ci, vs, h1, h2⟩ =>
    dsimp only at h1 h2
    have hk : a < w.length := by
      have := (List.getElem?_eq_some_iff.mp h1).1
      have := h.1
      omega
    obtain ⟨e1, e2⟩ := h.2 a _ w[a] h1 (List.getElem?_eq_getElem hk)
    have hw : w[a]? = some w[a] := List.getElem?_eq_getElem hk
    cases hc : w[a] with
    | mk a1 ee =>
      rw [hc] at e1 e2 hw
      cases ee with
      | inl z => exact e2.elim
      | inr z =>
        obtain ⟨c1, us⟩ := z
        obtain ⟨e3, e4, e5⟩ := e2
        refine ⟨a1, c1, us, hw, ?_⟩
        have hn : (a, b) ∉ Wr := fun hm => by
          have : Wr.contains (a, b) = true := List.contains_iff_mem.mpr hm
          rw [show ev_hit Wr (2, a, b) = Wr.contains (a, b) from rfl, this] at hq
          cases hq
        rw [← e5 b hn]
        exact h2
  | 3, hq, ⟨a0, cA, n, f, y, h1, h2, h3, h4, h5⟩ =>
    dsimp only at h1 h2
    have hk : a < w.length := by
      have := (List.getElem?_eq_some_iff.mp h1).1
      have := h.1
      omega
    obtain ⟨e1, e2⟩ := h.2 a _ w[a] h1 (List.getElem?_eq_getElem hk)
    have hw : w[a]? = some w[a] := List.getElem?_eq_getElem hk
    cases hc : w[a] with
    | mk a1 ee =>
      rw [hc] at e1 e2 hw
      cases ee with
      | inr z => exact e2.elim
      | inl z =>
        have hn : (a, 999) ∉ Wr := fun hm => by
          have : Wr.contains (a, 999) = true := List.contains_iff_mem.mpr hm
          rw [show ev_hit Wr (3, a, b) = Wr.contains (a, 999) from rfl, this] at hq
          cases hq
        rcases e2 with e2 | e2
        · exact absurd e2 hn
        · exact ⟨a1, cA, n, f, y, by rw [hw, ← e2], h2, h3, h4, h5⟩
end
section
def ev_cx (p : Program) (s : State) (m : MethodId) (args : Array Value) (meth : Method) (c : Code) (cc : ByteArray) (nL o : Nat) (D : va_G) (tys : List (ClassId × FieldType)) (aK aV b0 : Nat) : Prop :=
  p.tables.exec = Jvm.exec ∧ c.code = cc ∧ c.maxLocals = nL ∧ s.vm.findClass (en_nm o) = some m.cls ∧ (∀ w ∈ en_ws, w.before args s = true) ∧ va_K D vwCl tys s ∧ b0 ≤ s.heap.size ∧ en_X b0 aK aV s ∧ meth.locks = false
def ev_wd (s : State) (D : va_G) (tys : List (ClassId × FieldType)) (T : en_T) (I : va_W → Prop) (b0 : Nat) (ad : Nat → Nat) (w0 : va_W) (Wr : List (Nat × Nat)) (H : Heap) (locs : List Loc) (ws : va_W) : Prop :=
  ev_w tys T ad ws ∧ I ws ∧ va_P D vwCl ws H ∧ va_D (fun q => b0 ≤ q) ws ∧ va_S (fun q => b0 ≤ q) s.heap H locs ∧ ev_fr Wr w0 ws
def ev_lo (N : Nat) (ad : Nat → Nat) (γ : Nat → Int) (L : List ev_l) (ls : Array Slot) : Prop := ∀ (i : Nat) (q : en_V × Option (Nat × Int)), L[i]? = some (some q) → ∃ x : Value, ls[i]? = some (.val x) ∧ en_v N ad q.1 x ∧ ev_gt γ q.2 x
def ev_at (s : State) (D : va_G) (tys : List (ClassId × FieldType)) (T : en_T) (I : va_W → Prop) (b0 nL : Nat) (ad : Nat → Nat) (w0 : va_W) (Wr : List (Nat × Nat)) (γ : Nat → Int) (L : List ev_l) (S : List ev_s) (FS : List ev_f) (RS : List ev_r) (H : Heap) (locs : List Loc) (ls : Array Slot) (stk : List Value) (ws : va_W) : Prop :=
  (ls.size = nL ∧ lv_wf ls ∧ L.length = nL) ∧ ev_lo T.length ad γ L ls ∧ ev_stk T.length ad ls ws S stk ∧ (∀ f ∈ FS, ev_fact γ ls ws f) ∧ (∀ r ∈ RS, ev_rel ls r) ∧ ev_wd s D tys T I b0 ad w0 Wr H locs ws
def ev_go (p : Program) (l : Launch) (e : Env) (R : Room) (s : State) (m : MethodId) (args : Array Value) (below : List Frame) (meth : Method) (c : Code) (Q : State → Prop) (D : va_G) (tys : List (ClassId × FieldType)) (T : en_T) (I : va_W → Prop) (b0 nL : Nat) (ad : Nat → Nat) (w0 : va_W) (Wr : List (Nat × Nat)) (γ : Nat → Int) (st : ev_S) : Prop :=
  ∀ (H : Heap) (locs : List Loc) (ls : Array Slot) (stk : List Value) (ws : va_W), ev_at s D tys T I b0 nL ad w0 Wr γ st.2.1 st.2.2.1 st.2.2.2.1 st.2.2.2.2 H locs ls stk ws → W p l e R s m args below meth c H locs 0 0 Q (F0 m st.1 ls stk)
theorem ev_stk_cons {N : Nat} {ad : Nat → Nat} {ls : Array Slot} {ws : va_W} {a : ev_s} {as : List ev_s} {xs : List Value} (h : ev_stk N ad ls ws (a :: as) xs) : ∃ x ys, xs = x :: ys ∧ en_v N ad a.1 x ∧ ev_tag ls ws a.2 x ∧ ev_stk N ad ls ws as ys := by
  cases xs with
  | nil => exact h.elim
  | cons x ys => exact ⟨x, ys, rfl, h.1.1, h.1.2, h.2⟩
theorem ev_stk_len {N : Nat} {ad : Nat → Nat} {ls : Array Slot} {ws : va_W} : ∀ {as : List ev_s} {xs : List Value}, ev_stk N ad ls ws as xs → (xs.map fun v => v.category).sum = as.length
  | [], [], _ => rfl
  | _ :: _, _ :: _, h => by rw [List.map_cons, List.sum_cons, ev_stk_len h.2, en_v_cat h.1.1, List.length_cons, Nat.add_comm]
  | [], _ :: _, h => h.elim
  | _ :: _, [], h => h.elim
theorem ev_tag0 {ls : Array Slot} {ws : va_W} {x : Value} : ev_tag ls ws ev_nt x := Or.inl rfl
/-- a local is written: what speaks of it goes -/
def ev_on (i : Nat) (q : Nat × Nat × Nat) : Bool := (q.1 == 1 && q.2.1 == i) || (q.1 == 3 && q.2.2 == i)
def ev_kt (i : Nat) (a : ev_s) : ev_s := match ev_on i (a.2.1, a.2.2.1, a.2.2.2.1) with
  | true => (a.1, ev_nt)
  | false => a
def ev_kf (i : Nat) (FS : List ev_f) : List ev_f := FS.filter (fun f => !ev_on i f.1)
def ev_kr (i : Nat) (RS : List ev_r) : List ev_r := RS.filter (fun r => !(r.1 == i) && !(r.2.1 == i))
def ev_sr (i : Nat) (n : Int) (RS : List ev_r) : List ev_r := RS.map (fun r => (r.1, r.2.1, r.2.2 + (if r.1 = i then n else 0) - (if r.2.1 = i then n else 0)))
theorem ev_loc_set {ls ls' : Array Slot} {ws : va_W} {i : Nat} (hk : ∀ (j : Nat) (v : Value), j ≠ i → ls[j]? = some (.val v) → v.category = 1 → ls'[j]? = some (.val v)) {q : Nat × Nat × Nat} (hq : ev_on i q = false) {x : Int32} (h : ev_loc ls ws q x) : ev_loc ls' ws q x := by
  obtain ⟨k, a, b⟩ := q
  match k, hq, h with
  | 1, hq, h =>
    have ha : a ≠ i := fun e => by subst e; simp [ev_on] at hq
    exact hk a _ ha h rfl
  | 2, _, h => exact h
  | 3, hq, ⟨a0, cA, n, f, y, h1, h2, h3⟩ =>
    have hb : b ≠ i := fun e => by subst e; simp [ev_on] at hq
    exact ⟨a0, cA, n, f, y, h1, hk b _ hb h2 rfl, h3⟩
theorem ev_kt_ok {N : Nat} {ad : Nat → Nat} {ls ls' : Array Slot} {ws : va_W} {i : Nat} (hk : ∀ (j : Nat) (v : Value), j ≠ i → ls[j]? = some (.val v) → v.category = 1 → ls'[j]? = some (.val v)) : ∀ {as : List ev_s} {xs : List Value}, ev_stk N ad ls ws as xs → ev_stk N ad ls' ws (as.map (ev_kt i)) xs
  | [], [], _ => trivial
  | a :: as, x :: xs, h => by
    refine ⟨?_, ev_kt_ok hk h.2⟩
    unfold ev_kt
    split
    · exact ⟨h.1.1, ev_tag0⟩
    · rename_i hq
      refine ⟨h.1.1, ?_⟩
      rcases h.1.2 with h0 | ⟨u, y, e1, e2, e3⟩
      · exact Or.inl h0
      · exact Or.inr ⟨u, y, e1, ev_loc_set hk hq e2, e3⟩
  | [], _ :: _, h => h.elim
  | _ :: _, [], h => h.elim
theorem ev_kf_ok {γ : Nat → Int} {ls ls' : Array Slot} {ws : va_W} {i : Nat} (hk : ∀ (j : Nat) (v : Value), j ≠ i → ls[j]? = some (.val v) → v.category = 1 → ls'[j]? = some (.val v)) {FS : List ev_f} (h : ∀ f ∈ FS, ev_fact γ ls ws f) : ∀ f ∈ ev_kf i FS, ev_fact γ ls' ws f := by
  intro f hf
  obtain ⟨h1, h2⟩ := List.mem_filter.mp hf
  obtain ⟨x, h3, h4⟩ := h f h1
  exact ⟨x, ev_loc_set hk (by simpa using h2) h3, h4⟩
theorem ev_kr_ok {ls ls' : Array Slot} {i : Nat} (hk : ∀ (j : Nat) (v : Value), j ≠ i → ls[j]? = some (.val v) → v.category = 1 → ls'[j]? = some (.val v)) {RS : List ev_r} (h : ∀ r ∈ RS, ev_rel ls r) : ∀ r ∈ ev_kr i RS, ev_rel ls' r := by
  intro r hr
  obtain ⟨h1, h2⟩ := List.mem_filter.mp hr
  simp only [Bool.and_eq_true, Bool.not_eq_true', beq_eq_false_iff_ne, ne_eq] at h2
  obtain ⟨x, y, h3, h4, h5⟩ := h r h1
  exact ⟨x, y, hk _ _ h2.1 h3 rfl, hk _ _ h2.2 h4 rfl, h5⟩
theorem ev_sr_ok {ls ls' : Array Slot} {i : Nat} {n : Int} {x0 x1 : Int32} (hk : ∀ (j : Nat) (v : Value), j ≠ i → ls[j]? = some (.val v) → v.category = 1 → ls'[j]? = some (.val v)) (h0 : ls[i]? = some (.val (.int x0))) (h1 : ls'[i]? = some (.val (.int x1))) (hn : x1.toInt = x0.toInt + n) {RS : List ev_r} (h : ∀ r ∈ RS, ev_rel ls r) : ∀ r ∈ ev_sr i n RS, ev_rel ls' r := by
  intro r hr
  obtain ⟨q, hq, rfl⟩ := List.mem_map.mp hr
  obtain ⟨x, y, h3, h4, h5⟩ := h q hq
  by_cases ha : q.1 = i <;> by_cases hb : q.2.1 = i
  · rw [ha] at h3
    rw [hb] at h4
    have e1 : x = x0 := Value.int.inj (Slot.val.inj (Option.some.inj (h3.symm.trans h0)))
    have e2 : y = x0 := Value.int.inj (Slot.val.inj (Option.some.inj (h4.symm.trans h0)))
    subst e1
    subst e2
    exact ⟨x1, x1, by dsimp only; rw [ha]; exact h1, by dsimp only; rw [hb]; exact h1, by dsimp only; rw [if_pos ha, if_pos hb]; omega⟩
  · rw [ha] at h3
    have e1 : x = x0 := Value.int.inj (Slot.val.inj (Option.some.inj (h3.symm.trans h0)))
    subst e1
    exact ⟨x1, y, by dsimp only; rw [ha]; exact h1, hk _ _ hb h4 rfl, by dsimp only; rw [if_pos ha, if_neg hb]; omega⟩
  · rw [hb] at h4
    have e2 : y = x0 := Value.int.inj (Slot.val.inj (Option.some.inj (h4.symm.trans h0)))
    subst e2
    exact ⟨x, x1, hk _ _ ha h3 rfl, by dsimp only; rw [hb]; exact h1, by dsimp only; rw [if_neg ha, if_pos hb]; omega⟩
  · exact ⟨x, y, hk _ _ ha h3 rfl, hk _ _ hb h4 rfl, by dsimp only; rw [if_neg ha, if_neg hb]; omega⟩
theorem ev_lo_set {N : Nat} {ad : Nat → Nat} {γ : Nat → Int} {L : List ev_l} {ls ls' : Array Slot} {i : Nat} {a : en_V} {g : Option (Nat × Int)} {x : Value} (hk : ∀ (j : Nat) (v : Value), j ≠ i → ls[j]? = some (.val v) → v.category = 1 → ls'[j]? = some (.val v)) (hi : ls'[i]? = some (.val x)) (hx : en_v N ad a x) (hg : ev_gt γ g x) (h : ev_lo N ad γ L ls) : ev_lo N ad γ (L.set i (some (a, g))) ls' := by
  intro j q hj
  by_cases hji : j = i
  · subst hji
    by_cases hl : j < L.length
    · rw [List.getElem?_set_self hl] at hj
      cases hj
      exact ⟨x, hi, hx, hg⟩
    · rw [List.getElem?_eq_none (by rw [List.length_set]; omega)] at hj
      cases hj
  · rw [List.getElem?_set_ne (Ne.symm hji)] at hj
    obtain ⟨y, h1, h2, h3⟩ := h j q hj
    exact ⟨y, hk j y hji h1 (en_v_cat h2), h2, h3⟩
theorem ev_keep {ls ls' : Array Slot} {nL i : Nat} {x : Value} (h' : lv_has ls' nL ((i, x) :: (en_lv ls).filter (fun q => !(q.1 == i) && !(q.1 + 1 == i && q.2.category == 2)))) : ls'[i]? = some (.val x) ∧ ∀ (j : Nat) (v : Value), j ≠ i → ls[j]? = some (.val v) → v.category = 1 → ls'[j]? = some (.val v) :=
  ⟨h'.2.2 (i, x) List.mem_cons_self, fun j v hj hv hc => h'.2.2 (j, v) (List.mem_cons_of_mem _ (List.mem_filter.mpr ⟨en_lv_mem.mpr hv, by simp [hj, hc]⟩))⟩
def ev_gs (g : Option (Nat × Int)) (n : Int) : Option (Nat × Int) := g.map (fun q => (q.1, q.2 + n))
theorem ev_gs_ok {γ : Nat → Int} {g : Option (Nat × Int)} {x y : Int32} {n : Int} (h : ev_gt γ g (.int x)) (hn : y.toInt = x.toInt + n) : ev_gt γ (ev_gs g n) (.int y) := by
  cases g with
  | none => trivial
  | some q =>
    obtain ⟨i, e, h⟩ := h
    cases e
    exact ⟨y, rfl, by show _ = γ q.1 + (q.2 + n); omega⟩
section EVI
variable {p : Program} {l : Launch} {e : Env} {R : Room} {s : State} {m : MethodId} {args : Array Value} {below : List Frame} {meth : Method} {c : Code} {Q : State → Prop} {cc : ByteArray} {D : va_G} {tys : List (ClassId × FieldType)} {T : en_T} {I : va_W → Prop} {aK aV b0 nL o : Nat} {ad : Nat → Nat} {w0 : va_W} {Wr : List (Nat × Nat)} {γ : Nat → Int}
variable {pc : Nat} {L : List ev_l} {S : List ev_s} {FS : List ev_f} {RS : List ev_r}
theorem fs_push {pc' : Nat} {v : Int32} {q : Int × Int} (hq : en_in q v) (row : ∀ (H : Heap) (locs : List Loc) (ls : Array Slot) (rest : List Value), W p l e R s m args below meth c H locs 0 0 Q (F0 m pc' ls (.int v :: rest)) → W p l e R s m args below meth c H locs 0 0 Q (F0 m pc ls rest))
    (k : ev_go p l e R s m args below meth c Q D tys T I b0 nL ad w0 Wr γ (pc', L, (.inl q, ev_nt) :: S, FS, RS)) : ev_go p l e R s m args below meth c Q D tys T I b0 nL ad w0 Wr γ (pc, L, S, FS, RS) := by
  intro H locs ls stk ws h
  dsimp only at h
  obtain ⟨h0, hl, hs, hr⟩ := h
  exact row H locs ls stk (k H locs ls (.int v :: stk) ws ⟨h0, hl, ⟨⟨⟨v, rfl, hq⟩, ev_tag0⟩, hs⟩, hr⟩)
theorem en_in_self (v : Int32) : en_in (v.toInt, v.toInt) v := ⟨Int.le_refl _, Int.le_refl _⟩
def ev_lq (L : List ev_l) (i : Nat) (q : Int × Int) : List ev_r → Int × Int
  | [] => q
  | r :: rs => match r.1 == i with
    | true => match L[r.2.1]? with
      | some (some (.inl u, _)) => ((ev_lq L i q rs).1, if u.2 + r.2.2 ≤ (ev_lq L i q rs).2 then u.2 + r.2.2 else (ev_lq L i q rs).2)
      | _ => ev_lq L i q rs
    | false => ev_lq L i q rs
theorem ev_lq_ok {ls : Array Slot} {i : Nat} {q : Int × Int} {x : Int32} (hl : ev_lo T.length ad γ L ls) (hi : ls[i]? = some (.val (.int x))) (hq : en_in q x) : ∀ {RS : List ev_r}, (∀ r ∈ RS, ev_rel ls r) → en_in (ev_lq L i q RS) x
  | [], _ => hq
  | r :: rs, h => by
    have ih := ev_lq_ok hl hi hq (fun r hr => h r (List.mem_cons_of_mem _ hr))
    unfold ev_lq
    split
    · rename_i hr
      simp only [beq_iff_eq] at hr
      split
      · rename_i u g hu
        obtain ⟨a, b, h1, h2, h3⟩ := h r List.mem_cons_self
        rw [hr, hi] at h1
        cases h1
        obtain ⟨y, g1, ⟨z, rfl, g2⟩, -⟩ := hl r.2.1 _ hu
        rw [h2] at g1
        cases g1
        refine ⟨ih.1, ?_⟩
        dsimp only
        split
        · have := g2.2
          omega
        · exact ih.2
      · exact ih
    · exact ih
theorem fs_iload {pc' i : Nat} {q : Int × Int} {g : Option (Nat × Int)} (hL : L[i]? = some (some (.inl q, g))) (row : ∀ (H : Heap) (locs : List Loc) (ls : Array Slot) (rest : List Value) (v : Int32), ls[i]? = some (.val (.int v)) → W p l e R s m args below meth c H locs 0 0 Q (F0 m pc' ls (.int v :: rest)) → W p l e R s m args below meth c H locs 0 0 Q (F0 m pc ls rest))
    (k : ev_go p l e R s m args below meth c Q D tys T I b0 nL ad w0 Wr γ (pc', L, (.inl (ev_lq L i q RS), (1, i, 0, 0)) :: S, FS, RS)) : ev_go p l e R s m args below meth c Q D tys T I b0 nL ad w0 Wr γ (pc, L, S, FS, RS) := by
  intro H locs ls stk ws h
  dsimp only at h
  obtain ⟨h0, hl, hs, hf, hR, hr⟩ := h
  obtain ⟨x, h1, ⟨v, rfl, hv⟩, hg⟩ := hl i _ hL
  exact row H locs ls stk v h1 (k H locs ls (.int v :: stk) ws ⟨h0, hl, ⟨⟨⟨v, rfl, ev_lq_ok hl h1 hv hR⟩, Or.inr ⟨v, v, rfl, h1, by dsimp only; omega⟩⟩, hs⟩, hf, hR, hr⟩)
theorem fs_aload {pc' i j : Nat} {g : Option (Nat × Int)} (hL : L[i]? = some (some (.inr (j + 2), g))) (row : ∀ (H : Heap) (locs : List Loc) (ls : Array Slot) (rest : List Value) (v : Nat), ls[i]? = some (.val (.ref v)) → W p l e R s m args below meth c H locs 0 0 Q (F0 m pc' ls (.ref v :: rest)) → W p l e R s m args below meth c H locs 0 0 Q (F0 m pc ls rest))
    (k : ev_go p l e R s m args below meth c Q D tys T I b0 nL ad w0 Wr γ (pc', L, (.inr (j + 2), ev_nt) :: S, FS, RS)) : ev_go p l e R s m args below meth c Q D tys T I b0 nL ad w0 Wr γ (pc, L, S, FS, RS) := by
  intro H locs ls stk ws h
  dsimp only at h
  obtain ⟨h0, hl, hs, hr⟩ := h
  obtain ⟨x, h1, h2, -⟩ := hl i _ hL
  obtain ⟨rfl, hv⟩ : x = .ref (ad j) ∧ j < T.length := h2
  exact row H locs ls stk (ad j) h1 (k H locs ls (.ref (ad j) :: stk) ws ⟨h0, hl, ⟨⟨⟨rfl, hv⟩, ev_tag0⟩, hs⟩, hr⟩)
/-- storing: a number of its own place, moved, keeps what is known of the place -/
def ev_self (i : Nat) (t : ev_t) : Bool := t.1 == 1 && t.2.1 == i
def ev_sg (L : List ev_l) (i : Nat) (t : ev_t) : Option (Nat × Int) := match ev_self i t with
  | true => match L[i]? with
    | some (some q) => ev_gs q.2 t.2.2.2
    | _ => none
  | false => none
def ev_sR (RS : List ev_r) (i : Nat) (t : ev_t) : List ev_r := match ev_self i t with
  | true => ev_sr i t.2.2.2 RS
  | false => ev_kr i RS
theorem fs_store {pc' i : Nat} {a : en_V} {t : ev_t} (hi : i < L.length) (row : ∀ (H : Heap) (locs : List Loc) (ls : Array Slot) (rest : List Value) (x : Value), en_v T.length ad a x → ls.size = nL → lv_wf ls → (∀ ls' : Array Slot, lv_has ls' nL ((i, x) :: (en_lv ls).filter (fun q => !(q.1 == i) && !(q.1 + 1 == i && q.2.category == 2))) → W p l e R s m args below meth c H locs 0 0 Q (F0 m pc' ls' rest)) → W p l e R s m args below meth c H locs 0 0 Q (F0 m pc ls (x :: rest)))
    (k : ev_go p l e R s m args below meth c Q D tys T I b0 nL ad w0 Wr γ (pc', L.set i (some (a, ev_sg L i t)), S.map (ev_kt i), ev_kf i FS, ev_sR RS i t)) : ev_go p l e R s m args below meth c Q D tys T I b0 nL ad w0 Wr γ (pc, L, (a, t) :: S, FS, RS) := by
  intro H locs ls stk ws h
  dsimp only at h
  obtain ⟨⟨z1, z2, z3⟩, hl, hs, hf, hR, hr⟩ := h
  obtain ⟨x, ys, rfl, hx, ht, hs1⟩ := ev_stk_cons hs
  dsimp only at hx ht
  refine row H locs ls ys x hx z1 z2 (fun ls' h' => ?_)
  obtain ⟨k1, k2⟩ := ev_keep h'
  have hself : ev_self i t = true → ∃ (u y : Int32), x = .int u ∧ ls[i]? = some (.val (.int y)) ∧ u.toInt = y.toInt + t.2.2.2 := by
    intro hb
    unfold ev_self at hb
    simp only [Bool.and_eq_true, beq_iff_eq] at hb
    rcases ht with h0 | ⟨u, y, e1, e2, e3⟩
    · rw [hb.1] at h0; cases h0
    · rw [hb.1, hb.2] at e2
      exact ⟨u, y, e1, e2, e3⟩
  refine k H locs ls' ys ws ⟨⟨h'.1, h'.2.1, by dsimp only; rw [List.length_set]; exact z3⟩, ev_lo_set k2 k1 hx ?_ hl, ev_kt_ok k2 hs1, ev_kf_ok k2 hf, ?_, hr⟩
  · unfold ev_sg
    split
    · rename_i hb
      obtain ⟨u, y, rfl, h1, h2⟩ := hself hb
      split
      · rename_i q hq
        obtain ⟨z, g1, g2, g3⟩ := hl i q hq
        rw [h1] at g1
        cases g1
        exact ev_gs_ok g3 h2
      · trivial
    · trivial
  · dsimp only
    unfold ev_sR
    split
    · rename_i hb
      obtain ⟨u, y, rfl, h1, h2⟩ := hself hb
      exact ev_sr_ok k2 h1 k1 h2 hR
    · exact ev_kr_ok k2 hR
def ev_ex (q : Int × Int) (n : Int) : Bool := decide (-2147483648 ≤ q.1 + n) && decide (q.2 + n ≤ 2147483647)
theorem ev_ex_ok {q : Int × Int} {n : Int32} {x : Int32} (h : ev_ex q n.toInt = true) (hx : en_in q x) : (x + n).toInt = x.toInt + n.toInt := by
  unfold ev_ex at h
  simp only [Bool.and_eq_true, decide_eq_true_eq] at h
  obtain ⟨h1, h2⟩ := hx
  exact fb_addI (by omega) (by omega)
theorem fs_iinc (C : ev_cx p s m args meth c cc nL o D tys aK aV b0) {i : Nat} {n : Int} {q : Int × Int} {g : Option (Nat × Int)} (hL : L[i]? = some (some (.inl q, g))) (hex : ev_ex (ev_lq L i q RS) (Int32.ofInt n).toInt = true) (hd : decode cc pc = .ok (.iinc i n, 3))
    (k : ev_go p l e R s m args below meth c Q D tys T I b0 nL ad w0 Wr γ (pc + 3, L.set i (some (.inl (en_add (ev_lq L i q RS) ((Int32.ofInt n).toInt, (Int32.ofInt n).toInt)), ev_gs g (Int32.ofInt n).toInt)), S.map (ev_kt i), ev_kf i FS, ev_sr i (Int32.ofInt n).toInt RS)) : ev_go p l e R s m args below meth c Q D tys T I b0 nL ad w0 Wr γ (pc, L, S, FS, RS) := by
  intro H locs ls stk ws h
  dsimp only at h
  obtain ⟨⟨z1, z2, z3⟩, hl, hs, hf, hR, hr⟩ := h
  obtain ⟨x, h1, ⟨v, rfl, hv⟩, hg⟩ := hl i _ hL
  obtain ⟨j, hj⟩ := List.getElem?_of_mem (en_lv_mem.mpr h1)
  have hi : i < L.length := (List.getElem?_eq_some_iff.mp hL).1
  have hv2 := ev_lq_ok hl h1 hv hR
  refine lv_iinc C.1 C.2.1 hd (en_lv_has z1 z2) hj rfl (by omega) rfl (fun ls' h' => ?_)
  obtain ⟨k1, k2⟩ := ev_keep h'
  have he := ev_ex_ok hex hv2
  exact k H locs ls' stk ws ⟨⟨h'.1, h'.2.1, by dsimp only; rw [List.length_set]; exact z3⟩, ev_lo_set k2 k1 ⟨_, rfl, en_add_in hv2 (en_in_self _)⟩ (ev_gs_ok hg he) hl, ev_kt_ok k2 hs, ev_kf_ok k2 hf, ev_sr_ok k2 h1 k1 he hR, hr⟩
end EVI
end
section
def ev_sh (t : ev_t) (n : Int) : ev_t := match t.1 == 0 with
  | true => ev_nt
  | false => (t.1, t.2.1, t.2.2.1, t.2.2.2 + n)
theorem ev_sh_ok {ls : Array Slot} {ws : va_W} {t : ev_t} {n : Int} {x y : Int32} (h : ev_tag ls ws t (.int x)) (hn : y.toInt = x.toInt + n) : ev_tag ls ws (ev_sh t n) (.int y) := by
  unfold ev_sh
  split
  · exact ev_tag0
  · rename_i hb
    simp only [beq_eq_false_iff_ne, ne_eq] at hb
    rcases h with h | ⟨u, z, e1, e2, e3⟩
    · exact absurd h hb
    · cases e1
      exact Or.inr ⟨y, z, rfl, e2, by dsimp only; omega⟩
def ev_fit (a b : Int) : Bool := decide (-2147483648 ≤ a) && decide (b ≤ 2147483647)
def ev_ta (q r : Int × Int) (tq tr : ev_t) : ev_t := match ev_fit (q.1 + r.1) (q.2 + r.2) with
  | true => match decide (r.1 = r.2) with
    | true => ev_sh tq r.1
    | false => match decide (q.1 = q.2) with
      | true => ev_sh tr q.1
      | false => ev_nt
  | false => ev_nt
def ev_ts (q r : Int × Int) (tq : ev_t) : ev_t := match ev_fit (q.1 - r.2) (q.2 - r.1) && decide (r.1 = r.2) with
  | true => ev_sh tq (-r.1)
  | false => ev_nt
def ev_sub (q r : Int × Int) : Int × Int := match decide (q.2 - r.1 < -2147483648) with
  | true => (q.1 - r.2 + 4294967296, q.2 - r.1 + 4294967296)
  | false => en_sub q r
theorem fb_subW {x y : Int32} (h : x.toInt - y.toInt < -2147483648) : (x - y).toInt = x.toInt - y.toInt + 4294967296 := by
  have h1 := fb_rng x
  have h2 := fb_rng y
  rw [Int32.toInt_sub, ← fb_bmod (z := x.toInt - y.toInt + 4294967296) (by omega) (by omega)]
  exact (Int.add_bmod_right (x.toInt - y.toInt) (2 ^ 32)).symm
theorem ev_sub_in {q r : Int × Int} {x y : Int32} (hx : en_in q x) (hy : en_in r y) : en_in (ev_sub q r) (x - y) := by
  unfold ev_sub
  split
  · rename_i h
    simp only [decide_eq_true_eq] at h
    obtain ⟨a1, a2⟩ := hx
    obtain ⟨a3, a4⟩ := hy
    have e := fb_subW (x := x) (y := y) (by omega)
    exact ⟨by rw [e]; dsimp only; omega, by rw [e]; dsimp only; omega⟩
  · exact en_sub_in hx hy
def ev_rem (q r : Int × Int) : Int × Int := (if 0 ≤ q.1 then 0 else -(r.2 - 1), if q.2 ≤ 0 then 0 else r.2 - 1)
def ev_max (a b : Int) : Int := if a ≤ b then b else a
def ev_min (a b : Int) : Int := if a ≤ b then a else b
theorem ev_max_le {a b c : Int} (h1 : a ≤ c) (h2 : b ≤ c) : ev_max a b ≤ c := by unfold ev_max; split <;> assumption
theorem ev_le_min {a b c : Int} (h1 : c ≤ a) (h2 : c ≤ b) : c ≤ ev_min a b := by unfold ev_min; split <;> assumption
/-- what is known of a place -/
def ev_lk (FS : List ev_f) (q : Nat × Nat × Nat) : Option ((Int × Int) × Option (Nat × Int)) := match FS with
  | [] => none
  | f :: fs => match f.1 == q with
    | true => some f.2
    | false => ev_lk fs q
theorem ev_lk_ok {γ : Nat → Int} {ls : Array Slot} {ws : va_W} {q : Nat × Nat × Nat} {u : (Int × Int) × Option (Nat × Int)} : ∀ {FS : List ev_f}, (∀ f ∈ FS, ev_fact γ ls ws f) → ev_lk FS q = some u → ∃ x : Int32, ev_loc ls ws q x ∧ en_in u.1 x ∧ ev_gt γ u.2 (.int x)
  | [], _, h => by cases h
  | f :: fs, hf, h => by
    unfold ev_lk at h
    split at h
    · rename_i hb
      simp only [beq_iff_eq] at hb
      cases h
      have h1 := hf f List.mem_cons_self
      unfold ev_fact at h1
      rw [hb] at h1
      exact h1
    · exact ev_lk_ok (fun g hg => hf g (List.mem_cons_of_mem _ hg)) h
def ev_meet (a b : Int × Int) : Int × Int := (ev_max a.1 b.1, ev_min a.2 b.2)
theorem ev_meet_in {a b : Int × Int} {x : Int32} (h1 : en_in a x) (h2 : en_in b x) : en_in (ev_meet a b) x := ⟨ev_max_le h1.1 h2.1, ev_le_min h1.2 h2.2⟩
/-- the value with a tag is within bounds -/
def ev_rfl (L : List ev_l) (a : Nat) (b : Int × Int) : List ev_l := match L[a]? with
  | some (some (.inl q, g)) => L.set a (some (.inl (ev_meet q b), g))
  | _ => L
def ev_rff (FS : List ev_f) (q : Nat × Nat × Nat) (b : Int × Int) : List ev_f := match ev_lk FS q with
  | some u => (q, ev_meet u.1 b, u.2) :: FS
  | none => (q, b, none) :: FS
def ev_rf (L : List ev_l) (FS : List ev_f) (t : ev_t) (b : Int × Int) : List ev_l × List ev_f := match t.1 with
  | 0 => (L, FS)
  | 1 => (ev_rfl L t.2.1 (b.1 - t.2.2.2, b.2 - t.2.2.2), FS)
  | k + 2 => (L, ev_rff FS (k + 2, t.2.1, t.2.2.1) (b.1 - t.2.2.2, b.2 - t.2.2.2))
theorem ev_rfl_ok {N : Nat} {ad : Nat → Nat} {γ : Nat → Int} {L : List ev_l} {ls : Array Slot} {a : Nat} {b : Int × Int} {y : Int32} (hl : ev_lo N ad γ L ls) (e2 : ls[a]? = some (.val (.int y))) (hy : en_in b y) : (ev_rfl L a b).length = L.length ∧ ev_lo N ad γ (ev_rfl L a b) ls := by
  unfold ev_rfl
  split
  · rename_i q g hq
    refine ⟨List.length_set, fun j u hj => ?_⟩
    by_cases hja : j = a
    · subst hja
      rw [List.getElem?_set_self (List.getElem?_eq_some_iff.mp hq).1] at hj
      cases hj
      obtain ⟨x, g1, ⟨z, rfl, g2⟩, g3⟩ := hl j _ hq
      have ezy : z = y := Value.int.inj (Slot.val.inj (Option.some.inj (g1.symm.trans e2)))
      subst ezy
      exact ⟨_, g1, ⟨z, rfl, ev_meet_in g2 hy⟩, g3⟩
    · rw [List.getElem?_set_ne (Ne.symm hja)] at hj
      exact hl j u hj
  · exact ⟨rfl, hl⟩
theorem ev_rff_ok {γ : Nat → Int} {FS : List ev_f} {ls : Array Slot} {ws : va_W} {q : Nat × Nat × Nat} {b : Int × Int} {y : Int32} (hf : ∀ f ∈ FS, ev_fact γ ls ws f) (e2 : ev_loc ls ws q y) (hy : en_in b y) : ∀ f ∈ ev_rff FS q b, ev_fact γ ls ws f := by
  intro f hf1
  unfold ev_rff at hf1
  split at hf1
  · rename_i u hu
    rcases List.mem_cons.mp hf1 with rfl | hf1
    · obtain ⟨x, g1, g2, g3⟩ := ev_lk_ok hf hu
      have exy : x = y := ev_loc_one g1 e2
      subst exy
      exact ⟨x, g1, ev_meet_in g2 hy, g3⟩
    · exact hf f hf1
  · rcases List.mem_cons.mp hf1 with rfl | hf1
    · exact ⟨y, e2, hy, trivial⟩
    · exact hf f hf1
theorem ev_rf_ok {N : Nat} {ad : Nat → Nat} {γ : Nat → Int} {L : List ev_l} {FS : List ev_f} {ls : Array Slot} {ws : va_W} {t : ev_t} {b : Int × Int} {v : Int32} (hl : ev_lo N ad γ L ls) (hf : ∀ f ∈ FS, ev_fact γ ls ws f) (ht : ev_tag ls ws t (.int v)) (hv : en_in b v) : (ev_rf L FS t b).1.length = L.length ∧ ev_lo N ad γ (ev_rf L FS t b).1 ls ∧ ∀ f ∈ (ev_rf L FS t b).2, ev_fact γ ls ws f := by
  obtain ⟨k, a, i, off⟩ := t
  have hv1 := hv.1
  have hv2 := hv.2
  match k, ht with
  | 0, ht => exact ⟨rfl, hl, hf⟩
  | 1, ht =>
    rcases ht with h0 | ⟨u, y, e1, e2, e3⟩
    · cases h0
    · cases e1
      have e3 : v.toInt = y.toInt + off := e3
      have h := ev_rfl_ok (b := (b.1 - off, b.2 - off)) hl (e2 : ls[a]? = some (.val (.int y))) ⟨by dsimp only; omega, by dsimp only; omega⟩
      exact ⟨h.1, h.2, hf⟩
  | k + 2, ht =>
    rcases ht with h0 | ⟨u, y, e1, e2, e3⟩
    · cases h0
    · cases e1
      have e3 : v.toInt = y.toInt + off := e3
      exact ⟨rfl, hl, ev_rff_ok (b := (b.1 - off, b.2 - off)) hf e2 ⟨by dsimp only; omega, by dsimp only; omega⟩⟩
def ev_cmp (cd : Jvm.ClassFile.Cond) (q r : Int × Int) : (Int × Int) × (Int × Int) := match cd with
  | .lt => ((q.1, ev_min q.2 (r.2 - 1)), (ev_max r.1 (q.1 + 1), r.2))
  | .ge => ((ev_max q.1 r.1, q.2), (r.1, ev_min r.2 q.2))
  | .gt => ((ev_max q.1 (r.1 + 1), q.2), (r.1, ev_min r.2 (q.2 - 1)))
  | .le => ((q.1, ev_min q.2 r.2), (ev_max r.1 q.1, r.2))
  | .eq => (ev_meet q r, ev_meet q r)
  | .ne => ((if r.1 = r.2 ∧ q.1 = r.1 then q.1 + 1 else q.1, if r.1 = r.2 ∧ q.2 = r.1 then q.2 - 1 else q.2), (if q.1 = q.2 ∧ r.1 = q.1 then r.1 + 1 else r.1, if q.1 = q.2 ∧ r.2 = q.1 then r.2 - 1 else r.2))
def ev_cd (cd : Jvm.ClassFile.Cond) (x y : Int) : Prop := match cd with
  | .lt => x < y
  | .ge => y ≤ x
  | .gt => y < x
  | .le => x ≤ y
  | .eq => x = y
  | .ne => x ≠ y
theorem ev_cmp_ok {cd : Jvm.ClassFile.Cond} {q r : Int × Int} {x y : Int32} (hx : en_in q x) (hy : en_in r y) (h : ev_cd cd x.toInt y.toInt) : en_in (ev_cmp cd q r).1 x ∧ en_in (ev_cmp cd q r).2 y := by
  obtain ⟨h1, h2⟩ := hx
  obtain ⟨h3, h4⟩ := hy
  cases cd
  · have h : x.toInt = y.toInt := h
    exact ⟨ev_meet_in ⟨h1, h2⟩ ⟨by omega, by omega⟩, ev_meet_in ⟨by omega, by omega⟩ ⟨h3, h4⟩⟩
  · have h : x.toInt ≠ y.toInt := h
    refine ⟨⟨?_, ?_⟩, ⟨?_, ?_⟩⟩ <;> dsimp only [ev_cmp] <;> split <;> omega
  · have h : x.toInt < y.toInt := h
    exact ⟨⟨h1, ev_le_min h2 (by omega)⟩, ⟨ev_max_le h3 (by omega), h4⟩⟩
  · have h : y.toInt ≤ x.toInt := h
    exact ⟨⟨ev_max_le h1 (by omega), h2⟩, ⟨h3, ev_le_min h4 (by omega)⟩⟩
  · have h : y.toInt < x.toInt := h
    exact ⟨⟨ev_max_le h1 (by omega), h2⟩, ⟨h3, ev_le_min h4 (by omega)⟩⟩
  · have h : x.toInt ≤ y.toInt := h
    exact ⟨⟨h1, ev_le_min h2 (by omega)⟩, ⟨ev_max_le h3 (by omega), h4⟩⟩
def ev_neg (cd : Jvm.ClassFile.Cond) : Jvm.ClassFile.Cond := match cd with
  | .lt => .ge
  | .ge => .lt
  | .gt => .le
  | .le => .gt
  | .eq => .ne
  | .ne => .eq
theorem ev_neg_ok {cd : Jvm.ClassFile.Cond} {x y : Int} (h : ¬ ev_cd cd x y) : ev_cd (ev_neg cd) x y := by
  cases cd <;> simp only [ev_cd, ev_neg, ne_eq, Decidable.not_not] at h ⊢ <;> omega
/-- one side of a branch -/
def ev_side (cd : Jvm.ClassFile.Cond) (q r : Int × Int) (tq tr : ev_t) (pc : Nat) (L : List ev_l) (S : List ev_s) (FS : List ev_f) (RS : List ev_r) : List ev_S := match decide ((ev_cmp cd q r).1.1 ≤ (ev_cmp cd q r).1.2) && decide ((ev_cmp cd q r).2.1 ≤ (ev_cmp cd q r).2.2) with
  | true => [(pc, (ev_rf (ev_rf L FS tq (ev_cmp cd q r).1).1 (ev_rf L FS tq (ev_cmp cd q r).1).2 tr (ev_cmp cd q r).2).1, S, (ev_rf (ev_rf L FS tq (ev_cmp cd q r).1).1 (ev_rf L FS tq (ev_cmp cd q r).1).2 tr (ev_cmp cd q r).2).2, RS)]
  | false => []
/-- 'not 0', split where 0 lies within -/
def ev_sides (cd : Jvm.ClassFile.Cond) (q r : Int × Int) (tq tr : ev_t) (pc : Nat) (L : List ev_l) (S : List ev_s) (FS : List ev_f) (RS : List ev_r) : List ev_S := match decide (cd = .ne) && (decide (r = (0, 0)) && (decide (q.1 < 0) && decide (0 < q.2))) with
  | true => ev_side .ne (q.1, -1) r tq tr pc L S FS RS ++ ev_side .ne (1, q.2) r tq tr pc L S FS RS
  | false => ev_side cd q r tq tr pc L S FS RS
section EVB
variable {p : Program} {l : Launch} {e : Env} {R : Room} {s : State} {m : MethodId} {args : Array Value} {below : List Frame} {meth : Method} {c : Code} {Q : State → Prop} {cc : ByteArray} {D : va_G} {tys : List (ClassId × FieldType)} {T : en_T} {I : va_W → Prop} {aK aV b0 nL o : Nat} {ad : Nat → Nat} {w0 : va_W} {Wr : List (Nat × Nat)} {γ : Nat → Int}
variable {pc : Nat} {L : List ev_l} {S : List ev_s} {FS : List ev_f} {RS : List ev_r}
theorem ev_side_ok {cd : Jvm.ClassFile.Cond} {q r : Int × Int} {tq tr : ev_t} {pc' : Nat} {x y : Int32} {H : Heap} {locs : List Loc} {ls : Array Slot} {stk : List Value} {ws : va_W} (h : ev_at s D tys T I b0 nL ad w0 Wr γ L S FS RS H locs ls stk ws) (hx : en_in q x) (hy : en_in r y) (tx : ev_tag ls ws tq (.int x)) (ty : ev_tag ls ws tr (.int y)) (hc : ev_cd cd x.toInt y.toInt)
    (k : ∀ st ∈ ev_side cd q r tq tr pc' L S FS RS, ev_go p l e R s m args below meth c Q D tys T I b0 nL ad w0 Wr γ st) : W p l e R s m args below meth c H locs 0 0 Q (F0 m pc' ls stk) := by
  obtain ⟨h1, h2⟩ := ev_cmp_ok hx hy hc
  unfold ev_side at k
  have hb : (decide ((ev_cmp cd q r).1.1 ≤ (ev_cmp cd q r).1.2) && decide ((ev_cmp cd q r).2.1 ≤ (ev_cmp cd q r).2.2)) = true := by
    simp only [Bool.and_eq_true, decide_eq_true_eq]
    exact ⟨Int.le_trans h1.1 h1.2, Int.le_trans h2.1 h2.2⟩
  rw [hb] at k
  obtain ⟨⟨z1, z2, z3⟩, hl, hs, hf, hR, hr⟩ := h
  obtain ⟨a1, a2, a3⟩ := ev_rf_ok hl hf tx h1
  obtain ⟨c1, c2, c3⟩ := ev_rf_ok a2 a3 ty h2
  exact k _ List.mem_cons_self H locs ls stk ws ⟨⟨z1, z2, by dsimp only; rw [c1, a1]; exact z3⟩, c2, hs, c3, hR, hr⟩
theorem ev_sides_ok {cd : Jvm.ClassFile.Cond} {q r : Int × Int} {tq tr : ev_t} {pc' : Nat} {x y : Int32} {H : Heap} {locs : List Loc} {ls : Array Slot} {stk : List Value} {ws : va_W} (h : ev_at s D tys T I b0 nL ad w0 Wr γ L S FS RS H locs ls stk ws) (hx : en_in q x) (hy : en_in r y) (tx : ev_tag ls ws tq (.int x)) (ty : ev_tag ls ws tr (.int y)) (hc : ev_cd cd x.toInt y.toInt)
    (k : ∀ st ∈ ev_sides cd q r tq tr pc' L S FS RS, ev_go p l e R s m args below meth c Q D tys T I b0 nL ad w0 Wr γ st) : W p l e R s m args below meth c H locs 0 0 Q (F0 m pc' ls stk) := by
  unfold ev_sides at k
  split at k
  · rename_i hb
    simp only [Bool.and_eq_true, decide_eq_true_eq] at hb
    obtain ⟨b1, b2, b3, b4⟩ := hb
    subst b1
    subst b2
    have hc2 : x.toInt ≠ y.toInt := hc
    have h0 : y.toInt = 0 := by
      obtain ⟨e1, e2⟩ := hy
      dsimp only at e1 e2
      omega
    obtain ⟨e3, e4⟩ := hx
    rcases (show x.toInt ≤ -1 ∨ 1 ≤ x.toInt by omega) with hz | hz
    · exact ev_side_ok h (q := (q.1, -1)) ⟨e3, hz⟩ hy tx ty hc (fun st hst => k st (List.mem_append_left _ hst))
    · exact ev_side_ok h (q := (1, q.2)) ⟨hz, e4⟩ hy tx ty hc (fun st hst => k st (List.mem_append_right _ hst))
  · exact ev_side_ok h hx hy tx ty hc k
theorem en_tgt {pc : Nat} {off : Int} (h : decide (0 ≤ (pc : Int) + off) = true) : (pc : Int) + off = ((((pc : Int) + off).toNat : Nat) : Int) := by
  simp only [decide_eq_true_eq] at h
  omega
theorem fs_icmp (C : ev_cx p s m args meth c cc nL o D tys aK aV b0) {cd : Jvm.ClassFile.Cond} {off : Int} {q r : Int × Int} {tq tr : ev_t} (ht : decide (0 ≤ (pc : Int) + off) = true) (hd : decode cc pc = .ok (.if_icmp cd off, 3))
    (k : ∀ st ∈ ev_sides cd q r tq tr ((pc : Int) + off).toNat L S FS RS ++ ev_sides (ev_neg cd) q r tq tr (pc + 3) L S FS RS, ev_go p l e R s m args below meth c Q D tys T I b0 nL ad w0 Wr γ st) : ev_go p l e R s m args below meth c Q D tys T I b0 nL ad w0 Wr γ (pc, L, (.inl r, tr) :: (.inl q, tq) :: S, FS, RS) := by
  intro H locs ls stk ws h
  dsimp only at h
  obtain ⟨h0, hl, hs, hr⟩ := h
  obtain ⟨y0, ys, rfl, ⟨y, rfl, hy⟩, ty, hs1⟩ := ev_stk_cons hs
  obtain ⟨x0, zs, rfl, ⟨x, rfl, hx⟩, tx, hs2⟩ := ev_stk_cons hs1
  have kt : ev_cd cd x.toInt y.toInt → W p l e R s m args below meth c H locs 0 0 Q (F0 m ((pc : Int) + off).toNat ls zs) := fun hc => ev_sides_ok ⟨h0, hl, hs2, hr⟩ hx hy tx ty hc (fun st hst => k st (List.mem_append_left _ hst))
  have kf : ¬ ev_cd cd x.toInt y.toInt → W p l e R s m args below meth c H locs 0 0 Q (F0 m (pc + 3) ls zs) := fun hc => ev_sides_ok ⟨h0, hl, hs2, hr⟩ hx hy tx ty (ev_neg_ok hc) (fun st hst => k st (List.mem_append_right _ hst))
  cases cd
  · exact lv_icmp_eq C.1 C.2.1 hd (en_tgt ht) (fun h => kt ((fa_eq _ _).mp h)) (fun h => kf (fun h2 => h ((fa_eq _ _).mpr h2)))
  · exact lv_icmp_ne C.1 C.2.1 hd (en_tgt ht) (fun h => kt (fun h2 => h ((fa_eq _ _).mpr h2))) (fun h => kf (fun h2 => h2 ((fa_eq _ _).mp h)))
  · exact lv_icmp_lt C.1 C.2.1 hd (en_tgt ht) (fun h => kt ((fa_lt _ _).mp h)) (fun h => kf (fun h2 => h ((fa_lt _ _).mpr h2)))
  · exact lv_icmp_ge C.1 C.2.1 hd (en_tgt ht) (fun h => kt ((fa_le _ _).mp h)) (fun h => kf (fun h2 => h ((fa_le _ _).mpr h2)))
  · exact lv_icmp_gt C.1 C.2.1 hd (en_tgt ht) (fun h => kt ((fa_lt _ _).mp h)) (fun h => kf (fun h2 => h ((fa_lt _ _).mpr h2)))
  · exact lv_icmp_le C.1 C.2.1 hd (en_tgt ht) (fun h => kt ((fa_le _ _).mp h)) (fun h => kf (fun h2 => h ((fa_le _ _).mpr h2)))
theorem fs_if (C : ev_cx p s m args meth c cc nL o D tys aK aV b0) {cd : Jvm.ClassFile.Cond} {off : Int} {q : Int × Int} {tq : ev_t} (ht : decide (0 ≤ (pc : Int) + off) = true) (hd : decode cc pc = .ok (.ifCond cd off, 3))
    (k : ∀ st ∈ ev_sides cd q (0, 0) tq ev_nt ((pc : Int) + off).toNat L S FS RS ++ ev_sides (ev_neg cd) q (0, 0) tq ev_nt (pc + 3) L S FS RS, ev_go p l e R s m args below meth c Q D tys T I b0 nL ad w0 Wr γ st) : ev_go p l e R s m args below meth c Q D tys T I b0 nL ad w0 Wr γ (pc, L, (.inl q, tq) :: S, FS, RS) := by
  intro H locs ls stk ws h
  dsimp only at h
  obtain ⟨h0, hl, hs, hr⟩ := h
  obtain ⟨x0, zs, rfl, ⟨x, rfl, hx⟩, tx, hs2⟩ := ev_stk_cons hs
  have z0 : (0 : Int32).toInt = 0 := rfl
  have hy : en_in (0, 0) (0 : Int32) := ⟨by decide, by decide⟩
  have kt : ev_cd cd x.toInt (0 : Int32).toInt → W p l e R s m args below meth c H locs 0 0 Q (F0 m ((pc : Int) + off).toNat ls zs) := fun hc => ev_sides_ok ⟨h0, hl, hs2, hr⟩ hx hy tx ev_tag0 hc (fun st hst => k st (List.mem_append_left _ hst))
  have kf : ¬ ev_cd cd x.toInt (0 : Int32).toInt → W p l e R s m args below meth c H locs 0 0 Q (F0 m (pc + 3) ls zs) := fun hc => ev_sides_ok ⟨h0, hl, hs2, hr⟩ hx hy tx ev_tag0 (ev_neg_ok hc) (fun st hst => k st (List.mem_append_right _ hst))
  cases cd
  · exact lv_if_eq C.1 C.2.1 hd (en_tgt ht) (fun h => kt ((fa_eq _ _).mp h)) (fun h => kf (fun h2 => h ((fa_eq _ _).mpr h2)))
  · exact lv_if_ne C.1 C.2.1 hd (en_tgt ht) (fun h => kt (fun h2 => h ((fa_eq _ _).mpr h2))) (fun h => kf (fun h2 => h2 ((fa_eq _ _).mp h)))
  · exact lv_if_lt C.1 C.2.1 hd (en_tgt ht) (fun h => kt ((fa_lt _ _).mp h)) (fun h => kf (fun h2 => h ((fa_lt _ _).mpr h2)))
  · exact lv_if_ge C.1 C.2.1 hd (en_tgt ht) (fun h => kt ((fa_le _ _).mp h)) (fun h => kf (fun h2 => h ((fa_le _ _).mpr h2)))
  · exact lv_if_gt C.1 C.2.1 hd (en_tgt ht) (fun h => kt ((fa_lt _ _).mp h)) (fun h => kf (fun h2 => h ((fa_lt _ _).mpr h2)))
  · exact lv_if_le C.1 C.2.1 hd (en_tgt ht) (fun h => kt ((fa_le _ _).mp h)) (fun h => kf (fun h2 => h ((fa_le _ _).mpr h2)))
theorem fs_bin {pc' : Nat} (g : Int32 → Int32 → Int32) {q r u : Int × Int} {tq tr tu : ev_t} (hfg : ∀ (ls : Array Slot) (ws : va_W) (x y : Int32), en_in q x → en_in r y → ev_tag ls ws tq (.int x) → ev_tag ls ws tr (.int y) → en_in u (g x y) ∧ ev_tag ls ws tu (.int (g x y)))
    (row : ∀ (H : Heap) (locs : List Loc) (ls : Array Slot) (rest : List Value) (x y : Int32), en_in q x → en_in r y → W p l e R s m args below meth c H locs 0 0 Q (F0 m pc' ls (.int (g x y) :: rest)) → W p l e R s m args below meth c H locs 0 0 Q (F0 m pc ls (.int y :: .int x :: rest)))
    (k : ev_go p l e R s m args below meth c Q D tys T I b0 nL ad w0 Wr γ (pc', L, (.inl u, tu) :: S, FS, RS)) : ev_go p l e R s m args below meth c Q D tys T I b0 nL ad w0 Wr γ (pc, L, (.inl r, tr) :: (.inl q, tq) :: S, FS, RS) := by
  intro H locs ls stk ws h
  dsimp only at h
  obtain ⟨h0, hl, hs, hr⟩ := h
  obtain ⟨y0, ys, rfl, ⟨y, rfl, hy⟩, ty, hs1⟩ := ev_stk_cons hs
  obtain ⟨x0, zs, rfl, ⟨x, rfl, hx⟩, tx, hs2⟩ := ev_stk_cons hs1
  obtain ⟨e1, e2⟩ := hfg ls ws x y hx hy tx ty
  exact row H locs ls zs x y hx hy (k H locs ls (.int (g x y) :: zs) ws ⟨h0, hl, ⟨⟨⟨_, rfl, e1⟩, e2⟩, hs2⟩, hr⟩)
theorem ev_ta_ok {ls : Array Slot} {ws : va_W} {q r : Int × Int} {tq tr : ev_t} {x y : Int32} (hx : en_in q x) (hy : en_in r y) (tx : ev_tag ls ws tq (.int x)) (ty : ev_tag ls ws tr (.int y)) : ev_tag ls ws (ev_ta q r tq tr) (.int (x + y)) := by
  obtain ⟨h1, h2⟩ := hx
  obtain ⟨h3, h4⟩ := hy
  unfold ev_ta
  split
  · rename_i hb
    unfold ev_fit at hb
    simp only [Bool.and_eq_true, decide_eq_true_eq] at hb
    have e := fb_addI (x := x) (y := y) (by omega) (by omega)
    split
    · rename_i hc
      simp only [decide_eq_true_eq] at hc
      exact ev_sh_ok tx (by omega)
    · split
      · rename_i hc
        simp only [decide_eq_true_eq] at hc
        exact ev_sh_ok ty (by omega)
      · exact ev_tag0
  · exact ev_tag0
theorem ev_ts_ok {ls : Array Slot} {ws : va_W} {q r : Int × Int} {tq : ev_t} {x y : Int32} (hx : en_in q x) (hy : en_in r y) (tx : ev_tag ls ws tq (.int x)) : ev_tag ls ws (ev_ts q r tq) (.int (x - y)) := by
  obtain ⟨h1, h2⟩ := hx
  obtain ⟨h3, h4⟩ := hy
  unfold ev_ts
  split
  · rename_i hb
    unfold ev_fit at hb
    simp only [Bool.and_eq_true, decide_eq_true_eq] at hb
    have e := fb_subI (x := x) (y := y) (by omega) (by omega)
    exact ev_sh_ok tx (by omega)
  · exact ev_tag0
theorem fs_dup (C : ev_cx p s m args meth c cc nL o D tys aK aV b0) {a : ev_s} (hd : decode cc pc = .ok (.dup, 1)) (k : ev_go p l e R s m args below meth c Q D tys T I b0 nL ad w0 Wr γ (pc + 1, L, a :: a :: S, FS, RS)) : ev_go p l e R s m args below meth c Q D tys T I b0 nL ad w0 Wr γ (pc, L, a :: S, FS, RS) := by
  intro H locs ls stk ws h
  dsimp only at h
  obtain ⟨h0, hl, hs, hr⟩ := h
  obtain ⟨x, ys, rfl, hx, tx, hs1⟩ := ev_stk_cons hs
  exact lv_dup C.1 C.2.1 hd (en_v_cat hx) (k H locs ls (x :: x :: ys) ws ⟨h0, hl, ⟨⟨hx, tx⟩, ⟨hx, tx⟩, hs1⟩, hr⟩)
theorem fs_dup2 (C : ev_cx p s m args meth c cc nL o D tys aK aV b0) {a b : ev_s} (hd : decode cc pc = .ok (.dup2, 1)) (k : ev_go p l e R s m args below meth c Q D tys T I b0 nL ad w0 Wr γ (pc + 1, L, a :: b :: a :: b :: S, FS, RS)) : ev_go p l e R s m args below meth c Q D tys T I b0 nL ad w0 Wr γ (pc, L, a :: b :: S, FS, RS) := by
  intro H locs ls stk ws h
  dsimp only at h
  obtain ⟨h0, hl, hs, hr⟩ := h
  obtain ⟨x, ys, rfl, hx, tx, hs1⟩ := ev_stk_cons hs
  obtain ⟨y, zs, rfl, hy, ty, hs2⟩ := ev_stk_cons hs1
  exact lv_dup2_11 C.1 C.2.1 hd (en_v_cat hx) (en_v_cat hy) (k H locs ls (x :: y :: x :: y :: zs) ws ⟨h0, hl, ⟨⟨hx, tx⟩, ⟨hy, ty⟩, ⟨hx, tx⟩, ⟨hy, ty⟩, hs2⟩, hr⟩)
theorem fs_pop (C : ev_cx p s m args meth c cc nL o D tys aK aV b0) {a : ev_s} (hd : decode cc pc = .ok (.pop, 1)) (k : ev_go p l e R s m args below meth c Q D tys T I b0 nL ad w0 Wr γ (pc + 1, L, S, FS, RS)) : ev_go p l e R s m args below meth c Q D tys T I b0 nL ad w0 Wr γ (pc, L, a :: S, FS, RS) := by
  intro H locs ls stk ws h
  dsimp only at h
  obtain ⟨h0, hl, hs, hr⟩ := h
  obtain ⟨x, ys, rfl, hx, tx, hs1⟩ := ev_stk_cons hs
  exact lv_pop C.1 C.2.1 hd (en_v_cat hx) (k H locs ls ys ws ⟨h0, hl, hs1, hr⟩)
theorem fs_un {pc' : Nat} {q r : Int × Int} {tq tr : ev_t} (g : Int32 → Int32) (hg : ∀ x, en_in q x → en_in r (g x)) (ht : tr = ev_nt)
    (row : ∀ (H : Heap) (locs : List Loc) (ls : Array Slot) (rest : List Value) (x : Int32), W p l e R s m args below meth c H locs 0 0 Q (F0 m pc' ls (.int (g x) :: rest)) → W p l e R s m args below meth c H locs 0 0 Q (F0 m pc ls (.int x :: rest)))
    (k : ev_go p l e R s m args below meth c Q D tys T I b0 nL ad w0 Wr γ (pc', L, (.inl r, tr) :: S, FS, RS)) : ev_go p l e R s m args below meth c Q D tys T I b0 nL ad w0 Wr γ (pc, L, (.inl q, tq) :: S, FS, RS) := by
  intro H locs ls stk ws h
  dsimp only at h
  obtain ⟨h0, hl, hs, hr⟩ := h
  obtain ⟨y0, ys, rfl, ⟨y, rfl, hy⟩, ty, hs1⟩ := ev_stk_cons hs
  exact row H locs ls ys y (k H locs ls (.int (g y) :: ys) ws ⟨h0, hl, ⟨⟨⟨_, rfl, hg y hy⟩, by rw [ht]; exact ev_tag0⟩, hs1⟩, hr⟩)
theorem fs_goto (C : ev_cx p s m args meth c cc nL o D tys aK aV b0) {off : Int} (ht : decide (0 ≤ (pc : Int) + off) = true) (hd : decode cc pc = .ok (.goto off, 3)) (k : ev_go p l e R s m args below meth c Q D tys T I b0 nL ad w0 Wr γ (((pc : Int) + off).toNat, L, S, FS, RS)) : ev_go p l e R s m args below meth c Q D tys T I b0 nL ad w0 Wr γ (pc, L, S, FS, RS) := by
  intro H locs ls stk ws h
  exact lv_goto C.1 C.2.1 hd (en_tgt ht) (k H locs ls stk ws h)
/-- a value is split at cuts: the state once for each piece -/
def ev_cut (q : Int × Int) : List Int → List (Int × Int)
  | [] => [q]
  | c :: cs => match decide (q.1 ≤ c) && decide (c < q.2) with
    | true => (q.1, c) :: ev_cut (c + 1, q.2) cs
    | false => ev_cut q cs
theorem ev_cut_ok {x : Int32} : ∀ {cs : List Int} {q : Int × Int}, en_in q x → ∃ u ∈ ev_cut q cs, en_in u x
  | [], q, h => ⟨q, List.mem_cons_self, h⟩
  | c :: cs, q, h => by
    unfold ev_cut
    split
    · rcases Int.lt_or_le c x.toInt with hc | hc
      · obtain ⟨u, h1, h2⟩ := ev_cut_ok (cs := cs) (q := (c + 1, q.2)) ⟨hc, h.2⟩
        exact ⟨u, List.mem_cons_of_mem _ h1, h2⟩
      · exact ⟨(q.1, c), List.mem_cons_self, ⟨h.1, hc⟩⟩
    · exact ev_cut_ok h
end EVB
end
section
theorem en_clamp {i : Int32} {n : Nat} (h0 : 0 ≤ i.toInt) (h : i.toInt < n) : i.toNatClampNeg < n := by
  show i.toInt.toNat < n
  omega
theorem en_vp_nar {ty : FieldType} {x : Int32} (h : narrow ty (.int x) = .int x) : vp_nar ty x = x := by
  unfold vp_nar
  rw [h]
theorem en_nar_z {x : Int32} (h1 : 0 ≤ x.toInt) (h2 : x.toInt ≤ 1) : narrow .boolean (.int x) = .int x := by
  rcases (show x.toInt = 0 ∨ x.toInt = 1 by omega) with q | q
  · rw [show x = 0 from (fa_eq _ _).mpr q]; rfl
  · rw [show x = 1 from (fa_eq _ _).mpr q]; rfl
theorem en_nar_b {x : Int32} (h1 : -128 ≤ x.toInt) (h2 : x.toInt ≤ 127) : vp_nar .byte x = x := by
  rw [vp_nar_byte, fa_eq]
  have e : (x.toInt8.toInt32).toInt = x.toInt8.toInt := by simp
  rw [e]
  have e2 : x.toInt8.toInt = x.toInt.bmod (2 ^ 8) := by simp
  rw [e2]
  exact Int.bmod_eq_of_le (by omega) (by omega)
theorem en_fl_w {o i ci f : Nat} {r : vw_C} (h : en_find o i en_fl = some (ci, f)) (hr : vwCl[ci]? = some r) : Cond.fieldLink (en_nm o) i (r.2.1 f).1 (r.2.1 f).2.1 (r.2.1 f).2.2.1 ∈ en_ws := by
  have h1 := en_fl_in _ (List.mem_map.mpr ⟨(o, i, ci, f), en_find_mem h, rfl⟩)
  have h2 : en_fw (o, i, ci, f) = Cond.fieldLink (en_nm o) i (r.2.1 f).1 (r.2.1 f).2.1 (r.2.1 f).2.2.1 := by
    show (match vwCl[ci]? with
      | some r => _
      | none => _) = _
    rw [hr]
  rw [h2] at h1
  exact en_ws_in h1 rfl
theorem en_lay_good (C : String) (F : u_T) (k : Nat) : goodWord (u_lay C F k) = true := by
  unfold u_lay
  split <;> rfl
theorem en_cls_ws {ci : Nat} {r : vw_C} (h : vwCl[ci]? = some r) : ∀ w ∈ u_ws r.1 r.2.1 r.2.2, w ∈ en_ws := fun w hw => en_ws_in ((en_cls ci r h).1 w hw) (by
  obtain ⟨k, -, rfl⟩ := List.mem_map.mp hw
  exact en_lay_good _ _ _)
def ev_hs (W1 : List (Nat × Nat)) (a : ev_s) : ev_s := match ev_hit W1 (a.2.1, a.2.2.1, a.2.2.2.1) with
  | true => (a.1, ev_nt)
  | false => a
def ev_hf (W1 : List (Nat × Nat)) (FS : List ev_f) : List ev_f := FS.filter (fun f => !ev_hit W1 f.1)
theorem ev_hs_ok {N : Nat} {ad : Nat → Nat} {ls : Array Slot} {w w' : va_W} {W1 : List (Nat × Nat)} (hw : ev_fr W1 w w') : ∀ {as : List ev_s} {xs : List Value}, ev_stk N ad ls w as xs → ev_stk N ad ls w' (as.map (ev_hs W1)) xs
  | [], [], _ => trivial
  | a :: as, x :: xs, h => by
    refine ⟨?_, ev_hs_ok hw h.2⟩
    unfold ev_hs
    split
    · exact ⟨h.1.1, ev_tag0⟩
    · rename_i hq
      refine ⟨h.1.1, ?_⟩
      rcases h.1.2 with h0 | ⟨u, y, e1, e2, e3⟩
      · exact Or.inl h0
      · exact Or.inr ⟨u, y, e1, ev_loc_fr hw hq e2, e3⟩
  | [], _ :: _, h => h.elim
  | _ :: _, [], h => h.elim
theorem ev_hf_ok {γ : Nat → Int} {ls : Array Slot} {w w' : va_W} {W1 : List (Nat × Nat)} (hw : ev_fr W1 w w') {FS : List ev_f} (h : ∀ f ∈ FS, ev_fact γ ls w f) : ∀ f ∈ ev_hf W1 FS, ev_fact γ ls w' f := by
  intro f hf
  obtain ⟨h1, h2⟩ := List.mem_filter.mp hf
  obtain ⟨x, h3, h4⟩ := h f h1
  exact ⟨x, ev_loc_fr hw (by simpa using h2) h3, h4⟩
def ev_fq (FS : List ev_f) (q : Nat × Nat × Nat) (b : Int × Int) : Int × Int := match ev_lk FS q with
  | some u => ev_meet b u.1
  | none => b
theorem ev_fq_ok {γ : Nat → Int} {ls : Array Slot} {ws : va_W} {FS : List ev_f} {q : Nat × Nat × Nat} {b : Int × Int} {x : Int32} (hf : ∀ f ∈ FS, ev_fact γ ls ws f) (hx : ev_loc ls ws q x) (hb : en_in b x) : en_in (ev_fq FS q b) x := by
  unfold ev_fq
  split
  · rename_i u hu
    obtain ⟨y, g1, g2, -⟩ := ev_lk_ok hf hu
    have e := ev_loc_one g1 hx
    subst e
    exact ev_meet_in hb g2
  · exact hb
theorem ev_vs_fe {N : Nat} {ad : Nat → Nat} : ∀ {as : List en_V} {xs : List Value} {f : Nat} {a : en_V} {x : Value}, en_vs N ad as xs → as[f]? = some a → en_v N ad a x → en_vs N ad as (xs.set f x)
  | [], [], _, _, _, _, hf, _ => by simp at hf
  | a0 :: as, x0 :: xs, 0, a, x, h, hf, hx => by
    rw [List.getElem?_cons_zero] at hf
    cases hf
    exact ⟨hx, h.2⟩
  | a0 :: as, x0 :: xs, f + 1, a, x, h, hf, hx => by
    rw [List.getElem?_cons_succ] at hf
    exact ⟨h.1, ev_vs_fe h.2 hf hx⟩
  | [], _ :: _, _, _, _, h, _, _ => h.elim
  | _ :: _, [], _, _, _, h, _, _ => h.elim
/-- one cell is written as its type allows -/
theorem ev_w_set {tys : List (ClassId × FieldType)} {T : en_T} {ad : Nat → Nat} {ws : va_W} {j : Nat} {t : en_C} {e : va_E} (h : ev_w tys T ad ws) (hj : T[j]? = some t) (he : ev_c tys T.length ad t e) : ev_w tys T ad (ws.set j (ad j, e)) := by
  obtain ⟨h1, h2⟩ := h
  refine ⟨by rw [List.length_set]; exact h1, fun k u hk => ?_⟩
  by_cases hkj : k = j
  · subst hkj
    rw [hj] at hk
    cases hk
    have hlt := (List.getElem?_eq_some_iff.mp hj).1
    exact ⟨e, List.getElem?_set_self (by omega), he⟩
  · rw [List.getElem?_set_ne (Ne.symm hkj)]
    exact h2 k u hk
theorem ev_fr_set {W1 : List (Nat × Nat)} {ws : va_W} {j a : Nat} {e0 e : va_E} (h0 : ws[j]? = some (a, e0)) (he : ev_fe W1 j e0 e) : ev_fr W1 ws (ws.set j (a, e)) := by
  refine ⟨List.length_set.symm, fun k q0 q hq0 hq => ?_⟩
  by_cases hkj : k = j
  · subst hkj
    rw [List.getElem?_set_self (List.getElem?_eq_some_iff.mp h0).1] at hq
    cases hq
    rw [h0] at hq0
    cases hq0
    exact ⟨rfl, he⟩
  · rw [List.getElem?_set_ne (Ne.symm hkj), hq0] at hq
    cases hq
    exact ⟨rfl, ev_fe.rf _ _ _⟩
def ev_hI (I : va_W → Prop) (sp : List (Nat × Nat)) : Prop := ∀ (W1 : List (Nat × Nat)) (w w' : va_W), (∀ q ∈ W1, q ∉ sp) → ev_fr W1 w w' → I w → I w'
section EVH
variable {p : Program} {l : Launch} {e : Env} {R : Room} {s : State} {m : MethodId} {args : Array Value} {below : List Frame} {meth : Method} {c : Code} {Q : State → Prop} {cc : ByteArray} {D : va_G} {tys : List (ClassId × FieldType)} {T : en_T} {I : va_W → Prop} {sp : List (Nat × Nat)} {aK aV b0 nL o : Nat} {ad : Nat → Nat} {w0 : va_W} {Wr : List (Nat × Nat)} {γ : Nat → Int}
variable {pc : Nat} {L : List ev_l} {S : List ev_s} {FS : List ev_f} {RS : List ev_r}
theorem fs_geti (C : ev_cx p s m args meth c cc nL o D tys aK aV b0) {i ci f j : Nat} {fs : List en_V} {b : Int × Int} {r : vw_C} (hf : en_find o i en_fl = some (ci, f)) (hr0 : vwCl[ci]? = some r) (hfN : f < r.2.2) (ht : T[j]? = some (.inr (ci, fs))) (ha : fs[f]? = some (.inl b)) {t : ev_t} (hd : decode cc pc = .ok (.getfield i, 3)) (k : ev_go p l e R s m args below meth c Q D tys T I b0 nL ad w0 Wr γ (pc + 3, L, (.inl (ev_fq FS (2, j, f) b), (2, j, f, 0)) :: S, FS, RS)) : ev_go p l e R s m args below meth c Q D tys T I b0 nL ad w0 Wr γ (pc, L, (.inr (j + 2), t) :: S, FS, RS) := by
  intro H locs ls stk ws h
  dsimp only at h
  obtain ⟨h0, hl, hs, hF, hR, hw, hI, hP, hD, hS, hfr⟩ := h
  obtain ⟨x, ys, rfl, hx, -, hs1⟩ := ev_stk_cons hs
  obtain ⟨rfl, hj⟩ : x = .ref (ad j) ∧ j < T.length := hx
  obtain ⟨e0, g1, vs, rfl, g2⟩ := hw.2 j _ ht
  obtain ⟨v, g3, z, rfl, g4⟩ := en_vs_get g2 ha
  have hloc : ev_loc ls ws (2, j, f) z := ⟨_, _, _, g1, g3⟩
  refine va_get (C := r.1) (T := r.2.1) (N := r.2.2) C.1 C.2.1 C.2.2.2.2.1 (en_cls_ws hr0) C.2.2.2.1 C.2.2.2.2.2.1 hP j g1 hr0 f hfN (C.2.2.2.2.1 _ (en_fl_w hf hr0)) (fun x h => h) g3 hd ?_
  exact k H locs ls (.int z :: ys) ws ⟨h0, hl, ⟨⟨⟨z, rfl, ev_fq_ok hF hloc g4⟩, Or.inr ⟨z, z, rfl, hloc, by dsimp only; omega⟩⟩, hs1⟩, hF, hR, hw, hI, hP, hD, hS, hfr⟩
theorem fs_getr (C : ev_cx p s m args meth c cc nL o D tys aK aV b0) {i ci f j n : Nat} {fs : List en_V} {r : vw_C} (hf : en_find o i en_fl = some (ci, f)) (hr0 : vwCl[ci]? = some r) (hfN : f < r.2.2) (ht : T[j]? = some (.inr (ci, fs))) (ha : fs[f]? = some (.inr n)) {t : ev_t} (hd : decode cc pc = .ok (.getfield i, 3)) (k : ev_go p l e R s m args below meth c Q D tys T I b0 nL ad w0 Wr γ (pc + 3, L, (.inr n, ev_nt) :: S, FS, RS)) : ev_go p l e R s m args below meth c Q D tys T I b0 nL ad w0 Wr γ (pc, L, (.inr (j + 2), t) :: S, FS, RS) := by
  intro H locs ls stk ws h
  dsimp only at h
  obtain ⟨h0, hl, hs, hF, hR, hw, hI, hP, hD, hS, hfr⟩ := h
  obtain ⟨x, ys, rfl, hx, -, hs1⟩ := ev_stk_cons hs
  obtain ⟨rfl, hj⟩ : x = .ref (ad j) ∧ j < T.length := hx
  obtain ⟨e0, g1, vs, rfl, g2⟩ := hw.2 j _ ht
  obtain ⟨v, g3, g4⟩ := en_vs_get g2 ha
  refine va_get (C := r.1) (T := r.2.1) (N := r.2.2) C.1 C.2.1 C.2.2.2.2.1 (en_cls_ws hr0) C.2.2.2.1 C.2.2.2.2.2.1 hP j g1 hr0 f hfN (C.2.2.2.2.1 _ (en_fl_w hf hr0)) (fun x h => h) g3 hd ?_
  exact k H locs ls (v :: ys) ws ⟨h0, hl, ⟨⟨g4, ev_tag0⟩, hs1⟩, hF, hR, hw, hI, hP, hD, hS, hfr⟩
/-- what is known of a field behind a write -/
def ev_pg (FS : List ev_f) (j f : Nat) (t : ev_t) : Option (Nat × Int) := match t.1 == 2 && (t.2.1 == j && t.2.2.1 == f) with
  | true => match ev_lk FS (2, j, f) with
    | some u => ev_gs u.2 t.2.2.2
    | none => none
  | false => none
theorem fs_puti (C : ev_cx p s m args meth c cc nL o D tys aK aV b0) (hI0 : ev_hI I sp) {i ci f j : Nat} {fs : List en_V} {b v : Int × Int} {r : vw_C} (hf : en_find o i en_fl = some (ci, f)) (hr0 : vwCl[ci]? = some r) (hfN : f < r.2.2) (ht : T[j]? = some (.inr (ci, fs))) (ha : fs[f]? = some (.inl b)) (hle : en_le (.inl v) (.inl b) = true) (hput : en_put (en_tyX ci f) (.inl v) = true) (hfin : (r.2.1 f).2.2.2 = false) (hwr : (j, f) ∈ Wr) (hsp : (j, f) ∉ sp) {t tv : ev_t} (hd : decode cc pc = .ok (.putfield i, 3))
    (k : ev_go p l e R s m args below meth c Q D tys T I b0 nL ad w0 Wr γ (pc + 3, L, S.map (ev_hs [(j, f)]), ((2, j, f), v, ev_pg FS j f tv) :: ev_hf [(j, f)] FS, RS)) : ev_go p l e R s m args below meth c Q D tys T I b0 nL ad w0 Wr γ (pc, L, (.inl v, tv) :: (.inr (j + 2), t) :: S, FS, RS) := by
  intro H locs ls stk ws h
  dsimp only at h
  obtain ⟨h0, hl, hs, hF, hR, hw, hI, hP, hD, hS, hfr⟩ := h
  obtain ⟨v0, us, rfl, hv, htv, hs0⟩ := ev_stk_cons hs
  obtain ⟨x, ys, rfl, hx, -, hs1⟩ := ev_stk_cons hs0
  obtain ⟨rfl, hj⟩ : x = .ref (ad j) ∧ j < T.length := hx
  obtain ⟨e0, g1, vs, rfl, g2⟩ := hw.2 j _ ht
  obtain ⟨old, g3, zo, rfl, g4⟩ := en_vs_get g2 ha
  obtain ⟨q1, q2⟩ := en_put_ok hput hv
  have hc := en_cls ci r hr0
  have hlen : f < vs.length := (List.getElem?_eq_some_iff.mp g3).1
  have hvb := en_le_ok hle hv
  obtain ⟨z, rfl, hz⟩ := hv
  refine va_put (C := r.1) (T := r.2.1) (N := r.2.2) C.1 C.2.1 C.2.2.2.2.1 (en_cls_ws hr0) (en_tyX ci) hc.2.1 hc.2.2 C.2.2.2.1 C.2.2.2.2.2.1 hP hD hS j g1 hr0 f hfN (C.2.2.2.2.1 _ (en_fl_w hf hr0)) (fun x h => h) hfin (hc.2.1 f hfN) q1 q2 hlen hd (fun H1 locs1 hP1 hD1 hS1 => ?_)
  have hfe : ev_fe [(j, f)] j (.inr (ci, vs)) (.inr (ci, vs.set f (.int z))) := ⟨rfl, by dsimp only; rw [List.length_set], fun f' hf' => by
    have hne : f' ≠ f := fun e => hf' (by rw [e]; exact List.mem_cons_self)
    dsimp only
    rw [List.getElem?_set_ne (Ne.symm hne)]⟩
  have hf1 := ev_fr_set g1 hfe
  refine k H1 locs1 ls ys _ ⟨h0, hl, ev_hs_ok hf1 hs1, fun g hg => ?_, hR, ev_w_set hw ht ⟨_, rfl, ev_vs_fe g2 ha hvb⟩, hI0 [(j, f)] _ _ (fun q hq => by rw [List.mem_singleton.mp hq]; exact hsp) hf1 hI, hP1, hD1, hS1, hfr.tr hf1 (fun q hq => by rw [List.mem_singleton.mp hq]; exact hwr)⟩
  rcases List.mem_cons.mp hg with rfl | hg
  · refine ⟨z, ⟨_, _, _, List.getElem?_set_self (List.getElem?_eq_some_iff.mp g1).1, List.getElem?_set_self hlen⟩, hz, ?_⟩
    dsimp only
    unfold ev_pg
    split
    · rename_i hb
      simp only [Bool.and_eq_true, beq_iff_eq] at hb
      split
      · rename_i u hu
        rcases htv with h9 | ⟨i1, y1, e1, e2, e3⟩
        · dsimp only at h9
          rw [hb.1] at h9
          cases h9
        · cases e1
          dsimp only at e2 e3
          rw [hb.1, hb.2.1, hb.2.2] at e2
          obtain ⟨y2, d1, d2, d3⟩ := ev_lk_ok hF hu
          have e := ev_loc_one d1 e2
          subst e
          exact ev_gs_ok d3 e3
      · trivial
    · trivial
  · exact ev_hf_ok hf1 hF g hg
def ev_ix (t : ev_t) : Option Nat := match t.1 == 1 && decide (t.2.2.2 = 0) with
  | true => some t.2.1
  | false => none
def ev_rq (FS : List ev_f) (j : Nat) (t : ev_t) (b : Int × Int) : ev_s := match ev_ix t with
  | some i => (.inl (ev_fq FS (3, j, i) b), (3, j, i, 0))
  | none => (.inl b, ev_nt)
theorem ev_ix_ok {ls : Array Slot} {ws : va_W} {t : ev_t} {i : Nat} {y : Int32} (h : ev_ix t = some i) (ht : ev_tag ls ws t (.int y)) : ls[i]? = some (.val (.int y)) := by
  unfold ev_ix at h
  split at h
  · rename_i hb
    simp only [Bool.and_eq_true, beq_iff_eq, decide_eq_true_eq] at hb
    cases h
    rcases ht with h0 | ⟨u, z, e1, e2, e3⟩
    · rw [hb.1] at h0; cases h0
    · cases e1
      rw [hb.1] at e2
      have e2 : ls[t.2.1]? = some (.val (.int z)) := e2
      have e : y = z := (fa_eq _ _).mpr (by omega)
      rw [e]
      exact e2
  · cases h
theorem fs_ald {j : Nat} {t : Nat × Nat × Int × Int} {q : Int × Int} {tq ta : ev_t} (ht : T[j]? = some (.inl t)) (h3 : t.1 ≠ 3) (h0 : 0 ≤ q.1) (h1 : q.2 < t.2.1)
    (row : ∀ (H : Heap) (locs : List Loc) (ls : Array Slot) (rest : List Value) (ws : va_W) (a : Nat) (cA : ClassId) (f : Nat → Int32) (i : Int32), va_P D vwCl ws H → ws[j]? = some (a, .inl (cA, t.2.1, .inl f)) → tys[t.1]? = some (cA, en_ty t.1) → vp_in i t.2.1 → W p l e R s m args below meth c H locs 0 0 Q (F0 m (pc + 1) ls (.int (f i.toNatClampNeg) :: rest)) → W p l e R s m args below meth c H locs 0 0 Q (F0 m pc ls (.int i :: .ref a :: rest)))
    (k : ev_go p l e R s m args below meth c Q D tys T I b0 nL ad w0 Wr γ (pc + 1, L, ev_rq FS j tq t.2.2 :: S, FS, RS)) : ev_go p l e R s m args below meth c Q D tys T I b0 nL ad w0 Wr γ (pc, L, (.inl q, tq) :: (.inr (j + 2), ta) :: S, FS, RS) := by
  intro H locs ls stk ws h
  dsimp only at h
  obtain ⟨hz, hl, hs, hF, hR, hw, hI, hP, hD, hS, hfr⟩ := h
  obtain ⟨x0, ys, rfl, ⟨i, rfl, hi⟩, hti, hs1⟩ := ev_stk_cons hs
  obtain ⟨x, zs, rfl, hx, -, hs2⟩ := ev_stk_cons hs1
  obtain ⟨rfl, hj⟩ : x = .ref (ad j) ∧ j < T.length := hx
  obtain ⟨e0, g1, ge⟩ := hw.2 j _ ht
  unfold ev_c at ge
  dsimp only at ge
  rw [if_neg h3] at ge
  obtain ⟨cA, f, rfl, g2, g3⟩ := ge
  have i0 : 0 ≤ i.toInt := by have := hi.1; omega
  have i1 : i.toInt < t.2.1 := by have := hi.2; omega
  refine row H locs ls zs ws (ad j) cA f i hP g1 g2 (vp_in_iff.mpr ⟨i0, i1⟩) (k H locs ls (.int (f i.toNatClampNeg) :: zs) ws ⟨hz, hl, ⟨?_, hs2⟩, hF, hR, hw, hI, hP, hD, hS, hfr⟩)
  unfold ev_rq
  split
  · rename_i b hb
    have hloc : ev_loc ls ws (3, j, b) (f i.toNatClampNeg) := ⟨_, _, _, _, i, g1, ev_ix_ok hb hti, i0, i1, rfl⟩
    exact ⟨⟨_, rfl, ev_fq_ok hF hloc (g3 _ (en_clamp i0 i1))⟩, Or.inr ⟨_, _, rfl, hloc, by dsimp only; omega⟩⟩
  · exact ⟨⟨_, rfl, g3 _ (en_clamp i0 i1)⟩, ev_tag0⟩
def ev_sf (FS : List ev_f) (j : Nat) (t : ev_t) (v : Int × Int) : List ev_f := match ev_ix t with
  | some i => ((3, j, i), v, none) :: ev_hf [(j, 999)] FS
  | none => ev_hf [(j, 999)] FS
theorem fs_ast (hI0 : ev_hI I sp) {j : Nat} {t : Nat × Nat × Int × Int} {q v : Int × Int} {tv tq ta : ev_t} (ht : T[j]? = some (.inl t)) (h3 : t.1 ≠ 3) (h0 : 0 ≤ q.1) (h1 : q.2 < t.2.1) (hv0 : t.2.2.1 ≤ v.1) (hv1 : v.2 ≤ t.2.2.2) (hwr : (j, 999) ∈ Wr) (hsp : (j, 999) ∉ sp)
    (row : ∀ (H : Heap) (locs : List Loc) (ls : Array Slot) (rest : List Value) (ws : va_W) (a : Nat) (cA : ClassId) (f : Nat → Int32) (i x : Int32), en_in v x → va_P D vwCl ws H → va_D (fun q => b0 ≤ q) ws → va_S (fun q => b0 ≤ q) s.heap H locs → ws[j]? = some (a, .inl (cA, t.2.1, .inl f)) → tys[t.1]? = some (cA, en_ty t.1) → vp_in i t.2.1 →
      (∀ (H1 : Heap) (locs1 : List Loc), va_P D vwCl (ws.set j (a, .inl (cA, t.2.1, .inl (upd f i.toNatClampNeg x)))) H1 → va_D (fun q => b0 ≤ q) (ws.set j (a, .inl (cA, t.2.1, .inl (upd f i.toNatClampNeg x)))) → va_S (fun q => b0 ≤ q) s.heap H1 locs1 → W p l e R s m args below meth c H1 locs1 0 0 Q (F0 m (pc + 1) ls rest)) → W p l e R s m args below meth c H locs 0 0 Q (F0 m pc ls (.int x :: .int i :: .ref a :: rest)))
    (k : ev_go p l e R s m args below meth c Q D tys T I b0 nL ad w0 Wr γ (pc + 1, L, S.map (ev_hs [(j, 999)]), ev_sf FS j tq v, RS)) : ev_go p l e R s m args below meth c Q D tys T I b0 nL ad w0 Wr γ (pc, L, (.inl v, tv) :: (.inl q, tq) :: (.inr (j + 2), ta) :: S, FS, RS) := by
  intro H locs ls stk ws h
  dsimp only at h
  obtain ⟨hz, hl, hs, hF, hR, hw, hI, hP, hD, hS, hfr⟩ := h
  obtain ⟨x9, us, rfl, ⟨x, rfl, hx⟩, -, hs0⟩ := ev_stk_cons hs
  obtain ⟨x0, ys, rfl, ⟨i, rfl, hi⟩, hti, hs1⟩ := ev_stk_cons hs0
  obtain ⟨xa, zs, rfl, hxa, -, hs2⟩ := ev_stk_cons hs1
  obtain ⟨rfl, hj⟩ : xa = .ref (ad j) ∧ j < T.length := hxa
  obtain ⟨e0, g1, ge⟩ := hw.2 j _ ht
  have ge0 := ge
  unfold ev_c at ge
  dsimp only at ge
  rw [if_neg h3] at ge
  obtain ⟨cA, f, rfl, g2, g3⟩ := ge
  have i0 : 0 ≤ i.toInt := by have := hi.1; omega
  have i1 : i.toInt < t.2.1 := by have := hi.2; omega
  refine row H locs ls zs ws (ad j) cA f i x hx hP hD hS g1 g2 (vp_in_iff.mpr ⟨i0, i1⟩) (fun H1 locs1 hP1 hD1 hS1 => ?_)
  have hf1 : ev_fr [(j, 999)] ws (ws.set j (ad j, .inl (cA, t.2.1, .inl (upd f i.toNatClampNeg x)))) := ev_fr_set g1 (Or.inl List.mem_cons_self)
  have hc : ev_c tys T.length ad (.inl t) (.inl (cA, t.2.1, .inl (upd f i.toNatClampNeg x))) := by
    unfold ev_c
    dsimp only
    rw [if_neg h3]
    refine ⟨cA, _, rfl, g2, fun k hk => ?_⟩
    unfold upd
    split
    · exact ⟨by have := hx.1; omega, by have := hx.2; omega⟩
    · exact g3 k hk
  refine k H1 locs1 ls zs _ ⟨hz, hl, ev_hs_ok hf1 hs2, fun g hg => ?_, hR, ev_w_set hw ht hc, hI0 [(j, 999)] _ _ (fun q hq => by rw [List.mem_singleton.mp hq]; exact hsp) hf1 hI, hP1, hD1, hS1, hfr.tr hf1 (fun q hq => by rw [List.mem_singleton.mp hq]; exact hwr)⟩
  dsimp only at hg
  unfold ev_sf at hg
  split at hg
  · rename_i b hb
    rcases List.mem_cons.mp hg with rfl | hg
    · refine ⟨x, ⟨_, _, _, _, i, List.getElem?_set_self (List.getElem?_eq_some_iff.mp g1).1, ev_ix_ok hb hti, i0, i1, ?_⟩, hx, trivial⟩
      unfold upd
      rw [if_pos rfl]
    · exact ev_hf_ok hf1 hF g hg
  · exact ev_hf_ok hf1 hF g hg
theorem fs_alen (C : ev_cx p s m args meth c cc nL o D tys aK aV b0) {j : Nat} {t : Nat × Nat × Int × Int} {ta : ev_t} (ht : T[j]? = some (.inl t)) (h3 : t.1 ≠ 3) (hn : t.2.1 < 2147483648) (hd : decode cc pc = .ok (.arraylength, 1)) (k : ev_go p l e R s m args below meth c Q D tys T I b0 nL ad w0 Wr γ (pc + 1, L, (.inl ((t.2.1 : Int), (t.2.1 : Int)), ev_nt) :: S, FS, RS)) : ev_go p l e R s m args below meth c Q D tys T I b0 nL ad w0 Wr γ (pc, L, (.inr (j + 2), ta) :: S, FS, RS) := by
  intro H locs ls stk ws h
  dsimp only at h
  obtain ⟨hz, hl, hs, hF, hR, hw, hI, hP, hD, hS, hfr⟩ := h
  obtain ⟨x, ys, rfl, hx, -, hs1⟩ := ev_stk_cons hs
  obtain ⟨rfl, hj⟩ : x = .ref (ad j) ∧ j < T.length := hx
  obtain ⟨e0, g1, ge⟩ := hw.2 j _ ht
  unfold ev_c at ge
  dsimp only at ge
  rw [if_neg h3] at ge
  obtain ⟨cA, f, rfl, g2, g3⟩ := ge
  refine va_alen C.1 C.2.1 C.2.2.2.2.2.1 hP j t.1 g1 g2 (v := nI t.2.1) rfl hd ?_
  exact k H locs ls (.int (nI t.2.1) :: ys) ws ⟨hz, hl, ⟨⟨⟨_, rfl, by rw [nI_toInt hn]; exact ⟨Int.le_refl _, Int.le_refl _⟩⟩, ev_tag0⟩, hs1⟩, hF, hR, hw, hI, hP, hD, hS, hfr⟩
theorem fs_aald (C : ev_cx p s m args meth c cc nL o D tys aK aV b0) {j n : Nat} {t : Nat × Nat × Int × Int} {ti ta : ev_t} (ht : T[j]? = some (.inl t)) (h3 : t.1 = 3) (hn : n < t.2.1) (hd : decode cc pc = .ok (.aaload, 1)) (k : ev_go p l e R s m args below meth c Q D tys T I b0 nL ad w0 Wr γ (pc + 1, L, (.inr (t.2.2.1.toNat + n + 2), ev_nt) :: S, FS, RS)) : ev_go p l e R s m args below meth c Q D tys T I b0 nL ad w0 Wr γ (pc, L, (.inl ((n : Int), (n : Int)), ti) :: (.inr (j + 2), ta) :: S, FS, RS) := by
  intro H locs ls stk ws h
  dsimp only at h
  obtain ⟨hz, hl, hs, hF, hR, hw, hI, hP, hD, hS, hfr⟩ := h
  obtain ⟨x0, ys, rfl, ⟨i, rfl, hi⟩, hti, hs1⟩ := ev_stk_cons hs
  obtain ⟨x, zs, rfl, hx, -, hs2⟩ := ev_stk_cons hs1
  obtain ⟨rfl, hj⟩ : x = .ref (ad j) ∧ j < T.length := hx
  obtain ⟨e0, g1, ge⟩ := hw.2 j _ ht
  unfold ev_c at ge
  dsimp only at ge
  rw [if_pos h3] at ge
  obtain ⟨cA, f, rfl, g2, g3⟩ := ge
  have hi1 : (n : Int) ≤ i.toInt := hi.1
  have hi2 : i.toInt ≤ (n : Int) := hi.2
  have hin : vp_in i t.2.1 := vp_in_iff.mpr ⟨by omega, by omega⟩
  have hc : i.toNatClampNeg = n := by show i.toInt.toNat = n; omega
  obtain ⟨e1, e2⟩ := g3 n hn
  have hlt : i.toNatClampNeg < t.2.1 := by omega
  refine W.aald (v := va_rf (f i.toNatClampNeg)) (ty := .array .int) C.1 C.2.1 (hP j _ g1) ((C.2.2.2.2.2.1.2 3 _ g2).1 t.2.1 (fun j => va_rf (f j))) rfl (fun q => by cases q) (by show ¬ (i < 0 ∨ (arrV _ _ _).slots.size ≤ _); rw [arrV_size]; exact hin) (by show (arrV _ _ _).slots[_]? = _; rw [arrV_read _ _ hlt]) rfl rfl hd ?_
  rw [hc, e1]
  exact k H locs ls (.ref (ad (t.2.2.1.toNat + n)) :: zs) ws ⟨hz, hl, ⟨⟨⟨rfl, e2⟩, ev_tag0⟩, hs2⟩, hF, hR, hw, hI, hP, hD, hS, hfr⟩
/-- a split: once for each piece -/
theorem fs_split {n : Nat} {q : Int × Int} {t : ev_t} {cuts : List Int} (hn : S[n]? = some (.inl q, t)) (k : ∀ u ∈ ev_cut q cuts, ev_go p l e R s m args below meth c Q D tys T I b0 nL ad w0 Wr γ (pc, (ev_rf L FS t u).1, S.set n (.inl u, t), (ev_rf L FS t u).2, RS)) : ev_go p l e R s m args below meth c Q D tys T I b0 nL ad w0 Wr γ (pc, L, S, FS, RS) := by
  intro H locs ls stk ws h
  dsimp only at h
  obtain ⟨⟨z1, z2, z3⟩, hl, hs, hF, hR, hr⟩ := h
  have key : ∀ (n : Nat) (S : List ev_s) (stk : List Value), ev_stk T.length ad ls ws S stk → S[n]? = some (.inl q, t) → ∃ x : Int32, en_in q x ∧ ev_tag ls ws t (.int x) ∧ ∀ u : Int × Int, en_in u x → ev_stk T.length ad ls ws (S.set n (.inl u, t)) stk := by
    intro n
    induction n with
    | zero =>
      intro S stk hs hn
      cases S with
      | nil => simp at hn
      | cons a S =>
        rw [List.getElem?_cons_zero] at hn
        cases hn
        obtain ⟨x, ys, rfl, ⟨v, rfl, hv⟩, tv, hs1⟩ := ev_stk_cons hs
        exact ⟨v, hv, tv, fun u hu => ⟨⟨⟨v, rfl, hu⟩, tv⟩, hs1⟩⟩
    | succ n ih =>
      intro S stk hs hn
      cases S with
      | nil => simp at hn
      | cons a S =>
        rw [List.getElem?_cons_succ] at hn
        obtain ⟨x, ys, rfl, hx, tx, hs1⟩ := ev_stk_cons hs
        obtain ⟨v, hv, tv, hk⟩ := ih S ys hs1 hn
        exact ⟨v, hv, tv, fun u hu => ⟨⟨hx, tx⟩, hk u hu⟩⟩
  obtain ⟨v, hv, tv, hk⟩ := key n S stk hs hn
  obtain ⟨u, hu, huv⟩ := ev_cut_ok (cs := cuts) hv
  obtain ⟨a1, a2, a3⟩ := ev_rf_ok hl hF tv huv
  exact k u hu H locs ls stk ws ⟨⟨z1, z2, by dsimp only; rw [a1]; exact z3⟩, a2, hk u huv, a3, hR, hr⟩
end EVH
end
section
def en_mo : List Nat := [8, 7, 1, 3, 0, 6, 10, 4, 2, 5, 8, 8, 8, 7, 8, 7, 11, 0, 0, 7, 7, 7, 0, 0, 0, 0, 7, 7, 7, 0, 11, 0, 0, 0, 0, 0, 7, 7, 0, 7, 8, 3, 3, 3, 3, 7, 3, 3, 3, 3, 3, 3, 8, 3, 3, 6, 5, 8, 8, 1, 1, 6, 6, 6, 4, 1, 1, 3, 1, 1, 8, 1, 3, 1, 1, 6, 1, 1, 1, 1, 3, 1, 1, 1, 6, 1, 0, 0, 0, 0, 0, 1, 1, 1, 0, 6, 1, 1, 4, 8, 8, 8, 8, 8, 8, 8, 8, 3, 8, 8, 8, 2, 2, 2, 8, 8, 8, 8, 8, 8, 8, 2, 2, 8, 5, 8, 8, 6, 8, 8, 8, 8, 8, 3, 6, 9, 9, 9, 9, 9, 9, 9, 9, 9, 9, 9, 9, 9, 9, 9, 9, 9, 9, 9, 9, 9, 9, 9, 9, 9, 9, 9, 9, 9, 9, 9, 9, 9, 9, 9, 9, 9, 9, 9, 9, 9, 9, 9, 9, 9, 9, 9, 9, 9, 9, 9, 9, 9, 9, 9, 9, 9, 9, 9, 9, 9, 9, 9, 9, 9, 9, 9, 9, 9, 9, 9, 9, 9, 9, 9, 9, 9, 9, 9, 9, 9, 9, 9, 9, 9, 9, 9, 9, 9, 9, 9, 9, 9, 9, 9, 9, 9, 9, 9, 9, 9, 9, 9, 9, 9, 9, 9]
theorem en_mo_all : en_ms.length = en_mo.length ∧ (en_ms.zip en_mo).all (fun q => decide (en_nm q.2 = q.1.1.cls)) = true := by decide +kernel
theorem en_mo_ok {i ci : Nat} {r : MethodName × ByteArray × Nat × Option FieldType} (hr : en_ms[i]? = some r) (hc : en_mo[i]? = some ci) : en_nm ci = r.1.cls := by
  have h := List.all_eq_true.mp en_mo_all.2 (r, ci) (List.mem_of_getElem? (i := i) (by rw [List.getElem?_zip_eq_some]; exact ⟨hr, hc⟩))
  simpa using h
theorem en_nm_cl {ci : Nat} {r : vw_C} (h : vwCl[ci]? = some r) : r.1 = en_nm ci := by
  match ci, h with
  | 0, h => cases h; rfl
  | 1, h => cases h; rfl
  | 2, h => cases h; rfl
  | 3, h => cases h; rfl
  | 4, h => cases h; rfl
  | 5, h => cases h; rfl
  | 6, h => cases h; rfl
  | 7, h => cases h; rfl
  | 8, h => cases h; rfl
  | 9, h => cases h; rfl
  | k + 10, h => simp [vwCl] at h
theorem en_v_int {N M : Nat} {ad ad' : Nat → Nat} {r : en_V} {x : Int32} (h : en_v N ad r (.int x)) : en_v M ad' r (.int x) := by
  match r, h with
  | .inl q, h => exact h
  | .inr 0, h => rcases h with h | ⟨a, h⟩ <;> cases h
  | .inr 1, h => cases h
  | .inr (k + 2), h => cases h.1
def en_isI (a : en_V) : Bool := match a with
  | .inl _ => true
  | _ => false
theorem en_vs_ints {N M : Nat} {ad ad' : Nat → Nat} : ∀ {as : List en_V} {xs : List Value}, as.all en_isI = true → en_vs N ad as xs → en_vs M ad' as xs
  | [], [], _, _ => trivial
  | a :: as, x :: xs, h, hx => by
    simp only [List.all_cons, Bool.and_eq_true] at h
    refine ⟨?_, en_vs_ints h.2 hx.2⟩
    match a, h.1, hx.1 with
    | .inl q, _, hx => exact hx
  | [], _ :: _, _, h => h.elim
  | _ :: _, [], _, h => h.elim
theorem en_codeG {mi : Nat} {r : MethodName × ByteArray × Nat × Option FieldType} (hr : en_ms[mi]? = some r) : GoodIn en_ws (Cond.code r.1 r.2.1 r.2.2.1 r.2.2.2 :: en_ws) := by
  intro w hw
  rcases List.mem_cons.mp hw with rfl | hw
  · exact ⟨en_ws_in (en_ms_in r (List.mem_of_getElem? hr)) rfl, good_of_word rfl⟩
  · exact ⟨hw, good_of_word (List.mem_filter.mp hw).2⟩
theorem en_clD {o i kd mi n : Nat} {r : MethodName × ByteArray × Nat × Option FieldType} (hf : en_find o i en_cl = some (kd, mi, n)) (hr : en_ms[mi]? = some r) : (r.1.cls ≠ "java/lang/invoke/MethodHandle" ∧ r.1.cls ≠ "java/lang/invoke/VarHandle" ∧ (parseMethodDescriptor r.1.desc).map (fun d => d.parameters.length) = some n) ∧ (3 ≤ kd → r.1.name = "<init>" ∧ r.2.2.2 = none) := by
  have h := en_cl_ok _ (en_find_mem hf)
  have e : en_cok (o, i, kd, mi, n) = (en_mok r && decide ((parseMethodDescriptor r.1.desc).map (fun d => d.parameters.length) = some n) && (decide (kd < 3) || (decide (r.1.name = "<init>") && decide (r.2.2.2 = none)))) := by
    show (match en_ms[mi]? with
      | some r => _
      | none => _) = _
    rw [hr]
  rw [e] at h
  simp only [en_mok, Bool.and_eq_true, Bool.or_eq_true, decide_eq_true_eq] at h
  obtain ⟨⟨⟨h1, h2⟩, h3⟩, h4⟩ := h
  exact ⟨⟨h1, h2, h3⟩, fun hk => by
    rcases h4 with h4 | h4
    · omega
    · exact h4⟩
theorem en_clW {o i kd mi n : Nat} {r : MethodName × ByteArray × Nat × Option FieldType} (hf : en_find o i en_cl = some (kd, mi, n)) (hr : en_ms[mi]? = some r) : ∀ w ∈ (match kd with
    | 0 => [.methodLink (en_nm o) i r.1, .instanceMethod r.1, .selects r.1.cls r.1 r.1, .initialized r.1.cls]
    | 1 => [.methodLink (en_nm o) i r.1, .static r.1, .initialized r.1.cls]
    | 2 => [.static r.1, .initialized r.1.cls]
    | 3 => [.methodLink (en_nm o) i r.1, .instanceMethod r.1, .initialized r.1.cls]
    | _ => [.instanceMethod r.1, .initialized r.1.cls] : List Cond), w ∈ lw_tbl := by
  intro w hw
  refine en_cl_in _ (en_find_mem hf) w ?_
  show w ∈ (match en_ms[mi]? with
      | some r => _
      | none => _)
  rw [hr]
  exact hw
theorem en_clN {o i kd mi n : Nat} {r : MethodName × ByteArray × Nat × Option FieldType} (hf : en_find o i en_cl = some (kd, mi, n)) (hr : en_ms[mi]? = some r) (hk : kd = 2 ∨ kd = 4) : Cond.methodLinkNest (en_nm o) i r.1 "LoadsAhead" ∈ en_nest := by
  unfold en_nest
  refine List.mem_flatMap.mpr ⟨(o, i, kd, mi, n), List.mem_filter.mpr ⟨en_find_mem hf, by rcases hk with rfl | rfl <;> rfl⟩, ?_⟩
  show _ ∈ (match en_ms[mi]? with
      | some r => _
      | none => _)
  rw [hr]
  exact List.mem_singleton.mpr rfl
abbrev ek : Type := Nat × List en_V × List ev_f × List (Nat × Nat) × List (Option en_V × List ev_f) × Nat × Nat
def ek_pre (κ : ek) : List ev_f := κ.2.2.1
def ek_wr (κ : ek) : List (Nat × Nat) := κ.2.2.2.1
def ek_out (κ : ek) : List (Option en_V × List ev_f) := κ.2.2.2.2.1
def ek_fr (κ : ek) : Nat := κ.2.2.2.2.2.1
def ek_lo (κ : ek) : Nat := κ.2.2.2.2.2.2
def ek_rm (κ : ek) : Room := { frames := ek_fr κ, cells := 0, slots := 0, locals := ek_lo κ }
def ev_ff (w : va_W) (f : ev_f) : Prop := f.1.1 = 2 ∧ ev_fact (fun _ => 0) #[] w f
theorem ev_ff_use {w : va_W} {f : ev_f} {γ : Nat → Int} {ls : Array Slot} (h : ev_ff w f) : ∃ x : Int32, ev_loc ls w f.1 x ∧ en_in f.2.1 x := by
  obtain ⟨h1, x, h2, h3, -⟩ := h
  refine ⟨x, ?_, h3⟩
  obtain ⟨⟨k, a, b⟩, u, g⟩ := f
  dsimp only at h1
  subst h1
  exact h2
def ek_pc (D : va_G) (tys : List (ClassId × FieldType)) (aK aV b0 : Nat) (w0 : va_W) (as : List Value) : Array Value → State → Prop := va_Pc as (fun U => b0 ≤ U.heap.size ∧ va_P D vwCl w0 U.heap ∧ va_D (fun q => b0 ≤ q) w0 ∧ va_K D vwCl tys U ∧ en_X b0 aK aV U)
def ek_qc (D : va_G) (tys : List (ClassId × FieldType)) (T : en_T) (I : va_W → Prop) (b0 : Nat) (ad : Nat → Nat) (w0 : va_W) (κ : ek) (v : Bool) : Array Value → State → Outcome → State → Prop := match v with
  | true => va_Qi (S := va_W) (fun x w => ev_w tys T ad w ∧ I w ∧ ev_fr (ek_wr κ) w0 w ∧ ∃ u ∈ ek_out κ, (∃ a, u.1 = some a ∧ en_v T.length ad a (.int x)) ∧ ∀ f ∈ u.2, ev_ff w f) (fun w t => va_P D vwCl w t.heap ∧ va_D (fun q => b0 ≤ q) w) (fun q => b0 ≤ q)
  | false => va_Qv (S := va_W) (fun w => ev_w tys T ad w ∧ I w ∧ ev_fr (ek_wr κ) w0 w ∧ ∃ u ∈ ek_out κ, u.1 = none ∧ ∀ f ∈ u.2, ev_ff w f) (fun w t => va_P D vwCl w t.heap ∧ va_D (fun q => b0 ≤ q) w) (fun q => b0 ≤ q)
def ek_ok (l : Launch) (T : en_T) (I : va_W → Prop) (κ : ek) : Prop := ∀ r, en_ms[κ.1]? = some r → ∀ (D : va_G) (tys : List (ClassId × FieldType)) (aK aV b0 : Nat) (ad : Nat → Nat) (w0 : va_W) (as : List Value), en_vs T.length ad κ.2.1 as → ev_w tys T ad w0 → I w0 → (∀ f ∈ ek_pre κ, ev_ff w0 f) →
  Met l r.1 (Cond.code r.1 r.2.1 r.2.2.1 r.2.2.2 :: en_ws) (ek_rm κ) (ek_pc D tys aK aV b0 w0 as) (ek_qc D tys T I b0 ad w0 κ r.2.2.2.isSome) 0 0 (fun q => b0 ≤ q)
theorem ek_pc_blind {D : va_G} {tys : List (ClassId × FieldType)} {aK aV b0 : Nat} {w0 : va_W} {as : List Value} : FrameBlind (ek_pc D tys aK aV b0 w0 as) := by
  intro a U g mk h
  obtain ⟨h1, h2, h3, h4, h5, h6⟩ := h
  exact ⟨h1, h2, h3, h4, va_K.moved (u := U) (U := U.calling g mk a) (Vm.Alike.refl U.vm) h5, h6.call⟩
/-- the facts of an end, met with what is known -/
def ev_add (FS : List ev_f) : List ev_f → List ev_f
  | [] => FS
  | f :: fs => ev_rff (ev_add FS fs) f.1 f.2.1
theorem ev_add_ok {γ : Nat → Int} {ls : Array Slot} {ws : va_W} {FS : List ev_f} (hF : ∀ f ∈ FS, ev_fact γ ls ws f) : ∀ {gs : List ev_f}, (∀ f ∈ gs, ev_ff ws f) → ∀ f ∈ ev_add FS gs, ev_fact γ ls ws f
  | [], _ => hF
  | g :: gs, h => by
    obtain ⟨x, h1, h2⟩ := ev_ff_use (γ := γ) (ls := ls) (h g List.mem_cons_self)
    exact ev_rff_ok (ev_add_ok hF (fun f hf => h f (List.mem_cons_of_mem _ hf))) h1 h2
/-- a start's fact holds -/
def ev_has (T : en_T) (FS : List ev_f) (f : ev_f) : Bool := f.1.1 == 2 && (f.2.2.isNone && (match T[f.1.2.1]? with
  | some (.inr q) => match q.2[f.1.2.2]? with
    | some (.inl b) => decide (f.2.1.1 ≤ (ev_fq FS f.1 b).1) && decide ((ev_fq FS f.1 b).2 ≤ f.2.1.2)
    | _ => false
  | _ => false))
theorem ev_has_ok {γ : Nat → Int} {ls : Array Slot} {ws : va_W} {tys : List (ClassId × FieldType)} {T : en_T} {ad : Nat → Nat} {FS : List ev_f} {f : ev_f} (hF : ∀ f ∈ FS, ev_fact γ ls ws f) (hw : ev_w tys T ad ws) (h : ev_has T FS f = true) : ev_ff ws f := by
  obtain ⟨⟨k, a, b⟩, u, g⟩ := f
  unfold ev_has at h
  simp only [Bool.and_eq_true, beq_iff_eq, Option.isNone_iff_eq_none] at h
  obtain ⟨h1, h2, h3⟩ := h
  subst h1
  subst h2
  split at h3
  · rename_i q hq
    split at h3
    · rename_i c hc
      simp only [Bool.and_eq_true, decide_eq_true_eq] at h3
      obtain ⟨e0, g1, vs, rfl, g2⟩ := hw.2 a _ hq
      obtain ⟨v, g3, z, rfl, g4⟩ := en_vs_get g2 hc
      have hloc : ev_loc ls ws (2, a, b) z := ⟨_, _, _, g1, g3⟩
      have hb := ev_fq_ok hF hloc g4
      exact ⟨rfl, z, ⟨_, _, _, g1, g3⟩, ⟨Int.le_trans h3.1 hb.1, Int.le_trans hb.2 h3.2⟩, trivial⟩
    · cases h3
  · cases h3
theorem ev_stk_app {N : Nat} {ad : Nat → Nat} {ls : Array Slot} {ws : va_W} : ∀ {as bs : List ev_s} {zs : List Value}, ev_stk N ad ls ws (as ++ bs) zs → ∃ xs ys, zs = xs ++ ys ∧ en_vs N ad (as.map (fun a => a.1)) xs ∧ ev_stk N ad ls ws bs ys
  | [], bs, zs, h => ⟨[], zs, rfl, trivial, h⟩
  | a :: as, bs, z :: zs, h => by
    obtain ⟨xs, ys, h1, h2, h3⟩ := ev_stk_app (as := as) h.2
    exact ⟨z :: xs, ys, by rw [h1]; rfl, ⟨h.1.1, h2⟩, h3⟩
  | _ :: _, _, [], h => h.elim
theorem en_args2 {N : Nat} {ad : Nat → Nat} {A B : List en_V} {xs : List Value} (h : en_vs N ad A xs) (hA : en_all2 en_le A.reverse B = true) : en_vs N ad B xs.reverse := en_all2_vs hA (en_vs_rev h)
section EVC
variable {p : Program} {l : Launch} {e : Env} {R : Room} {s : State} {m : MethodId} {args : Array Value} {below : List Frame} {meth : Method} {c : Code} {Q : State → Prop} {cc : ByteArray} {D : va_G} {tys : List (ClassId × FieldType)} {T : en_T} {I : va_W → Prop} {sp : List (Nat × Nat)} {aK aV b0 nL o : Nat} {ad : Nat → Nat} {w0 : va_W} {Wr : List (Nat × Nat)} {γ : Nat → Int}
variable {pc : Nat} {L : List ev_l} {S : List ev_s} {FS : List ev_f} {RS : List ev_r} {κ : ek}
/-- behind a call: a state for each end -/
def ek_next (κ : ek) (pc : Nat) (L : List ev_l) (S : List ev_s) (FS : List ev_f) (RS : List ev_r) : List ev_S := (ek_out κ).map (fun u => (pc, L, (u.1.toList.map (fun a => (a, ev_nt))) ++ S.map (ev_hs (ek_wr κ)), ev_add (ev_hf (ek_wr κ) FS) u.2, RS))
theorem fs_after {H : Heap} {locs : List Loc} {ls : Array Slot} {stk rest : List Value} {ws : va_W} {av : Array Value} {v : Bool} (h : ev_at s D tys T I b0 nL ad w0 Wr γ L S FS RS H locs ls rest ws) (hwr : ∀ q ∈ ek_wr κ, q ∈ Wr)
    (hrun : va_Run p l e R s m args below meth c H locs 0 0 0 0 (F0 m pc ls stk) rest (ek_qc D tys T I b0 ad ws κ v av) (fun q => b0 ≤ q))
    (k : ∀ st ∈ ek_next κ (pc + 3) L S FS RS, ev_go p l e R s m args below meth c Q D tys T I b0 nL ad w0 Wr γ st) : W p l e R s m args below meth c H locs 0 0 Q (F0 m pc ls stk) := by
  obtain ⟨hz, hl, hs, hF, hR, hw, hI, hP, hD, hS, hfr⟩ := h
  cases v with
  | false =>
    refine va_callv (a := av) hrun hS (fun q _ h => h) (fun q h => h) (fun w t H1 locs1 ht _ hpost hB _ _ hS1 => ?_)
    obtain ⟨p1, p2, p3, u, hu, hu1, hu2⟩ := hpost
    subst ht
    refine k _ (List.mem_map.mpr ⟨u, hu, rfl⟩) t.heap locs1 ls rest w ⟨hz, hl, ?_, ev_add_ok (ev_hf_ok p3 hF) hu2, hR, p1, p2, hB.1, hB.2, hS1, hfr.tr p3 hwr⟩
    dsimp only
    rw [hu1]
    exact ev_hs_ok p3 hs
  | true =>
    refine va_calli (a := av) hrun hS (fun q _ h => h) (fun q h => h) (fun x w t H1 locs1 ht _ hpost hB _ _ hS1 => ?_)
    obtain ⟨p1, p2, p3, u, hu, ⟨a, hu1, hu3⟩, hu2⟩ := hpost
    subst ht
    refine k _ (List.mem_map.mpr ⟨u, hu, rfl⟩) t.heap locs1 ls (.int x :: rest) w ⟨hz, hl, ?_, ev_add_ok (ev_hf_ok p3 hF) hu2, hR, p1, p2, hB.1, hB.2, hS1, hfr.tr p3 hwr⟩
    dsimp only
    rw [hu1]
    exact ⟨⟨hu3, ev_tag0⟩, ev_hs_ok p3 hs⟩
theorem ek_pre_at (C : ev_cx p s m args meth c cc nL o D tys aK aV b0) {H : Heap} {locs : List Loc} {ws : va_W} {as : List Value} (hP : va_P D vwCl ws H) (hD : va_D (fun q => b0 ≤ q) ws) (hS : va_S (fun q => b0 ≤ q) s.heap H locs) : ∀ U : State, U.heap = H → s.WarmedH U.vm → ek_pc D tys aK aV b0 ws as as.toArray U := by
  intro U hU hw
  refine ⟨rfl, ?_, by rw [hU]; exact hP, hD, va_K.moved hw.alike C.2.2.2.2.2.1, C.2.2.2.2.2.2.2.1.go (Nat.le_refl _) hS hU hw⟩
  rw [hU]
  exact Nat.le_trans C.2.2.2.2.2.2.1 hS.1
theorem fs_callV (C : ev_cx p s m args meth c cc nL o D tys aK aV b0) {i mi n j ci : Nat} {r : MethodName × ByteArray × Nat × Option FieldType} {A : List ev_s} {fs : List en_V} {rc : vw_C} {tj : ev_t} (hf : en_find o i en_cl = some (0, mi, n)) (hr : en_ms[mi]? = some r) (hκ : ek_ok l T I κ) (hm : κ.1 = mi) (hA : A.length = n) (hav : en_all2 en_le (.inr (j + 2) :: (A.map (fun a => a.1)).reverse) κ.2.1 = true) (hpre : (ek_pre κ).all (ev_has T FS) = true) (hwr : ∀ q ∈ ek_wr κ, q ∈ Wr)
    (hj : T[j]? = some (.inr (ci, fs))) (hrc : vwCl[ci]? = some rc) (hmo : en_mo[mi]? = some ci) (hfr : ek_fr κ + 1 ≤ R.frames) (hlo : 8 + (r.2.2.1 + 11) + ek_lo κ ≤ R.locals) (hS8 : S.length ≤ 8) (hd : decode cc pc = .ok (.invokevirtual i, 3))
    (k : ∀ st ∈ ek_next κ (pc + 3) L S FS RS, ev_go p l e R s m args below meth c Q D tys T I b0 nL ad w0 Wr γ st) : ev_go p l e R s m args below meth c Q D tys T I b0 nL ad w0 Wr γ (pc, L, A ++ (.inr (j + 2), tj) :: S, FS, RS) := by
  intro H locs ls stk ws h
  dsimp only at h
  obtain ⟨hz, hl, hs, hF, hR, hw, hI, hP, hD, hS, hfr0⟩ := h
  obtain ⟨xs, us, rfl, hs1, hs2⟩ := ev_stk_app hs
  obtain ⟨x, ys, rfl, hx, -, hs3⟩ := ev_stk_cons hs2
  have hx0 := hx
  obtain ⟨rfl, hjl⟩ : x = .ref (ad j) ∧ j < T.length := hx
  subst hm
  obtain ⟨e0, g1, vs, rfl, g2⟩ := hw.2 j _ hj
  have hM := hκ r hr D tys aK aV b0 ad ws (Value.ref (ad j) :: xs.reverse) (en_all2_vs hav ⟨hx0, en_vs_rev hs1⟩) hw hI (fun f hf => ev_has_ok hF hw (List.all_eq_true.mp hpre f hf))
  have hDd := (en_clD hf hr).1
  have hww := en_clW hf hr
  have hts := C.2.2.2.2.1
  have hB := callB_of (own := en_nm o) (index := i) (R := R) (rm := ek_rm κ) (mc := 0) (ms := 0) n hts (en_codeG hr) rfl rfl rfl (hts _ (en_ws_in (hww (.initialized r.1.cls) (by simp)) rfl)) (hts _ (en_ws_in (hww (.methodLink (en_nm o) i r.1) (by simp)) rfl)) hDd ⟨hfr, hlo⟩
  have hrecv := va_recv C.2.2.2.2.2.1 hP hrc g1
  rw [(en_nm_cl hrc).trans (en_mo_ok hr hmo)] at hrecv
  exact fs_after ⟨hz, hl, hs3, hF, hR, hw, hI, hP, hD, hS, hfr0⟩ hwr (va_runV (C := r.1.cls) (As := xs.reverse) (rest := ys) ⟨C.1, C.2.1, C.2.2.1, C.2.2.2.1, hts⟩ hM ⟨hB, hts _ (en_ws_in (hww (.instanceMethod r.1) (by simp)) rfl), hts _ (en_ws_in (hww (.selects r.1.cls r.1 r.1) (by simp)) rfl)⟩ ⟨ek_pc_blind, hrecv, ek_pre_at C hP hD hS⟩ rfl (by rw [List.length_reverse, ← en_vs_len hs1, List.length_map]; exact hA) hz.1 (by rw [List.reverse_reverse]) (lv_room (by rw [ev_stk_len hs3]; exact hS8)) hd ⟨Nat.zero_le _, Nat.zero_le _⟩) k
theorem fs_callS (C : ev_cx p s m args meth c cc nL o D tys aK aV b0) {i mi n kd : Nat} {r : MethodName × ByteArray × Nat × Option FieldType} {A : List ev_s} (hf : en_find o i en_cl = some (kd, mi, n)) (hkd : kd = 1 ∨ kd = 2) (hr : en_ms[mi]? = some r) (hκ : ek_ok l T I κ) (hm : κ.1 = mi) (hA : A.length = n) (hav : en_all2 en_le (A.map (fun a => a.1)).reverse κ.2.1 = true) (hpre : (ek_pre κ).all (ev_has T FS) = true) (hwr : ∀ q ∈ ek_wr κ, q ∈ Wr)
    (hfr : ek_fr κ + 1 ≤ R.frames) (hlo : 8 + (r.2.2.1 + 11) + ek_lo κ ≤ R.locals) (hS8 : S.length ≤ 8) (hd : decode cc pc = .ok (.invokestatic i, 3))
    (k : ∀ st ∈ ek_next κ (pc + 3) L S FS RS, ev_go p l e R s m args below meth c Q D tys T I b0 nL ad w0 Wr γ st) : ev_go p l e R s m args below meth c Q D tys T I b0 nL ad w0 Wr γ (pc, L, A ++ S, FS, RS) := by
  intro H locs ls stk ws h
  dsimp only at h
  obtain ⟨hz, hl, hs, hF, hR, hw, hI, hP, hD, hS, hfr0⟩ := h
  obtain ⟨xs, ys, rfl, hs1, hs3⟩ := ev_stk_app hs
  subst hm
  have hM := hκ r hr D tys aK aV b0 ad ws xs.reverse (en_args2 hs1 hav) hw hI (fun f hf => ev_has_ok hF hw (List.all_eq_true.mp hpre f hf))
  have hDd := (en_clD hf hr).1
  have hww := en_clW hf hr
  have hts := C.2.2.2.2.1
  rcases hkd with rfl | rfl
  · have hB := callB_of (own := en_nm o) (index := i) (R := R) (rm := ek_rm κ) (mc := 0) (ms := 0) n hts (en_codeG hr) rfl rfl rfl (hts _ (en_ws_in (hww (.initialized r.1.cls) (by simp)) rfl)) (hts _ (en_ws_in (hww (.methodLink (en_nm o) i r.1) (by simp)) rfl)) hDd ⟨hfr, hlo⟩
    exact fs_after ⟨hz, hl, hs3, hF, hR, hw, hI, hP, hD, hS, hfr0⟩ hwr (va_runS (As := xs.reverse) (rest := ys) ⟨C.1, C.2.1, C.2.2.1, C.2.2.2.1, hts⟩ hM ⟨hB, hts _ (en_ws_in (hww (.static r.1) (by simp)) rfl)⟩ ⟨ek_pc_blind, ek_pre_at C hP hD hS⟩ rfl (by rw [List.length_reverse, ← en_vs_len hs1, List.length_map]; exact hA) hz.1 (by rw [List.reverse_reverse]) (lv_room (by rw [ev_stk_len hs3]; exact hS8)) hd ⟨Nat.zero_le _, Nat.zero_le _⟩) k
  · have hB := va_cnB (own := en_nm o) (host := "LoadsAhead") (index := i) (R := R) (rm := ek_rm κ) (mc := 0) (ms := 0) n hts (en_codeG hr) rfl rfl rfl (C.2.2.2.2.2.2.2.1.1 _ (en_clN hf hr (Or.inl rfl))) (hts _ (en_ws_in (hww (.initialized r.1.cls) (by simp)) rfl)) hDd ⟨hfr, hlo⟩
    exact fs_after ⟨hz, hl, hs3, hF, hR, hw, hI, hP, hD, hS, hfr0⟩ hwr (va_runSN (host := "LoadsAhead") (As := xs.reverse) (rest := ys) ⟨C.1, C.2.1, C.2.2.1, C.2.2.2.1, hts⟩ hM ⟨hB, hts _ (en_ws_in (hww (.static r.1) (by simp)) rfl), trivial⟩ ⟨ek_pc_blind, ek_pre_at C hP hD hS⟩ rfl (by rw [List.length_reverse, ← en_vs_len hs1, List.length_map]; exact hA) hz.1 (by rw [List.reverse_reverse]) (lv_room (by rw [ev_stk_len hs3]; exact hS8)) hd ⟨Nat.zero_le _, Nat.zero_le _⟩) k
theorem fs_copy (C : ev_cx p s m args meth c cc nL o D tys aK aV b0) (hI0 : ev_hI I sp) {i j0 j1 n : Nat} {t0 t1 : Nat × Nat × Int × Int} {u1 u2 u3 u4 u5 : ev_t} (hf : (o, i) ∈ en_ac) (ht0 : T[j0]? = some (.inl t0)) (ht1 : T[j1]? = some (.inl t1)) (hy0 : t0.1 = 0) (hy1 : t1.1 = 0) (hn0 : n ≤ t0.2.1) (hn1 : n ≤ t1.2.1) (hb0 : t1.2.2.1 ≤ t0.2.2.1) (hb1 : t0.2.2.2 ≤ t1.2.2.2) (hwr : (j1, 999) ∈ Wr) (hsp : (j1, 999) ∉ sp)
    (hfr : 1 ≤ R.frames) (hlo : S.length + (nativeFrameWords "java/lang/System" "arraycopy" 5 + 11) ≤ R.locals) (hd : decode cc pc = .ok (.invokestatic i, 3)) (k : ev_go p l e R s m args below meth c Q D tys T I b0 nL ad w0 Wr γ (pc + 3, L, S.map (ev_hs [(j1, 999)]), ev_hf [(j1, 999)] FS, RS)) :
    ev_go p l e R s m args below meth c Q D tys T I b0 nL ad w0 Wr γ (pc, L, (.inl ((n : Int), (n : Int)), u1) :: (.inl (0, 0), u2) :: (.inr (j1 + 2), u3) :: (.inl (0, 0), u4) :: (.inr (j0 + 2), u5) :: S, FS, RS) := by
  intro H locs ls stk ws h
  dsimp only at h
  obtain ⟨hz, hl, hs, hF, hR, hw, hI, hP, hD, hS, hfr0⟩ := h
  obtain ⟨x1, v1, rfl, ⟨nn, rfl, hnn⟩, -, hs1⟩ := ev_stk_cons hs
  obtain ⟨x2, v2, rfl, ⟨dp, rfl, hdp⟩, -, hs2⟩ := ev_stk_cons hs1
  obtain ⟨x3, v3, rfl, hx3, -, hs3⟩ := ev_stk_cons hs2
  obtain ⟨rfl, hj1⟩ : x3 = .ref (ad j1) ∧ j1 < T.length := hx3
  obtain ⟨x4, v4, rfl, ⟨sq, rfl, hsq⟩, -, hs4⟩ := ev_stk_cons hs3
  obtain ⟨x5, v5, rfl, hx5, -, hs5⟩ := ev_stk_cons hs4
  obtain ⟨rfl, hj0⟩ : x5 = .ref (ad j0) ∧ j0 < T.length := hx5
  obtain ⟨e0, g1, ge⟩ := hw.2 j0 _ ht0
  unfold ev_c at ge
  dsimp only at ge
  rw [if_neg (by rw [hy0]; decide)] at ge
  obtain ⟨cA, f, rfl, g2, g3⟩ := ge
  obtain ⟨e1, q1, qe⟩ := hw.2 j1 _ ht1
  unfold ev_c at qe
  dsimp only at qe
  rw [if_neg (by rw [hy1]; decide)] at qe
  obtain ⟨cB, g, rfl, q2, q3⟩ := qe
  dsimp only at hnn hdp hsq
  have z1 : sq.toInt = 0 := by omega
  have z2 : dp.toInt = 0 := by omega
  have z3 : nn.toInt = (n : Int) := by omega
  have c1 : sq.toNatClampNeg = 0 := by show sq.toInt.toNat = 0; omega
  have c2 : dp.toNatClampNeg = 0 := by show dp.toInt.toNat = 0; omega
  have c3 : nn.toNatClampNeg = n := by show nn.toInt.toNat = n; omega
  have hww : ∀ w ∈ ([.native arraycopyName, .static arraycopyName, .initialized "java/lang/System"] : List Cond), w ∈ en_ws := fun w hw => en_ws_in (en_ac_c w hw) (by
    rcases List.mem_cons.mp hw with rfl | hw
    · rfl
    · rcases List.mem_cons.mp hw with rfl | hw
      · rfl
      · rw [List.mem_singleton.mp hw]; rfl)
  refine va_copyi C.1 C.2.1 (C.2.2.1.trans hz.1.symm) C.2.2.2.1 (C.2.2.2.2.1 _ (en_ws_in (en_ac_in _ (List.mem_map.mpr ⟨(o, i), hf, rfl⟩)) rfl)) (C.2.2.2.2.1 _ (hww _ List.mem_cons_self)) (C.2.2.2.2.1 _ (hww _ (List.mem_cons_of_mem _ List.mem_cons_self))) (C.2.2.2.2.1 _ (hww _ (List.mem_cons_of_mem _ (List.mem_cons_of_mem _ List.mem_cons_self)))) C.2.2.2.2.2.1 hP hD hS j0 j1 t0.1 t1.1 g1 q1 (ty := .int) (by rw [g2, hy0]; rfl) (by rw [q2, hy1]; rfl) rfl
    (by rw [fa_lt]; show ¬ sq.toInt < 0; omega) (by rw [fa_lt]; show ¬ dp.toInt < 0; omega) (by rw [fa_lt]; show ¬ nn.toInt < 0; omega) (by omega) (by omega) (fun _ _ => rfl) hfr (by rw [ev_stk_len hs5]; exact hlo) hd (fun H1 locs1 hP1 hD1 hS1 => ?_)
  have hf1 : ev_fr [(j1, 999)] ws (ws.set j1 (ad j1, .inl (cB, t1.2.1, .inl (va_cpy f g sq.toNatClampNeg dp.toNatClampNeg nn.toNatClampNeg)))) := ev_fr_set q1 (Or.inl List.mem_cons_self)
  have hc : ev_c tys T.length ad (.inl t1) (.inl (cB, t1.2.1, .inl (va_cpy f g sq.toNatClampNeg dp.toNatClampNeg nn.toNatClampNeg))) := by
    unfold ev_c
    dsimp only
    rw [if_neg (by rw [hy1]; decide)]
    refine ⟨cB, _, rfl, q2, fun j hj => ?_⟩
    rw [c1, c2, c3]
    by_cases hjn : j < n
    · rw [pk_cpy_in (Nat.zero_le _) (by omega)]
      have h9 := g3 (0 + (j - 0)) (by omega)
      exact ⟨Int.le_trans hb0 h9.1, Int.le_trans h9.2 hb1⟩
    · rw [pk_cpy_out (Or.inr (by omega))]
      exact q3 j hj
  exact k H1 locs1 ls v5 _ ⟨hz, hl, ev_hs_ok hf1 hs5, ev_hf_ok hf1 hF, hR, ev_w_set hw ht1 hc, hI0 [(j1, 999)] _ _ (fun q hq => by rw [List.mem_singleton.mp hq]; exact hsp) hf1 hI, hP1, hD1, hS1, hfr0.tr hf1 (fun q hq => by rw [List.mem_singleton.mp hq]; exact hwr)⟩
end EVC
end
section
theorem fb_tm {x y : Int32} (hy : 0 < y.toInt) : (x - x / y * y).toInt = x.toInt.tmod y.toInt := by
  have h1 := fb_rng x
  have h2 := fb_rng y
  have e := Int.mul_tdiv_add_tmod x.toInt y.toInt
  have hc : y.toInt * x.toInt.tdiv y.toInt = x.toInt.tdiv y.toInt * y.toInt := Int.mul_comm _ _
  rcases Int.lt_or_le x.toInt 0 with hx | hx
  · have g1 : -y.toInt < x.toInt.tmod y.toInt := Int.lt_tmod_of_pos x.toInt hy
    have g2 : x.toInt.tmod y.toInt ≤ 0 := by
      have h := Int.tmod_nonneg (a := -x.toInt) y.toInt (by omega)
      rw [Int.neg_tmod] at h
      omega
    have g3 : x.toInt.tdiv y.toInt ≤ 0 := by
      have h := Int.tdiv_nonneg (a := -x.toInt) (b := y.toInt) (by omega) (by omega)
      rw [Int.neg_tdiv] at h
      omega
    have g4 : x.toInt ≤ x.toInt.tdiv y.toInt := by
      have h : -(x.toInt.tdiv y.toInt) * 1 ≤ -(x.toInt.tdiv y.toInt) * y.toInt := Int.mul_le_mul_of_nonneg_left (by omega) (by omega)
      rw [Int.neg_mul, Int.neg_mul] at h
      omega
    have d : (x / y).toInt = x.toInt.tdiv y.toInt := by rw [Int32.toInt_div, fb_bmod (by omega) (by omega)]
    have d2 : (x / y * y).toInt = x.toInt.tdiv y.toInt * y.toInt := by rw [Int32.toInt_mul, d, fb_bmod (by omega) (by omega)]
    rw [fb_subI (by rw [d2]; omega) (by rw [d2]; omega), d2]
    omega
  · have g1 : x.toInt.tmod y.toInt < y.toInt := Int.tmod_lt_of_pos x.toInt hy
    have g2 : 0 ≤ x.toInt.tmod y.toInt := Int.tmod_nonneg y.toInt hx
    have g3 : 0 ≤ x.toInt.tdiv y.toInt := Int.tdiv_nonneg hx (by omega)
    have g4 : x.toInt.tdiv y.toInt ≤ x.toInt := by
      have h : x.toInt.tdiv y.toInt * 1 ≤ x.toInt.tdiv y.toInt * y.toInt := Int.mul_le_mul_of_nonneg_left (by omega) (by omega)
      omega
    have d : (x / y).toInt = x.toInt.tdiv y.toInt := by rw [Int32.toInt_div, fb_bmod (by omega) (by omega)]
    have d2 : (x / y * y).toInt = x.toInt.tdiv y.toInt * y.toInt := by rw [Int32.toInt_mul, d, fb_bmod (by omega) (by omega)]
    rw [fb_subI (by rw [d2]; omega) (by rw [d2]; omega), d2]
    omega
theorem fb_td {x y : Int32} (hy : 0 < y.toInt) : (x / y).toInt = x.toInt.tdiv y.toInt := by
  have h1 := fb_rng x
  have h2 := fb_rng y
  rcases Int.lt_or_le x.toInt 0 with hx | hx
  · have g3 : x.toInt.tdiv y.toInt ≤ 0 := by
      have h := Int.tdiv_nonneg (a := -x.toInt) (b := y.toInt) (by omega) (by omega)
      rw [Int.neg_tdiv] at h
      omega
    have g4 : x.toInt ≤ x.toInt.tdiv y.toInt := by
      have h := Int.tdiv_le_self (a := -x.toInt) y.toInt (by omega)
      rw [Int.neg_tdiv] at h
      omega
    rw [Int32.toInt_div, fb_bmod (by omega) (by omega)]
  · have g3 : 0 ≤ x.toInt.tdiv y.toInt := Int.tdiv_nonneg hx (by omega)
    have g4 : x.toInt.tdiv y.toInt ≤ x.toInt := Int.tdiv_le_self y.toInt hx
    rw [Int32.toInt_div, fb_bmod (by omega) (by omega)]
/-- remainder: bounds where the divisor is above 0 -/
def ev_irem (q r : Int × Int) : Int × Int := match decide (0 < r.1) with
  | true => ev_rem q r
  | false => en_full
theorem ev_irem_in {q r : Int × Int} {x y : Int32} (hx : en_in q x) (hy : en_in r y) : en_in (ev_irem q r) (x - x / y * y) := by
  unfold ev_irem
  split
  · rename_i h
    simp only [decide_eq_true_eq] at h
    obtain ⟨h1, h2⟩ := hx
    obtain ⟨h3, h4⟩ := hy
    have hp : 0 < y.toInt := by omega
    have e := fb_tm (x := x) hp
    have g1 : -y.toInt < x.toInt.tmod y.toInt := Int.lt_tmod_of_pos x.toInt hp
    have g2 : x.toInt.tmod y.toInt < y.toInt := Int.tmod_lt_of_pos x.toInt hp
    have g3 : 0 ≤ x.toInt → 0 ≤ x.toInt.tmod y.toInt := fun h => Int.tmod_nonneg y.toInt h
    have g4 : x.toInt ≤ 0 → x.toInt.tmod y.toInt ≤ 0 := fun h => by
      have h := Int.tmod_nonneg (a := -x.toInt) y.toInt (by omega)
      rw [Int.neg_tmod] at h
      omega
    unfold ev_rem
    constructor
    · dsimp only
      rw [e]
      split
      · exact g3 (by omega)
      · omega
    · dsimp only
      rw [e]
      split
      · exact g4 (by omega)
      · omega
  · exact en_full_in _
/-- quotient: by one number above 0 -/
def ev_idiv (q r : Int × Int) : Int × Int := match decide (0 < r.1) && decide (r.1 = r.2) with
  | true => (q.1.tdiv r.1, q.2.tdiv r.1)
  | false => en_full
theorem ev_td_mono {a b d : Int} (hd : 0 < d) (h : a ≤ b) : a.tdiv d ≤ b.tdiv d := by
  rcases Int.lt_or_le a 0 with ha | ha
  · rcases Int.lt_or_le b 0 with hb | hb
    · have h1 : (-b).tdiv d ≤ (-a).tdiv d := by
        rw [Int.tdiv_eq_ediv_of_nonneg (by omega), Int.tdiv_eq_ediv_of_nonneg (by omega)]
        exact Int.ediv_le_ediv hd (by omega)
      rw [Int.neg_tdiv, Int.neg_tdiv] at h1
      omega
    · have h1 := Int.tdiv_nonneg (a := -a) (b := d) (by omega) (by omega)
      have h2 := Int.tdiv_nonneg (a := b) (b := d) hb (by omega)
      rw [Int.neg_tdiv] at h1
      omega
  · rw [Int.tdiv_eq_ediv_of_nonneg ha, Int.tdiv_eq_ediv_of_nonneg (by omega)]
    exact Int.ediv_le_ediv hd h
theorem ev_idiv_in {q r : Int × Int} {x y : Int32} (hx : en_in q x) (hy : en_in r y) : en_in (ev_idiv q r) (x / y) := by
  unfold ev_idiv
  split
  · rename_i h
    simp only [Bool.and_eq_true, decide_eq_true_eq] at h
    obtain ⟨h1, h2⟩ := hx
    obtain ⟨h3, h4⟩ := hy
    have hp : 0 < y.toInt := by omega
    have e := fb_td (x := x) hp
    have ey : y.toInt = r.1 := by omega
    rw [ey] at e
    exact ⟨by dsimp only; rw [e]; exact ev_td_mono h.1 h1, by dsimp only; rw [e]; exact ev_td_mono h.1 h2⟩
  · exact en_full_in _
def ev_nz (r : Int × Int) : Bool := decide (0 < r.1) || decide (r.2 < 0)
theorem ev_nz_ok {r : Int × Int} {y : Int32} (h : ev_nz r = true) (hy : en_in r y) : ¬ y = 0 := by
  intro e
  subst e
  unfold ev_nz at h
  simp only [Bool.or_eq_true, decide_eq_true_eq] at h
  have z0 : (0 : Int32).toInt = 0 := rfl
  obtain ⟨h1, h2⟩ := hy
  omega
section EVM
variable {p : Program} {l : Launch} {e : Env} {R : Room} {s : State} {m : MethodId} {args : Array Value} {below : List Frame} {meth : Method} {c : Code} {Q : State → Prop} {cc : ByteArray} {D : va_G} {tys : List (ClassId × FieldType)} {T : en_T} {I : va_W → Prop} {aK aV b0 nL o : Nat} {ad : Nat → Nat} {w0 : va_W} {Wr : List (Nat × Nat)} {γ : Nat → Int}
variable {pc : Nat} {L : List ev_l} {S : List ev_s} {FS : List ev_f} {RS : List ev_r}
theorem ev_in_ok {q b : Int × Int} {tq : ev_t} {pc' : Nat} {x : Int32} {H : Heap} {locs : List Loc} {ls : Array Slot} {stk : List Value} {ws : va_W} (h : ev_at s D tys T I b0 nL ad w0 Wr γ L S FS RS H locs ls stk ws) (hx : en_in q x) (hb : en_in b x) (tx : ev_tag ls ws tq (.int x))
    (k : ∀ st ∈ ev_side .eq q b tq ev_nt pc' L S FS RS, ev_go p l e R s m args below meth c Q D tys T I b0 nL ad w0 Wr γ st) : W p l e R s m args below meth c H locs 0 0 Q (F0 m pc' ls stk) :=
  ev_side_ok (cd := .eq) (y := x) h hx hb tx ev_tag0 (show x.toInt = x.toInt from rfl) k
/-- a table of targets: one state for each number that may come, two for the rest -/
def ev_tsI (pc : Nat) (q : Int × Int) (tq : ev_t) (L : List ev_l) (S : List ev_s) (FS : List ev_f) (RS : List ev_r) : Int → List Int → List ev_S
  | _, [] => []
  | v, off :: offs => ev_side .eq q (v, v) tq ev_nt ((pc : Int) + off).toNat L S FS RS ++ ev_tsI pc q tq L S FS RS (v + 1) offs
def ev_tsw (pc : Nat) (d lo hi : Int) (offs : Array Int) (q : Int × Int) (tq : ev_t) (L : List ev_l) (S : List ev_s) (FS : List ev_f) (RS : List ev_r) : List ev_S :=
  (ev_side .eq q (-2147483648, lo - 1) tq ev_nt ((pc : Int) + d).toNat L S FS RS ++ ev_side .eq q (hi + 1, 2147483647) tq ev_nt ((pc : Int) + d).toNat L S FS RS) ++ ev_tsI pc q tq L S FS RS lo offs.toList
def ev_tsk (pc : Nat) (d lo hi : Int) (offs : Array Int) : Bool := decide ((offs.toList.length : Int) = hi - lo + 1) && (decide (0 ≤ (pc : Int) + d) && offs.toList.all (fun off => decide (0 ≤ (pc : Int) + off)))
theorem ev_tsI_mem {q : Int × Int} {tq : ev_t} {st : ev_S} {off : Int} : ∀ {offs : List Int} {v : Int} {n : Nat}, offs[n]? = some off → st ∈ ev_side .eq q (v + n, v + n) tq ev_nt ((pc : Int) + off).toNat L S FS RS → st ∈ ev_tsI pc q tq L S FS RS v offs
  | [], _, _, h, _ => by simp at h
  | o1 :: os, v, 0, h, hs => by
    rw [List.getElem?_cons_zero] at h
    cases h
    refine List.mem_append_left _ ?_
    simpa using hs
  | o1 :: os, v, n + 1, h, hs => by
    rw [List.getElem?_cons_succ] at h
    refine List.mem_append_right _ (ev_tsI_mem h ?_)
    have e1 : v + 1 + (n : Int) = v + ((n + 1 : Nat) : Int) := by omega
    rw [e1]
    exact hs
theorem fs_tsw (C : ev_cx p s m args meth c cc nL o D tys aK aV b0) {d lo hi : Int} {offs : Array Int} {len : Nat} {q : Int × Int} {tq : ev_t} (hk : ev_tsk pc d lo hi offs = true) (hd : decode cc pc = .ok (.tableswitch d lo hi offs, len))
    (k : ∀ st ∈ ev_tsw pc d lo hi offs q tq L S FS RS, ev_go p l e R s m args below meth c Q D tys T I b0 nL ad w0 Wr γ st) : ev_go p l e R s m args below meth c Q D tys T I b0 nL ad w0 Wr γ (pc, L, (.inl q, tq) :: S, FS, RS) := by
  intro H locs ls stk ws h
  dsimp only at h
  obtain ⟨h0, hl, hs, hr⟩ := h
  obtain ⟨x0, zs, rfl, ⟨x, rfl, hx⟩, tx, hs2⟩ := ev_stk_cons hs
  have hrg := fb_rng x
  unfold ev_tsk at hk
  simp only [Bool.and_eq_true, decide_eq_true_eq] at hk
  obtain ⟨k1, k2, k3⟩ := hk
  have hat : ev_at s D tys T I b0 nL ad w0 Wr γ L S FS RS H locs ls zs ws := ⟨h0, hl, hs2, hr⟩
  rcases Int.lt_or_le x.toInt lo with hlo | hlo
  · exact lv_tableOut (tgt := ((pc : Int) + d).toNat) C.1 C.2.1 hd (Or.inl hlo) (by omega) (ev_in_ok (b := (-2147483648, lo - 1)) hat hx ⟨by dsimp only; omega, by dsimp only; omega⟩ tx (fun st hst => k st (List.mem_append_left _ (List.mem_append_left _ hst))))
  · rcases Int.lt_or_le hi x.toInt with hhi | hhi
    · exact lv_tableOut (tgt := ((pc : Int) + d).toNat) C.1 C.2.1 hd (Or.inr hhi) (by omega) (ev_in_ok (b := (hi + 1, 2147483647)) hat hx ⟨by dsimp only; omega, by dsimp only; omega⟩ tx (fun st hst => k st (List.mem_append_left _ (List.mem_append_right _ hst))))
    · have hn : (x.toInt - lo).toNat < offs.toList.length := by omega
      have ho : offs.toList[(x.toInt - lo).toNat]? = some offs.toList[(x.toInt - lo).toNat] := List.getElem?_eq_getElem hn
      generalize offs.toList[(x.toInt - lo).toNat] = off at ho
      have h3 := List.all_eq_true.mp k3 off (List.mem_of_getElem? ho)
      simp only [decide_eq_true_eq] at h3
      refine lv_tableIn (tgt := ((pc : Int) + off).toNat) C.1 C.2.1 hd (by omega) (by omega) (off := off) (by rw [← Array.getElem?_toList]; exact ho) (by omega) ?_
      refine ev_in_ok (b := (lo + ((x.toInt - lo).toNat : Int), lo + ((x.toInt - lo).toNat : Int))) hat hx ⟨by dsimp only; omega, by dsimp only; omega⟩ tx (fun st hst => k st (List.mem_append_right _ (ev_tsI_mem ho hst)))
/-- pairs: one state for each number that may come, one for the rest -/
def ev_lki (pc : Nat) (q : Int × Int) (tq : ev_t) (L : List ev_l) (S : List ev_s) (FS : List ev_f) (RS : List ev_r) : List (Int × Int) → List ev_S
  | [] => []
  | u :: us => ev_side .eq q (u.1, u.1) tq ev_nt ((pc : Int) + u.2).toNat L S FS RS ++ ev_lki pc q tq L S FS RS us
def ev_lkd (q : Int × Int) (ps : List (Int × Int)) : Bool := decide (q.1 = q.2) && ps.any (fun u => decide (u.1 = q.1))
def ev_lsw (pc : Nat) (d : Int) (ps : List (Int × Int)) (q : Int × Int) (tq : ev_t) (L : List ev_l) (S : List ev_s) (FS : List ev_f) (RS : List ev_r) : List ev_S := match ev_lkd q ps with
  | true => ev_lki pc q tq L S FS RS ps
  | false => (((pc : Int) + d).toNat, L, S, FS, RS) :: ev_lki pc q tq L S FS RS ps
def ev_lkk (pc : Nat) (d : Int) (ps : Array (Int × Int)) : Bool := (ps.toList.zip (ps.toList.drop 1)).all (fun (a, next) => a.1 < next.1) && (decide (0 ≤ (pc : Int) + d) && ps.toList.all (fun u => decide (0 ≤ (pc : Int) + u.2)))
theorem ev_lko (d x : Int) : ∀ ps : List (Int × Int), (Op.lookupswitch.offset ps d x = d ∧ ∀ u ∈ ps, u.1 ≠ x) ∨ ∃ u ∈ ps, u.1 = x ∧ Op.lookupswitch.offset ps d x = u.2
  | [] => Or.inl ⟨rfl, fun u hu => absurd hu List.not_mem_nil⟩
  | (a, o1) :: us => by
    rw [Op.lookupswitch.offset_cons]
    by_cases h : a = x
    · rw [if_pos h]
      exact Or.inr ⟨(a, o1), List.mem_cons_self, h, rfl⟩
    · rw [if_neg h]
      rcases ev_lko d x us with ⟨h1, h2⟩ | ⟨u, h1, h2, h3⟩
      · refine Or.inl ⟨h1, fun u hu => ?_⟩
        rcases List.mem_cons.mp hu with rfl | hu
        · exact h
        · exact h2 u hu
      · exact Or.inr ⟨u, List.mem_cons_of_mem _ h1, h2, h3⟩
theorem ev_lki_mem {q : Int × Int} {tq : ev_t} {st : ev_S} {u : Int × Int} : ∀ {us : List (Int × Int)}, u ∈ us → st ∈ ev_side .eq q (u.1, u.1) tq ev_nt ((pc : Int) + u.2).toNat L S FS RS → st ∈ ev_lki pc q tq L S FS RS us
  | [], h, _ => absurd h List.not_mem_nil
  | w :: us, h, hs => by
    rcases List.mem_cons.mp h with rfl | h
    · exact List.mem_append_left _ hs
    · exact List.mem_append_right _ (ev_lki_mem h hs)
theorem fs_lsw (C : ev_cx p s m args meth c cc nL o D tys aK aV b0) {d : Int} {ps : Array (Int × Int)} {len : Nat} {q : Int × Int} {tq : ev_t} (hk : ev_lkk pc d ps = true) (hd : decode cc pc = .ok (.lookupswitch d ps, len))
    (k : ∀ st ∈ ev_lsw pc d ps.toList q tq L S FS RS, ev_go p l e R s m args below meth c Q D tys T I b0 nL ad w0 Wr γ st) : ev_go p l e R s m args below meth c Q D tys T I b0 nL ad w0 Wr γ (pc, L, (.inl q, tq) :: S, FS, RS) := by
  intro H locs ls stk ws h
  dsimp only at h
  obtain ⟨h0, hl, hs, hr⟩ := h
  obtain ⟨x0, zs, rfl, ⟨x, rfl, hx⟩, tx, hs2⟩ := ev_stk_cons hs
  unfold ev_lkk at hk
  rw [Bool.and_eq_true, Bool.and_eq_true] at hk
  obtain ⟨k1, k2, k3⟩ := hk
  simp only [decide_eq_true_eq] at k2
  have hat : ev_at s D tys T I b0 nL ad w0 Wr γ L S FS RS H locs ls zs ws := ⟨h0, hl, hs2, hr⟩
  rcases ev_lko d x.toInt ps.toList with ⟨h1, h2⟩ | ⟨u, h1, h2, h3⟩
  · refine lv_lookup (tgt := ((pc : Int) + d).toNat) C.1 C.2.1 hd k1 h1 (by omega) ?_
    refine k (((pc : Int) + d).toNat, L, S, FS, RS) ?_ H locs ls zs ws hat
    unfold ev_lsw
    split
    · rename_i hb
      unfold ev_lkd at hb
      rw [Bool.and_eq_true] at hb
      obtain ⟨w, g1, g2⟩ := List.any_eq_true.mp hb.2
      have g3 := hb.1
      simp only [decide_eq_true_eq] at g2 g3
      exact absurd (by obtain ⟨a1, a2⟩ := hx; omega) (h2 w g1)
    · exact List.mem_cons_self
  · have h4 := List.all_eq_true.mp k3 u h1
    simp only [decide_eq_true_eq] at h4
    refine lv_lookup (tgt := ((pc : Int) + u.2).toNat) C.1 C.2.1 hd k1 h3 (by omega) ?_
    refine ev_in_ok (b := (u.1, u.1)) hat hx ⟨by dsimp only; omega, by dsimp only; omega⟩ tx (fun st hst => k st ?_)
    unfold ev_lsw
    split
    · exact ev_lki_mem h1 hst
    · exact List.mem_cons_of_mem _ (ev_lki_mem h1 hst)
theorem en_mt_16 : en_ms[16]? = some (Lib.Math.min.name, Lib.Math.min.code, 2, some .int) := rfl
theorem en_mt_30 : en_ms[30]? = some (Lib.Math.max.name, Lib.Math.max.code, 2, some .int) := rfl
theorem en_codeW {mi : Nat} {r : MethodName × ByteArray × Nat × Option FieldType} (hr : en_ms[mi]? = some r) : Cond.code r.1 r.2.1 r.2.2.1 r.2.2.2 ∈ en_ws := (en_codeG hr _ List.mem_cons_self).1
theorem fs_min (C : ev_cx p s m args meth c cc nL o D tys aK aV b0) {i : Nat} {q r : Int × Int} {tq tr : ev_t} (hf : en_find o i en_cl = some (1, 16, 2)) (hfr : 1 ≤ R.frames) (hlo : S.length + 13 ≤ R.locals) (hd : decode cc pc = .ok (.invokestatic i, 3))
    (k : ev_go p l e R s m args below meth c Q D tys T I b0 nL ad w0 Wr γ (pc + 3, L, (.inl (ev_min q.1 r.1, ev_min q.2 r.2), ev_nt) :: S, FS, RS)) : ev_go p l e R s m args below meth c Q D tys T I b0 nL ad w0 Wr γ (pc, L, (.inl r, tr) :: (.inl q, tq) :: S, FS, RS) := by
  intro H locs ls stk ws h
  dsimp only at h
  obtain ⟨h0, hl, hs, hr⟩ := h
  obtain ⟨y0, ys, rfl, ⟨y, rfl, hy⟩, -, hs1⟩ := ev_stk_cons hs
  obtain ⟨x0, zs, rfl, ⟨x, rfl, hx⟩, -, hs2⟩ := ev_stk_cons hs1
  have hts := C.2.2.2.2.1
  have hww := en_clW hf en_mt_16
  refine va_mmin C.1 C.2.1 (C.2.2.1.trans h0.1.symm) C.2.2.2.1 (hts _ (en_ws_in (hww (.methodLink (en_nm o) i Lib.Math.min.name) (by simp)) rfl)) (hts _ (en_ws_in (hww (.static Lib.Math.min.name) (by simp)) rfl)) (hts _ (en_ws_in (hww (.initialized Lib.Math.min.name.cls) (by simp)) rfl)) (hts _ (en_codeW en_mt_16)) hfr (by rw [ev_stk_len hs2]; exact hlo) (Nat.zero_le _) (Nat.zero_le _) hd ?_
  refine k H locs ls _ ws ⟨h0, hl, ⟨⟨⟨_, rfl, ?_⟩, ev_tag0⟩, hs2⟩, hr⟩
  obtain ⟨a1, a2⟩ := hx
  obtain ⟨a3, a4⟩ := hy
  unfold ev_min
  by_cases hlt : y < x
  · rw [if_pos hlt]
    rw [fa_lt] at hlt
    constructor <;> dsimp only <;> split <;> omega
  · rw [if_neg hlt]
    rw [fa_lt] at hlt
    constructor <;> dsimp only <;> split <;> omega
theorem fs_max (C : ev_cx p s m args meth c cc nL o D tys aK aV b0) {i : Nat} {q r : Int × Int} {tq tr : ev_t} (hf : en_find o i en_cl = some (1, 30, 2)) (hfr : 1 ≤ R.frames) (hlo : S.length + 13 ≤ R.locals) (hd : decode cc pc = .ok (.invokestatic i, 3))
    (k : ev_go p l e R s m args below meth c Q D tys T I b0 nL ad w0 Wr γ (pc + 3, L, (.inl (ev_max q.1 r.1, ev_max q.2 r.2), ev_nt) :: S, FS, RS)) : ev_go p l e R s m args below meth c Q D tys T I b0 nL ad w0 Wr γ (pc, L, (.inl r, tr) :: (.inl q, tq) :: S, FS, RS) := by
  intro H locs ls stk ws h
  dsimp only at h
  obtain ⟨h0, hl, hs, hr⟩ := h
  obtain ⟨y0, ys, rfl, ⟨y, rfl, hy⟩, -, hs1⟩ := ev_stk_cons hs
  obtain ⟨x0, zs, rfl, ⟨x, rfl, hx⟩, -, hs2⟩ := ev_stk_cons hs1
  have hts := C.2.2.2.2.1
  have hww := en_clW hf en_mt_30
  refine va_mmax C.1 C.2.1 (C.2.2.1.trans h0.1.symm) C.2.2.2.1 (hts _ (en_ws_in (hww (.methodLink (en_nm o) i Lib.Math.max.name) (by simp)) rfl)) (hts _ (en_ws_in (hww (.static Lib.Math.max.name) (by simp)) rfl)) (hts _ (en_ws_in (hww (.initialized Lib.Math.max.name.cls) (by simp)) rfl)) (hts _ (en_codeW en_mt_30)) hfr (by rw [ev_stk_len hs2]; exact hlo) (Nat.zero_le _) (Nat.zero_le _) hd ?_
  refine k H locs ls _ ws ⟨h0, hl, ⟨⟨⟨_, rfl, ?_⟩, ev_tag0⟩, hs2⟩, hr⟩
  obtain ⟨a1, a2⟩ := hx
  obtain ⟨a3, a4⟩ := hy
  unfold ev_max
  by_cases hlt : x < y
  · rw [if_pos hlt]
    rw [fa_lt] at hlt
    constructor <;> dsimp only <;> split <;> omega
  · rw [if_neg hlt]
    rw [fa_lt] at hlt
    constructor <;> dsimp only <;> split <;> omega
end EVM
end
section
def ev_pick (T : en_T) (Wr : List (Nat × Nat)) (K : List ek) (mi : Nat) (as : List en_V) (FS : List ev_f) : Option ek := K.find? (fun κ => κ.1 == mi && (en_all2 en_le as κ.2.1 && ((ek_pre κ).all (ev_has T FS) && (ek_wr κ).all (fun q => Wr.contains q))))
theorem ev_pick_ok {T : en_T} {Wr : List (Nat × Nat)} {K : List ek} {mi : Nat} {as : List en_V} {FS : List ev_f} {κ : ek} (h : ev_pick T Wr K mi as FS = some κ) : κ ∈ K ∧ κ.1 = mi ∧ en_all2 en_le as κ.2.1 = true ∧ (ek_pre κ).all (ev_has T FS) = true ∧ ∀ q ∈ ek_wr κ, q ∈ Wr := by
  unfold ev_pick at h
  have h1 := List.find?_some h
  simp only [Bool.and_eq_true, beq_iff_eq] at h1
  exact ⟨List.mem_of_find?_eq_some h, h1.1, h1.2.1, h1.2.2.1, fun q hq => List.contains_iff_mem.mp (List.all_eq_true.mp h1.2.2.2 q hq)⟩
def ev_kn (k : Nat) (v : Int32) (len pc : Nat) (L : List ev_l) (S : List ev_s) (FS : List ev_f) (RS : List ev_r) : Option (List ev_S) := en_g (len == k) (some [(pc + k, L, (.inl (v.toInt, v.toInt), ev_nt) :: S, FS, RS)])
def ev_ld (k i len pc : Nat) (L : List ev_l) (S : List ev_s) (FS : List ev_f) (RS : List ev_r) : Option (List ev_S) := match L[i]? with
  | some (some (.inl q, _)) => en_g (len == k) (some [(pc + k, L, (.inl (ev_lq L i q RS), (1, i, 0, 0)) :: S, FS, RS)])
  | _ => none
def ev_la (k i len pc : Nat) (L : List ev_l) (S : List ev_s) (FS : List ev_f) (RS : List ev_r) : Option (List ev_S) := match L[i]? with
  | some (some (.inr (j + 2), _)) => en_g (len == k) (some [(pc + k, L, (.inr (j + 2), ev_nt) :: S, FS, RS)])
  | _ => none
def ev_st (k i len pc : Nat) (L : List ev_l) (S : List ev_s) (FS : List ev_f) (RS : List ev_r) : Option (List ev_S) := match S with
  | (.inl q, t) :: S' => en_g (len == k && decide (i < L.length)) (some [(pc + k, L.set i (some (.inl q, ev_sg L i t)), S'.map (ev_kt i), ev_kf i FS, ev_sR RS i t)])
  | _ => none
def ev_sa (k i len pc : Nat) (L : List ev_l) (S : List ev_s) (FS : List ev_f) (RS : List ev_r) : Option (List ev_S) := match S with
  | (.inr (j + 2), t) :: S' => en_g (len == k && decide (i < L.length)) (some [(pc + k, L.set i (some (.inr (j + 2), ev_sg L i t)), S'.map (ev_kt i), ev_kf i FS, ev_sR RS i t)])
  | _ => none
def ev_bn (f : Int × Int → Int × Int → Int × Int) (g : Int × Int → Int × Int → ev_t → ev_t → ev_t) (b : Int × Int → Bool) (len pc : Nat) (L : List ev_l) (S : List ev_s) (FS : List ev_f) (RS : List ev_r) : Option (List ev_S) := match S with
  | (.inl r, tr) :: (.inl q, tq) :: S' => en_g (len == 1 && b r) (some [(pc + 1, L, (.inl (f q r), g q r tq tr) :: S', FS, RS)])
  | _ => none
def ev_al (T : en_T) (i0 i1 len pc : Nat) (L : List ev_l) (S : List ev_s) (FS : List ev_f) (RS : List ev_r) : Option (List ev_S) := match S with
  | (.inl q, tq) :: (.inr (j + 2), _) :: S' => match T[j]? with
    | some (.inl t) => en_g ((t.1 == i0 || t.1 == i1) && (len == 1 && (decide (0 ≤ q.1) && decide (q.2 < t.2.1)))) (some [(pc + 1, L, ev_rq FS j tq t.2.2 :: S', FS, RS)])
    | _ => none
  | _ => none
def ev_as (T : en_T) (sp Wr : List (Nat × Nat)) (b : Bool) (len pc : Nat) (L : List ev_l) (S : List ev_s) (FS : List ev_f) (RS : List ev_r) : Option (List ev_S) := match S with
  | (.inl v, _) :: (.inl q, tq) :: (.inr (j + 2), _) :: S' => match T[j]? with
    | some (.inl t) => en_g ((match b with
        | true => t.1 == 0
        | false => (t.1 == 2 && (decide (-128 ≤ v.1) && decide (v.2 ≤ 127))) || (t.1 == 1 && (decide (0 ≤ v.1) && decide (v.2 ≤ 1)))) && (len == 1 && (decide (0 ≤ q.1) && (decide (q.2 < t.2.1) && (decide (t.2.2.1 ≤ v.1) && (decide (v.2 ≤ t.2.2.2) && (Wr.contains (j, 999) && !sp.contains (j, 999)))))))) (some [(pc + 1, L, S'.map (ev_hs [(j, 999)]), ev_sf FS j tq v, RS)])
    | _ => none
  | _ => none
def ev_room (rm : Nat × Nat) (κ : ek) (ml n : Nat) : Bool := decide (ek_fr κ + 1 ≤ rm.1) && (decide (8 + (ml + 11) + ek_lo κ ≤ rm.2) && decide (n ≤ 8))
def ev_cV (o : Nat) (T : en_T) (Wr : List (Nat × Nat)) (K : List ek) (rm : Nat × Nat) (i len pc : Nat) (L : List ev_l) (S : List ev_s) (FS : List ev_f) (RS : List ev_r) : Option (List ev_S) := match en_find o i en_cl with
  | some (kd, mi, n) => match S.drop n with
    | (.inr (j + 2), _) :: S' => match T[j]? with
      | some (.inr q) => match en_ms[mi]? with
        | some r => match en_mo[mi]? with
          | some ci => match vwCl[ci]? with
            | some _ => match ev_pick T Wr K mi (.inr (j + 2) :: ((S.take n).map (fun a => a.1)).reverse) FS with
              | some κ => en_g (kd == 0 && (len == 3 && (q.1 == ci && ((S.take n).length == n && ev_room rm κ r.2.2.1 S'.length)))) (some (ek_next κ (pc + 3) L S' FS RS))
              | none => none
            | none => none
          | none => none
        | none => none
      | _ => none
    | _ => none
  | none => none
def ev_cS (o : Nat) (T : en_T) (sp Wr : List (Nat × Nat)) (K : List ek) (rm : Nat × Nat) (i len pc : Nat) (L : List ev_l) (S : List ev_s) (FS : List ev_f) (RS : List ev_r) : Option (List ev_S) := match en_find o i en_cl with
  | some (kd, mi, n) => match mi == 16 || mi == 30 with
    | true => match S with
      | (.inl r, _) :: (.inl q, _) :: S' => en_g (kd == 1 && (n == 2 && (len == 3 && (decide (1 ≤ rm.1) && decide (S'.length + 13 ≤ rm.2))))) (some [(pc + 3, L, (.inl (match mi == 16 with
          | true => (ev_min q.1 r.1, ev_min q.2 r.2)
          | false => (ev_max q.1 r.1, ev_max q.2 r.2)), ev_nt) :: S', FS, RS)])
      | _ => none
    | false => match en_ms[mi]? with
      | some r => match ev_pick T Wr K mi ((S.take n).map (fun a => a.1)).reverse FS with
        | some κ => en_g ((kd == 1 || kd == 2) && (len == 3 && ((S.take n).length == n && ev_room rm κ r.2.2.1 (S.drop n).length))) (some (ek_next κ (pc + 3) L (S.drop n) FS RS))
        | none => none
      | none => none
  | none => match S with
    | (.inl n, _) :: (.inl d, _) :: (.inr (j1 + 2), _) :: (.inl a, _) :: (.inr (j0 + 2), _) :: S' => match T[j0]? with
      | some (.inl t0) => match T[j1]? with
        | some (.inl t1) => en_g (en_ac.contains (o, i) && (len == 3 && (decide (n.1 = n.2) && (decide (0 ≤ n.1) && (decide (d = (0, 0)) && (decide (a = (0, 0)) && (t0.1 == 0 && (t1.1 == 0 && (decide (n.1.toNat ≤ t0.2.1) && (decide (n.1.toNat ≤ t1.2.1) && (decide (t1.2.2.1 ≤ t0.2.2.1) && (decide (t0.2.2.2 ≤ t1.2.2.2) && (Wr.contains (j1, 999) && (!sp.contains (j1, 999) && (decide (1 ≤ rm.1) && decide (S'.length + (nativeFrameWords "java/lang/System" "arraycopy" 5 + 11) ≤ rm.2)))))))))))))))) (some [(pc + 3, L, S'.map (ev_hs [(j1, 999)]), ev_hf [(j1, 999)] FS, RS)])
        | _ => none
      | _ => none
    | _ => none
def ev_op (o : Nat) (T : en_T) (sp Wr : List (Nat × Nat)) (K : List ek) (rm : Nat × Nat) (op : Instr) (len pc : Nat) (L : List ev_l) (S : List ev_s) (FS : List ev_f) (RS : List ev_r) : Option (List ev_S) := match op with
  | .iconst n => ev_kn 1 (Int32.ofInt n) len pc L S FS RS
  | .bipush n => ev_kn 2 (Int8.ofInt n).toInt32 len pc L S FS RS
  | .sipush n => ev_kn 3 (Int16.ofInt n).toInt32 len pc L S FS RS
  | .ldc i => match en_find o i en_kc with
    | some v => ev_kn 2 (Int32.ofInt v) len pc L S FS RS
    | none => none
  | .ldc_w i => match en_find o i en_kc with
    | some v => ev_kn 3 (Int32.ofInt v) len pc L S FS RS
    | none => none
  | .iload_n k => ev_ld 1 k.val len pc L S FS RS
  | .iload i => ev_ld 2 i len pc L S FS RS
  | .aload_n k => ev_la 1 k.val len pc L S FS RS
  | .aload i => ev_la 2 i len pc L S FS RS
  | .istore_n k => ev_st 1 k.val len pc L S FS RS
  | .istore i => ev_st 2 i len pc L S FS RS
  | .astore_n k => ev_sa 1 k.val len pc L S FS RS
  | .astore i => ev_sa 2 i len pc L S FS RS
  | .iinc i n => match L[i]? with
    | some (some (.inl q, g)) => match ev_ex (ev_lq L i q RS) (Int32.ofInt n).toInt with
      | true => en_g (len == 3) (some [(pc + 3, L.set i (some (.inl (en_add (ev_lq L i q RS) ((Int32.ofInt n).toInt, (Int32.ofInt n).toInt)), ev_gs g (Int32.ofInt n).toInt)), S.map (ev_kt i), ev_kf i FS, ev_sr i (Int32.ofInt n).toInt RS)])
      | false => en_g (len == 3) (some [(pc + 3, L.set i (some (.inl en_full, none)), S.map (ev_kt i), ev_kf i FS, ev_kr i RS)])
    | _ => none
  | .iadd => ev_bn en_add ev_ta (fun _ => true) len pc L S FS RS
  | .isub => ev_bn ev_sub (fun q r tq _ => ev_ts q r tq) (fun _ => true) len pc L S FS RS
  | .imul => ev_bn en_mul (fun _ _ _ _ => ev_nt) (fun _ => true) len pc L S FS RS
  | .iand => ev_bn en_and (fun _ _ _ _ => ev_nt) (fun _ => true) len pc L S FS RS
  | .ior => ev_bn (fun _ _ => en_full) (fun _ _ _ _ => ev_nt) (fun _ => true) len pc L S FS RS
  | .ixor => ev_bn (fun _ _ => en_full) (fun _ _ _ _ => ev_nt) (fun _ => true) len pc L S FS RS
  | .ishl => ev_bn (fun _ _ => en_full) (fun _ _ _ _ => ev_nt) (fun _ => true) len pc L S FS RS
  | .ishr => ev_bn (fun _ _ => en_full) (fun _ _ _ _ => ev_nt) (fun _ => true) len pc L S FS RS
  | .iushr => ev_bn (fun _ _ => en_full) (fun _ _ _ _ => ev_nt) (fun _ => true) len pc L S FS RS
  | .idiv => ev_bn ev_idiv (fun _ _ _ _ => ev_nt) ev_nz len pc L S FS RS
  | .irem => ev_bn ev_irem (fun _ _ _ _ => ev_nt) ev_nz len pc L S FS RS
  | .i2b => match S with
    | (.inl _, _) :: S' => en_g (len == 1) (some [(pc + 1, L, (.inl (-128, 127), ev_nt) :: S', FS, RS)])
    | _ => none
  | .dup => match S with
    | a :: S' => en_g (len == 1) (some [(pc + 1, L, a :: a :: S', FS, RS)])
    | _ => none
  | .dup2 => match S with
    | a :: b :: S' => en_g (len == 1) (some [(pc + 1, L, a :: b :: a :: b :: S', FS, RS)])
    | _ => none
  | .pop => match S with
    | _ :: S' => en_g (len == 1) (some [(pc + 1, L, S', FS, RS)])
    | _ => none
  | .goto off => en_g (len == 3 && decide (0 ≤ (pc : Int) + off)) (some [(((pc : Int) + off).toNat, L, S, FS, RS)])
  | .if_icmp cd off => match S with
    | (.inl r, tr) :: (.inl q, tq) :: S' => en_g (len == 3 && decide (0 ≤ (pc : Int) + off)) (some (ev_sides cd q r tq tr ((pc : Int) + off).toNat L S' FS RS ++ ev_sides (ev_neg cd) q r tq tr (pc + 3) L S' FS RS))
    | _ => none
  | .ifCond cd off => match S with
    | (.inl q, tq) :: S' => en_g (len == 3 && decide (0 ≤ (pc : Int) + off)) (some (ev_sides cd q (0, 0) tq ev_nt ((pc : Int) + off).toNat L S' FS RS ++ ev_sides (ev_neg cd) q (0, 0) tq ev_nt (pc + 3) L S' FS RS))
    | _ => none
  | .tableswitch d lo hi offs => match S with
    | (.inl q, tq) :: S' => en_g (ev_tsk pc d lo hi offs) (some (ev_tsw pc d lo hi offs q tq L S' FS RS))
    | _ => none
  | .lookupswitch d ps => match S with
    | (.inl q, tq) :: S' => en_g (ev_lkk pc d ps) (some (ev_lsw pc d ps.toList q tq L S' FS RS))
    | _ => none
  | .arraylength => match S with
    | (.inr (j + 2), _) :: S' => match T[j]? with
      | some (.inl t) => en_g (len == 1 && (!(t.1 == 3) && decide (t.2.1 < 2147483648))) (some [(pc + 1, L, (.inl ((t.2.1 : Int), (t.2.1 : Int)), ev_nt) :: S', FS, RS)])
      | _ => none
    | _ => none
  | .iaload => ev_al T 0 0 len pc L S FS RS
  | .baload => ev_al T 1 2 len pc L S FS RS
  | .aaload => match S with
    | (.inl q, _) :: (.inr (j + 2), _) :: S' => match T[j]? with
      | some (.inl t) => en_g (len == 1 && (t.1 == 3 && (decide (q.1 = q.2) && (decide (0 ≤ q.1) && decide (q.1.toNat < t.2.1))))) (some [(pc + 1, L, (.inr (t.2.2.1.toNat + q.1.toNat + 2), ev_nt) :: S', FS, RS)])
      | _ => none
    | _ => none
  | .iastore => ev_as T sp Wr true len pc L S FS RS
  | .bastore => ev_as T sp Wr false len pc L S FS RS
  | .getfield i => match en_find o i en_fl with
    | some (ci, f) => match S with
      | (.inr (j + 2), _) :: S' => match T[j]? with
        | some (.inr q) => match vwCl[ci]? with
          | some r => match q.2[f]? with
            | some (.inl b) => en_g (len == 3 && (q.1 == ci && decide (f < r.2.2))) (some [(pc + 3, L, (.inl (ev_fq FS (2, j, f) b), (2, j, f, 0)) :: S', FS, RS)])
            | some (.inr n) => en_g (len == 3 && (q.1 == ci && decide (f < r.2.2))) (some [(pc + 3, L, (.inr n, ev_nt) :: S', FS, RS)])
            | none => none
          | none => none
        | _ => none
      | _ => none
    | none => none
  | .putfield i => match en_find o i en_fl with
    | some (ci, f) => match S with
      | (.inl v, tv) :: (.inr (j + 2), _) :: S' => match T[j]? with
        | some (.inr q) => match vwCl[ci]? with
          | some r => match q.2[f]? with
            | some (.inl b) => en_g (len == 3 && (q.1 == ci && (decide (f < r.2.2) && (en_le (.inl v) (.inl b) && (en_put (en_tyX ci f) (.inl v) && (!(r.2.1 f).2.2.2 && (Wr.contains (j, f) && !sp.contains (j, f)))))))) (some [(pc + 3, L, S'.map (ev_hs [(j, f)]), ((2, j, f), v, ev_pg FS j f tv) :: ev_hf [(j, f)] FS, RS)])
            | _ => none
          | none => none
        | _ => none
      | _ => none
    | none => none
  | .invokevirtual i => ev_cV o T Wr K rm i len pc L S FS RS
  | .invokestatic i => ev_cS o T sp Wr K rm i len pc L S FS RS
  | _ => none
theorem ev_ct {j f : Nat} {W1 : List (Nat × Nat)} (h : W1.contains (j, f) = true) : (j, f) ∈ W1 := List.contains_iff_mem.mp h
theorem ev_cf {j f : Nat} {W1 : List (Nat × Nat)} (h : W1.contains (j, f) = false) : (j, f) ∉ W1 := fun hm => by rw [List.contains_iff_mem.mpr hm] at h; cases h
section EVO0
variable {p : Program} {l : Launch} {e : Env} {R : Room} {s : State} {m : MethodId} {args : Array Value} {below : List Frame} {meth : Method} {c : Code} {Q : State → Prop} {cc : ByteArray} {D : va_G} {tys : List (ClassId × FieldType)} {T : en_T} {I : va_W → Prop} {aK aV b0 nL o : Nat} {ad : Nat → Nat} {w0 : va_W} {Wr : List (Nat × Nat)} {γ : Nat → Int}
variable {pc : Nat} {L : List ev_l} {S : List ev_s} {FS : List ev_f} {RS : List ev_r}
theorem fs_goI {pc' i : Nat} {a : en_V} {t : ev_t} (hi : i < L.length) (row : ∀ (H : Heap) (locs : List Loc) (ls : Array Slot) (rest : List Value) (x : Value), en_v T.length ad a x → ls.size = nL → lv_wf ls → L.length = nL → (∀ ls' : Array Slot, lv_has ls' nL ((i, x) :: (en_lv ls).filter (fun q => !(q.1 == i) && !(q.1 + 1 == i && q.2.category == 2))) → W p l e R s m args below meth c H locs 0 0 Q (F0 m pc' ls' rest)) → W p l e R s m args below meth c H locs 0 0 Q (F0 m pc ls (x :: rest)))
    (k : ev_go p l e R s m args below meth c Q D tys T I b0 nL ad w0 Wr γ (pc', L.set i (some (a, ev_sg L i t)), S.map (ev_kt i), ev_kf i FS, ev_sR RS i t)) : ev_go p l e R s m args below meth c Q D tys T I b0 nL ad w0 Wr γ (pc, L, (a, t) :: S, FS, RS) := by
  intro H locs ls stk ws h
  have hn : L.length = nL := h.1.2.2
  exact fs_store hi (fun H locs ls rest x hx z1 z2 k => row H locs ls rest x hx z1 z2 hn k) k H locs ls stk ws h
theorem fs_iincF (C : ev_cx p s m args meth c cc nL o D tys aK aV b0) {i : Nat} {n : Int} {q : Int × Int} {g : Option (Nat × Int)} (hL : L[i]? = some (some (.inl q, g))) (hd : decode cc pc = .ok (.iinc i n, 3))
    (k : ev_go p l e R s m args below meth c Q D tys T I b0 nL ad w0 Wr γ (pc + 3, L.set i (some (.inl en_full, none)), S.map (ev_kt i), ev_kf i FS, ev_kr i RS)) : ev_go p l e R s m args below meth c Q D tys T I b0 nL ad w0 Wr γ (pc, L, S, FS, RS) := by
  intro H locs ls stk ws h
  dsimp only at h
  obtain ⟨⟨z1, z2, z3⟩, hl, hs, hf, hR, hr⟩ := h
  obtain ⟨x, h1, ⟨v, rfl, hv⟩, hg⟩ := hl i _ hL
  obtain ⟨j, hj⟩ := List.getElem?_of_mem (en_lv_mem.mpr h1)
  have hi : i < L.length := (List.getElem?_eq_some_iff.mp hL).1
  refine lv_iinc C.1 C.2.1 hd (en_lv_has z1 z2) hj rfl (by omega) rfl (fun ls' h' => ?_)
  obtain ⟨k1, k2⟩ := ev_keep h'
  exact k H locs ls' stk ws ⟨⟨h'.1, h'.2.1, by dsimp only; rw [List.length_set]; exact z3⟩, ev_lo_set k2 k1 ⟨_, rfl, en_full_in _⟩ trivial hl, ev_kt_ok k2 hs, ev_kf_ok k2 hf, ev_kr_ok k2 hR, hr⟩
end EVO0
section EVO
variable {p : Program} {l : Launch} {e : Env} {R : Room} {s : State} {m : MethodId} {args : Array Value} {below : List Frame} {meth : Method} {c : Code} {Q : State → Prop} {cc : ByteArray} {D : va_G} {tys : List (ClassId × FieldType)} {T : en_T} {I : va_W → Prop} {sp : List (Nat × Nat)} {aK aV b0 nL o : Nat} {ad : Nat → Nat} {w0 : va_W} {Wr : List (Nat × Nat)} {γ : Nat → Int}
variable {pc len : Nat} {L : List ev_l} {S : List ev_s} {FS : List ev_f} {RS : List ev_r} {K : List ek} {rm : Nat × Nat} {ss : List ev_S}
theorem ev_one {st : ev_S} {b : Bool} (h : en_g b (some [st]) = some ss) (k : ∀ st ∈ ss, ev_go p l e R s m args below meth c Q D tys T I b0 nL ad w0 Wr γ st) : b = true ∧ ev_go p l e R s m args below meth c Q D tys T I b0 nL ad w0 Wr γ st := by
  obtain ⟨h1, h2⟩ := en_g_some h
  cases h2
  exact ⟨h1, k _ List.mem_cons_self⟩
theorem ev_many {sts : List ev_S} {b : Bool} (h : en_g b (some sts) = some ss) (k : ∀ st ∈ ss, ev_go p l e R s m args below meth c Q D tys T I b0 nL ad w0 Wr γ st) : b = true ∧ ∀ st ∈ sts, ev_go p l e R s m args below meth c Q D tys T I b0 nL ad w0 Wr γ st := by
  obtain ⟨h1, h2⟩ := en_g_some h
  cases h2
  exact ⟨h1, k⟩
theorem ow_kn {j : Nat} {v : Int32} (h : ev_kn j v len pc L S FS RS = some ss) (k : ∀ st ∈ ss, ev_go p l e R s m args below meth c Q D tys T I b0 nL ad w0 Wr γ st) : len = j ∧ ev_go p l e R s m args below meth c Q D tys T I b0 nL ad w0 Wr γ (pc + j, L, (.inl (v.toInt, v.toInt), ev_nt) :: S, FS, RS) := by
  obtain ⟨h1, h2⟩ := ev_one h k
  exact ⟨by simpa using h1, h2⟩
theorem ow_ld {j i : Nat} (h : ev_ld j i len pc L S FS RS = some ss) (k : ∀ st ∈ ss, ev_go p l e R s m args below meth c Q D tys T I b0 nL ad w0 Wr γ st) : len = j ∧ ∃ q g, L[i]? = some (some (.inl q, g)) ∧ ev_go p l e R s m args below meth c Q D tys T I b0 nL ad w0 Wr γ (pc + j, L, (.inl (ev_lq L i q RS), (1, i, 0, 0)) :: S, FS, RS) := by
  unfold ev_ld at h
  split at h
  · rename_i q g hq
    obtain ⟨h1, h2⟩ := ev_one h k
    exact ⟨by simpa using h1, q, g, hq, h2⟩
  · cases h
theorem ow_la {j i : Nat} (h : ev_la j i len pc L S FS RS = some ss) (k : ∀ st ∈ ss, ev_go p l e R s m args below meth c Q D tys T I b0 nL ad w0 Wr γ st) : len = j ∧ ∃ q g, L[i]? = some (some (.inr (q + 2), g)) ∧ ev_go p l e R s m args below meth c Q D tys T I b0 nL ad w0 Wr γ (pc + j, L, (.inr (q + 2), ev_nt) :: S, FS, RS) := by
  unfold ev_la at h
  split at h
  · rename_i q g hq
    obtain ⟨h1, h2⟩ := ev_one h k
    exact ⟨by simpa using h1, q, g, hq, h2⟩
  · cases h
theorem ow_st {j i : Nat} (h : ev_st j i len pc L S FS RS = some ss) (k : ∀ st ∈ ss, ev_go p l e R s m args below meth c Q D tys T I b0 nL ad w0 Wr γ st) : len = j ∧ i < L.length ∧ ∃ q t S', S = (.inl q, t) :: S' ∧ ev_go p l e R s m args below meth c Q D tys T I b0 nL ad w0 Wr γ (pc + j, L.set i (some (.inl q, ev_sg L i t)), S'.map (ev_kt i), ev_kf i FS, ev_sR RS i t) := by
  unfold ev_st at h
  split at h
  · rename_i q t S'
    obtain ⟨h1, h2⟩ := ev_one h k
    simp only [Bool.and_eq_true, beq_iff_eq, decide_eq_true_eq] at h1
    exact ⟨h1.1, h1.2, q, t, S', rfl, h2⟩
  · cases h
theorem ow_sa {j i : Nat} (h : ev_sa j i len pc L S FS RS = some ss) (k : ∀ st ∈ ss, ev_go p l e R s m args below meth c Q D tys T I b0 nL ad w0 Wr γ st) : len = j ∧ i < L.length ∧ ∃ q t S', S = (.inr (q + 2), t) :: S' ∧ ev_go p l e R s m args below meth c Q D tys T I b0 nL ad w0 Wr γ (pc + j, L.set i (some (.inr (q + 2), ev_sg L i t)), S'.map (ev_kt i), ev_kf i FS, ev_sR RS i t) := by
  unfold ev_sa at h
  split at h
  · rename_i q t S'
    obtain ⟨h1, h2⟩ := ev_one h k
    simp only [Bool.and_eq_true, beq_iff_eq, decide_eq_true_eq] at h1
    exact ⟨h1.1, h1.2, q, t, S', rfl, h2⟩
  · cases h
theorem ow_bn {f : Int × Int → Int × Int → Int × Int} {g : Int × Int → Int × Int → ev_t → ev_t → ev_t} {b : Int × Int → Bool} (h : ev_bn f g b len pc L S FS RS = some ss) (k : ∀ st ∈ ss, ev_go p l e R s m args below meth c Q D tys T I b0 nL ad w0 Wr γ st) : len = 1 ∧ ∃ r tr q tq S', S = (.inl r, tr) :: (.inl q, tq) :: S' ∧ b r = true ∧ ev_go p l e R s m args below meth c Q D tys T I b0 nL ad w0 Wr γ (pc + 1, L, (.inl (f q r), g q r tq tr) :: S', FS, RS) := by
  unfold ev_bn at h
  split at h
  · rename_i r tr q tq S'
    obtain ⟨h1, h2⟩ := ev_one h k
    simp only [Bool.and_eq_true, beq_iff_eq] at h1
    exact ⟨h1.1, r, tr, q, tq, S', rfl, h1.2, h2⟩
  · cases h
theorem ow_al {i0 i1 : Nat} (h : ev_al T i0 i1 len pc L S FS RS = some ss) (k : ∀ st ∈ ss, ev_go p l e R s m args below meth c Q D tys T I b0 nL ad w0 Wr γ st) : len = 1 ∧ ∃ q tq j tj S' t, S = (.inl q, tq) :: (.inr (j + 2), tj) :: S' ∧ T[j]? = some (.inl t) ∧ (t.1 = i0 ∨ t.1 = i1) ∧ 0 ≤ q.1 ∧ q.2 < t.2.1 ∧ ev_go p l e R s m args below meth c Q D tys T I b0 nL ad w0 Wr γ (pc + 1, L, ev_rq FS j tq t.2.2 :: S', FS, RS) := by
  unfold ev_al at h
  split at h
  · rename_i q tq j tj S'
    split at h
    · rename_i t ht
      obtain ⟨h1, h2⟩ := ev_one h k
      simp only [Bool.and_eq_true, Bool.or_eq_true, beq_iff_eq, decide_eq_true_eq] at h1
      exact ⟨h1.2.1, q, tq, j, tj, S', t, rfl, ht, h1.1, h1.2.2.1, h1.2.2.2, h2⟩
    · cases h
  · cases h
theorem ow_as {b : Bool} (h : ev_as T sp Wr b len pc L S FS RS = some ss) (k : ∀ st ∈ ss, ev_go p l e R s m args below meth c Q D tys T I b0 nL ad w0 Wr γ st) : len = 1 ∧ ∃ v tv q tq j tj S' t, S = (.inl v, tv) :: (.inl q, tq) :: (.inr (j + 2), tj) :: S' ∧ T[j]? = some (.inl t) ∧ ((b = true ∧ t.1 = 0) ∨ (b = false ∧ ((t.1 = 2 ∧ -128 ≤ v.1 ∧ v.2 ≤ 127) ∨ (t.1 = 1 ∧ 0 ≤ v.1 ∧ v.2 ≤ 1)))) ∧ (0 ≤ q.1 ∧ q.2 < t.2.1 ∧ t.2.2.1 ≤ v.1 ∧ v.2 ≤ t.2.2.2 ∧ (j, 999) ∈ Wr ∧ (j, 999) ∉ sp) ∧ ev_go p l e R s m args below meth c Q D tys T I b0 nL ad w0 Wr γ (pc + 1, L, S'.map (ev_hs [(j, 999)]), ev_sf FS j tq v, RS) := by
  unfold ev_as at h
  split at h
  · rename_i v tv q tq j tj S'
    split at h
    · rename_i t ht
      obtain ⟨h1, h2⟩ := ev_one h k
      simp only [Bool.and_eq_true, beq_iff_eq, decide_eq_true_eq, Bool.not_eq_true'] at h1
      obtain ⟨h3, h4, h5, h6, h7, h8, h9, h10⟩ := h1
      refine ⟨h4, v, tv, q, tq, j, tj, S', t, rfl, ht, ?_, ⟨h5, h6, h7, h8, ev_ct h9, ev_cf h10⟩, h2⟩
      cases b with
      | true => exact Or.inl ⟨rfl, by simpa using h3⟩
      | false =>
        simp only [Bool.and_eq_true, Bool.or_eq_true, beq_iff_eq, decide_eq_true_eq] at h3
        exact Or.inr ⟨rfl, h3⟩
    · cases h
  · cases h
theorem ow_cV (C : ev_cx p s m args meth c cc nL o D tys aK aV b0) (hK : ∀ κ ∈ K, ek_ok l T I κ) (hR : R.frames = rm.1 ∧ R.locals = rm.2) {i : Nat} (hd : decode cc pc = .ok (.invokevirtual i, len)) (h : ev_cV o T Wr K rm i len pc L S FS RS = some ss) (k : ∀ st ∈ ss, ev_go p l e R s m args below meth c Q D tys T I b0 nL ad w0 Wr γ st) : ev_go p l e R s m args below meth c Q D tys T I b0 nL ad w0 Wr γ (pc, L, S, FS, RS) := by
  unfold ev_cV at h
  split at h
  · rename_i kd mi n hf
    split at h
    · rename_i j tj S' hS'
      split at h
      · rename_i q hq
        split at h
        · rename_i r hr
          split at h
          · rename_i ci hci
            split at h
            · rename_i rc hrc
              split at h
              · rename_i κ hκ
                obtain ⟨h1, h2⟩ := ev_many h k
                simp only [Bool.and_eq_true, beq_iff_eq] at h1
                obtain ⟨rfl, rfl, hqc, hn, hroom⟩ := h1
                unfold ev_room at hroom
                simp only [Bool.and_eq_true, decide_eq_true_eq] at hroom
                obtain ⟨p1, p2, p3, p4, p5⟩ := ev_pick_ok hκ
                obtain ⟨q1, q2⟩ := q
                dsimp only at hqc
                subst hqc
                have hSS : S = S.take n ++ (.inr (j + 2), tj) :: S' := by rw [← hS']; exact (List.take_append_drop n S).symm
                rw [hSS]
                exact fs_callV C hf hr (hK κ p1) p2 hn p3 p4 p5 hq hrc hci (by rw [hR.1]; exact hroom.1) (by rw [hR.2]; exact hroom.2.1) hroom.2.2 hd h2
              · cases h
            · cases h
          · cases h
        · cases h
      · cases h
    · cases h
  · cases h
theorem ow_cS (C : ev_cx p s m args meth c cc nL o D tys aK aV b0) (hI0 : ev_hI I sp) (hK : ∀ κ ∈ K, ek_ok l T I κ) (hR : R.frames = rm.1 ∧ R.locals = rm.2) {i : Nat} (hd : decode cc pc = .ok (.invokestatic i, len)) (h : ev_cS o T sp Wr K rm i len pc L S FS RS = some ss) (k : ∀ st ∈ ss, ev_go p l e R s m args below meth c Q D tys T I b0 nL ad w0 Wr γ st) : ev_go p l e R s m args below meth c Q D tys T I b0 nL ad w0 Wr γ (pc, L, S, FS, RS) := by
  unfold ev_cS at h
  split at h
  · rename_i kd mi n hf
    split at h
    · rename_i hmm
      split at h
      · rename_i r tr q tq S'
        obtain ⟨h1, h2⟩ := ev_one h k
        simp only [Bool.and_eq_true, beq_iff_eq, decide_eq_true_eq] at h1
        obtain ⟨rfl, rfl, rfl, h3, h4⟩ := h1
        simp only [Bool.or_eq_true, beq_iff_eq] at hmm
        rcases hmm with rfl | rfl
        · exact fs_min C hf (by rw [hR.1]; exact h3) (by rw [hR.2]; exact h4) hd h2
        · exact fs_max C hf (by rw [hR.1]; exact h3) (by rw [hR.2]; exact h4) hd h2
      · cases h
    · split at h
      · rename_i r hr
        split at h
        · rename_i κ hκ
          obtain ⟨h1, h2⟩ := ev_many h k
          simp only [Bool.and_eq_true, Bool.or_eq_true, beq_iff_eq] at h1
          obtain ⟨hkd, rfl, hn, hroom⟩ := h1
          unfold ev_room at hroom
          simp only [Bool.and_eq_true, decide_eq_true_eq] at hroom
          obtain ⟨p1, p2, p3, p4, p5⟩ := ev_pick_ok hκ
          have hSS : S = S.take n ++ S.drop n := (List.take_append_drop n S).symm
          rw [hSS]
          exact fs_callS C hf hkd hr (hK κ p1) p2 hn p3 p4 p5 (by rw [hR.1]; exact hroom.1) (by rw [hR.2]; exact hroom.2.1) hroom.2.2 hd h2
        · cases h
      · cases h
  · split at h
    · rename_i n tn d td j1 t1' a ta j0 t0' S'
      split at h
      · rename_i t0 ht0
        split at h
        · rename_i t1 ht1
          obtain ⟨h1, h2⟩ := ev_one h k
          simp only [Bool.and_eq_true, beq_iff_eq, decide_eq_true_eq, Bool.not_eq_true'] at h1
          obtain ⟨h3, rfl, h4, h5, rfl, rfl, h6, h7, h8, h9, h10, h11, h12, h13, h14, h15⟩ := h1
          have hn : n = ((n.1.toNat : Int), (n.1.toNat : Int)) := by
            obtain ⟨n1, n2⟩ := n
            dsimp only at h4 h5 ⊢
            subst h4
            have : n1 = (n1.toNat : Int) := by omega
            rw [← this]
          rw [hn]
          exact fs_copy C hI0 (List.contains_iff_mem.mp h3) ht0 ht1 h6 h7 h8 h9 h10 h11 (ev_ct h12) (ev_cf h13) (by rw [hR.1]; exact h14) (by rw [hR.2]; exact h15) hd h2
        · cases h
      · cases h
    · cases h
set_option maxHeartbeats 4000000 in
theorem ev_op_ok (C : ev_cx p s m args meth c cc nL o D tys aK aV b0) (hI0 : ev_hI I sp) (hK : ∀ κ ∈ K, ek_ok l T I κ) (hR : R.frames = rm.1 ∧ R.locals = rm.2) {op : Instr} (hd : decode cc pc = .ok (op, len)) (h : ev_op o T sp Wr K rm op len pc L S FS RS = some ss) (k : ∀ st ∈ ss, ev_go p l e R s m args below meth c Q D tys T I b0 nL ad w0 Wr γ st) : ev_go p l e R s m args below meth c Q D tys T I b0 nL ad w0 Wr γ (pc, L, S, FS, RS) := by
  cases op with
  | iconst n =>
    obtain ⟨rfl, h2⟩ := ow_kn (h : ev_kn 1 (Int32.ofInt n) len pc L S FS RS = some ss) k
    exact fs_push (en_in_self _) (fun H locs ls rest k => lv_iconst C.1 C.2.1 hd rfl k) h2
  | bipush n =>
    obtain ⟨rfl, h2⟩ := ow_kn (h : ev_kn 2 (Int8.ofInt n).toInt32 len pc L S FS RS = some ss) k
    exact fs_push (en_in_self _) (fun H locs ls rest k => lv_bipush C.1 C.2.1 hd rfl k) h2
  | sipush n =>
    obtain ⟨rfl, h2⟩ := ow_kn (h : ev_kn 3 (Int16.ofInt n).toInt32 len pc L S FS RS = some ss) k
    exact fs_push (en_in_self _) (fun H locs ls rest k => lv_sipush C.1 C.2.1 hd rfl k) h2
  | ldc i =>
    dsimp only [ev_op] at h
    split at h
    · rename_i v hv
      obtain ⟨rfl, h2⟩ := ow_kn h k
      have hw : Cond.constant (en_nm o) i (Int32.ofInt v) ∈ en_ws := en_ws_in (en_kc_in _ (List.mem_map.mpr ⟨(o, i, v), en_find_mem hv, rfl⟩)) rfl
      exact fs_push (en_in_self _) (fun H locs ls rest k => lv_ldc C.1 C.2.1 C.2.2.2.1 (C.2.2.2.2.1 _ hw) hd k) h2
    · cases h
  | ldc_w i =>
    dsimp only [ev_op] at h
    split at h
    · rename_i v hv
      obtain ⟨rfl, h2⟩ := ow_kn h k
      have hw : Cond.constant (en_nm o) i (Int32.ofInt v) ∈ en_ws := en_ws_in (en_kc_in _ (List.mem_map.mpr ⟨(o, i, v), en_find_mem hv, rfl⟩)) rfl
      exact fs_push (en_in_self _) (fun H locs ls rest k => lv_ldcw C.1 C.2.1 C.2.2.2.1 (C.2.2.2.2.1 _ hw) hd k) h2
    · cases h
  | iload_n i =>
    obtain ⟨rfl, q, g, h1, h2⟩ := ow_ld (h : ev_ld 1 i.val len pc L S FS RS = some ss) k
    exact fs_iload h1 (fun H locs ls rest v h k => lv_iload_n C.1 C.2.1 hd rfl h k) h2
  | iload i =>
    obtain ⟨rfl, q, g, h1, h2⟩ := ow_ld (h : ev_ld 2 i len pc L S FS RS = some ss) k
    exact fs_iload h1 (fun H locs ls rest v h k => lv_iload C.1 C.2.1 hd h k) h2
  | aload_n i =>
    obtain ⟨rfl, q, g, h1, h2⟩ := ow_la (h : ev_la 1 i.val len pc L S FS RS = some ss) k
    exact fs_aload h1 (fun H locs ls rest v h k => lv_aload_n C.1 C.2.1 hd rfl h k) h2
  | aload i =>
    obtain ⟨rfl, q, g, h1, h2⟩ := ow_la (h : ev_la 2 i len pc L S FS RS = some ss) k
    exact fs_aload h1 (fun H locs ls rest v h k => lv_aload C.1 C.2.1 hd h k) h2
  | istore_n i =>
    obtain ⟨rfl, h1, q, t, S', rfl, h2⟩ := ow_st (h : ev_st 1 i.val len pc L S FS RS = some ss) k
    refine fs_goI h1 (fun H locs ls rest x hx z1 z2 hL k => ?_) h2
    obtain ⟨v, rfl, hv⟩ := hx
    exact lv_istore_n C.1 C.2.1 hd rfl (en_lv_has z1 z2) (by omega) rfl k
  | istore i =>
    obtain ⟨rfl, h1, q, t, S', rfl, h2⟩ := ow_st (h : ev_st 2 i len pc L S FS RS = some ss) k
    refine fs_goI h1 (fun H locs ls rest x hx z1 z2 hL k => ?_) h2
    obtain ⟨v, rfl, hv⟩ := hx
    exact lv_istore C.1 C.2.1 hd (en_lv_has z1 z2) (by omega) rfl k
  | astore_n i =>
    obtain ⟨rfl, h1, j, t, S', rfl, h2⟩ := ow_sa (h : ev_sa 1 i.val len pc L S FS RS = some ss) k
    refine fs_goI h1 (fun H locs ls rest x hx z1 z2 hL k => ?_) h2
    obtain ⟨rfl, hv⟩ : x = .ref (ad j) ∧ j < T.length := hx
    exact lv_astore_n C.1 C.2.1 hd rfl (en_lv_has z1 z2) (by omega) rfl k
  | astore i =>
    obtain ⟨rfl, h1, j, t, S', rfl, h2⟩ := ow_sa (h : ev_sa 2 i len pc L S FS RS = some ss) k
    refine fs_goI h1 (fun H locs ls rest x hx z1 z2 hL k => ?_) h2
    obtain ⟨rfl, hv⟩ : x = .ref (ad j) ∧ j < T.length := hx
    exact lv_astore C.1 C.2.1 hd (en_lv_has z1 z2) (by omega) rfl k
  | iinc i n =>
    dsimp only [ev_op] at h
    split at h
    · rename_i q g hq
      split at h
      · rename_i hex
        obtain ⟨h1, h2⟩ := ev_one h k
        simp only [beq_iff_eq] at h1
        subst h1
        exact fs_iinc C hq hex hd h2
      · obtain ⟨h1, h2⟩ := ev_one h k
        simp only [beq_iff_eq] at h1
        subst h1
        exact fs_iincF C hq hd h2
    · cases h
  | iadd =>
    obtain ⟨rfl, r, tr, q, tq, S', rfl, -, h2⟩ := ow_bn (h : ev_bn en_add ev_ta (fun _ => true) len pc L S FS RS = some ss) k
    exact fs_bin (fun x y => x + y) (fun ls ws x y hx hy tx ty => ⟨en_add_in hx hy, ev_ta_ok hx hy tx ty⟩) (fun H locs ls rest x y _ _ k => lv_iadd C.1 C.2.1 hd k) h2
  | isub =>
    obtain ⟨rfl, r, tr, q, tq, S', rfl, -, h2⟩ := ow_bn (h : ev_bn ev_sub (fun q r tq _ => ev_ts q r tq) (fun _ => true) len pc L S FS RS = some ss) k
    exact fs_bin (fun x y => x - y) (fun ls ws x y hx hy tx ty => ⟨ev_sub_in hx hy, ev_ts_ok hx hy tx⟩) (fun H locs ls rest x y _ _ k => lv_isub C.1 C.2.1 hd k) h2
  | imul =>
    obtain ⟨rfl, r, tr, q, tq, S', rfl, -, h2⟩ := ow_bn (h : ev_bn en_mul (fun _ _ _ _ => ev_nt) (fun _ => true) len pc L S FS RS = some ss) k
    exact fs_bin (fun x y => x * y) (fun ls ws x y hx hy tx ty => ⟨en_mul_in hx hy, ev_tag0⟩) (fun H locs ls rest x y _ _ k => lv_imul C.1 C.2.1 hd k) h2
  | iand =>
    obtain ⟨rfl, r, tr, q, tq, S', rfl, -, h2⟩ := ow_bn (h : ev_bn en_and (fun _ _ _ _ => ev_nt) (fun _ => true) len pc L S FS RS = some ss) k
    exact fs_bin (fun x y => x &&& y) (fun ls ws x y hx hy tx ty => ⟨en_and_in hx hy, ev_tag0⟩) (fun H locs ls rest x y _ _ k => lv_iand C.1 C.2.1 hd k) h2
  | ior =>
    obtain ⟨rfl, r, tr, q, tq, S', rfl, -, h2⟩ := ow_bn (h : ev_bn (fun _ _ => en_full) (fun _ _ _ _ => ev_nt) (fun _ => true) len pc L S FS RS = some ss) k
    exact fs_bin (fun x y => x ||| y) (fun ls ws x y hx hy tx ty => ⟨en_full_in _, ev_tag0⟩) (fun H locs ls rest x y _ _ k => lv_ior C.1 C.2.1 hd k) h2
  | ixor =>
    obtain ⟨rfl, r, tr, q, tq, S', rfl, -, h2⟩ := ow_bn (h : ev_bn (fun _ _ => en_full) (fun _ _ _ _ => ev_nt) (fun _ => true) len pc L S FS RS = some ss) k
    exact fs_bin (fun x y => x ^^^ y) (fun ls ws x y hx hy tx ty => ⟨en_full_in _, ev_tag0⟩) (fun H locs ls rest x y _ _ k => lv_ixor C.1 C.2.1 hd k) h2
  | ishl =>
    obtain ⟨rfl, r, tr, q, tq, S', rfl, -, h2⟩ := ow_bn (h : ev_bn (fun _ _ => en_full) (fun _ _ _ _ => ev_nt) (fun _ => true) len pc L S FS RS = some ss) k
    exact fs_bin (fun x y => x <<< (y &&& 31)) (fun ls ws x y hx hy tx ty => ⟨en_full_in _, ev_tag0⟩) (fun H locs ls rest x y _ _ k => lv_ishl C.1 C.2.1 hd k) h2
  | ishr =>
    obtain ⟨rfl, r, tr, q, tq, S', rfl, -, h2⟩ := ow_bn (h : ev_bn (fun _ _ => en_full) (fun _ _ _ _ => ev_nt) (fun _ => true) len pc L S FS RS = some ss) k
    exact fs_bin (fun x y => x >>> (y &&& 31)) (fun ls ws x y hx hy tx ty => ⟨en_full_in _, ev_tag0⟩) (fun H locs ls rest x y _ _ k => lv_ishr C.1 C.2.1 hd k) h2
  | iushr =>
    obtain ⟨rfl, r, tr, q, tq, S', rfl, -, h2⟩ := ow_bn (h : ev_bn (fun _ _ => en_full) (fun _ _ _ _ => ev_nt) (fun _ => true) len pc L S FS RS = some ss) k
    exact fs_bin (fun x y => (x.toUInt32 >>> (y.toUInt32 &&& Int32.toUInt32 31)).toInt32) (fun ls ws x y hx hy tx ty => ⟨en_full_in _, ev_tag0⟩) (fun H locs ls rest x y _ _ k => lv_iushr C.1 C.2.1 hd rfl k) h2
  | idiv =>
    obtain ⟨rfl, r, tr, q, tq, S', rfl, hz, h2⟩ := ow_bn (h : ev_bn ev_idiv (fun _ _ _ _ => ev_nt) ev_nz len pc L S FS RS = some ss) k
    exact fs_bin (fun x y => x / y) (fun ls ws x y hx hy tx ty => ⟨ev_idiv_in hx hy, ev_tag0⟩) (fun H locs ls rest x y _ hy k => lv_idiv C.1 C.2.1 hd (ev_nz_ok hz hy) k) h2
  | irem =>
    obtain ⟨rfl, r, tr, q, tq, S', rfl, hz, h2⟩ := ow_bn (h : ev_bn ev_irem (fun _ _ _ _ => ev_nt) ev_nz len pc L S FS RS = some ss) k
    exact fs_bin (fun x y => x - x / y * y) (fun ls ws x y hx hy tx ty => ⟨ev_irem_in hx hy, ev_tag0⟩) (fun H locs ls rest x y _ hy k => lv_irem C.1 C.2.1 hd (ev_nz_ok hz hy) k) h2
  | i2b =>
    dsimp only [ev_op] at h
    split at h
    · obtain ⟨h1, h2⟩ := ev_one h k
      simp only [beq_iff_eq] at h1
      subst h1
      exact fs_un (fun x => x.toInt8.toInt32) (fun x _ => en_i2b_in x) rfl (fun H locs ls rest x k => lv_i2b C.1 C.2.1 hd rfl k) h2
    · cases h
  | dup =>
    dsimp only [ev_op] at h
    split at h
    · obtain ⟨h1, h2⟩ := ev_one h k
      simp only [beq_iff_eq] at h1
      subst h1
      exact fs_dup C hd h2
    · cases h
  | dup2 =>
    dsimp only [ev_op] at h
    split at h
    · obtain ⟨h1, h2⟩ := ev_one h k
      simp only [beq_iff_eq] at h1
      subst h1
      exact fs_dup2 C hd h2
    · cases h
  | pop =>
    dsimp only [ev_op] at h
    split at h
    · obtain ⟨h1, h2⟩ := ev_one h k
      simp only [beq_iff_eq] at h1
      subst h1
      exact fs_pop C hd h2
    · cases h
  | goto off =>
    dsimp only [ev_op] at h
    obtain ⟨h1, h2⟩ := ev_one h k
    simp only [Bool.and_eq_true, beq_iff_eq] at h1
    obtain ⟨rfl, h1⟩ := h1
    exact fs_goto C h1 hd h2
  | if_icmp cd off =>
    dsimp only [ev_op] at h
    split at h
    · obtain ⟨h1, h2⟩ := ev_many h k
      simp only [Bool.and_eq_true, beq_iff_eq] at h1
      obtain ⟨rfl, h1⟩ := h1
      exact fs_icmp C h1 hd h2
    · cases h
  | ifCond cd off =>
    dsimp only [ev_op] at h
    split at h
    · obtain ⟨h1, h2⟩ := ev_many h k
      simp only [Bool.and_eq_true, beq_iff_eq] at h1
      obtain ⟨rfl, h1⟩ := h1
      exact fs_if C h1 hd h2
    · cases h
  | tableswitch d lo hi offs =>
    dsimp only [ev_op] at h
    split at h
    · obtain ⟨h1, h2⟩ := ev_many h k
      exact fs_tsw C h1 hd h2
    · cases h
  | lookupswitch d ps =>
    dsimp only [ev_op] at h
    split at h
    · obtain ⟨h1, h2⟩ := ev_many h k
      exact fs_lsw C h1 hd h2
    · cases h
  | arraylength =>
    dsimp only [ev_op] at h
    split at h
    · split at h
      · rename_i t ht
        obtain ⟨h1, h2⟩ := ev_one h k
        simp only [Bool.and_eq_true, beq_iff_eq, decide_eq_true_eq, Bool.not_eq_true', beq_eq_false_iff_ne] at h1
        obtain ⟨rfl, h3, h4⟩ := h1
        exact fs_alen C ht h3 h4 hd h2
      · cases h
    · cases h
  | iaload =>
    obtain ⟨rfl, q, tq, j, tj, S', t, rfl, ht, h3, h4, h5, h2⟩ := ow_al (h : ev_al T 0 0 len pc L S FS RS = some ss) k
    have ht0 : t.1 = 0 := h3.elim id id
    exact fs_ald ht (by rw [ht0]; decide) h4 h5 (fun H locs ls rest ws a cA f i hP ha hty hin k => va_iald C.1 C.2.1 C.2.2.2.2.2.1 hP j t.1 ha (by rw [hty, ht0]; rfl) hin hd k) h2
  | baload =>
    obtain ⟨rfl, q, tq, j, tj, S', t, rfl, ht, h3, h4, h5, h2⟩ := ow_al (h : ev_al T 1 2 len pc L S FS RS = some ss) k
    rcases h3 with ht0 | ht0
    · exact fs_ald ht (by rw [ht0]; decide) h4 h5 (fun H locs ls rest ws a cA f i hP ha hty hin k => va_zald C.1 C.2.1 C.2.2.2.2.2.1 hP j t.1 ha (by rw [hty, ht0]; rfl) hin hd k) h2
    · exact fs_ald ht (by rw [ht0]; decide) h4 h5 (fun H locs ls rest ws a cA f i hP ha hty hin k => va_bald C.1 C.2.1 C.2.2.2.2.2.1 hP j t.1 ha (by rw [hty, ht0]; rfl) hin hd k) h2
  | aaload =>
    dsimp only [ev_op] at h
    split at h
    · rename_i q tq j tj S'
      split at h
      · rename_i t ht
        obtain ⟨h1, h2⟩ := ev_one h k
        simp only [Bool.and_eq_true, beq_iff_eq, decide_eq_true_eq] at h1
        obtain ⟨rfl, h3, h4, h5, h6⟩ := h1
        have hn : q = ((q.1.toNat : Int), (q.1.toNat : Int)) := by
          obtain ⟨n1, n2⟩ := q
          dsimp only at h4 h5 ⊢
          subst h4
          have : n1 = (n1.toNat : Int) := by omega
          rw [← this]
        rw [hn]
        exact fs_aald C ht h3 h6 hd h2
      · cases h
    · cases h
  | iastore =>
    have h0 : ev_as T sp Wr true len pc L S FS RS = some ss := h
    obtain ⟨rfl, v, tv, q, tq, j, tj, S', t, rfl, ht, h3, ⟨h4, h5, h6, h7, h8, h9⟩, h2⟩ := ow_as (b := true) h0 k
    rcases h3 with ⟨-, ht0⟩ | ⟨h3, -⟩
    · exact fs_ast hI0 ht (by rw [ht0]; decide) h4 h5 h6 h7 h8 h9 (fun H locs ls rest ws a cA f i x _ hP hD hS ha hty hin k => va_iast C.1 C.2.1 C.2.2.2.2.2.1 hP hD hS j t.1 ha (by rw [hty, ht0]; rfl) hin hd k) h2
    · cases h3
  | bastore =>
    have h0 : ev_as T sp Wr false len pc L S FS RS = some ss := h
    obtain ⟨rfl, v, tv, q, tq, j, tj, S', t, rfl, ht, h3, ⟨h4, h5, h6, h7, h8, h9⟩, h2⟩ := ow_as (b := false) h0 k
    rcases h3 with ⟨h3, -⟩ | ⟨-, ⟨ht0, a1, a2⟩ | ⟨ht0, a1, a2⟩⟩
    · cases h3
    · exact fs_ast hI0 ht (by rw [ht0]; decide) h4 h5 h6 h7 h8 h9 (fun H locs ls rest ws a cA f i x hx hP hD hS ha hty hin k => va_bast C.1 C.2.1 C.2.2.2.2.2.1 hP hD hS j t.1 ha (by rw [hty, ht0]; rfl) hin hd (by obtain ⟨hx1, hx2⟩ := hx; rw [en_nar_b (by omega) (by omega)]; exact k)) h2
    · exact fs_ast hI0 ht (by rw [ht0]; decide) h4 h5 h6 h7 h8 h9 (fun H locs ls rest ws a cA f i x hx hP hD hS ha hty hin k => va_zast C.1 C.2.1 C.2.2.2.2.2.1 hP hD hS j t.1 ha (by rw [hty, ht0]; rfl) hin hd (by obtain ⟨hx1, hx2⟩ := hx; rw [en_vp_nar (en_nar_z (by omega) (by omega))]; exact k)) h2
  | getfield i =>
    dsimp only [ev_op] at h
    split at h
    · rename_i ci f hf
      split at h
      · split at h
        · rename_i q hq
          split at h
          · rename_i r hr
            split at h
            · rename_i b ha
              obtain ⟨h1, h2⟩ := ev_one h k
              simp only [Bool.and_eq_true, beq_iff_eq, decide_eq_true_eq] at h1
              obtain ⟨rfl, h3, h4⟩ := h1
              obtain ⟨q1, q2⟩ := q
              dsimp only at h3 ha
              subst h3
              exact fs_geti C hf hr h4 hq ha hd h2
            · rename_i n ha
              obtain ⟨h1, h2⟩ := ev_one h k
              simp only [Bool.and_eq_true, beq_iff_eq, decide_eq_true_eq] at h1
              obtain ⟨rfl, h3, h4⟩ := h1
              obtain ⟨q1, q2⟩ := q
              dsimp only at h3 ha
              subst h3
              exact fs_getr C hf hr h4 hq ha hd h2
            · cases h
          · cases h
        · cases h
      · cases h
    · cases h
  | putfield i =>
    dsimp only [ev_op] at h
    split at h
    · rename_i ci f hf
      split at h
      · split at h
        · rename_i q hq
          split at h
          · rename_i r hr
            split at h
            · rename_i b ha
              obtain ⟨h1, h2⟩ := ev_one h k
              simp only [Bool.and_eq_true, beq_iff_eq, decide_eq_true_eq, Bool.not_eq_true'] at h1
              obtain ⟨rfl, h3, h4, h5, h6, h7, h8, h9⟩ := h1
              obtain ⟨q1, q2⟩ := q
              dsimp only at h3 ha
              subst h3
              exact fs_puti C hI0 hf hr h4 hq ha h5 h6 h7 (ev_ct h8) (ev_cf h9) hd h2
            · cases h
          · cases h
        · cases h
      · cases h
    · cases h
  | invokevirtual i => exact ow_cV C hK hR hd h k
  | invokestatic i => exact ow_cS C hI0 hK hR hd h k
  | _ => cases h
end EVO
end
section
/-- lexicographic order of lists of one length -/
def ev_lx : List Nat → List Nat → Prop
  | a :: as, b :: bs => a < b ∨ (a = b ∧ ev_lx as bs)
  | _, _ => False
theorem ev_lx_ind : ∀ (n : Nat) (P : List Nat → Prop), (∀ v : List Nat, v.length = n → (∀ u : List Nat, u.length = n → ev_lx u v → P u) → P v) → ∀ v : List Nat, v.length = n → P v
  | 0, P, h, v, hv => by
    refine h v hv (fun u hu hl => ?_)
    cases u with
    | nil => exact hl.elim
    | cons a as => cases hu
  | n + 1, P, h, v, hv => by
    have key : ∀ (a : Nat) (as : List Nat), as.length = n → P (a :: as) := by
      intro a
      induction a using Nat.strongRecOn with
      | _ a iha =>
        refine ev_lx_ind n (fun as => P (a :: as)) (fun as has hih => h (a :: as) (by rw [List.length_cons, has]) (fun u hu hl => ?_))
        cases u with
        | nil => cases hu
        | cons b bs =>
          have hbs : bs.length = n := by simpa using hu
          rcases hl with hl | ⟨rfl, hl⟩
          · exact iha b hl bs hbs
          · exact hih bs hbs hl
    cases v with
    | nil => cases hv
    | cons a as => exact key a as (by simpa using hv)
/-- a part of a measure: a constant; what is left up to a bound; what is left down to one -/
abbrev ev_m : Type := Nat × (Nat × Nat × Nat) × Int
def ev_mn (c : ev_m) (v : Int) : Nat := match c.1 with
  | 0 => c.2.2.toNat
  | 1 => (c.2.2 - v).toNat
  | _ => (v - c.2.2).toNat
def ev_vec (γ : Nat → Int) : Nat → List ev_m → List Nat
  | _, [] => []
  | k, c :: cs => ev_mn c (γ k) :: ev_vec γ (k + 1) cs
theorem ev_vec_len {γ : Nat → Int} : ∀ (cs : List ev_m) (k : Nat), (ev_vec γ k cs).length = cs.length
  | [], _ => rfl
  | _ :: cs, k => by unfold ev_vec; rw [List.length_cons, ev_vec_len cs (k + 1), List.length_cons]
def ev_gx (γ : Nat → Int) (ls : Array Slot) (ws : va_W) (k : Nat) (cs : List ev_m) : Prop := ∀ (i : Nat) (c : ev_m), cs[i]? = some c → c.1 = 0 ∨ ∃ x : Int32, ev_loc ls ws c.2.1 x ∧ γ (k + i) = x.toInt
theorem ev_gx_tail {γ : Nat → Int} {ls : Array Slot} {ws : va_W} {k : Nat} {c : ev_m} {cs : List ev_m} (h : ev_gx γ ls ws k (c :: cs)) : ev_gx γ ls ws (k + 1) cs := by
  intro i d hi
  have := h (i + 1) d (by rw [List.getElem?_cons_succ]; exact hi)
  rw [show k + 1 + i = k + (i + 1) by omega]
  exact this
theorem ev_gx_ex {ls : Array Slot} {ws : va_W} {cs : List ev_m} (h : ∀ c ∈ cs, c.1 = 0 ∨ ∃ x : Int32, ev_loc ls ws c.2.1 x) : ∃ γ : Nat → Int, ev_gx γ ls ws 0 cs := by
  classical
  refine ⟨fun k => if hk : ∃ x : Int32, ∃ c, cs[k]? = some c ∧ ev_loc ls ws c.2.1 x then (Classical.choose hk).toInt else 0, fun i c hi => ?_⟩
  rcases h c (List.mem_of_getElem? hi) with h0 | ⟨x, hx⟩
  · exact Or.inl h0
  · refine Or.inr ?_
    have hk : ∃ x : Int32, ∃ c, cs[i]? = some c ∧ ev_loc ls ws c.2.1 x := ⟨x, c, hi, hx⟩
    obtain ⟨d, h1, h2⟩ := Classical.choose_spec hk
    rw [hi] at h1
    cases h1
    refine ⟨Classical.choose hk, h2, ?_⟩
    rw [Nat.zero_add]
    exact dif_pos hk
/-- a place's bounds and ghost -/
def ev_gl (L : List ev_l) (FS : List ev_f) (q : Nat × Nat × Nat) : Option ((Int × Int) × Option (Nat × Int)) := match q.1 with
  | 1 => match L[q.2.1]? with
    | some (some (.inl b, g)) => some (b, g)
    | _ => none
  | _ => ev_lk FS q
theorem ev_gl_ok {N : Nat} {ad : Nat → Nat} {γ : Nat → Int} {L : List ev_l} {FS : List ev_f} {ls : Array Slot} {ws : va_W} {q : Nat × Nat × Nat} {u : (Int × Int) × Option (Nat × Int)} (hl : ev_lo N ad γ L ls) (hf : ∀ f ∈ FS, ev_fact γ ls ws f) (h : ev_gl L FS q = some u) : ∃ x : Int32, ev_loc ls ws q x ∧ en_in u.1 x ∧ ev_gt γ u.2 (.int x) := by
  obtain ⟨k, a, b⟩ := q
  unfold ev_gl at h
  split at h
  · rename_i hk
    dsimp only at hk
    subst hk
    split at h
    · rename_i b0 g hq
      cases h
      obtain ⟨x, h1, ⟨z, rfl, h2⟩, h3⟩ := hl a _ hq
      exact ⟨z, h1, h2, h3⟩
    · cases h
  · exact ev_lk_ok hf h
def ev_lt (L : List ev_l) (FS : List ev_f) (k : Nat) (c d : ev_m) : Bool := match c.1, d.1 with
  | 0, 0 => decide (d.2.2.toNat < c.2.2.toNat)
  | 1, 1 => decide (c.2.2 = d.2.2) && (match ev_gl L FS d.2.1 with
    | some (b, some (g, off)) => g == k && (decide (0 < off) && decide (b.2 ≤ d.2.2))
    | _ => false)
  | 2, 2 => decide (c.2.2 = d.2.2) && (match ev_gl L FS d.2.1 with
    | some (b, some (g, off)) => g == k && (decide (off < 0) && decide (d.2.2 ≤ b.1))
    | _ => false)
  | _, _ => false
def ev_eq (L : List ev_l) (FS : List ev_f) (k : Nat) (c d : ev_m) : Bool := match c.1, d.1 with
  | 0, 0 => decide (d.2.2.toNat = c.2.2.toNat)
  | 1, 1 => decide (c.2.2 = d.2.2) && (match ev_gl L FS d.2.1 with
    | some (_, some (g, off)) => g == k && decide (off = 0)
    | _ => false)
  | 2, 2 => decide (c.2.2 = d.2.2) && (match ev_gl L FS d.2.1 with
    | some (_, some (g, off)) => g == k && decide (off = 0)
    | _ => false)
  | _, _ => false
def ev_dec (L : List ev_l) (FS : List ev_f) : Nat → List ev_m → List ev_m → Bool
  | k, c :: cs, d :: ds => ev_lt L FS k c d || (ev_eq L FS k c d && ev_dec L FS (k + 1) cs ds)
  | _, _, _ => false
section EVL0
variable {N : Nat} {ad : Nat → Nat} {γ γ' : Nat → Int} {L : List ev_l} {FS : List ev_f} {ls : Array Slot} {ws : va_W}
theorem ev_gk {k g : Nat} {off : Int} {b : Int × Int} {d : ev_m} (hl : ev_lo N ad γ L ls) (hf : ∀ f ∈ FS, ev_fact γ ls ws f) (h : ev_gl L FS d.2.1 = some (b, some (g, off))) (hg : g = k) (hd : d.1 ≠ 0) (hx : d.1 = 0 ∨ ∃ x : Int32, ev_loc ls ws d.2.1 x ∧ γ' k = x.toInt) : γ' k = γ k + off ∧ b.1 ≤ γ' k ∧ γ' k ≤ b.2 := by
  obtain ⟨x, h1, h2, i, e, h3⟩ := ev_gl_ok hl hf h
  cases e
  rcases hx with hx | ⟨y, h4, h5⟩
  · exact absurd hx hd
  · have e := ev_loc_one h1 h4
    subst e
    subst hg
    exact ⟨h5.trans h3, by rw [h5]; exact h2.1, by rw [h5]; exact h2.2⟩
theorem ev_lt_ok {k : Nat} {c d : ev_m} (hl : ev_lo N ad γ L ls) (hf : ∀ f ∈ FS, ev_fact γ ls ws f) (h : ev_lt L FS k c d = true) (hx : d.1 = 0 ∨ ∃ x : Int32, ev_loc ls ws d.2.1 x ∧ γ' k = x.toInt) : ev_mn d (γ' k) < ev_mn c (γ k) := by
  obtain ⟨c1, c2, c3⟩ := c
  obtain ⟨d1, d2, d3⟩ := d
  unfold ev_lt at h
  split at h
  · rename_i e1 e2
    dsimp only at e1 e2
    subst e1
    subst e2
    exact of_decide_eq_true h
  · rename_i e1 e2
    dsimp only at e1 e2
    subst e1
    subst e2
    rw [Bool.and_eq_true] at h
    obtain ⟨h1, h2⟩ := h
    split at h2
    · rename_i b g off hg
      simp only [Bool.and_eq_true, beq_iff_eq, decide_eq_true_eq] at h1 h2
      obtain ⟨h3, h4, h5⟩ := h2
      obtain ⟨a1, a2, a3⟩ := ev_gk hl hf hg h3 (fun h => by cases h) hx
      show (d3 - γ' k).toNat < (c3 - γ k).toNat
      omega
    · cases h2
  · rename_i e1 e2
    dsimp only at e1 e2
    subst e1
    subst e2
    rw [Bool.and_eq_true] at h
    obtain ⟨h1, h2⟩ := h
    split at h2
    · rename_i b g off hg
      simp only [Bool.and_eq_true, beq_iff_eq, decide_eq_true_eq] at h1 h2
      obtain ⟨h3, h4, h5⟩ := h2
      obtain ⟨a1, a2, a3⟩ := ev_gk hl hf hg h3 (fun h => by cases h) hx
      show (γ' k - d3).toNat < (γ k - c3).toNat
      omega
    · cases h2
  · cases h
theorem ev_eq_ok {k : Nat} {c d : ev_m} (hl : ev_lo N ad γ L ls) (hf : ∀ f ∈ FS, ev_fact γ ls ws f) (h : ev_eq L FS k c d = true) (hx : d.1 = 0 ∨ ∃ x : Int32, ev_loc ls ws d.2.1 x ∧ γ' k = x.toInt) : ev_mn d (γ' k) = ev_mn c (γ k) := by
  obtain ⟨c1, c2, c3⟩ := c
  obtain ⟨d1, d2, d3⟩ := d
  unfold ev_eq at h
  split at h
  · rename_i e1 e2
    dsimp only at e1 e2
    subst e1
    subst e2
    exact of_decide_eq_true h
  · rename_i e1 e2
    dsimp only at e1 e2
    subst e1
    subst e2
    rw [Bool.and_eq_true] at h
    obtain ⟨h1, h2⟩ := h
    split at h2
    · rename_i b g off hg
      simp only [Bool.and_eq_true, beq_iff_eq, decide_eq_true_eq] at h1 h2
      obtain ⟨h3, h4⟩ := h2
      obtain ⟨a1, a2, a3⟩ := ev_gk hl hf hg h3 (fun h => by cases h) hx
      show (d3 - γ' k).toNat = (c3 - γ k).toNat
      omega
    · cases h2
  · rename_i e1 e2
    dsimp only at e1 e2
    subst e1
    subst e2
    rw [Bool.and_eq_true] at h
    obtain ⟨h1, h2⟩ := h
    split at h2
    · rename_i b g off hg
      simp only [Bool.and_eq_true, beq_iff_eq, decide_eq_true_eq] at h1 h2
      obtain ⟨h3, h4⟩ := h2
      obtain ⟨a1, a2, a3⟩ := ev_gk hl hf hg h3 (fun h => by cases h) hx
      show (γ' k - d3).toNat = (γ k - c3).toNat
      omega
    · cases h2
  · cases h
theorem ev_dec_ok (hl : ev_lo N ad γ L ls) (hf : ∀ f ∈ FS, ev_fact γ ls ws f) : ∀ {cs ds : List ev_m} {k : Nat}, ev_dec L FS k cs ds = true → ev_gx γ' ls ws k ds → ev_lx (ev_vec γ' k ds) (ev_vec γ k cs)
  | c :: cs, d :: ds, k, h, hx => by
    unfold ev_dec at h
    rw [Bool.or_eq_true, Bool.and_eq_true] at h
    have h0 := hx 0 d rfl
    rw [Nat.add_zero] at h0
    rcases h with h | ⟨h1, h2⟩
    · exact Or.inl (ev_lt_ok hl hf h h0)
    · exact Or.inr ⟨ev_eq_ok hl hf h1 h0, ev_dec_ok hl hf h2 (ev_gx_tail hx)⟩
  | [], _, _, h, _ => by cases h
  | _ :: _, [], _, h, _ => by cases h
/-- the places of a measure, marked at the head -/
def ev_tgL (L : List ev_l) (i k : Nat) : List ev_l := match L[i]? with
  | some (some (a, _)) => L.set i (some (a, some (k, 0)))
  | _ => L
def ev_tgs : Nat → List ev_m → List ev_l → List ev_f → List ev_l × List ev_f
  | _, [], L, FS => (L, FS)
  | k, c :: cs, L, FS => match c.1 == 0 with
    | true => ev_tgs (k + 1) cs L FS
    | false => match c.2.1.1 == 1 with
      | true => ev_tgs (k + 1) cs (ev_tgL L c.2.1.2.1 k) FS
      | false => ev_tgs (k + 1) cs L ((c.2.1, ev_fq FS c.2.1 en_full, some (k, 0)) :: FS)
theorem ev_tgL_ok {i k : Nat} {y : Int32} (hl : ev_lo N ad γ L ls) (hy : ls[i]? = some (.val (.int y))) (hk : γ k = y.toInt) : (ev_tgL L i k).length = L.length ∧ ev_lo N ad γ (ev_tgL L i k) ls := by
  unfold ev_tgL
  split
  · rename_i a g hq
    refine ⟨List.length_set, fun j u hj => ?_⟩
    by_cases hji : j = i
    · subst hji
      rw [List.getElem?_set_self (List.getElem?_eq_some_iff.mp hq).1] at hj
      cases hj
      obtain ⟨x, g1, g2, g3⟩ := hl j _ hq
      refine ⟨x, g1, g2, y, ?_, ?_⟩
      · exact Slot.val.inj (Option.some.inj (g1.symm.trans hy))
      · show _ = γ k + 0
        omega
    · rw [List.getElem?_set_ne (Ne.symm hji)] at hj
      exact hl j u hj
  · exact ⟨rfl, hl⟩
theorem ev_tgs_ok : ∀ {cs : List ev_m} {k : Nat} {L : List ev_l} {FS : List ev_f}, ev_lo N ad γ L ls → (∀ f ∈ FS, ev_fact γ ls ws f) → ev_gx γ ls ws k cs → (ev_tgs k cs L FS).1.length = L.length ∧ ev_lo N ad γ (ev_tgs k cs L FS).1 ls ∧ ∀ f ∈ (ev_tgs k cs L FS).2, ev_fact γ ls ws f
  | [], _, _, _, hl, hf, _ => ⟨rfl, hl, hf⟩
  | c :: cs, k, L, FS, hl, hf, hx => by
    have h0 := hx 0 c rfl
    rw [Nat.add_zero] at h0
    unfold ev_tgs
    split
    · exact ev_tgs_ok hl hf (ev_gx_tail hx)
    · rename_i hc
      simp only [beq_eq_false_iff_ne, ne_eq] at hc
      rcases h0 with h0 | ⟨x, h1, h2⟩
      · exact absurd h0 hc
      · split
        · rename_i h3
          simp only [beq_iff_eq] at h3
          have h4 : ls[c.2.1.2.1]? = some (.val (.int x)) := by
            obtain ⟨c1, ⟨d1, d2, d3⟩, c3⟩ := c
            dsimp only at h3
            subst h3
            exact h1
          obtain ⟨a1, a2⟩ := ev_tgL_ok hl h4 h2
          obtain ⟨b1, b2, b3⟩ := ev_tgs_ok a2 hf (ev_gx_tail hx)
          exact ⟨b1.trans a1, b2, b3⟩
        · refine ev_tgs_ok hl (fun f hf1 => ?_) (ev_gx_tail hx)
          rcases List.mem_cons.mp hf1 with rfl | hf1
          · exact ⟨x, h1, ev_fq_ok hf h1 (en_full_in x), x, rfl, by show _ = γ k + 0; omega⟩
          · exact hf f hf1
/-- a head's state bears no mark -/
def ev_ng (L : List ev_l) (FS : List ev_f) : Bool := L.all (fun q => match q with
  | some (_, some _) => false
  | _ => true) && FS.all (fun f => f.2.2.isNone)
theorem ev_ng_lo (h : ev_ng L FS = true) (hl : ev_lo N ad γ L ls) : ev_lo N ad γ' L ls := by
  unfold ev_ng at h
  rw [Bool.and_eq_true] at h
  intro i q hi
  obtain ⟨x, h1, h2, h3⟩ := hl i q hi
  have h4 := List.all_eq_true.mp h.1 _ (List.mem_of_getElem? hi)
  obtain ⟨a, g⟩ := q
  cases g with
  | none => exact ⟨x, h1, h2, trivial⟩
  | some u => cases h4
theorem ev_ng_f (h : ev_ng L FS = true) (hf : ∀ f ∈ FS, ev_fact γ ls ws f) : ∀ f ∈ FS, ev_fact γ' ls ws f := by
  unfold ev_ng at h
  rw [Bool.and_eq_true] at h
  intro f hf1
  obtain ⟨x, h1, h2, h3⟩ := hf f hf1
  have h4 := List.all_eq_true.mp h.2 f hf1
  simp only [Option.isNone_iff_eq_none] at h4
  exact ⟨x, h1, h2, by rw [h4]; trivial⟩
/-- a measure's places hold numbers -/
def ev_mk (T : en_T) (L : List ev_l) (c : ev_m) : Bool := match c.1 == 0 with
  | true => true
  | false => match c.2.1.1 with
    | 1 => match L[c.2.1.2.1]? with
      | some (some (.inl _, _)) => true
      | _ => false
    | 2 => match T[c.2.1.2.1]? with
      | some (.inr q) => match q.2[c.2.1.2.2]? with
        | some (.inl _) => true
        | _ => false
      | _ => false
    | _ => false
theorem ev_mk_ok {tys : List (ClassId × FieldType)} {T : en_T} {c : ev_m} (hl : ev_lo T.length ad γ L ls) (hw : ev_w tys T ad ws) (h : ev_mk T L c = true) : c.1 = 0 ∨ ∃ x : Int32, ev_loc ls ws c.2.1 x := by
  obtain ⟨c1, ⟨d1, d2, d3⟩, c3⟩ := c
  unfold ev_mk at h
  split at h
  · rename_i hc
    exact Or.inl (by simpa using hc)
  · refine Or.inr ?_
    split at h
    · rename_i hk
      dsimp only at hk
      subst hk
      split at h
      · rename_i b g hq
        obtain ⟨x, h1, ⟨z, rfl, h2⟩, h3⟩ := hl d2 _ hq
        exact ⟨z, h1⟩
      · cases h
    · rename_i hk
      dsimp only at hk
      subst hk
      split at h
      · rename_i q hq
        split at h
        · rename_i b hb
          obtain ⟨e0, g1, vs, rfl, g2⟩ := hw.2 d2 _ hq
          obtain ⟨v, g3, z, rfl, g4⟩ := en_vs_get g2 hb
          exact ⟨z, _, _, _, g1, g3⟩
        · cases h
      · cases h
    · cases h
end EVL0
/-- one state says at least what another says -/
def ev_lle (a b : ev_l) : Bool := match b with
  | none => true
  | some y => match a with
    | some x => y.2.isNone && en_le x.1 y.1
    | none => false
def ev_sle (a b : ev_s) : Bool := en_le a.1 b.1 && b.2.1 == 0
def ev_rle (L : List ev_l) (RS : List ev_r) (r : ev_r) : Bool := RS.any (fun q => q.1 == r.1 && (q.2.1 == r.2.1 && decide (q.2.2 ≤ r.2.2))) || (match L[r.1]?, L[r.2.1]? with
  | some (some (.inl a, _)), some (some (.inl b, _)) => decide (a.2 ≤ b.1 + r.2.2)
  | _, _ => false)
def ev_sub2 (T : en_T) (st x : ev_S) : Bool := st.1 == x.1 && (en_all2 ev_lle st.2.1 x.2.1 && (en_all2 ev_sle st.2.2.1 x.2.2.1 && (x.2.2.2.1.all (ev_has T st.2.2.2.1) && x.2.2.2.2.all (ev_rle st.2.1 st.2.2.2.2))))
theorem ev_sle_ok {N : Nat} {ad : Nat → Nat} {ls : Array Slot} {ws : va_W} : ∀ {as bs : List ev_s} {xs : List Value}, en_all2 ev_sle as bs = true → ev_stk N ad ls ws as xs → ev_stk N ad ls ws bs xs
  | [], [], [], _, _ => trivial
  | a :: as, b :: bs, x :: xs, h, hs => by
    simp only [en_all2, ev_sle, Bool.and_eq_true, beq_iff_eq] at h
    exact ⟨⟨en_le_ok h.1.1 hs.1.1, Or.inl h.1.2⟩, ev_sle_ok h.2 hs.2⟩
  | [], [], _ :: _, _, hs => hs.elim
  | _ :: _, _, [], _, hs => hs.elim
  | [], _ :: _, _, h, _ => by cases h
  | _ :: _, [], _, h, _ => by cases h
theorem ev_rle_ok {N : Nat} {ad : Nat → Nat} {γ : Nat → Int} {L : List ev_l} {RS : List ev_r} {ls : Array Slot} {r : ev_r} (hl : ev_lo N ad γ L ls) (hR : ∀ r ∈ RS, ev_rel ls r) (h : ev_rle L RS r = true) : ev_rel ls r := by
  unfold ev_rle at h
  rw [Bool.or_eq_true] at h
  rcases h with h | h
  · obtain ⟨q, h1, h2⟩ := List.any_eq_true.mp h
    simp only [Bool.and_eq_true, beq_iff_eq, decide_eq_true_eq] at h2
    obtain ⟨x, y, h3, h4, h5⟩ := hR q h1
    exact ⟨x, y, by rw [← h2.1]; exact h3, by rw [← h2.2.1]; exact h4, by omega⟩
  · split at h
    · rename_i a g b g' ha hb
      simp only [decide_eq_true_eq] at h
      obtain ⟨x, h1, ⟨z, rfl, h2⟩, -⟩ := hl _ _ ha
      obtain ⟨y, h3, ⟨w, rfl, h4⟩, -⟩ := hl _ _ hb
      exact ⟨z, w, h1, h3, by have := h2.2; have := h4.1; omega⟩
    · cases h
theorem ev_sub2_at {s : State} {D : va_G} {tys : List (ClassId × FieldType)} {T : en_T} {I : va_W → Prop} {b0 nL : Nat} {ad : Nat → Nat} {w0 : va_W} {Wr : List (Nat × Nat)} {γ γ' : Nat → Int} {st x : ev_S} {H : Heap} {locs : List Loc} {ls : Array Slot} {stk : List Value} {ws : va_W} (h : ev_sub2 T st x = true) (ha : ev_at s D tys T I b0 nL ad w0 Wr γ st.2.1 st.2.2.1 st.2.2.2.1 st.2.2.2.2 H locs ls stk ws) : st.1 = x.1 ∧ ev_at s D tys T I b0 nL ad w0 Wr γ' x.2.1 x.2.2.1 x.2.2.2.1 x.2.2.2.2 H locs ls stk ws := by
  unfold ev_sub2 at h
  simp only [Bool.and_eq_true, beq_iff_eq] at h
  obtain ⟨h1, h2, h3, h4, h5⟩ := h
  obtain ⟨⟨z1, z2, z3⟩, hl, hs, hf, hR, hr⟩ := ha
  refine ⟨h1, ⟨z1, z2, (en_all2_len h2).symm.trans z3⟩, fun i q hi => ?_, ev_sle_ok h3 hs, fun f hf1 => ?_, fun r hr1 => ev_rle_ok hl hR (List.all_eq_true.mp h5 r hr1), hr⟩
  · obtain ⟨b, g1, g2⟩ := en_all2_get h2 hi
    unfold ev_lle at g2
    cases b with
    | none => cases g2
    | some y =>
      obtain ⟨v, g3, g4, g5⟩ := hl i y g1
      simp only [Bool.and_eq_true, Option.isNone_iff_eq_none] at g2
      exact ⟨v, g3, en_le_ok g2.2 g4, by rw [g2.1]; trivial⟩
  · have h6 := List.all_eq_true.mp h4 f hf1
    have h7 := ev_has_ok hf hr.1 h6
    obtain ⟨y, h8, h9⟩ := ev_ff_use (γ := γ) (ls := ls) h7
    unfold ev_has at h6
    simp only [Bool.and_eq_true, Option.isNone_iff_eq_none] at h6
    exact ⟨y, h8, h9, by rw [h6.2.1]; trivial⟩
end
section
def ev_spl : List (Nat × List Int) → ev_S → List ev_S
  | [], st => [st]
  | h :: hs, st => match st.2.2.1[h.1]? with
    | some (.inl q, t) => (ev_cut q h.2).flatMap (fun u => ev_spl hs (st.1, (ev_rf st.2.1 st.2.2.2.1 t u).1, st.2.2.1.set h.1 (.inl u, t), (ev_rf st.2.1 st.2.2.2.1 t u).2, st.2.2.2.2))
    | _ => [st]
def ev_hn (SP : List (Nat × List (Nat × List Int))) (pc : Nat) : List (Nat × List Int) := match SP with
  | [] => []
  | h :: hs => match h.1 == pc with
    | true => h.2
    | false => ev_hn hs pc
def en_rt (ret : Option FieldType) (q : Int × Int) : Bool := match ret with
  | some .int => true
  | some .boolean => decide (0 ≤ q.1) && decide (q.2 ≤ 1)
  | _ => false
def ev_dw (cur : Option (List ev_m)) (ms : List ev_m) (L : List ev_l) (FS : List ev_f) : Bool := match cur with
  | none => true
  | some cs => ev_dec L FS 0 cs ms
def ev_chk (o : Nat) (cc : ByteArray) (T : en_T) (sp Wr : List (Nat × Nat)) (K : List ek) (rm : Nat × Nat) (ret : Option FieldType) (outs : List (Option en_V × List ev_f)) (SP : List (Nat × List (Nat × List Int))) (HS : List (ev_S × List ev_m)) (xs : List ev_S) (cur : Option (List ev_m)) : Nat → ev_S → Bool
  | 0, _ => false
  | n + 1, (pc, L, S, FS, RS) => HS.any (fun h => ev_sub2 T (pc, L, S, FS, RS) h.1 && ev_dw cur h.2 L FS) || (xs.any (fun x => ev_sub2 T (pc, L, S, FS, RS) x) || (match decode cc pc with
    | .ok (.ireturn, len) => (match S with
      | (.inl q, _) :: [] => len == 1 && (ret.isSome && (en_rt ret q && outs.any (fun u => (match u.1 with
        | some a => en_le (.inl q) a
        | none => false) && u.2.all (ev_has T FS))))
      | _ => false)
    | .ok (.return_, len) => (match S with
      | [] => len == 1 && (ret.isNone && outs.any (fun u => u.1.isNone && u.2.all (ev_has T FS)))
      | _ => false)
    | .ok (op, len) => (ev_spl (ev_hn SP pc) (pc, L, S, FS, RS)).all (fun st => match ev_op o T sp Wr K rm op len pc st.2.1 st.2.2.1 st.2.2.2.1 st.2.2.2.2 with
      | some ss => ss.all (ev_chk o cc T sp Wr K rm ret outs SP HS xs cur n)
      | none => false)
    | .error _ => false))
section EVK
variable {p : Program} {l : Launch} {e : Env} {R : Room} {s : State} {m : MethodId} {args : Array Value} {below : List Frame} {meth : Method} {c : Code} {Q : State → Prop} {cc : ByteArray} {D : va_G} {tys : List (ClassId × FieldType)} {T : en_T} {I : va_W → Prop} {sp : List (Nat × Nat)} {aK aV b0 nL o : Nat} {ad : Nat → Nat} {w0 : va_W} {Wr : List (Nat × Nat)} {γ : Nat → Int}
variable {K : List ek} {rm : Nat × Nat} {ret : Option FieldType} {SP : List (Nat × List (Nat × List Int))} {HS : List (ev_S × List ev_m)} {xs : List ev_S} {cur : Option (List ev_m)} {κ : ek}
theorem ev_spl_ok : ∀ {hs : List (Nat × List Int)} {st : ev_S}, (∀ u ∈ ev_spl hs st, u.1 = st.1 → ev_go p l e R s m args below meth c Q D tys T I b0 nL ad w0 Wr γ u) → ev_go p l e R s m args below meth c Q D tys T I b0 nL ad w0 Wr γ st
  | [], st, k => k st List.mem_cons_self rfl
  | h :: hs, (pc, L, S, FS, RS), k => by
    unfold ev_spl at k
    dsimp only at k
    split at k
    · rename_i q t hq
      refine fs_split hq (fun u hu => ev_spl_ok (hs := hs) (fun w hw he => k w (List.mem_flatMap.mpr ⟨u, hu, hw⟩) he))
    · exact k _ List.mem_cons_self rfl
theorem ev_chk_ok (C : ev_cx p s m args meth c cc nL o D tys aK aV b0) (hI0 : ev_hI I sp) (hK : ∀ κ ∈ K, ek_ok l T I κ) (hR : R.frames = rm.1 ∧ R.locals = rm.2) (hret : meth.sig.returnType = ret) (hWr : Wr = ek_wr κ) (hQ : Q = MQ below (ek_qc D tys T I b0 ad w0 κ ret.isSome) args s 0 0 (fun q => b0 ≤ q))
    (hH : ∀ h ∈ HS, ∀ (γ' : Nat → Int) (H : Heap) (locs : List Loc) (ls : Array Slot) (stk : List Value) (ws : va_W), ev_at s D tys T I b0 nL ad w0 Wr γ' h.1.2.1 h.1.2.2.1 h.1.2.2.2.1 h.1.2.2.2.2 H locs ls stk ws → ev_gx γ' ls ws 0 h.2 → (∀ cs, cur = some cs → ev_lx (ev_vec γ' 0 h.2) (ev_vec γ 0 cs)) → W p l e R s m args below meth c H locs 0 0 Q (F0 m h.1.1 ls stk))
    (hM : ∀ h ∈ HS, h.2.all (ev_mk T h.1.2.1) = true) (hX : ∀ x ∈ xs, ev_go p l e R s m args below meth c Q D tys T I b0 nL ad w0 Wr γ x) :
    ∀ (n : Nat) (st : ev_S), ev_chk o cc T sp Wr K rm ret (ek_out κ) SP HS xs cur n st = true → ev_go p l e R s m args below meth c Q D tys T I b0 nL ad w0 Wr γ st := by
  intro n
  induction n with
  | zero => intro st h; cases h
  | succ n ih =>
    intro st h
    obtain ⟨pc, L, S, FS, RS⟩ := st
    unfold ev_chk at h
    rw [Bool.or_eq_true, Bool.or_eq_true] at h
    rcases h with h | h | h
    · obtain ⟨x, h1, h2⟩ := List.any_eq_true.mp h
      rw [Bool.and_eq_true] at h2
      intro H locs ls stk ws ha
      have h3 := (ev_sub2_at (γ' := γ) h2.1 ha).2
      obtain ⟨γ', hg⟩ := ev_gx_ex (ls := ls) (ws := ws) (cs := x.2) (fun c0 hc => ev_mk_ok h3.2.1 h3.2.2.2.2.2.1 (List.all_eq_true.mp (hM x h1) c0 hc))
      obtain ⟨h4, h5⟩ := ev_sub2_at (γ' := γ') h2.1 ha
      have h6 := hH x h1 γ' H locs ls stk ws h5 hg (fun cs hcs => by
        have h7 := h2.2
        rw [hcs] at h7
        exact ev_dec_ok ha.2.1 ha.2.2.2.1 h7 hg)
      rw [← h4] at h6
      exact h6
    · obtain ⟨x, h1, h2⟩ := List.any_eq_true.mp h
      intro H locs ls stk ws ha
      obtain ⟨h4, h5⟩ := ev_sub2_at (γ' := γ) h2 ha
      have h6 := hX x h1 H locs ls stk ws h5
      rw [← h4] at h6
      exact h6
    · split at h
      · rename_i len hd
        split at h
        · rename_i q t
          simp only [Bool.and_eq_true, beq_iff_eq] at h
          obtain ⟨rfl, h0, h1, h2⟩ := h
          obtain ⟨u, hu, h3⟩ := List.any_eq_true.mp h2
          rw [Bool.and_eq_true] at h3
          obtain ⟨h3, h4⟩ := h3
          intro H locs ls stk ws ha
          dsimp only at ha
          obtain ⟨hz, hl, hs, hf, hRr, hw, hI, hP, hD, hS, hfr⟩ := ha
          obtain ⟨x0, ys, rfl, hv0, -, hs1⟩ := ev_stk_cons hs
          have hv1 := hv0
          obtain ⟨v, rfl, hv⟩ := hv0
          cases ys with
          | cons a b => exact hs1.elim
          | nil =>
            subst hQ
            subst hWr
            have hq : ∀ t : State, t.heap = H → s.WarmedH t.vm → ek_qc D tys T I b0 ad w0 κ ret.isSome args s (.returned (some (.int v))) t := fun t ht _ => by
              rw [h0]
              refine ⟨⟨v, ws, rfl, ⟨hw, hI, hfr, u, hu, ?_, fun f hf1 => ev_has_ok hf hw (List.all_eq_true.mp h4 f hf1)⟩, by show va_P D vwCl ws t.heap ∧ va_D (fun q => b0 ≤ q) ws; rw [ht]; exact ⟨hP, hD⟩⟩, hS.F ht⟩
              cases hua : u.1 with
              | none => rw [hua] at h3; cases h3
              | some a => rw [hua] at h3; exact ⟨a, rfl, en_le_ok h3 hv1⟩
            have hlocks := C.2.2.2.2.2.2.2.2
            unfold en_rt at h1
            split at h1
            · exact W.iret C.1 C.2.1 hret hq hS.2.2 hd
            · simp only [Bool.and_eq_true, decide_eq_true_eq] at h1
              obtain ⟨hv2, hv3⟩ := hv
              exact W.zret C.1 C.2.1 hret (en_nar_z (by omega) (by omega)) hq hS.2.2 hd
            · cases h1
        · cases h
      · rename_i len hd
        split at h
        · simp only [Bool.and_eq_true, beq_iff_eq, Option.isNone_iff_eq_none] at h
          obtain ⟨rfl, h1, h2⟩ := h
          obtain ⟨u, hu, h3⟩ := List.any_eq_true.mp h2
          simp only [Bool.and_eq_true, Option.isNone_iff_eq_none] at h3
          obtain ⟨h3, h4⟩ := h3
          intro H locs ls stk ws ha
          dsimp only at ha
          obtain ⟨hz, hl, hs, hf, hRr, hw, hI, hP, hD, hS, hfr⟩ := ha
          cases stk with
          | cons a b => exact hs.elim
          | nil =>
            subst hQ
            subst hWr
            have hlocks := C.2.2.2.2.2.2.2.2
            refine W.vret C.1 C.2.1 (hret.trans h1) (fun t ht _ => ?_) hS.2.2 hd
            rw [h1]
            exact ⟨⟨ws, rfl, ⟨hw, hI, hfr, u, hu, h3, fun f hf1 => ev_has_ok hf hw (List.all_eq_true.mp h4 f hf1)⟩, by show va_P D vwCl ws t.heap ∧ va_D (fun q => b0 ≤ q) ws; rw [ht]; exact ⟨hP, hD⟩⟩, hS.F ht⟩
        · cases h
      · rename_i op len _ _ hd
        refine ev_spl_ok (hs := ev_hn SP pc) (fun u hu he => ?_)
        have h1 := List.all_eq_true.mp h u hu
        obtain ⟨pu, Lu, Su, Fu, Ru⟩ := u
        dsimp only at he h1
        subst he
        split at h1
        · rename_i ss hss
          exact ev_op_ok C hI0 hK hR hd hss (fun st hst => ih st (List.all_eq_true.mp h1 st hst))
        · cases h1
      · cases h
/-- every head is walked: by the order of the measures -/
theorem ev_heads (C : ev_cx p s m args meth c cc nL o D tys aK aV b0) (hI0 : ev_hI I sp) (hK : ∀ κ ∈ K, ek_ok l T I κ) (hR : R.frames = rm.1 ∧ R.locals = rm.2) (hret : meth.sig.returnType = ret) (hWr : Wr = ek_wr κ) (hQ : Q = MQ below (ek_qc D tys T I b0 ad w0 κ ret.isSome) args s 0 0 (fun q => b0 ≤ q)) {N fuel : Nat}
    (hN : ∀ h ∈ HS, h.2.length = N) (hM : ∀ h ∈ HS, h.2.all (ev_mk T h.1.2.1) = true) (hG : ∀ h ∈ HS, ev_ng h.1.2.1 h.1.2.2.2.1 = true)
    (hC : ∀ h ∈ HS, ev_chk o cc T sp Wr K rm ret (ek_out κ) SP HS xs (some h.2) fuel (h.1.1, (ev_tgs 0 h.2 h.1.2.1 h.1.2.2.2.1).1, h.1.2.2.1, (ev_tgs 0 h.2 h.1.2.1 h.1.2.2.2.1).2, h.1.2.2.2.2) = true) (hX : ∀ (γ : Nat → Int), ∀ x ∈ xs, ev_go p l e R s m args below meth c Q D tys T I b0 nL ad w0 Wr γ x) :
    ∀ v : List Nat, v.length = N → ∀ h ∈ HS, ∀ (γ : Nat → Int) (H : Heap) (locs : List Loc) (ls : Array Slot) (stk : List Value) (ws : va_W), ev_at s D tys T I b0 nL ad w0 Wr γ h.1.2.1 h.1.2.2.1 h.1.2.2.2.1 h.1.2.2.2.2 H locs ls stk ws → ev_gx γ ls ws 0 h.2 → ev_vec γ 0 h.2 = v → W p l e R s m args below meth c H locs 0 0 Q (F0 m h.1.1 ls stk) := by
  refine ev_lx_ind N _ (fun v hv ih => ?_)
  intro h hh γ H locs ls stk ws ha hg hvec
  obtain ⟨⟨z1, z2, z3⟩, hl, hs, hf, hRr, hr⟩ := ha
  obtain ⟨t1, t2, t3⟩ := ev_tgs_ok (k := 0) hl hf hg
  refine ev_chk_ok (γ := γ) C hI0 hK hR hret hWr hQ (cur := some h.2) (fun h' hh' γ' H' locs' ls' stk' ws' ha' hg' hlx => ?_) hM (hX γ) fuel _ (hC h hh) H locs ls stk ws ⟨⟨z1, z2, t1.trans z3⟩, t2, hs, t3, hRr, hr⟩
  exact ih (ev_vec γ' 0 h'.2) (by rw [ev_vec_len]; exact hN h' hh') (by rw [← hvec]; exact hlx h.2 rfl) h' hh' γ' H' locs' ls' stk' ws' ha' hg' rfl
end EVK
theorem en_vs_args {N : Nat} {ad : Nat → Nat} : ∀ {av : List en_V} {as : List Value} (b : Nat) {i : Nat} {a : en_V}, en_vs N ad av as → av[i]? = some a → ∃ x, (b + i, x) ∈ lv_args b as ∧ en_v N ad a x
  | [], [], _, _, _, _, hi => by simp at hi
  | a0 :: av, x0 :: as, b, 0, a, h, hi => by
    rw [List.getElem?_cons_zero] at hi
    cases hi
    exact ⟨x0, List.mem_cons_self, h.1⟩
  | a0 :: av, x0 :: as, b, i + 1, a, h, hi => by
    rw [List.getElem?_cons_succ] at hi
    obtain ⟨x, h1, h2⟩ := en_vs_args (b + 1) h.2 hi
    refine ⟨x, ?_, h2⟩
    unfold lv_args
    rw [if_neg (by rw [en_v_cat h.1]; decide), show b + (i + 1) = b + 1 + i by omega]
    exact List.mem_cons_of_mem _ h1
  | [], _ :: _, _, _, _, h, _ => h.elim
  | _ :: _, [], _, _, _, h, _ => h.elim
theorem en_vs_sl {N : Nat} {ad : Nat → Nat} : ∀ {av : List en_V} {as : List Value}, en_vs N ad av as → (lg_sl as).length = as.length
  | [], [], _ => rfl
  | _ :: _, x :: xs, h => by
    have e : lg_sl (x :: xs) = (if x.category = 2 then [.val x, .second] else [.val x]) ++ lg_sl xs := rfl
    rw [e, if_neg (by rw [en_v_cat h.1]; decide), List.length_append, en_vs_sl h.2]
    simp [Nat.add_comm]
  | [], _ :: _, h => h.elim
  | _ :: _, [], h => h.elim
def ev_L0 (av : List en_V) (ml : Nat) : List ev_l := av.map (fun a => some (a, none)) ++ List.replicate (ml - av.length) none
theorem ev_L0_ok {N : Nat} {ad : Nat → Nat} {γ : Nat → Int} {av : List en_V} {as : List Value} {ml : Nat} (h : en_vs N ad av as) (hm : av.length ≤ ml) : (((lg_sl as ++ List.replicate (ml - (lg_sl as).length) Slot.unset).toArray).size = ml ∧ lv_wf ((lg_sl as ++ List.replicate (ml - (lg_sl as).length) Slot.unset).toArray) ∧ (ev_L0 av ml).length = ml) ∧ ev_lo N ad γ (ev_L0 av ml) ((lg_sl as ++ List.replicate (ml - (lg_sl as).length) Slot.unset).toArray) := by
  have hl := lv_entry as (n := ml) (by rw [en_vs_sl h, ← en_vs_len h]; exact hm)
  refine ⟨⟨hl.1, hl.2.1, by unfold ev_L0; rw [List.length_append, List.length_map, List.length_replicate]; omega⟩, fun i q hi => ?_⟩
  obtain ⟨hia, hg⟩ : av[i]? = some q.1 ∧ q.2 = none := by
    unfold ev_L0 at hi
    by_cases hb : i < (av.map (fun a => (some (a, none) : ev_l))).length
    · rw [List.getElem?_append_left hb, List.getElem?_map] at hi
      cases hz : av[i]? with
      | none => rw [hz] at hi; cases hi
      | some b => rw [hz] at hi; cases hi; exact ⟨rfl, rfl⟩
    · rw [List.getElem?_append_right (by omega)] at hi
      have := List.mem_of_getElem? hi
      cases (List.mem_replicate.mp this).2
  obtain ⟨x, h1, h2⟩ := en_vs_args 0 h hia
  rw [Nat.zero_add] at h1
  exact ⟨x, hl.2.2 _ h1, h2, by rw [hg]; trivial⟩
def ek_start (κ : ek) (ml : Nat) : ev_S := (0, ev_L0 κ.2.1 ml, [], ek_pre κ, [])
/-- a contract out of a walk of its body that begins with the contract's start -/
theorem ek_ok_of {l : Launch} {T : en_T} {I : va_W → Prop} {κ : ek} {r : MethodName × ByteArray × Nat × Option FieldType} {o : Nat} (hr : en_ms[κ.1]? = some r) (ho : en_mo[κ.1]? = some o) (hp : Jvm.plainName r.1.cls = true) (hm : κ.2.1.length ≤ r.2.2.1) (hg : (ek_pre κ).all (fun f => f.2.2.isNone) = true)
    (body : ∀ (p : Program) (e : Env) (s : State) (m : MethodId) (args : Array Value) (below : List Frame) (meth : Method) (c : Code) (D : va_G) (tys : List (ClassId × FieldType)) (aK aV b0 : Nat) (ad : Nat → Nat) (w0 : va_W), ev_cx p s m args meth c r.2.1 r.2.2.1 o D tys aK aV b0 → meth.sig.returnType = r.2.2.2 →
      ev_go p l e (ek_rm κ) s m args below meth c (MQ below (ek_qc D tys T I b0 ad w0 κ r.2.2.2.isSome) args s 0 0 (fun q => b0 ≤ q)) D tys T I b0 r.2.2.1 ad w0 (ek_wr κ) (fun _ => 0) (ek_start κ r.2.2.1)) : ek_ok l T I κ := by
  intro r' hr' D tys aK aV b0 ad w0 as hargs hw hI hpre
  rw [hr] at hr'
  cases hr'
  refine Met.ofW (cc := r.2.1) (maxL := r.2.2.1) (ret := r.2.2.2) hp rfl ?_
  intro p e s m args below meth c s₁ B hml hv
  obtain ⟨rfl, hsz, hP, hD, hKs, hX⟩ := hv
  have hts := atoms_spec (ws := Cond.code r.1 r.2.1 r.2.2.1 r.2.2.2 :: en_ws) B.pre
  have hown : s.vm.findClass (en_nm o) = some m.cls := by rw [en_mo_ok hr ho]; exact findClass_of_methodNamed B.named
  have C : ev_cx p s m as.toArray meth c r.2.1 r.2.2.1 o D tys aK aV b0 := ⟨B.exec, B.bytes, hml, hown, fun w hw => hts w (List.mem_cons_of_mem _ hw), hKs, hsz, hX, B.notSynchronized⟩
  rw [lg_entry_eq]
  obtain ⟨h1, h2⟩ := ev_L0_ok (γ := fun _ => 0) hargs hm
  refine body p e s m as.toArray below meth c D tys aK aV b0 ad w0 C B.returns s.heap [] _ [] w0 ⟨h1, h2, trivial, fun f hf => ?_, fun r hr => absurd hr List.not_mem_nil, hw, hI, hP, hD, va_S.rf, ev_fr.rf _ _⟩
  obtain ⟨x, h3, h4⟩ := ev_ff_use (γ := fun _ => 0) (hpre f hf)
  have h5 := List.all_eq_true.mp hg f hf
  simp only [Option.isNone_iff_eq_none] at h5
  exact ⟨x, h3, h4, by rw [h5]; trivial⟩
def ek_good (T : en_T) (sp : List (Nat × Nat)) (κ : ek) (K : List ek) (SP : List (Nat × List (Nat × List Int))) (HS : List (ev_S × List ev_m)) (N fuel : Nat) : Bool := match en_ms[κ.1]? with
  | some r => match en_mo[κ.1]? with
    | some o => Jvm.plainName r.1.cls && (decide (κ.2.1.length ≤ r.2.2.1) && ((ek_pre κ).all (fun f => f.2.2.isNone) && (HS.all (fun h => h.2.length == N && (h.2.all (ev_mk T h.1.2.1) && (ev_ng h.1.2.1 h.1.2.2.2.1 && ev_chk o r.2.1 T sp (ek_wr κ) K (ek_fr κ, ek_lo κ) r.2.2.2 (ek_out κ) SP HS [] (some h.2) fuel (h.1.1, (ev_tgs 0 h.2 h.1.2.1 h.1.2.2.2.1).1, h.1.2.2.1, (ev_tgs 0 h.2 h.1.2.1 h.1.2.2.2.1).2, h.1.2.2.2.2)))) && ev_chk o r.2.1 T sp (ek_wr κ) K (ek_fr κ, ek_lo κ) r.2.2.2 (ek_out κ) SP HS [] none fuel (ek_start κ r.2.2.1))))
    | none => false
  | none => false
theorem ek_good_ok {l : Launch} {T : en_T} {I : va_W → Prop} {sp : List (Nat × Nat)} {κ : ek} {K : List ek} {SP : List (Nat × List (Nat × List Int))} {HS : List (ev_S × List ev_m)} {N fuel : Nat} (hI0 : ev_hI I sp) (hK : ∀ κ' ∈ K, ek_ok l T I κ') (h : ek_good T sp κ K SP HS N fuel = true) : ek_ok l T I κ := by
  unfold ek_good at h
  split at h
  · rename_i r hr
    split at h
    · rename_i o ho
      simp only [Bool.and_eq_true, decide_eq_true_eq] at h
      obtain ⟨h1, h2, h3, h4, h5⟩ := h
      have hh : ∀ h ∈ HS, h.2.length = N ∧ h.2.all (ev_mk T h.1.2.1) = true ∧ ev_ng h.1.2.1 h.1.2.2.2.1 = true ∧ ev_chk o r.2.1 T sp (ek_wr κ) K (ek_fr κ, ek_lo κ) r.2.2.2 (ek_out κ) SP HS [] (some h.2) fuel (h.1.1, (ev_tgs 0 h.2 h.1.2.1 h.1.2.2.2.1).1, h.1.2.2.1, (ev_tgs 0 h.2 h.1.2.1 h.1.2.2.2.1).2, h.1.2.2.2.2) = true := fun h hm => by
        have h6 := List.all_eq_true.mp h4 h hm
        rw [Bool.and_eq_true, Bool.and_eq_true, Bool.and_eq_true, beq_iff_eq] at h6
        exact h6
      refine ek_ok_of hr ho h1 h2 h3 (fun p e s m args below meth c D tys aK aV b0 ad w0 C hret => ?_)
      refine ev_chk_ok (R := ek_rm κ) C hI0 hK ⟨rfl, rfl⟩ hret rfl rfl (cur := none) (fun h hm γ' H locs ls stk ws ha hg _ => ?_) (fun h hm => (hh h hm).2.1) (fun x hx => absurd hx List.not_mem_nil) fuel _ h5
      exact ev_heads (R := ek_rm κ) (xs := []) C hI0 hK ⟨rfl, rfl⟩ hret rfl rfl (fun h hm => (hh h hm).1) (fun h hm => (hh h hm).2.1) (fun h hm => (hh h hm).2.2.1) (fun h hm => (hh h hm).2.2.2) (fun _ x hx => absurd hx List.not_mem_nil) _ (by rw [ev_vec_len]; exact (hh h hm).1) h hm γ' H locs ls stk ws ha hg rfl
    · cases h
  · cases h
end
section
def tQ_9 : List en_V := [.inl (0, 65535), .inl (0, 9999), .inl (0, 20), .inl (0, 15), .inl (0, 9999), .inl ((-2147483648), 2147483647), .inr 87, .inr 88, .inr 89, .inr 90, .inr 91, .inr 92, .inr 93, .inr 94, .inr 95, .inr 96, .inr 97, .inr 98, .inl (0, 260), .inl (0, 240), .inl (0, 240), .inl ((-2147483648), 2147483647), .inl ((-2147483648), 2147483647), .inl ((-2147483648), 2147483647), .inl ((-2147483648), 2147483647), .inl ((-2147483648), 2147483647), .inl ((-2147483648), 2147483647), .inl (0, 16), .inr 99, .inr 100, .inr 101, .inr 102, .inr 103, .inr 104, .inr 105, .inr 106, .inr 107, .inr 108, .inr 109, .inr 110, .inr 111, .inl (0, 20), .inr 112, .inr 113, .inr 114, .inr 115, .inr 116, .inr 117, .inr 118, .inr 119, .inr 120, .inr 121, .inr 122, .inr 123, .inr 124, .inr 125, .inr 126, .inr 127, .inr 128, .inr 129, .inr 130, .inr 131, .inr 132, .inl ((-2147483648), 2147483647), .inl ((-2147483648), 2147483647), .inl ((-2147483648), 2147483647), .inl ((-2147483648), 2147483647), .inl ((-2147483648), 2147483647), .inl ((-2147483648), 2147483647), .inl (0, 15), .inl (0, 1), .inr 133, .inl ((-2147483648), 2147483647), .inr 134, .inr 135, .inl (0, 1), .inr 136, .inr 137, .inr 138, .inr 139, .inr 140, .inr 141, .inr 142, .inr 143, .inr 144, .inr 145, .inr 146, .inr 147, .inl (0, 1), .inl ((-2147483648), 2147483647), .inl (0, 15), .inl (0, 9999), .inl (0, 65535), .inr 148, .inr 149, .inr 150]
def tQ : en_T := [.inr (8, [.inr 3, .inr 5, .inr 47, .inr 59, .inr 67, .inr 73, .inr 80, .inr 84, .inl (0, 1), .inl (0, 1), .inl (0, 1)]), .inr (7, [.inr 4, .inl (0, 260), .inl (0, 260), .inl ((-2147483648), 2147483647), .inl ((-2147483648), 2147483647)]), .inl (0, 260, 0, 255), .inr (1, [.inr 6, .inr 18, .inr 26, .inr 30, .inr 34, .inr 41, .inr 42, .inr 43, .inr 44, .inr 45, .inr 46, .inl (0, 2000)]), .inr (3, [.inr 7, .inr 8, .inr 9, .inr 10, .inr 11, .inr 12, .inr 13, .inr 14, .inr 15, .inr 16, .inr 17, .inl (0, 20), .inl ((-2147483648), 2147483647)]), .inl (0, 20, 0, 3), .inl (0, 20, (-2147483648), 2147483647), .inl (0, 20, 0, 4), .inl (0, 20, (-1), 7), .inl (0, 20, (-1), 7), .inl (0, 20, (-1), 7), .inl (0, 20, (-2147483648), 2147483647), .inl (0, 20, (-1), 19), .inl (0, 20, (-1), 19), .inl (0, 8, (-1), 19), .inl (0, 20, (-2147483648), 2147483647), .inr (0, [.inr 19, .inr 20, .inr 21, .inr 22, .inr 23, .inr 24, .inr 25, .inl (0, 16), .inl (0, 240)]), .inl (0, 16, (-2147483648), 2147483647), .inl (0, 17, 0, 240), .inl (0, 16, 0, 240), .inl (0, 240, (-2147483648), 2147483647), .inl (0, 240, (-2147483648), 2147483647), .inl (0, 7, (-2147483648), 2147483647), .inl (0, 64, (-2147483648), 2147483647), .inr (6, [.inr 27, .inr 28, .inr 29, .inl (0, 15), .inl (0, 9999), .inl (0, 65535)]), .inl (0, 8, (-2147483648), 2147483647), .inl (0, 64, (-2147483648), 2147483647), .inl (0, 20, (-1), 15), .inr (6, [.inr 31, .inr 32, .inr 33, .inl (0, 15), .inl (0, 9999), .inl (0, 65535)]), .inl (0, 8, (-2147483648), 2147483647), .inl (0, 64, (-2147483648), 2147483647), .inl (0, 20, (-1), 15), .inr (4, [.inr 35, .inr 36, .inr 37, .inr 38, .inr 39, .inr 40]), .inl (0, 6, (-2147483648), 2147483647), .inl (0, 20, (-2147483648), 2147483647), .inl (0, 20, (-2147483648), 2147483647), .inl (0, 20, (-2147483648), 2147483647), .inl (0, 20, (-2147483648), 2147483647), .inl (0, 80, (-1), 19), .inl (0, 20, (-2147483648), 2147483647), .inl (0, 20, (-2147483648), 2147483647), .inl (1, 20, 0, 1), .inl (0, 80, (-2147483648), 2147483647), .inl (0, 20, 0, 19), .inl (0, 20, 0, 19), .inr (3, [.inr 48, .inr 49, .inr 50, .inr 51, .inr 52, .inr 53, .inr 54, .inr 55, .inr 56, .inr 57, .inr 58, .inl (0, 20), .inl ((-2147483648), 2147483647)]), .inl (0, 20, 0, 3), .inl (0, 20, (-2147483648), 2147483647), .inl (0, 20, 0, 4), .inl (0, 20, (-1), 7), .inl (0, 20, (-1), 7), .inl (0, 20, (-1), 7), .inl (0, 20, (-2147483648), 2147483647), .inl (0, 20, (-1), 19), .inl (0, 20, (-1), 19), .inl (0, 8, (-1), 19), .inl (0, 20, (-2147483648), 2147483647), .inr (0, [.inr 60, .inr 61, .inr 62, .inr 63, .inr 64, .inr 65, .inr 66, .inl (0, 16), .inl (0, 240)]), .inl (0, 16, (-2147483648), 2147483647), .inl (0, 17, 0, 240), .inl (0, 16, 0, 240), .inl (0, 240, (-2147483648), 2147483647), .inl (0, 240, (-2147483648), 2147483647), .inl (0, 7, (-2147483648), 2147483647), .inl (0, 64, (-2147483648), 2147483647), .inr (2, [.inr 68, .inr 72]), .inr (6, [.inr 69, .inr 70, .inr 71, .inl (0, 15), .inl (0, 9999), .inl (0, 65535)]), .inl (0, 8, (-2147483648), 2147483647), .inl (0, 64, (-2147483648), 2147483647), .inl (0, 20, (-1), 15), .inl (0, 20, (-2147483648), 2147483647), .inr (4, [.inr 74, .inr 75, .inr 76, .inr 77, .inr 78, .inr 79]), .inl (0, 6, (-2147483648), 2147483647), .inl (0, 20, (-2147483648), 2147483647), .inl (0, 20, (-2147483648), 2147483647), .inl (0, 20, (-2147483648), 2147483647), .inl (0, 20, (-2147483648), 2147483647), .inl (0, 80, (-1), 19), .inr (6, [.inr 81, .inr 82, .inr 83, .inl (0, 15), .inl (0, 9999), .inl (0, 65535)]), .inl (0, 8, (-2147483648), 2147483647), .inl (0, 64, (-2147483648), 2147483647), .inl (0, 20, (-1), 15), .inr (5, [.inr 151, .inr 85, .inl (0, 9999)]), .inl (0, 2, 0, 8), .inr (9, tQ_9), .inl (0, 8, (-2147483648), 2147483647), .inl (0, 64, (-2147483648), 2147483647), .inl (0, 20, (-1), 15), .inl (0, 20, 0, 3), .inl (0, 20, (-2147483648), 2147483647), .inl (0, 20, 0, 7), .inl (0, 20, 0, 7), .inl (0, 20, 0, 7), .inl (0, 20, (-1), 4), .inl (0, 20, (-1), 7), .inl (0, 20, (-2147483648), 2147483647), .inl (2, 260, (-128), 127), .inl (0, 260, (-2147483648), 2147483647), .inl (0, 260, (-2147483648), 2147483647), .inl (0, 16, (-2147483648), 2147483647), .inl (0, 16, 0, 260), .inl (0, 16, 0, 260), .inl (0, 16, 0, 260), .inl (0, 260, (-2147483648), 2147483647), .inl (0, 16, (-2147483648), 2147483647), .inl (0, 16, 0, 260), .inl (0, 16, 0, 260), .inl (0, 16, 0, 260), .inl (0, 260, (-2147483648), 2147483647), .inl (0, 7, (-2147483648), 2147483647), .inl (0, 20, 0, 3), .inl (0, 20, (-2147483648), 2147483647), .inl (0, 20, 0, 7), .inl (0, 20, 0, 7), .inl (0, 20, 0, 7), .inl (0, 20, (-1), 4), .inl (0, 20, (-1), 7), .inl (0, 20, (-2147483648), 2147483647), .inl (0, 20, (-2147483648), 2147483647), .inl (0, 20, (-2147483648), 2147483647), .inl (0, 20, (-2147483648), 2147483647), .inl (0, 20, (-2147483648), 2147483647), .inl (0, 20, (-2147483648), 2147483647), .inl (0, 20, (-2147483648), 2147483647), .inl (0, 80, (-1), 19), .inl (0, 80, (-2147483648), 2147483647), .inl (1, 20, 0, 1), .inl (0, 64, (-2147483648), 2147483647), .inl (0, 64, (-2147483648), 2147483647), .inl (0, 20, (-1), 15), .inl (0, 8, (-2147483648), 2147483647), .inl (0, 400, 0, 19), .inl (0, 20, (-2147483648), 2147483647), .inl (0, 20, 0, 19), .inl (0, 6, (-2147483648), 2147483647), .inl (0, 20, (-2147483648), 2147483647), .inl (0, 20, (-2147483648), 2147483647), .inl (0, 20, (-2147483648), 2147483647), .inl (0, 20, (-2147483648), 2147483647), .inl (0, 80, (-1), 19), .inl (0, 8, (-2147483648), 2147483647), .inl (0, 64, (-2147483648), 2147483647), .inl (0, 20, (-2147483648), 2147483647), .inl (0, 20, (-2147483648), 2147483647), .inl (0, 16, 0, 19), .inl (0, 2, 0, 8), .inl (0, 8, (-2147483648), 2147483647), .inl (0, 64, (-2147483648), 2147483647), .inl (0, 20, (-1), 15), .inl (3, 2, 150, 0), .inl (0, 8, 0, 19), .inl (0, 8, 0, 19)]
def sQ : List (Nat × Nat) := []
def iQ (_ : va_W) : Prop := True
theorem hIQ : ev_hI iQ sQ := fun _ _ _ _ _ _ => trivial
end
section
def kq_0 : ek := (10, [.inr 2, .inl ((-2147483648), (-1)), .inl ((-2147483648), 2147483647)], [], [], [(some (.inl (0, 0)), [])], 0, 0)
/-- LoadsAhead register -/
theorem qk_0 (l : Launch) : ek_ok l tQ iQ kq_0 := ek_good_ok (sp := sQ) (K := []) (SP := []) (HS := []) (N := 0) (fuel := 16) hIQ (fun _ h => absurd h List.not_mem_nil) (by decide +kernel)
def kq_1 : ek := (10, [.inr 2, .inl (0, 7), .inl ((-2147483648), 2147483647)], [], [(25, 999)], [(some (.inl (1, 1)), [])], 0, 0)
/-- LoadsAhead register -/
theorem qk_1 (l : Launch) : ek_ok l tQ iQ kq_1 := ek_good_ok (sp := sQ) (K := []) (SP := []) (HS := []) (N := 0) (fuel := 36) hIQ (fun _ h => absurd h List.not_mem_nil) (by decide +kernel)
def kq_2 : ek := (10, [.inr 2, .inl (8, 2147483647), .inl ((-2147483648), 2147483647)], [], [], [(some (.inl (0, 0)), [])], 0, 0)
/-- LoadsAhead register -/
theorem qk_2 (l : Launch) : ek_ok l tQ iQ kq_2 := ek_good_ok (sp := sQ) (K := []) (SP := []) (HS := []) (N := 0) (fuel := 22) hIQ (fun _ h => absurd h List.not_mem_nil) (by decide +kernel)
def kq_3 : ek := (137, [.inl ((-2147483648), (-1)), .inl (0, 0), .inl (7, 7)], [], [], [(some (.inl (0, 0)), [])], 0, 0)
/-- LoadsAheadModel in -/
theorem qk_3 (l : Launch) : ek_ok l tQ iQ kq_3 := ek_good_ok (sp := sQ) (K := []) (SP := []) (HS := []) (N := 0) (fuel := 18) hIQ (fun _ h => absurd h List.not_mem_nil) (by decide +kernel)
def kq_4 : ek := (136, [.inr 86, .inl ((-2147483648), (-1)), .inl ((-2147483648), 2147483647)], [], [], [(some (.inl (0, 0)), [])], 1, 22)
/-- LoadsAheadModel register -/
theorem qk_4 (l : Launch) : ek_ok l tQ iQ kq_4 := ek_good_ok (sp := sQ) (K := [kq_3]) (SP := [(4, [(2, [(-1), 7])])]) (HS := []) (N := 0) (fuel := 22) hIQ (List.forall_mem_cons.mpr ⟨qk_3 l, fun _ h => absurd h List.not_mem_nil⟩) (by decide +kernel)
def kq_5 : ek := (137, [.inl (0, 7), .inl (0, 0), .inl (7, 7)], [], [], [(some (.inl (1, 1)), [])], 0, 0)
/-- LoadsAheadModel in -/
theorem qk_5 (l : Launch) : ek_ok l tQ iQ kq_5 := ek_good_ok (sp := sQ) (K := []) (SP := []) (HS := []) (N := 0) (fuel := 26) hIQ (fun _ h => absurd h List.not_mem_nil) (by decide +kernel)
def kq_6 : ek := (136, [.inr 86, .inl (0, 7), .inl ((-2147483648), 2147483647)], [], [(85, 999)], [(some (.inl (1, 1)), [])], 1, 22)
/-- LoadsAheadModel register -/
theorem qk_6 (l : Launch) : ek_ok l tQ iQ kq_6 := ek_good_ok (sp := sQ) (K := [kq_5]) (SP := [(4, [(2, [(-1), 7])])]) (HS := []) (N := 0) (fuel := 32) hIQ (List.forall_mem_cons.mpr ⟨qk_5 l, fun _ h => absurd h List.not_mem_nil⟩) (by decide +kernel)
def kq_7 : ek := (137, [.inl (8, 2147483647), .inl (0, 0), .inl (7, 7)], [], [], [(some (.inl (0, 0)), [])], 0, 0)
/-- LoadsAheadModel in -/
theorem qk_7 (l : Launch) : ek_ok l tQ iQ kq_7 := ek_good_ok (sp := sQ) (K := []) (SP := []) (HS := []) (N := 0) (fuel := 24) hIQ (fun _ h => absurd h List.not_mem_nil) (by decide +kernel)
def kq_8 : ek := (136, [.inr 86, .inl (8, 2147483647), .inl ((-2147483648), 2147483647)], [], [], [(some (.inl (0, 0)), [])], 1, 22)
/-- LoadsAheadModel register -/
theorem qk_8 (l : Launch) : ek_ok l tQ iQ kq_8 := ek_good_ok (sp := sQ) (K := [kq_7]) (SP := [(4, [(2, [(-1), 7])])]) (HS := []) (N := 0) (fuel := 22) hIQ (List.forall_mem_cons.mpr ⟨qk_7 l, fun _ h => absurd h List.not_mem_nil⟩) (by decide +kernel)
def kq_9 : ek := (11, [.inr 2, .inl ((-2147483648), (-1)), .inl ((-2147483648), 2147483647)], [], [], [(some (.inl (0, 0)), [])], 0, 0)
/-- LoadsAhead poke -/
theorem qk_9 (l : Launch) : ek_ok l tQ iQ kq_9 := ek_good_ok (sp := sQ) (K := []) (SP := []) (HS := []) (N := 0) (fuel := 16) hIQ (fun _ h => absurd h List.not_mem_nil) (by decide +kernel)
def kq_10 : ek := (11, [.inr 2, .inl (64, 2147483647), .inl ((-2147483648), 2147483647)], [], [], [(some (.inl (0, 0)), [])], 0, 0)
/-- LoadsAhead poke -/
theorem qk_10 (l : Launch) : ek_ok l tQ iQ kq_10 := ek_good_ok (sp := sQ) (K := []) (SP := []) (HS := []) (N := 0) (fuel := 22) hIQ (fun _ h => absurd h List.not_mem_nil) (by decide +kernel)
def kq_11 : ek := (11, [.inr 2, .inl (0, 63), .inl ((-2147483648), (-1))], [], [], [(some (.inl (0, 0)), [])], 0, 0)
/-- LoadsAhead poke -/
theorem qk_11 (l : Launch) : ek_ok l tQ iQ kq_11 := ek_good_ok (sp := sQ) (K := []) (SP := []) (HS := []) (N := 0) (fuel := 26) hIQ (fun _ h => absurd h List.not_mem_nil) (by decide +kernel)
def kq_12 : ek := (11, [.inr 2, .inl (0, 63), .inl (0, 255)], [], [(26, 999)], [(some (.inl (1, 1)), [])], 0, 0)
/-- LoadsAhead poke -/
theorem qk_12 (l : Launch) : ek_ok l tQ iQ kq_12 := ek_good_ok (sp := sQ) (K := []) (SP := []) (HS := []) (N := 0) (fuel := 46) hIQ (fun _ h => absurd h List.not_mem_nil) (by decide +kernel)
def kq_13 : ek := (11, [.inr 2, .inl (0, 63), .inl (256, 2147483647)], [], [], [(some (.inl (0, 0)), [])], 0, 0)
/-- LoadsAhead poke -/
theorem qk_13 (l : Launch) : ek_ok l tQ iQ kq_13 := ek_good_ok (sp := sQ) (K := []) (SP := []) (HS := []) (N := 0) (fuel := 32) hIQ (fun _ h => absurd h List.not_mem_nil) (by decide +kernel)
def kq_14 : ek := (137, [.inl ((-2147483648), (-1)), .inl (0, 0), .inl (63, 63)], [], [], [(some (.inl (0, 0)), [])], 0, 0)
/-- LoadsAheadModel in -/
theorem qk_14 (l : Launch) : ek_ok l tQ iQ kq_14 := ek_good_ok (sp := sQ) (K := []) (SP := []) (HS := []) (N := 0) (fuel := 18) hIQ (fun _ h => absurd h List.not_mem_nil) (by decide +kernel)
def kq_15 : ek := (138, [.inr 86, .inl ((-2147483648), (-1)), .inl ((-2147483648), 2147483647)], [], [], [(some (.inl (0, 0)), [])], 1, 22)
/-- LoadsAheadModel poke -/
theorem qk_15 (l : Launch) : ek_ok l tQ iQ kq_15 := ek_good_ok (sp := sQ) (K := [kq_14]) (SP := [(4, [(2, [(-1), 63])])]) (HS := []) (N := 0) (fuel := 22) hIQ (List.forall_mem_cons.mpr ⟨qk_14 l, fun _ h => absurd h List.not_mem_nil⟩) (by decide +kernel)
def kq_16 : ek := (137, [.inl (64, 2147483647), .inl (0, 0), .inl (63, 63)], [], [], [(some (.inl (0, 0)), [])], 0, 0)
/-- LoadsAheadModel in -/
theorem qk_16 (l : Launch) : ek_ok l tQ iQ kq_16 := ek_good_ok (sp := sQ) (K := []) (SP := []) (HS := []) (N := 0) (fuel := 24) hIQ (fun _ h => absurd h List.not_mem_nil) (by decide +kernel)
def kq_17 : ek := (138, [.inr 86, .inl (64, 2147483647), .inl ((-2147483648), 2147483647)], [], [], [(some (.inl (0, 0)), [])], 1, 22)
/-- LoadsAheadModel poke -/
theorem qk_17 (l : Launch) : ek_ok l tQ iQ kq_17 := ek_good_ok (sp := sQ) (K := [kq_16]) (SP := [(4, [(2, [(-1), 63])])]) (HS := []) (N := 0) (fuel := 22) hIQ (List.forall_mem_cons.mpr ⟨qk_16 l, fun _ h => absurd h List.not_mem_nil⟩) (by decide +kernel)
def kq_18 : ek := (137, [.inl ((-2147483648), (-1)), .inl (0, 0), .inl (255, 255)], [], [], [(some (.inl (0, 0)), [])], 0, 0)
/-- LoadsAheadModel in -/
theorem qk_18 (l : Launch) : ek_ok l tQ iQ kq_18 := ek_good_ok (sp := sQ) (K := []) (SP := []) (HS := []) (N := 0) (fuel := 18) hIQ (fun _ h => absurd h List.not_mem_nil) (by decide +kernel)
def kq_19 : ek := (137, [.inl (0, 63), .inl (0, 0), .inl (63, 63)], [], [], [(some (.inl (1, 1)), [])], 0, 0)
/-- LoadsAheadModel in -/
theorem qk_19 (l : Launch) : ek_ok l tQ iQ kq_19 := ek_good_ok (sp := sQ) (K := []) (SP := []) (HS := []) (N := 0) (fuel := 26) hIQ (fun _ h => absurd h List.not_mem_nil) (by decide +kernel)
def kq_20 : ek := (138, [.inr 86, .inl (0, 63), .inl ((-2147483648), (-1))], [], [], [(some (.inl (0, 0)), [])], 1, 22)
/-- LoadsAheadModel poke -/
theorem qk_20 (l : Launch) : ek_ok l tQ iQ kq_20 := ek_good_ok (sp := sQ) (K := [kq_19, kq_18]) (SP := [(4, [(2, [(-1), 63])]), (15, [(2, [(-1), 255])])]) (HS := []) (N := 0) (fuel := 32) hIQ (List.forall_mem_cons.mpr ⟨qk_19 l, List.forall_mem_cons.mpr ⟨qk_18 l, fun _ h => absurd h List.not_mem_nil⟩⟩) (by decide +kernel)
def kq_21 : ek := (137, [.inl (0, 255), .inl (0, 0), .inl (255, 255)], [], [], [(some (.inl (1, 1)), [])], 0, 0)
/-- LoadsAheadModel in -/
theorem qk_21 (l : Launch) : ek_ok l tQ iQ kq_21 := ek_good_ok (sp := sQ) (K := []) (SP := []) (HS := []) (N := 0) (fuel := 26) hIQ (fun _ h => absurd h List.not_mem_nil) (by decide +kernel)
def kq_22 : ek := (138, [.inr 86, .inl (0, 63), .inl (0, 255)], [], [(86, 999)], [(some (.inl (1, 1)), [])], 1, 22)
/-- LoadsAheadModel poke -/
theorem qk_22 (l : Launch) : ek_ok l tQ iQ kq_22 := ek_good_ok (sp := sQ) (K := [kq_19, kq_21]) (SP := [(4, [(2, [(-1), 63])]), (15, [(2, [(-1), 255])])]) (HS := []) (N := 0) (fuel := 42) hIQ (List.forall_mem_cons.mpr ⟨qk_19 l, List.forall_mem_cons.mpr ⟨qk_21 l, fun _ h => absurd h List.not_mem_nil⟩⟩) (by decide +kernel)
def kq_23 : ek := (137, [.inl (256, 2147483647), .inl (0, 0), .inl (255, 255)], [], [], [(some (.inl (0, 0)), [])], 0, 0)
/-- LoadsAheadModel in -/
theorem qk_23 (l : Launch) : ek_ok l tQ iQ kq_23 := ek_good_ok (sp := sQ) (K := []) (SP := []) (HS := []) (N := 0) (fuel := 24) hIQ (fun _ h => absurd h List.not_mem_nil) (by decide +kernel)
def kq_24 : ek := (138, [.inr 86, .inl (0, 63), .inl (256, 2147483647)], [], [], [(some (.inl (0, 0)), [])], 1, 22)
/-- LoadsAheadModel poke -/
theorem qk_24 (l : Launch) : ek_ok l tQ iQ kq_24 := ek_good_ok (sp := sQ) (K := [kq_19, kq_23]) (SP := [(4, [(2, [(-1), 63])]), (15, [(2, [(-1), 255])])]) (HS := []) (N := 0) (fuel := 32) hIQ (List.forall_mem_cons.mpr ⟨qk_19 l, List.forall_mem_cons.mpr ⟨qk_23 l, fun _ h => absurd h List.not_mem_nil⟩⟩) (by decide +kernel)
def kq_25 : ek := (13, [.inr 3, .inl ((-2147483648), 2147483647)], [], [(1, 1), (2, 999)], [(none, [])], 0, 0)
/-- LoadsAhead.Tape add -/
theorem qk_25 (l : Launch) : ek_ok l tQ iQ kq_25 := ek_good_ok (sp := sQ) (K := []) (SP := []) (HS := [((3, [some (.inr 3, none), some (.inl ((-2147483648), 2147483647), none), some (.inl ((-128), 24), none)], [], [], []), [(0, (0, 0, 0), 0), (2, (1, 2, 0), (-128)), (0, (0, 0, 0), 0)])]) (N := 3) (fuel := 58) hIQ (fun _ h => absurd h List.not_mem_nil) (by decide +kernel)
def kq_26 : ek := (12, [.inr 2, .inl ((-2147483648), 2147483647), .inl ((-2147483648), 2147483647), .inl ((-2147483648), 2147483647), .inl ((-2147483648), 2147483647), .inl ((-2147483648), 2147483647)], [], [(1, 1), (2, 999)], [(some (.inl ((-1), (-1))), [((2, 1, 1), (241, 260), none)]), (some (.inl (0, 260)), [])], 1, 22)
/-- LoadsAhead feed -/
theorem qk_26 (l : Launch) : ek_ok l tQ iQ kq_26 := ek_good_ok (sp := sQ) (K := [kq_25]) (SP := []) (HS := []) (N := 0) (fuel := 70) hIQ (List.forall_mem_cons.mpr ⟨qk_25 l, fun _ h => absurd h List.not_mem_nil⟩) (by decide +kernel)
def kq_27 : ek := (140, [.inr 86, .inl ((-2147483648), 2147483647)], [((2, 84, 18), (0, 240), none)], [(84, 18), (96, 999)], [(none, [((2, 84, 18), (4, 244), none)])], 0, 0)
/-- LoadsAheadModel types -/
theorem qk_27 (l : Launch) : ek_ok l tQ iQ kq_27 := ek_good_ok (sp := sQ) (K := []) (SP := []) (HS := []) (N := 0) (fuel := 186) hIQ (fun _ h => absurd h List.not_mem_nil) (by decide +kernel)
def kq_28 : ek := (140, [.inr 86, .inl ((-2147483648), 2147483647)], [((2, 84, 18), (12, 252), none)], [(84, 18), (96, 999)], [(none, [((2, 84, 18), (16, 256), none)])], 0, 0)
/-- LoadsAheadModel types -/
theorem qk_28 (l : Launch) : ek_ok l tQ iQ kq_28 := ek_good_ok (sp := sQ) (K := []) (SP := []) (HS := []) (N := 0) (fuel := 186) hIQ (fun _ h => absurd h List.not_mem_nil) (by decide +kernel)
def kq_29 : ek := (140, [.inr 86, .inl ((-2147483648), 2147483647)], [((2, 84, 18), (16, 256), none)], [(84, 18), (96, 999)], [(none, [((2, 84, 18), (20, 260), none)])], 0, 0)
/-- LoadsAheadModel types -/
theorem qk_29 (l : Launch) : ek_ok l tQ iQ kq_29 := ek_good_ok (sp := sQ) (K := []) (SP := []) (HS := []) (N := 0) (fuel := 186) hIQ (fun _ h => absurd h List.not_mem_nil) (by decide +kernel)
def kq_30 : ek := (140, [.inr 86, .inl ((-2147483648), 2147483647)], [((2, 84, 18), (4, 244), none)], [(84, 18), (96, 999)], [(none, [((2, 84, 18), (8, 248), none)])], 0, 0)
/-- LoadsAheadModel types -/
theorem qk_30 (l : Launch) : ek_ok l tQ iQ kq_30 := ek_good_ok (sp := sQ) (K := []) (SP := []) (HS := []) (N := 0) (fuel := 186) hIQ (fun _ h => absurd h List.not_mem_nil) (by decide +kernel)
def kq_31 : ek := (140, [.inr 86, .inl ((-2147483648), 2147483647)], [((2, 84, 18), (8, 248), none)], [(84, 18), (96, 999)], [(none, [((2, 84, 18), (12, 252), none)])], 0, 0)
/-- LoadsAheadModel types -/
theorem qk_31 (l : Launch) : ek_ok l tQ iQ kq_31 := ek_good_ok (sp := sQ) (K := []) (SP := []) (HS := []) (N := 0) (fuel := 186) hIQ (fun _ h => absurd h List.not_mem_nil) (by decide +kernel)
def kq_32 : ek := (139, [.inr 86, .inl ((-2147483648), 2147483647), .inl ((-2147483648), 2147483647), .inl ((-2147483648), 2147483647), .inl ((-2147483648), 2147483647), .inl ((-2147483648), 2147483647)], [], [(84, 18), (96, 999)], [(some (.inl ((-1), (-1))), [((2, 84, 18), (241, 260), none)]), (some (.inl (20, 260)), [((2, 84, 18), (20, 260), none)])], 1, 22)
/-- LoadsAheadModel feed -/
theorem qk_32 (l : Launch) : ek_ok l tQ iQ kq_32 := ek_good_ok (sp := sQ) (K := [kq_30, kq_29, kq_28, kq_31, kq_27]) (SP := []) (HS := []) (N := 0) (fuel := 56) hIQ (List.forall_mem_cons.mpr ⟨qk_30 l, List.forall_mem_cons.mpr ⟨qk_29 l, List.forall_mem_cons.mpr ⟨qk_28 l, List.forall_mem_cons.mpr ⟨qk_31 l, List.forall_mem_cons.mpr ⟨qk_27 l, fun _ h => absurd h List.not_mem_nil⟩⟩⟩⟩⟩) (by decide +kernel)
def kq_33 : ek := (14, [.inr 2, .inl ((-2147483648), 0)], [], [], [(some (.inl ((-1), (-1))), [])], 0, 0)
/-- LoadsAhead law -/
theorem qk_33 (l : Launch) : ek_ok l tQ iQ kq_33 := ek_good_ok (sp := sQ) (K := []) (SP := []) (HS := []) (N := 0) (fuel := 18) hIQ (fun _ h => absurd h List.not_mem_nil) (by decide +kernel)
def kq_34 : ek := (15, [.inr 3, .inl (0, 240)], [], [(1, 2), (1, 3), (1, 4)], [(none, [((2, 1, 2), (0, 240), none), ((2, 1, 3), (0, 0), none), ((2, 1, 4), (0, 0), none)])], 1, 16)
/-- LoadsAhead.Tape beginText -/
theorem qk_34 (l : Launch) : ek_ok l tQ iQ kq_34 := ek_good_ok (sp := sQ) (K := []) (SP := []) (HS := []) (N := 0) (fuel := 34) hIQ (fun _ h => absurd h List.not_mem_nil) (by decide +kernel)
def kq_35 : ek := (19, [.inr 3], [], [], [(some (.inl (0, 255)), [((2, 1, 2), (1, 260), none), ((2, 1, 3), (0, 259), none)]), (some (.inl ((-1), (-1))), [])], 0, 0)
/-- LoadsAhead.Tape sign -/
theorem qk_35 (l : Launch) : ek_ok l tQ iQ kq_35 := ek_good_ok (sp := sQ) (K := []) (SP := []) (HS := []) (N := 0) (fuel := 46) hIQ (fun _ h => absurd h List.not_mem_nil) (by decide +kernel)
def kq_36 : ek := (20, [.inr 3, .inl (1, 1)], [], [(1, 4)], [(some (.inl (0, 0)), [])], 0, 0)
/-- LoadsAhead.Tape fail -/
theorem qk_36 (l : Launch) : ek_ok l tQ iQ kq_36 := ek_good_ok (sp := sQ) (K := []) (SP := []) (HS := []) (N := 0) (fuel := 28) hIQ (fun _ h => absurd h List.not_mem_nil) (by decide +kernel)
def kq_37 : ek := (21, [.inr 3], [], [(1, 3)], [(none, [])], 0, 0)
/-- LoadsAhead.Tape step -/
theorem qk_37 (l : Launch) : ek_ok l tQ iQ kq_37 := ek_good_ok (sp := sQ) (K := []) (SP := []) (HS := []) (N := 0) (fuel := 22) hIQ (fun _ h => absurd h List.not_mem_nil) (by decide +kernel)
def kq_38 : ek := (20, [.inr 3, .inl (5, 5)], [], [(1, 4)], [(some (.inl (0, 0)), [])], 0, 0)
/-- LoadsAhead.Tape fail -/
theorem qk_38 (l : Launch) : ek_ok l tQ iQ kq_38 := ek_good_ok (sp := sQ) (K := []) (SP := []) (HS := []) (N := 0) (fuel := 28) hIQ (fun _ h => absurd h List.not_mem_nil) (by decide +kernel)
def kq_39 : ek := (25, [.inr 3, .inl (6, 6)], [], [(1, 4)], [(some (.inl (0, 0)), [])], 1, 21)
/-- LoadsAhead.Law opens -/
theorem qk_39 (l : Launch) : ek_ok l tQ iQ kq_39 := ek_good_ok (sp := sQ) (K := [kq_38]) (SP := []) (HS := []) (N := 0) (fuel := 22) hIQ (List.forall_mem_cons.mpr ⟨qk_38 l, fun _ h => absurd h List.not_mem_nil⟩) (by decide +kernel)
def kq_40 : ek := (27, [.inr 3], [], [], [(some (.inl (0, 0)), []), (some (.inl (1, 1)), [((2, 1, 2), (1, 260), none), ((2, 1, 3), (0, 259), none)])], 1, 20)
/-- LoadsAhead.Tape digitNext -/
theorem qk_40 (l : Launch) : ek_ok l tQ iQ kq_40 := ek_good_ok (sp := sQ) (K := [kq_35]) (SP := []) (HS := []) (N := 0) (fuel := 30) hIQ (List.forall_mem_cons.mpr ⟨qk_35 l, fun _ h => absurd h List.not_mem_nil⟩) (by decide +kernel)
def kq_41 : ek := (20, [.inr 3, .inl (2, 2)], [], [(1, 4)], [(some (.inl (0, 0)), [])], 0, 0)
/-- LoadsAhead.Tape fail -/
theorem qk_41 (l : Launch) : ek_ok l tQ iQ kq_41 := ek_good_ok (sp := sQ) (K := []) (SP := []) (HS := []) (N := 0) (fuel := 28) hIQ (fun _ h => absurd h List.not_mem_nil) (by decide +kernel)
def kq_42 : ek := (28, [.inr 3, .inl (5, 5)], [], [(1, 3), (1, 4)], [(some (.inl ((-1), (-1))), []), (some (.inl ((-2147483648), 2147483647)), [])], 2, 40)
/-- LoadsAhead.Tape readDigits -/
theorem qk_42 (l : Launch) : ek_ok l tQ iQ kq_42 := ek_good_ok (sp := sQ) (K := [kq_41, kq_40, kq_36, kq_35]) (SP := []) (HS := [((4, [some (.inr 3, none), some (.inl (5, 5), none), some (.inl ((-2147483648), 2147483647), none), some (.inl (0, 5), none)], [], [], []), [(0, (0, 0, 0), 0), (1, (1, 3, 0), 5), (0, (0, 0, 0), 0)])]) (N := 3) (fuel := 66) hIQ (List.forall_mem_cons.mpr ⟨qk_41 l, List.forall_mem_cons.mpr ⟨qk_40 l, List.forall_mem_cons.mpr ⟨qk_36 l, List.forall_mem_cons.mpr ⟨qk_35 l, fun _ h => absurd h List.not_mem_nil⟩⟩⟩⟩) (by decide +kernel)
def kq_44 : ek := (31, [.inl ((-1), (-1)), .inl (42, 42), .inl (47, 47), .inl (37, 37)], [], [], [(some (.inl (0, 0)), [])], 0, 0)
/-- LoadsAhead.Law isOneOf -/
theorem qk_44 (l : Launch) : ek_ok l tQ iQ kq_44 := ek_good_ok (sp := sQ) (K := []) (SP := []) (HS := []) (N := 0) (fuel := 30) hIQ (fun _ h => absurd h List.not_mem_nil) (by decide +kernel)
def kq_45 : ek := (31, [.inl (0, 255), .inl (42, 42), .inl (47, 47), .inl (37, 37)], [], [], [(some (.inl (1, 1)), []), (some (.inl (0, 0)), [])], 0, 0)
/-- LoadsAhead.Law isOneOf -/
theorem qk_45 (l : Launch) : ek_ok l tQ iQ kq_45 := ek_good_ok (sp := sQ) (K := []) (SP := []) (HS := []) (N := 0) (fuel := 32) hIQ (fun _ h => absurd h List.not_mem_nil) (by decide +kernel)
def kq_47 : ek := (31, [.inl ((-1), (-1)), .inl (43, 43), .inl (45, 45), .inl (45, 45)], [], [], [(some (.inl (0, 0)), [])], 0, 0)
/-- LoadsAhead.Law isOneOf -/
theorem qk_47 (l : Launch) : ek_ok l tQ iQ kq_47 := ek_good_ok (sp := sQ) (K := []) (SP := []) (HS := []) (N := 0) (fuel := 30) hIQ (fun _ h => absurd h List.not_mem_nil) (by decide +kernel)
def kq_48 : ek := (31, [.inl (0, 255), .inl (43, 43), .inl (45, 45), .inl (45, 45)], [], [], [(some (.inl (1, 1)), []), (some (.inl (0, 0)), [])], 0, 0)
/-- LoadsAhead.Law isOneOf -/
theorem qk_48 (l : Launch) : ek_ok l tQ iQ kq_48 := ek_good_ok (sp := sQ) (K := []) (SP := []) (HS := []) (N := 0) (fuel := 32) hIQ (fun _ h => absurd h List.not_mem_nil) (by decide +kernel)
def kq_50 : ek := (25, [.inr 3, .inl (5, 5)], [], [(1, 3)], [(some (.inl (1, 1)), [])], 1, 20)
/-- LoadsAhead.Law opens -/
theorem qk_50 (l : Launch) : ek_ok l tQ iQ kq_50 := ek_good_ok (sp := sQ) (K := [kq_37]) (SP := []) (HS := []) (N := 0) (fuel := 22) hIQ (List.forall_mem_cons.mpr ⟨qk_37 l, fun _ h => absurd h List.not_mem_nil⟩) (by decide +kernel)
def kq_51 : ek := (26, [.inr 3, .inl (93, 93)], [], [(1, 3), (1, 4)], [(some (.inl (0, 0)), []), (some (.inl (1, 1)), [((2, 1, 2), (1, 260), none), ((2, 1, 3), (1, 260), none)])], 1, 21)
/-- LoadsAhead.Tape accept -/
theorem qk_51 (l : Launch) : ek_ok l tQ iQ kq_51 := ek_good_ok (sp := sQ) (K := [kq_36, kq_35]) (SP := []) (HS := []) (N := 0) (fuel := 32) hIQ (List.forall_mem_cons.mpr ⟨qk_36 l, List.forall_mem_cons.mpr ⟨qk_35 l, fun _ h => absurd h List.not_mem_nil⟩⟩) (by decide +kernel)
def kq_55 : ek := (25, [.inr 3, .inl (4, 4)], [], [(1, 3)], [(some (.inl (1, 1)), [])], 1, 20)
/-- LoadsAhead.Law opens -/
theorem qk_55 (l : Launch) : ek_ok l tQ iQ kq_55 := ek_good_ok (sp := sQ) (K := [kq_37]) (SP := []) (HS := []) (N := 0) (fuel := 22) hIQ (List.forall_mem_cons.mpr ⟨qk_37 l, fun _ h => absurd h List.not_mem_nil⟩) (by decide +kernel)
def kq_59 : ek := (25, [.inr 3, .inl (3, 3)], [], [(1, 3)], [(some (.inl (1, 1)), [])], 1, 20)
/-- LoadsAhead.Law opens -/
theorem qk_59 (l : Launch) : ek_ok l tQ iQ kq_59 := ek_good_ok (sp := sQ) (K := [kq_37]) (SP := []) (HS := []) (N := 0) (fuel := 22) hIQ (List.forall_mem_cons.mpr ⟨qk_37 l, fun _ h => absurd h List.not_mem_nil⟩) (by decide +kernel)
def kq_63 : ek := (25, [.inr 3, .inl (2, 2)], [], [(1, 3)], [(some (.inl (1, 1)), [])], 1, 20)
/-- LoadsAhead.Law opens -/
theorem qk_63 (l : Launch) : ek_ok l tQ iQ kq_63 := ek_good_ok (sp := sQ) (K := [kq_37]) (SP := []) (HS := []) (N := 0) (fuel := 22) hIQ (List.forall_mem_cons.mpr ⟨qk_37 l, fun _ h => absurd h List.not_mem_nil⟩) (by decide +kernel)
def kq_67 : ek := (25, [.inr 3, .inl (1, 1)], [], [(1, 3)], [(some (.inl (1, 1)), [])], 1, 20)
/-- LoadsAhead.Law opens -/
theorem qk_67 (l : Launch) : ek_ok l tQ iQ kq_67 := ek_good_ok (sp := sQ) (K := [kq_37]) (SP := []) (HS := []) (N := 0) (fuel := 22) hIQ (List.forall_mem_cons.mpr ⟨qk_37 l, fun _ h => absurd h List.not_mem_nil⟩) (by decide +kernel)
def kq_71 : ek := (25, [.inr 3, .inl (0, 0)], [], [(1, 3)], [(some (.inl (1, 1)), [])], 1, 20)
/-- LoadsAhead.Law opens -/
theorem qk_71 (l : Launch) : ek_ok l tQ iQ kq_71 := ek_good_ok (sp := sQ) (K := [kq_37]) (SP := []) (HS := []) (N := 0) (fuel := 22) hIQ (List.forall_mem_cons.mpr ⟨qk_37 l, fun _ h => absurd h List.not_mem_nil⟩) (by decide +kernel)
def kq_75 : ek := (26, [.inr 3, .inl (40, 40)], [], [(1, 3), (1, 4)], [(some (.inl (0, 0)), []), (some (.inl (1, 1)), [((2, 1, 2), (1, 260), none), ((2, 1, 3), (1, 260), none)])], 1, 21)
/-- LoadsAhead.Tape accept -/
theorem qk_75 (l : Launch) : ek_ok l tQ iQ kq_75 := ek_good_ok (sp := sQ) (K := [kq_36, kq_35]) (SP := []) (HS := []) (N := 0) (fuel := 32) hIQ (List.forall_mem_cons.mpr ⟨qk_36 l, List.forall_mem_cons.mpr ⟨qk_35 l, fun _ h => absurd h List.not_mem_nil⟩⟩) (by decide +kernel)
def kq_76 : ek := (26, [.inr 3, .inl (41, 41)], [], [(1, 3), (1, 4)], [(some (.inl (0, 0)), []), (some (.inl (1, 1)), [((2, 1, 2), (1, 260), none), ((2, 1, 3), (1, 260), none)])], 1, 21)
/-- LoadsAhead.Tape accept -/
theorem qk_76 (l : Launch) : ek_ok l tQ iQ kq_76 := ek_good_ok (sp := sQ) (K := [kq_36, kq_35]) (SP := []) (HS := []) (N := 0) (fuel := 32) hIQ (List.forall_mem_cons.mpr ⟨qk_36 l, List.forall_mem_cons.mpr ⟨qk_35 l, fun _ h => absurd h List.not_mem_nil⟩⟩) (by decide +kernel)
def kq_96 : ek := (20, [.inr 3, .inl (4, 4)], [], [(1, 4)], [(some (.inl (0, 0)), [])], 0, 0)
/-- LoadsAhead.Tape fail -/
theorem qk_96 (l : Launch) : ek_ok l tQ iQ kq_96 := ek_good_ok (sp := sQ) (K := []) (SP := []) (HS := []) (N := 0) (fuel := 28) hIQ (fun _ h => absurd h List.not_mem_nil) (by decide +kernel)
def kq_97 : ek := (18, [.inr 59, .inr 3, .inl (16, 16)], [], [(1, 4)], [(some (.inl (0, 0)), [])], 1, 21)
/-- LoadsAhead.Law readRule -/
theorem qk_97 (l : Launch) : ek_ok l tQ iQ kq_97 := ek_good_ok (sp := sQ) (K := [kq_96, kq_36, kq_35]) (SP := []) (HS := []) (N := 0) (fuel := 40) hIQ (List.forall_mem_cons.mpr ⟨qk_96 l, List.forall_mem_cons.mpr ⟨qk_36 l, List.forall_mem_cons.mpr ⟨qk_35 l, fun _ h => absurd h List.not_mem_nil⟩⟩⟩) (by decide +kernel)
def kq_98 : ek := (26, [.inr 3, .inl (59, 59)], [], [(1, 3), (1, 4)], [(some (.inl (0, 0)), []), (some (.inl (1, 1)), [((2, 1, 2), (1, 260), none), ((2, 1, 3), (1, 260), none)])], 1, 21)
/-- LoadsAhead.Tape accept -/
theorem qk_98 (l : Launch) : ek_ok l tQ iQ kq_98 := ek_good_ok (sp := sQ) (K := [kq_36, kq_35]) (SP := []) (HS := []) (N := 0) (fuel := 32) hIQ (List.forall_mem_cons.mpr ⟨qk_36 l, List.forall_mem_cons.mpr ⟨qk_35 l, fun _ h => absurd h List.not_mem_nil⟩⟩) (by decide +kernel)
def kq_99 : ek := (36, [.inr 3], [], [], [(some (.inl ((-2147483648), 2147483647)), [])], 0, 0)
/-- LoadsAhead.Tape fault -/
theorem qk_99 (l : Launch) : ek_ok l tQ iQ kq_99 := ek_good_ok (sp := sQ) (K := []) (SP := []) (HS := []) (N := 0) (fuel := 14) hIQ (fun _ h => absurd h List.not_mem_nil) (by decide +kernel)
def kq_100 : ek := (37, [.inr 3], [], [], [(some (.inl (1, 1)), [((2, 1, 3), (0, 2147483647), none)]), (some (.inl (0, 0)), [((2, 1, 3), ((-2147483648), 259), none)])], 0, 0)
/-- LoadsAhead.Tape ended -/
theorem qk_100 (l : Launch) : ek_ok l tQ iQ kq_100 := ek_good_ok (sp := sQ) (K := []) (SP := []) (HS := []) (N := 0) (fuel := 24) hIQ (fun _ h => absurd h List.not_mem_nil) (by decide +kernel)
def kq_102 : ek := (38, [.inr 18, .inr 59], [], [(16, 7), (17, 999), (18, 999), (19, 999), (20, 999), (21, 999)], [(none, [])], 1, 65)
/-- LoadsAhead.Law copyFrom -/
theorem qk_102 (l : Launch) : ek_ok l tQ iQ kq_102 := ek_good_ok (sp := sQ) (K := []) (SP := []) (HS := []) (N := 0) (fuel := 98) hIQ (fun _ h => absurd h List.not_mem_nil) (by decide +kernel)
def kq_103 : ek := (39, [.inr 3], [], [(1, 1)], [(none, [((2, 1, 1), (0, 0), none)])], 0, 0)
/-- LoadsAhead.Tape clear -/
theorem qk_103 (l : Launch) : ek_ok l tQ iQ kq_103 := ek_good_ok (sp := sQ) (K := []) (SP := []) (HS := []) (N := 0) (fuel := 16) hIQ (fun _ h => absurd h List.not_mem_nil) (by decide +kernel)
def kq_115 : ek := (14, [.inr 2, .inl (241, 2147483647)], [], [], [(some (.inl ((-1), (-1))), [])], 0, 0)
/-- LoadsAhead law -/
theorem qk_115 (l : Launch) : ek_ok l tQ iQ kq_115 := ek_good_ok (sp := sQ) (K := []) (SP := []) (HS := []) (N := 0) (fuel := 24) hIQ (fun _ h => absurd h List.not_mem_nil) (by decide +kernel)
def kq_116 : ek := (40, [.inr 2, .inl ((-2147483648), 0)], [], [], [(some (.inl ((-1), (-1))), [])], 0, 0)
/-- LoadsAhead program -/
theorem qk_116 (l : Launch) : ek_ok l tQ iQ kq_116 := ek_good_ok (sp := sQ) (K := []) (SP := []) (HS := []) (N := 0) (fuel := 18) hIQ (fun _ h => absurd h List.not_mem_nil) (by decide +kernel)
def kq_117 : ek := (43, [.inl ((-1), (-1))], [], [], [(some (.inl ((-1), (-1))), [])], 0, 0)
/-- LoadsAhead.Program kindOf -/
theorem qk_117 (l : Launch) : ek_ok l tQ iQ kq_117 := ek_good_ok (sp := sQ) (K := []) (SP := []) (HS := []) (N := 0) (fuel := 16) hIQ (fun _ h => absurd h List.not_mem_nil) (by decide +kernel)
def kq_118 : ek := (43, [.inl (0, 255)], [], [], [(some (.inl ((-1), (-1))), []), (some (.inl (0, 3)), [])], 0, 0)
/-- LoadsAhead.Program kindOf -/
theorem qk_118 (l : Launch) : ek_ok l tQ iQ kq_118 := ek_good_ok (sp := sQ) (K := []) (SP := []) (HS := []) (N := 0) (fuel := 16) hIQ (fun _ h => absurd h List.not_mem_nil) (by decide +kernel)
end
section
def kq_119 : ek := (26, [.inr 3, .inl (44, 44)], [], [(1, 3), (1, 4)], [(some (.inl (0, 0)), []), (some (.inl (1, 1)), [((2, 1, 2), (1, 260), none), ((2, 1, 3), (1, 260), none)])], 1, 21)
/-- LoadsAhead.Tape accept -/
theorem qk_119 (l : Launch) : ek_ok l tQ iQ kq_119 := ek_good_ok (sp := sQ) (K := [kq_36, kq_35]) (SP := []) (HS := []) (N := 0) (fuel := 32) hIQ (List.forall_mem_cons.mpr ⟨qk_36 l, List.forall_mem_cons.mpr ⟨qk_35 l, fun _ h => absurd h List.not_mem_nil⟩⟩) (by decide +kernel)
def kq_120 : ek := (45, [.inr 3], [], [(1, 3), (1, 4)], [(some (.inl ((-1), (-1))), []), (some (.inl (0, 7)), [((2, 1, 2), (1, 260), none), ((2, 1, 3), (1, 260), none)])], 1, 21)
/-- LoadsAhead.Tape readRegister -/
theorem qk_120 (l : Launch) : ek_ok l tQ iQ kq_120 := ek_good_ok (sp := sQ) (K := [kq_36, kq_35]) (SP := []) (HS := []) (N := 0) (fuel := 44) hIQ (List.forall_mem_cons.mpr ⟨qk_36 l, List.forall_mem_cons.mpr ⟨qk_35 l, fun _ h => absurd h List.not_mem_nil⟩⟩) (by decide +kernel)
def kq_121 : ek := (44, [.inr 47, .inr 3, .inl (0, 19)], [], [(1, 3), (1, 4), (49, 999)], [(some (.inl (1, 1)), [((2, 1, 2), (1, 260), none), ((2, 1, 3), (1, 260), none)]), (some (.inl (0, 0)), [])], 2, 42)
/-- LoadsAhead.Program readGiven -/
theorem qk_121 (l : Launch) : ek_ok l tQ iQ kq_121 := ek_good_ok (sp := sQ) (K := [kq_120, kq_119]) (SP := []) (HS := []) (N := 0) (fuel := 46) hIQ (List.forall_mem_cons.mpr ⟨qk_120 l, List.forall_mem_cons.mpr ⟨qk_119 l, fun _ h => absurd h List.not_mem_nil⟩⟩) (by decide +kernel)
def kq_122 : ek := (28, [.inr 3, .inl (4, 4)], [], [(1, 3), (1, 4)], [(some (.inl ((-1), (-1))), []), (some (.inl ((-2147483648), 2147483647)), [])], 2, 40)
/-- LoadsAhead.Tape readDigits -/
theorem qk_122 (l : Launch) : ek_ok l tQ iQ kq_122 := ek_good_ok (sp := sQ) (K := [kq_41, kq_40, kq_36, kq_35]) (SP := []) (HS := [((4, [some (.inr 3, none), some (.inl (4, 4), none), some (.inl ((-2147483648), 2147483647), none), some (.inl (0, 4), none)], [], [], []), [(0, (0, 0, 0), 0), (1, (1, 3, 0), 4), (0, (0, 0, 0), 0)])]) (N := 3) (fuel := 66) hIQ (List.forall_mem_cons.mpr ⟨qk_41 l, List.forall_mem_cons.mpr ⟨qk_40 l, List.forall_mem_cons.mpr ⟨qk_36 l, List.forall_mem_cons.mpr ⟨qk_35 l, fun _ h => absurd h List.not_mem_nil⟩⟩⟩⟩) (by decide +kernel)
def kq_123 : ek := (46, [.inr 47, .inr 3, .inl (0, 19)], [], [(1, 3), (1, 4), (52, 999)], [(some (.inl (1, 1)), []), (some (.inl (0, 0)), [])], 3, 63)
/-- LoadsAhead.Program readNumber -/
theorem qk_123 (l : Launch) : ek_ok l tQ iQ kq_123 := ek_good_ok (sp := sQ) (K := [kq_122]) (SP := []) (HS := []) (N := 0) (fuel := 40) hIQ (List.forall_mem_cons.mpr ⟨qk_122 l, fun _ h => absurd h List.not_mem_nil⟩) (by decide +kernel)
def kq_124 : ek := (47, [.inr 47, .inr 3, .inl (0, 19)], [], [(1, 3), (1, 4), (49, 999), (50, 999), (51, 999)], [(some (.inl (0, 0)), []), (some (.inl (1, 1)), [((2, 1, 2), (1, 260), none), ((2, 1, 3), (1, 260), none)])], 3, 64)
/-- LoadsAhead.Program readReckoning -/
theorem qk_124 (l : Launch) : ek_ok l tQ iQ kq_124 := ek_good_ok (sp := sQ) (K := [kq_120, kq_119, kq_121]) (SP := []) (HS := []) (N := 0) (fuel := 80) hIQ (List.forall_mem_cons.mpr ⟨qk_120 l, List.forall_mem_cons.mpr ⟨qk_119 l, List.forall_mem_cons.mpr ⟨qk_121 l, fun _ h => absurd h List.not_mem_nil⟩⟩⟩) (by decide +kernel)
def kq_125 : ek := (26, [.inr 3, .inl (43, 43)], [], [(1, 3), (1, 4)], [(some (.inl (0, 0)), []), (some (.inl (1, 1)), [((2, 1, 2), (1, 260), none), ((2, 1, 3), (1, 260), none)])], 1, 21)
/-- LoadsAhead.Tape accept -/
theorem qk_125 (l : Launch) : ek_ok l tQ iQ kq_125 := ek_good_ok (sp := sQ) (K := [kq_36, kq_35]) (SP := []) (HS := []) (N := 0) (fuel := 32) hIQ (List.forall_mem_cons.mpr ⟨qk_36 l, List.forall_mem_cons.mpr ⟨qk_35 l, fun _ h => absurd h List.not_mem_nil⟩⟩) (by decide +kernel)
def kq_126 : ek := (49, [.inl ((-1), (-1))], [], [], [(some (.inl (0, 0)), [])], 0, 0)
/-- LoadsAhead.Program sizeOf -/
theorem qk_126 (l : Launch) : ek_ok l tQ iQ kq_126 := ek_good_ok (sp := sQ) (K := []) (SP := []) (HS := []) (N := 0) (fuel := 16) hIQ (fun _ h => absurd h List.not_mem_nil) (by decide +kernel)
def kq_127 : ek := (49, [.inl (0, 255)], [], [], [(some (.inl (0, 4)), [])], 0, 0)
/-- LoadsAhead.Program sizeOf -/
theorem qk_127 (l : Launch) : ek_ok l tQ iQ kq_127 := ek_good_ok (sp := sQ) (K := []) (SP := []) (HS := []) (N := 0) (fuel := 16) hIQ (fun _ h => absurd h List.not_mem_nil) (by decide +kernel)
def kq_128 : ek := (48, [.inr 47, .inr 3, .inl (0, 19)], [], [(1, 3), (1, 4), (48, 999), (49, 999), (50, 999), (51, 999), (52, 999)], [(some (.inl (0, 0)), []), (some (.inl (1, 1)), [((2, 1, 2), (1, 260), none)])], 4, 85)
/-- LoadsAhead.Program readMove -/
theorem qk_128 (l : Launch) : ek_ok l tQ iQ kq_128 := ek_good_ok (sp := sQ) (K := [kq_35, kq_125, kq_120, kq_36, kq_126, kq_37, kq_121, kq_123, kq_127]) (SP := []) (HS := []) (N := 0) (fuel := 138) hIQ (List.forall_mem_cons.mpr ⟨qk_35 l, List.forall_mem_cons.mpr ⟨qk_125 l, List.forall_mem_cons.mpr ⟨qk_120 l, List.forall_mem_cons.mpr ⟨qk_36 l, List.forall_mem_cons.mpr ⟨qk_126 l, List.forall_mem_cons.mpr ⟨qk_37 l, List.forall_mem_cons.mpr ⟨qk_121 l, List.forall_mem_cons.mpr ⟨qk_123 l, List.forall_mem_cons.mpr ⟨qk_127 l, fun _ h => absurd h List.not_mem_nil⟩⟩⟩⟩⟩⟩⟩⟩⟩) (by decide +kernel)
def kq_129 : ek := (42, [.inr 47, .inr 3, .inl (0, 19)], [], [(1, 3), (1, 4), (46, 999), (47, 999), (48, 999), (49, 999), (50, 999), (51, 999), (52, 999)], [(some (.inl (0, 0)), []), (some (.inl (1, 1)), [((2, 1, 2), (1, 260), none)])], 5, 107)
/-- LoadsAhead.Program readOp -/
theorem qk_129 (l : Launch) : ek_ok l tQ iQ kq_129 := ek_good_ok (sp := sQ) (K := [kq_35, kq_36, kq_117, kq_37, kq_121, kq_128, kq_123, kq_124, kq_118]) (SP := []) (HS := []) (N := 0) (fuel := 126) hIQ (List.forall_mem_cons.mpr ⟨qk_35 l, List.forall_mem_cons.mpr ⟨qk_36 l, List.forall_mem_cons.mpr ⟨qk_117 l, List.forall_mem_cons.mpr ⟨qk_37 l, List.forall_mem_cons.mpr ⟨qk_121 l, List.forall_mem_cons.mpr ⟨qk_128 l, List.forall_mem_cons.mpr ⟨qk_123 l, List.forall_mem_cons.mpr ⟨qk_124 l, List.forall_mem_cons.mpr ⟨qk_118 l, fun _ h => absurd h List.not_mem_nil⟩⟩⟩⟩⟩⟩⟩⟩⟩) (by decide +kernel)
def kq_130 : ek := (42, [.inr 47, .inr 3, .inl (20, 20)], [], [(1, 4)], [(some (.inl (0, 0)), [])], 1, 21)
/-- LoadsAhead.Program readOp -/
theorem qk_130 (l : Launch) : ek_ok l tQ iQ kq_130 := ek_good_ok (sp := sQ) (K := [kq_35, kq_96, kq_36, kq_117, kq_118]) (SP := []) (HS := []) (N := 0) (fuel := 40) hIQ (List.forall_mem_cons.mpr ⟨qk_35 l, List.forall_mem_cons.mpr ⟨qk_96 l, List.forall_mem_cons.mpr ⟨qk_36 l, List.forall_mem_cons.mpr ⟨qk_117 l, List.forall_mem_cons.mpr ⟨qk_118 l, fun _ h => absurd h List.not_mem_nil⟩⟩⟩⟩⟩) (by decide +kernel)
def kq_131 : ek := (52, [.inl ((-1), (-1))], [], [], [(some (.inl (0, 0)), [])], 0, 0)
/-- LoadsAhead isCell -/
theorem qk_131 (l : Launch) : ek_ok l tQ iQ kq_131 := ek_good_ok (sp := sQ) (K := []) (SP := []) (HS := []) (N := 0) (fuel := 16) hIQ (fun _ h => absurd h List.not_mem_nil) (by decide +kernel)
def kq_132 : ek := (52, [.inl (0, 7)], [], [], [(some (.inl (1, 1)), [])], 0, 0)
/-- LoadsAhead isCell -/
theorem qk_132 (l : Launch) : ek_ok l tQ iQ kq_132 := ek_good_ok (sp := sQ) (K := []) (SP := []) (HS := []) (N := 0) (fuel := 24) hIQ (fun _ h => absurd h List.not_mem_nil) (by decide +kernel)
def kq_133 : ek := (51, [.inr 47, .inl ((-1), 7)], [], [], [(some (.inl ((-1), 19)), []), (some (.inl ((-1), (-1))), [])], 1, 20)
/-- LoadsAhead.Program giverOfRegister -/
theorem qk_133 (l : Launch) : ek_ok l tQ iQ kq_133 := ek_good_ok (sp := sQ) (K := [kq_131, kq_132]) (SP := [(1, [(0, [(-1), 7])])]) (HS := []) (N := 0) (fuel := 26) hIQ (List.forall_mem_cons.mpr ⟨qk_131 l, List.forall_mem_cons.mpr ⟨qk_132 l, fun _ h => absurd h List.not_mem_nil⟩⟩) (by decide +kernel)
def kq_134 : ek := (53, [.inr 47, .inl ((-1), (-1))], [], [], [(some (.inl (0, 0)), [])], 0, 0)
/-- LoadsAhead.Program depthOf -/
theorem qk_134 (l : Launch) : ek_ok l tQ iQ kq_134 := ek_good_ok (sp := sQ) (K := []) (SP := []) (HS := []) (N := 0) (fuel := 16) hIQ (fun _ h => absurd h List.not_mem_nil) (by decide +kernel)
def kq_135 : ek := (53, [.inr 47, .inl ((-1), 19)], [], [], [(some (.inl ((-2147483648), 2147483647)), []), (some (.inl (0, 0)), [])], 0, 0)
/-- LoadsAhead.Program depthOf -/
theorem qk_135 (l : Launch) : ek_ok l tQ iQ kq_135 := ek_good_ok (sp := sQ) (K := []) (SP := []) (HS := []) (N := 0) (fuel := 30) hIQ (fun _ h => absurd h List.not_mem_nil) (by decide +kernel)
def kq_136 : ek := (6, [.inr 57, .inl ((-1), (-1))], [], [(55, 999)], [(none, [])], 0, 0)
/-- java/util/Arrays fill -/
theorem qk_136 (l : Launch) : ek_ok l tQ iQ kq_136 := ek_good_ok (sp := sQ) (K := []) (SP := []) (HS := [((5, [some (.inr 57, none), some (.inl ((-1), (-1)), none), some (.inl (0, 8), none), some (.inl (8, 8), none)], [], [], []), [(0, (0, 0, 0), 0), (1, (1, 2, 0), 8), (0, (0, 0, 0), 0)])]) (N := 3) (fuel := 28) hIQ (fun _ h => absurd h List.not_mem_nil) (by decide +kernel)
def kq_137 : ek := (50, [.inr 47], [], [(45, 12), (53, 999), (54, 999), (55, 999), (56, 999)], [(none, [])], 2, 41)
/-- LoadsAhead.Program findSources -/
theorem qk_137 (l : Launch) : ek_ok l tQ iQ kq_137 := ek_good_ok (sp := sQ) (K := [kq_134, kq_136, kq_131, kq_132, kq_133, kq_135]) (SP := [(115, [(0, [(-1), 7])])]) (HS := [((15, [some (.inr 47, none), some (.inl (0, 20), none)], [], [], []), [(0, (0, 0, 0), 0), (1, (1, 1, 0), 20), (0, (0, 0, 0), 0)])]) (N := 3) (fuel := 152) hIQ (List.forall_mem_cons.mpr ⟨qk_134 l, List.forall_mem_cons.mpr ⟨qk_136 l, List.forall_mem_cons.mpr ⟨qk_131 l, List.forall_mem_cons.mpr ⟨qk_132 l, List.forall_mem_cons.mpr ⟨qk_133 l, List.forall_mem_cons.mpr ⟨qk_135 l, fun _ h => absurd h List.not_mem_nil⟩⟩⟩⟩⟩⟩) (by decide +kernel)
def kq_138 : ek := (41, [.inr 47, .inr 3], [], [(1, 3), (1, 4), (45, 11), (45, 12), (46, 999), (47, 999), (48, 999), (49, 999), (50, 999), (51, 999), (52, 999), (53, 999), (54, 999), (55, 999), (56, 999)], [(some (.inl ((-2147483648), 2147483647)), []), (some (.inl (1, 20)), [((2, 1, 2), (1, 260), none), ((2, 1, 3), (0, 2147483647), none), ((2, 45, 11), (1, 20), none)])], 6, 131)
/-- LoadsAhead.Program readFrom -/
theorem qk_138 (l : Launch) : ek_ok l tQ iQ kq_138 := ek_good_ok (sp := sQ) (K := [kq_130, kq_98, kq_99, kq_100, kq_137, kq_129]) (SP := [(11, [(0, [19])])]) (HS := [((2, [some (.inr 47, none), some (.inr 3, none), some (.inl (0, 20), none)], [], [], []), [(0, (0, 0, 0), 0), (1, (1, 2, 0), 20), (0, (0, 0, 0), 0)])]) (N := 3) (fuel := 50) hIQ (List.forall_mem_cons.mpr ⟨qk_130 l, List.forall_mem_cons.mpr ⟨qk_98 l, List.forall_mem_cons.mpr ⟨qk_99 l, List.forall_mem_cons.mpr ⟨qk_100 l, List.forall_mem_cons.mpr ⟨qk_137 l, List.forall_mem_cons.mpr ⟨qk_129 l, fun _ h => absurd h List.not_mem_nil⟩⟩⟩⟩⟩⟩) (by decide +kernel)
def kq_139 : ek := (54, [.inr 6, .inr 47], [], [(4, 11), (4, 12), (5, 999), (6, 999), (7, 999), (8, 999), (9, 999), (10, 999), (11, 999), (12, 999), (13, 999)], [(none, [])], 1, 65)
/-- LoadsAhead.Program copyFrom -/
theorem qk_139 (l : Launch) : ek_ok l tQ iQ kq_139 := ek_good_ok (sp := sQ) (K := []) (SP := []) (HS := []) (N := 0) (fuel := 170) hIQ (fun _ h => absurd h List.not_mem_nil) (by decide +kernel)
def kq_140 : ek := (6, [.inr 29, .inl ((-1), (-1))], [], [(27, 999)], [(none, [])], 0, 0)
/-- java/util/Arrays fill -/
theorem qk_140 (l : Launch) : ek_ok l tQ iQ kq_140 := ek_good_ok (sp := sQ) (K := []) (SP := []) (HS := [((5, [some (.inr 29, none), some (.inl ((-1), (-1)), none), some (.inl (0, 20), none), some (.inl (20, 20), none)], [], [], []), [(0, (0, 0, 0), 0), (1, (1, 2, 0), 20), (0, (0, 0, 0), 0)])]) (N := 3) (fuel := 28) hIQ (fun _ h => absurd h List.not_mem_nil) (by decide +kernel)
def kq_141 : ek := (55, [.inr 26], [], [(27, 999)], [(none, [])], 1, 23)
/-- LoadsAhead.State dropSets -/
theorem qk_141 (l : Launch) : ek_ok l tQ iQ kq_141 := ek_good_ok (sp := sQ) (K := [kq_140]) (SP := []) (HS := []) (N := 0) (fuel := 18) hIQ (List.forall_mem_cons.mpr ⟨qk_140 l, fun _ h => absurd h List.not_mem_nil⟩) (by decide +kernel)
def kq_142 : ek := (6, [.inr 85, .inl (0, 0)], [], [(83, 999)], [(none, [])], 0, 0)
/-- java/util/Arrays fill -/
theorem qk_142 (l : Launch) : ek_ok l tQ iQ kq_142 := ek_good_ok (sp := sQ) (K := []) (SP := []) (HS := [((5, [some (.inr 85, none), some (.inl (0, 0), none), some (.inl (0, 2), none), some (.inl (2, 2), none)], [], [], []), [(0, (0, 0, 0), 0), (1, (1, 2, 0), 2), (0, (0, 0, 0), 0)])]) (N := 3) (fuel := 28) hIQ (fun _ h => absurd h List.not_mem_nil) (by decide +kernel)
def kq_143 : ek := (56, [.inr 84], [], [(83, 999)], [(none, [])], 1, 23)
/-- LoadsAhead.Rows clear -/
theorem qk_143 (l : Launch) : ek_ok l tQ iQ kq_143 := ek_good_ok (sp := sQ) (K := [kq_142]) (SP := []) (HS := []) (N := 0) (fuel := 18) hIQ (List.forall_mem_cons.mpr ⟨qk_142 l, fun _ h => absurd h List.not_mem_nil⟩) (by decide +kernel)
def kq_144 : ek := (40, [.inr 2, .inl (1, 240)], [], [(0, 8), (0, 10), (1, 1), (1, 2), (1, 3), (1, 4), (4, 11), (4, 12), (5, 999), (6, 999), (7, 999), (8, 999), (9, 999), (10, 999), (11, 999), (12, 999), (13, 999), (24, 3), (27, 999), (45, 11), (45, 12), (46, 999), (47, 999), (48, 999), (49, 999), (50, 999), (51, 999), (52, 999), (53, 999), (54, 999), (55, 999), (56, 999), (83, 999)], [(some (.inl ((-2147483648), (-1))), [((2, 1, 1), (0, 239), none)]), (some (.inl (0, 2147483647)), [((2, 0, 8), (0, 0), none), ((2, 0, 10), (1, 1), none), ((2, 1, 1), (0, 0), none), ((2, 1, 2), (0, 240), none), ((2, 24, 3), (0, 0), none)])], 7, 153)
/-- LoadsAhead program -/
theorem qk_144 (l : Launch) : ek_ok l tQ iQ kq_144 := ek_good_ok (sp := sQ) (K := [kq_139, kq_138, kq_143, kq_141, kq_103, kq_34]) (SP := []) (HS := []) (N := 0) (fuel := 112) hIQ (List.forall_mem_cons.mpr ⟨qk_139 l, List.forall_mem_cons.mpr ⟨qk_138 l, List.forall_mem_cons.mpr ⟨qk_143 l, List.forall_mem_cons.mpr ⟨qk_141 l, List.forall_mem_cons.mpr ⟨qk_103 l, List.forall_mem_cons.mpr ⟨qk_34 l, fun _ h => absurd h List.not_mem_nil⟩⟩⟩⟩⟩⟩) (by decide +kernel)
def kq_145 : ek := (44, [.inr 47, .inr 3, .inl (0, 0)], [], [(1, 3), (1, 4), (49, 999)], [(some (.inl (1, 1)), [((2, 1, 2), (1, 260), none), ((2, 1, 3), (1, 260), none)]), (some (.inl (0, 0)), [])], 2, 42)
/-- LoadsAhead.Program readGiven -/
theorem qk_145 (l : Launch) : ek_ok l tQ iQ kq_145 := ek_good_ok (sp := sQ) (K := [kq_120, kq_119]) (SP := []) (HS := []) (N := 0) (fuel := 46) hIQ (List.forall_mem_cons.mpr ⟨qk_120 l, List.forall_mem_cons.mpr ⟨qk_119 l, fun _ h => absurd h List.not_mem_nil⟩⟩) (by decide +kernel)
def kq_146 : ek := (46, [.inr 47, .inr 3, .inl (0, 0)], [], [(1, 3), (1, 4), (52, 999)], [(some (.inl (1, 1)), []), (some (.inl (0, 0)), [])], 3, 63)
/-- LoadsAhead.Program readNumber -/
theorem qk_146 (l : Launch) : ek_ok l tQ iQ kq_146 := ek_good_ok (sp := sQ) (K := [kq_122]) (SP := []) (HS := []) (N := 0) (fuel := 40) hIQ (List.forall_mem_cons.mpr ⟨qk_122 l, fun _ h => absurd h List.not_mem_nil⟩) (by decide +kernel)
def kq_147 : ek := (47, [.inr 47, .inr 3, .inl (0, 0)], [], [(1, 3), (1, 4), (49, 999), (50, 999), (51, 999)], [(some (.inl (0, 0)), []), (some (.inl (1, 1)), [((2, 1, 2), (1, 260), none), ((2, 1, 3), (1, 260), none)])], 3, 64)
/-- LoadsAhead.Program readReckoning -/
theorem qk_147 (l : Launch) : ek_ok l tQ iQ kq_147 := ek_good_ok (sp := sQ) (K := [kq_120, kq_119, kq_145]) (SP := []) (HS := []) (N := 0) (fuel := 80) hIQ (List.forall_mem_cons.mpr ⟨qk_120 l, List.forall_mem_cons.mpr ⟨qk_119 l, List.forall_mem_cons.mpr ⟨qk_145 l, fun _ h => absurd h List.not_mem_nil⟩⟩⟩) (by decide +kernel)
def kq_148 : ek := (48, [.inr 47, .inr 3, .inl (0, 0)], [], [(1, 3), (1, 4), (48, 999), (49, 999), (50, 999), (51, 999), (52, 999)], [(some (.inl (0, 0)), []), (some (.inl (1, 1)), [((2, 1, 2), (1, 260), none)])], 4, 85)
/-- LoadsAhead.Program readMove -/
theorem qk_148 (l : Launch) : ek_ok l tQ iQ kq_148 := ek_good_ok (sp := sQ) (K := [kq_145, kq_35, kq_146, kq_125, kq_120, kq_36, kq_126, kq_37, kq_127]) (SP := []) (HS := []) (N := 0) (fuel := 138) hIQ (List.forall_mem_cons.mpr ⟨qk_145 l, List.forall_mem_cons.mpr ⟨qk_35 l, List.forall_mem_cons.mpr ⟨qk_146 l, List.forall_mem_cons.mpr ⟨qk_125 l, List.forall_mem_cons.mpr ⟨qk_120 l, List.forall_mem_cons.mpr ⟨qk_36 l, List.forall_mem_cons.mpr ⟨qk_126 l, List.forall_mem_cons.mpr ⟨qk_37 l, List.forall_mem_cons.mpr ⟨qk_127 l, fun _ h => absurd h List.not_mem_nil⟩⟩⟩⟩⟩⟩⟩⟩⟩) (by decide +kernel)
def kq_149 : ek := (42, [.inr 47, .inr 3, .inl (0, 0)], [], [(1, 3), (1, 4), (46, 999), (47, 999), (48, 999), (49, 999), (50, 999), (51, 999), (52, 999)], [(some (.inl (0, 0)), []), (some (.inl (1, 1)), [((2, 1, 2), (1, 260), none)])], 5, 107)
/-- LoadsAhead.Program readOp -/
theorem qk_149 (l : Launch) : ek_ok l tQ iQ kq_149 := ek_good_ok (sp := sQ) (K := [kq_145, kq_35, kq_146, kq_148, kq_147, kq_36, kq_117, kq_37, kq_118]) (SP := []) (HS := []) (N := 0) (fuel := 126) hIQ (List.forall_mem_cons.mpr ⟨qk_145 l, List.forall_mem_cons.mpr ⟨qk_35 l, List.forall_mem_cons.mpr ⟨qk_146 l, List.forall_mem_cons.mpr ⟨qk_148 l, List.forall_mem_cons.mpr ⟨qk_147 l, List.forall_mem_cons.mpr ⟨qk_36 l, List.forall_mem_cons.mpr ⟨qk_117 l, List.forall_mem_cons.mpr ⟨qk_37 l, List.forall_mem_cons.mpr ⟨qk_118 l, fun _ h => absurd h List.not_mem_nil⟩⟩⟩⟩⟩⟩⟩⟩⟩) (by decide +kernel)
def kq_150 : ek := (44, [.inr 47, .inr 3, .inl (0, 1)], [], [(1, 3), (1, 4), (49, 999)], [(some (.inl (1, 1)), [((2, 1, 2), (1, 260), none), ((2, 1, 3), (1, 260), none)]), (some (.inl (0, 0)), [])], 2, 42)
/-- LoadsAhead.Program readGiven -/
theorem qk_150 (l : Launch) : ek_ok l tQ iQ kq_150 := ek_good_ok (sp := sQ) (K := [kq_120, kq_119]) (SP := []) (HS := []) (N := 0) (fuel := 46) hIQ (List.forall_mem_cons.mpr ⟨qk_120 l, List.forall_mem_cons.mpr ⟨qk_119 l, fun _ h => absurd h List.not_mem_nil⟩⟩) (by decide +kernel)
def kq_151 : ek := (46, [.inr 47, .inr 3, .inl (0, 1)], [], [(1, 3), (1, 4), (52, 999)], [(some (.inl (1, 1)), []), (some (.inl (0, 0)), [])], 3, 63)
/-- LoadsAhead.Program readNumber -/
theorem qk_151 (l : Launch) : ek_ok l tQ iQ kq_151 := ek_good_ok (sp := sQ) (K := [kq_122]) (SP := []) (HS := []) (N := 0) (fuel := 40) hIQ (List.forall_mem_cons.mpr ⟨qk_122 l, fun _ h => absurd h List.not_mem_nil⟩) (by decide +kernel)
def kq_152 : ek := (47, [.inr 47, .inr 3, .inl (0, 1)], [], [(1, 3), (1, 4), (49, 999), (50, 999), (51, 999)], [(some (.inl (0, 0)), []), (some (.inl (1, 1)), [((2, 1, 2), (1, 260), none), ((2, 1, 3), (1, 260), none)])], 3, 64)
/-- LoadsAhead.Program readReckoning -/
theorem qk_152 (l : Launch) : ek_ok l tQ iQ kq_152 := ek_good_ok (sp := sQ) (K := [kq_120, kq_119, kq_150]) (SP := []) (HS := []) (N := 0) (fuel := 80) hIQ (List.forall_mem_cons.mpr ⟨qk_120 l, List.forall_mem_cons.mpr ⟨qk_119 l, List.forall_mem_cons.mpr ⟨qk_150 l, fun _ h => absurd h List.not_mem_nil⟩⟩⟩) (by decide +kernel)
def kq_153 : ek := (48, [.inr 47, .inr 3, .inl (0, 1)], [], [(1, 3), (1, 4), (48, 999), (49, 999), (50, 999), (51, 999), (52, 999)], [(some (.inl (0, 0)), []), (some (.inl (1, 1)), [((2, 1, 2), (1, 260), none)])], 4, 85)
/-- LoadsAhead.Program readMove -/
theorem qk_153 (l : Launch) : ek_ok l tQ iQ kq_153 := ek_good_ok (sp := sQ) (K := [kq_35, kq_125, kq_120, kq_36, kq_126, kq_37, kq_151, kq_150, kq_127]) (SP := []) (HS := []) (N := 0) (fuel := 138) hIQ (List.forall_mem_cons.mpr ⟨qk_35 l, List.forall_mem_cons.mpr ⟨qk_125 l, List.forall_mem_cons.mpr ⟨qk_120 l, List.forall_mem_cons.mpr ⟨qk_36 l, List.forall_mem_cons.mpr ⟨qk_126 l, List.forall_mem_cons.mpr ⟨qk_37 l, List.forall_mem_cons.mpr ⟨qk_151 l, List.forall_mem_cons.mpr ⟨qk_150 l, List.forall_mem_cons.mpr ⟨qk_127 l, fun _ h => absurd h List.not_mem_nil⟩⟩⟩⟩⟩⟩⟩⟩⟩) (by decide +kernel)
def kq_154 : ek := (42, [.inr 47, .inr 3, .inl (0, 1)], [], [(1, 3), (1, 4), (46, 999), (47, 999), (48, 999), (49, 999), (50, 999), (51, 999), (52, 999)], [(some (.inl (0, 0)), []), (some (.inl (1, 1)), [((2, 1, 2), (1, 260), none)])], 5, 107)
/-- LoadsAhead.Program readOp -/
theorem qk_154 (l : Launch) : ek_ok l tQ iQ kq_154 := ek_good_ok (sp := sQ) (K := [kq_35, kq_36, kq_117, kq_37, kq_151, kq_152, kq_150, kq_153, kq_118]) (SP := []) (HS := []) (N := 0) (fuel := 126) hIQ (List.forall_mem_cons.mpr ⟨qk_35 l, List.forall_mem_cons.mpr ⟨qk_36 l, List.forall_mem_cons.mpr ⟨qk_117 l, List.forall_mem_cons.mpr ⟨qk_37 l, List.forall_mem_cons.mpr ⟨qk_151 l, List.forall_mem_cons.mpr ⟨qk_152 l, List.forall_mem_cons.mpr ⟨qk_150 l, List.forall_mem_cons.mpr ⟨qk_153 l, List.forall_mem_cons.mpr ⟨qk_118 l, fun _ h => absurd h List.not_mem_nil⟩⟩⟩⟩⟩⟩⟩⟩⟩) (by decide +kernel)
def kq_155 : ek := (44, [.inr 47, .inr 3, .inl (0, 3)], [], [(1, 3), (1, 4), (49, 999)], [(some (.inl (1, 1)), [((2, 1, 2), (1, 260), none), ((2, 1, 3), (1, 260), none)]), (some (.inl (0, 0)), [])], 2, 42)
/-- LoadsAhead.Program readGiven -/
theorem qk_155 (l : Launch) : ek_ok l tQ iQ kq_155 := ek_good_ok (sp := sQ) (K := [kq_120, kq_119]) (SP := []) (HS := []) (N := 0) (fuel := 46) hIQ (List.forall_mem_cons.mpr ⟨qk_120 l, List.forall_mem_cons.mpr ⟨qk_119 l, fun _ h => absurd h List.not_mem_nil⟩⟩) (by decide +kernel)
def kq_156 : ek := (46, [.inr 47, .inr 3, .inl (0, 3)], [], [(1, 3), (1, 4), (52, 999)], [(some (.inl (1, 1)), []), (some (.inl (0, 0)), [])], 3, 63)
/-- LoadsAhead.Program readNumber -/
theorem qk_156 (l : Launch) : ek_ok l tQ iQ kq_156 := ek_good_ok (sp := sQ) (K := [kq_122]) (SP := []) (HS := []) (N := 0) (fuel := 40) hIQ (List.forall_mem_cons.mpr ⟨qk_122 l, fun _ h => absurd h List.not_mem_nil⟩) (by decide +kernel)
def kq_157 : ek := (47, [.inr 47, .inr 3, .inl (0, 3)], [], [(1, 3), (1, 4), (49, 999), (50, 999), (51, 999)], [(some (.inl (0, 0)), []), (some (.inl (1, 1)), [((2, 1, 2), (1, 260), none), ((2, 1, 3), (1, 260), none)])], 3, 64)
/-- LoadsAhead.Program readReckoning -/
theorem qk_157 (l : Launch) : ek_ok l tQ iQ kq_157 := ek_good_ok (sp := sQ) (K := [kq_120, kq_119, kq_155]) (SP := []) (HS := []) (N := 0) (fuel := 80) hIQ (List.forall_mem_cons.mpr ⟨qk_120 l, List.forall_mem_cons.mpr ⟨qk_119 l, List.forall_mem_cons.mpr ⟨qk_155 l, fun _ h => absurd h List.not_mem_nil⟩⟩⟩) (by decide +kernel)
def kq_158 : ek := (48, [.inr 47, .inr 3, .inl (0, 3)], [], [(1, 3), (1, 4), (48, 999), (49, 999), (50, 999), (51, 999), (52, 999)], [(some (.inl (0, 0)), []), (some (.inl (1, 1)), [((2, 1, 2), (1, 260), none)])], 4, 85)
/-- LoadsAhead.Program readMove -/
theorem qk_158 (l : Launch) : ek_ok l tQ iQ kq_158 := ek_good_ok (sp := sQ) (K := [kq_35, kq_125, kq_120, kq_36, kq_126, kq_37, kq_156, kq_155, kq_127]) (SP := []) (HS := []) (N := 0) (fuel := 138) hIQ (List.forall_mem_cons.mpr ⟨qk_35 l, List.forall_mem_cons.mpr ⟨qk_125 l, List.forall_mem_cons.mpr ⟨qk_120 l, List.forall_mem_cons.mpr ⟨qk_36 l, List.forall_mem_cons.mpr ⟨qk_126 l, List.forall_mem_cons.mpr ⟨qk_37 l, List.forall_mem_cons.mpr ⟨qk_156 l, List.forall_mem_cons.mpr ⟨qk_155 l, List.forall_mem_cons.mpr ⟨qk_127 l, fun _ h => absurd h List.not_mem_nil⟩⟩⟩⟩⟩⟩⟩⟩⟩) (by decide +kernel)
def kq_159 : ek := (42, [.inr 47, .inr 3, .inl (0, 2)], [], [(1, 3), (1, 4), (46, 999), (47, 999), (48, 999), (49, 999), (50, 999), (51, 999), (52, 999)], [(some (.inl (0, 0)), []), (some (.inl (1, 1)), [((2, 1, 2), (1, 260), none)])], 5, 107)
/-- LoadsAhead.Program readOp -/
theorem qk_159 (l : Launch) : ek_ok l tQ iQ kq_159 := ek_good_ok (sp := sQ) (K := [kq_35, kq_36, kq_117, kq_37, kq_156, kq_157, kq_155, kq_158, kq_118]) (SP := []) (HS := []) (N := 0) (fuel := 126) hIQ (List.forall_mem_cons.mpr ⟨qk_35 l, List.forall_mem_cons.mpr ⟨qk_36 l, List.forall_mem_cons.mpr ⟨qk_117 l, List.forall_mem_cons.mpr ⟨qk_37 l, List.forall_mem_cons.mpr ⟨qk_156 l, List.forall_mem_cons.mpr ⟨qk_157 l, List.forall_mem_cons.mpr ⟨qk_155 l, List.forall_mem_cons.mpr ⟨qk_158 l, List.forall_mem_cons.mpr ⟨qk_118 l, fun _ h => absurd h List.not_mem_nil⟩⟩⟩⟩⟩⟩⟩⟩⟩) (by decide +kernel)
end
section
def kq_160 : ek := (42, [.inr 47, .inr 3, .inl (0, 3)], [], [(1, 3), (1, 4), (46, 999), (47, 999), (48, 999), (49, 999), (50, 999), (51, 999), (52, 999)], [(some (.inl (0, 0)), []), (some (.inl (1, 1)), [((2, 1, 2), (1, 260), none)])], 5, 107)
/-- LoadsAhead.Program readOp -/
theorem qk_160 (l : Launch) : ek_ok l tQ iQ kq_160 := ek_good_ok (sp := sQ) (K := [kq_35, kq_36, kq_117, kq_37, kq_156, kq_157, kq_155, kq_158, kq_118]) (SP := []) (HS := []) (N := 0) (fuel := 126) hIQ (List.forall_mem_cons.mpr ⟨qk_35 l, List.forall_mem_cons.mpr ⟨qk_36 l, List.forall_mem_cons.mpr ⟨qk_117 l, List.forall_mem_cons.mpr ⟨qk_37 l, List.forall_mem_cons.mpr ⟨qk_156 l, List.forall_mem_cons.mpr ⟨qk_157 l, List.forall_mem_cons.mpr ⟨qk_155 l, List.forall_mem_cons.mpr ⟨qk_158 l, List.forall_mem_cons.mpr ⟨qk_118 l, fun _ h => absurd h List.not_mem_nil⟩⟩⟩⟩⟩⟩⟩⟩⟩) (by decide +kernel)
def kq_161 : ek := (44, [.inr 47, .inr 3, .inl (0, 7)], [], [(1, 3), (1, 4), (49, 999)], [(some (.inl (1, 1)), [((2, 1, 2), (1, 260), none), ((2, 1, 3), (1, 260), none)]), (some (.inl (0, 0)), [])], 2, 42)
/-- LoadsAhead.Program readGiven -/
theorem qk_161 (l : Launch) : ek_ok l tQ iQ kq_161 := ek_good_ok (sp := sQ) (K := [kq_120, kq_119]) (SP := []) (HS := []) (N := 0) (fuel := 46) hIQ (List.forall_mem_cons.mpr ⟨qk_120 l, List.forall_mem_cons.mpr ⟨qk_119 l, fun _ h => absurd h List.not_mem_nil⟩⟩) (by decide +kernel)
def kq_162 : ek := (46, [.inr 47, .inr 3, .inl (0, 7)], [], [(1, 3), (1, 4), (52, 999)], [(some (.inl (1, 1)), []), (some (.inl (0, 0)), [])], 3, 63)
/-- LoadsAhead.Program readNumber -/
theorem qk_162 (l : Launch) : ek_ok l tQ iQ kq_162 := ek_good_ok (sp := sQ) (K := [kq_122]) (SP := []) (HS := []) (N := 0) (fuel := 40) hIQ (List.forall_mem_cons.mpr ⟨qk_122 l, fun _ h => absurd h List.not_mem_nil⟩) (by decide +kernel)
def kq_163 : ek := (47, [.inr 47, .inr 3, .inl (0, 7)], [], [(1, 3), (1, 4), (49, 999), (50, 999), (51, 999)], [(some (.inl (0, 0)), []), (some (.inl (1, 1)), [((2, 1, 2), (1, 260), none), ((2, 1, 3), (1, 260), none)])], 3, 64)
/-- LoadsAhead.Program readReckoning -/
theorem qk_163 (l : Launch) : ek_ok l tQ iQ kq_163 := ek_good_ok (sp := sQ) (K := [kq_120, kq_119, kq_161]) (SP := []) (HS := []) (N := 0) (fuel := 80) hIQ (List.forall_mem_cons.mpr ⟨qk_120 l, List.forall_mem_cons.mpr ⟨qk_119 l, List.forall_mem_cons.mpr ⟨qk_161 l, fun _ h => absurd h List.not_mem_nil⟩⟩⟩) (by decide +kernel)
def kq_164 : ek := (48, [.inr 47, .inr 3, .inl (0, 7)], [], [(1, 3), (1, 4), (48, 999), (49, 999), (50, 999), (51, 999), (52, 999)], [(some (.inl (0, 0)), []), (some (.inl (1, 1)), [((2, 1, 2), (1, 260), none)])], 4, 85)
/-- LoadsAhead.Program readMove -/
theorem qk_164 (l : Launch) : ek_ok l tQ iQ kq_164 := ek_good_ok (sp := sQ) (K := [kq_35, kq_125, kq_120, kq_36, kq_126, kq_37, kq_162, kq_161, kq_127]) (SP := []) (HS := []) (N := 0) (fuel := 138) hIQ (List.forall_mem_cons.mpr ⟨qk_35 l, List.forall_mem_cons.mpr ⟨qk_125 l, List.forall_mem_cons.mpr ⟨qk_120 l, List.forall_mem_cons.mpr ⟨qk_36 l, List.forall_mem_cons.mpr ⟨qk_126 l, List.forall_mem_cons.mpr ⟨qk_37 l, List.forall_mem_cons.mpr ⟨qk_162 l, List.forall_mem_cons.mpr ⟨qk_161 l, List.forall_mem_cons.mpr ⟨qk_127 l, fun _ h => absurd h List.not_mem_nil⟩⟩⟩⟩⟩⟩⟩⟩⟩) (by decide +kernel)
def kq_165 : ek := (42, [.inr 47, .inr 3, .inl (0, 4)], [], [(1, 3), (1, 4), (46, 999), (47, 999), (48, 999), (49, 999), (50, 999), (51, 999), (52, 999)], [(some (.inl (0, 0)), []), (some (.inl (1, 1)), [((2, 1, 2), (1, 260), none)])], 5, 107)
/-- LoadsAhead.Program readOp -/
theorem qk_165 (l : Launch) : ek_ok l tQ iQ kq_165 := ek_good_ok (sp := sQ) (K := [kq_35, kq_36, kq_117, kq_37, kq_162, kq_164, kq_163, kq_161, kq_118]) (SP := []) (HS := []) (N := 0) (fuel := 126) hIQ (List.forall_mem_cons.mpr ⟨qk_35 l, List.forall_mem_cons.mpr ⟨qk_36 l, List.forall_mem_cons.mpr ⟨qk_117 l, List.forall_mem_cons.mpr ⟨qk_37 l, List.forall_mem_cons.mpr ⟨qk_162 l, List.forall_mem_cons.mpr ⟨qk_164 l, List.forall_mem_cons.mpr ⟨qk_163 l, List.forall_mem_cons.mpr ⟨qk_161 l, List.forall_mem_cons.mpr ⟨qk_118 l, fun _ h => absurd h List.not_mem_nil⟩⟩⟩⟩⟩⟩⟩⟩⟩) (by decide +kernel)
def kq_166 : ek := (42, [.inr 47, .inr 3, .inl (0, 5)], [], [(1, 3), (1, 4), (46, 999), (47, 999), (48, 999), (49, 999), (50, 999), (51, 999), (52, 999)], [(some (.inl (0, 0)), []), (some (.inl (1, 1)), [((2, 1, 2), (1, 260), none)])], 5, 107)
/-- LoadsAhead.Program readOp -/
theorem qk_166 (l : Launch) : ek_ok l tQ iQ kq_166 := ek_good_ok (sp := sQ) (K := [kq_35, kq_36, kq_117, kq_37, kq_162, kq_164, kq_163, kq_161, kq_118]) (SP := []) (HS := []) (N := 0) (fuel := 126) hIQ (List.forall_mem_cons.mpr ⟨qk_35 l, List.forall_mem_cons.mpr ⟨qk_36 l, List.forall_mem_cons.mpr ⟨qk_117 l, List.forall_mem_cons.mpr ⟨qk_37 l, List.forall_mem_cons.mpr ⟨qk_162 l, List.forall_mem_cons.mpr ⟨qk_164 l, List.forall_mem_cons.mpr ⟨qk_163 l, List.forall_mem_cons.mpr ⟨qk_161 l, List.forall_mem_cons.mpr ⟨qk_118 l, fun _ h => absurd h List.not_mem_nil⟩⟩⟩⟩⟩⟩⟩⟩⟩) (by decide +kernel)
def kq_167 : ek := (42, [.inr 47, .inr 3, .inl (0, 6)], [], [(1, 3), (1, 4), (46, 999), (47, 999), (48, 999), (49, 999), (50, 999), (51, 999), (52, 999)], [(some (.inl (0, 0)), []), (some (.inl (1, 1)), [((2, 1, 2), (1, 260), none)])], 5, 107)
/-- LoadsAhead.Program readOp -/
theorem qk_167 (l : Launch) : ek_ok l tQ iQ kq_167 := ek_good_ok (sp := sQ) (K := [kq_35, kq_36, kq_117, kq_37, kq_162, kq_164, kq_163, kq_161, kq_118]) (SP := []) (HS := []) (N := 0) (fuel := 126) hIQ (List.forall_mem_cons.mpr ⟨qk_35 l, List.forall_mem_cons.mpr ⟨qk_36 l, List.forall_mem_cons.mpr ⟨qk_117 l, List.forall_mem_cons.mpr ⟨qk_37 l, List.forall_mem_cons.mpr ⟨qk_162 l, List.forall_mem_cons.mpr ⟨qk_164 l, List.forall_mem_cons.mpr ⟨qk_163 l, List.forall_mem_cons.mpr ⟨qk_161 l, List.forall_mem_cons.mpr ⟨qk_118 l, fun _ h => absurd h List.not_mem_nil⟩⟩⟩⟩⟩⟩⟩⟩⟩) (by decide +kernel)
def kq_168 : ek := (42, [.inr 47, .inr 3, .inl (0, 7)], [], [(1, 3), (1, 4), (46, 999), (47, 999), (48, 999), (49, 999), (50, 999), (51, 999), (52, 999)], [(some (.inl (0, 0)), []), (some (.inl (1, 1)), [((2, 1, 2), (1, 260), none)])], 5, 107)
/-- LoadsAhead.Program readOp -/
theorem qk_168 (l : Launch) : ek_ok l tQ iQ kq_168 := ek_good_ok (sp := sQ) (K := [kq_35, kq_36, kq_117, kq_37, kq_162, kq_164, kq_163, kq_161, kq_118]) (SP := []) (HS := []) (N := 0) (fuel := 126) hIQ (List.forall_mem_cons.mpr ⟨qk_35 l, List.forall_mem_cons.mpr ⟨qk_36 l, List.forall_mem_cons.mpr ⟨qk_117 l, List.forall_mem_cons.mpr ⟨qk_37 l, List.forall_mem_cons.mpr ⟨qk_162 l, List.forall_mem_cons.mpr ⟨qk_164 l, List.forall_mem_cons.mpr ⟨qk_163 l, List.forall_mem_cons.mpr ⟨qk_161 l, List.forall_mem_cons.mpr ⟨qk_118 l, fun _ h => absurd h List.not_mem_nil⟩⟩⟩⟩⟩⟩⟩⟩⟩) (by decide +kernel)
def kq_169 : ek := (44, [.inr 47, .inr 3, .inl (0, 15)], [], [(1, 3), (1, 4), (49, 999)], [(some (.inl (1, 1)), [((2, 1, 2), (1, 260), none), ((2, 1, 3), (1, 260), none)]), (some (.inl (0, 0)), [])], 2, 42)
/-- LoadsAhead.Program readGiven -/
theorem qk_169 (l : Launch) : ek_ok l tQ iQ kq_169 := ek_good_ok (sp := sQ) (K := [kq_120, kq_119]) (SP := []) (HS := []) (N := 0) (fuel := 46) hIQ (List.forall_mem_cons.mpr ⟨qk_120 l, List.forall_mem_cons.mpr ⟨qk_119 l, fun _ h => absurd h List.not_mem_nil⟩⟩) (by decide +kernel)
def kq_170 : ek := (46, [.inr 47, .inr 3, .inl (0, 15)], [], [(1, 3), (1, 4), (52, 999)], [(some (.inl (1, 1)), []), (some (.inl (0, 0)), [])], 3, 63)
/-- LoadsAhead.Program readNumber -/
theorem qk_170 (l : Launch) : ek_ok l tQ iQ kq_170 := ek_good_ok (sp := sQ) (K := [kq_122]) (SP := []) (HS := []) (N := 0) (fuel := 40) hIQ (List.forall_mem_cons.mpr ⟨qk_122 l, fun _ h => absurd h List.not_mem_nil⟩) (by decide +kernel)
def kq_171 : ek := (47, [.inr 47, .inr 3, .inl (0, 15)], [], [(1, 3), (1, 4), (49, 999), (50, 999), (51, 999)], [(some (.inl (0, 0)), []), (some (.inl (1, 1)), [((2, 1, 2), (1, 260), none), ((2, 1, 3), (1, 260), none)])], 3, 64)
/-- LoadsAhead.Program readReckoning -/
theorem qk_171 (l : Launch) : ek_ok l tQ iQ kq_171 := ek_good_ok (sp := sQ) (K := [kq_120, kq_119, kq_169]) (SP := []) (HS := []) (N := 0) (fuel := 80) hIQ (List.forall_mem_cons.mpr ⟨qk_120 l, List.forall_mem_cons.mpr ⟨qk_119 l, List.forall_mem_cons.mpr ⟨qk_169 l, fun _ h => absurd h List.not_mem_nil⟩⟩⟩) (by decide +kernel)
def kq_172 : ek := (48, [.inr 47, .inr 3, .inl (0, 15)], [], [(1, 3), (1, 4), (48, 999), (49, 999), (50, 999), (51, 999), (52, 999)], [(some (.inl (0, 0)), []), (some (.inl (1, 1)), [((2, 1, 2), (1, 260), none)])], 4, 85)
/-- LoadsAhead.Program readMove -/
theorem qk_172 (l : Launch) : ek_ok l tQ iQ kq_172 := ek_good_ok (sp := sQ) (K := [kq_35, kq_125, kq_120, kq_36, kq_126, kq_37, kq_169, kq_170, kq_127]) (SP := []) (HS := []) (N := 0) (fuel := 138) hIQ (List.forall_mem_cons.mpr ⟨qk_35 l, List.forall_mem_cons.mpr ⟨qk_125 l, List.forall_mem_cons.mpr ⟨qk_120 l, List.forall_mem_cons.mpr ⟨qk_36 l, List.forall_mem_cons.mpr ⟨qk_126 l, List.forall_mem_cons.mpr ⟨qk_37 l, List.forall_mem_cons.mpr ⟨qk_169 l, List.forall_mem_cons.mpr ⟨qk_170 l, List.forall_mem_cons.mpr ⟨qk_127 l, fun _ h => absurd h List.not_mem_nil⟩⟩⟩⟩⟩⟩⟩⟩⟩) (by decide +kernel)
def kq_173 : ek := (42, [.inr 47, .inr 3, .inl (0, 8)], [], [(1, 3), (1, 4), (46, 999), (47, 999), (48, 999), (49, 999), (50, 999), (51, 999), (52, 999)], [(some (.inl (0, 0)), []), (some (.inl (1, 1)), [((2, 1, 2), (1, 260), none)])], 5, 107)
/-- LoadsAhead.Program readOp -/
theorem qk_173 (l : Launch) : ek_ok l tQ iQ kq_173 := ek_good_ok (sp := sQ) (K := [kq_35, kq_36, kq_117, kq_37, kq_171, kq_169, kq_170, kq_172, kq_118]) (SP := []) (HS := []) (N := 0) (fuel := 126) hIQ (List.forall_mem_cons.mpr ⟨qk_35 l, List.forall_mem_cons.mpr ⟨qk_36 l, List.forall_mem_cons.mpr ⟨qk_117 l, List.forall_mem_cons.mpr ⟨qk_37 l, List.forall_mem_cons.mpr ⟨qk_171 l, List.forall_mem_cons.mpr ⟨qk_169 l, List.forall_mem_cons.mpr ⟨qk_170 l, List.forall_mem_cons.mpr ⟨qk_172 l, List.forall_mem_cons.mpr ⟨qk_118 l, fun _ h => absurd h List.not_mem_nil⟩⟩⟩⟩⟩⟩⟩⟩⟩) (by decide +kernel)
def kq_174 : ek := (42, [.inr 47, .inr 3, .inl (0, 9)], [], [(1, 3), (1, 4), (46, 999), (47, 999), (48, 999), (49, 999), (50, 999), (51, 999), (52, 999)], [(some (.inl (0, 0)), []), (some (.inl (1, 1)), [((2, 1, 2), (1, 260), none)])], 5, 107)
/-- LoadsAhead.Program readOp -/
theorem qk_174 (l : Launch) : ek_ok l tQ iQ kq_174 := ek_good_ok (sp := sQ) (K := [kq_35, kq_36, kq_117, kq_37, kq_171, kq_169, kq_170, kq_172, kq_118]) (SP := []) (HS := []) (N := 0) (fuel := 126) hIQ (List.forall_mem_cons.mpr ⟨qk_35 l, List.forall_mem_cons.mpr ⟨qk_36 l, List.forall_mem_cons.mpr ⟨qk_117 l, List.forall_mem_cons.mpr ⟨qk_37 l, List.forall_mem_cons.mpr ⟨qk_171 l, List.forall_mem_cons.mpr ⟨qk_169 l, List.forall_mem_cons.mpr ⟨qk_170 l, List.forall_mem_cons.mpr ⟨qk_172 l, List.forall_mem_cons.mpr ⟨qk_118 l, fun _ h => absurd h List.not_mem_nil⟩⟩⟩⟩⟩⟩⟩⟩⟩) (by decide +kernel)
def kq_175 : ek := (42, [.inr 47, .inr 3, .inl (0, 15)], [], [(1, 3), (1, 4), (46, 999), (47, 999), (48, 999), (49, 999), (50, 999), (51, 999), (52, 999)], [(some (.inl (0, 0)), []), (some (.inl (1, 1)), [((2, 1, 2), (1, 260), none)])], 5, 107)
/-- LoadsAhead.Program readOp -/
theorem qk_175 (l : Launch) : ek_ok l tQ iQ kq_175 := ek_good_ok (sp := sQ) (K := [kq_35, kq_36, kq_117, kq_37, kq_171, kq_169, kq_170, kq_172, kq_118]) (SP := []) (HS := []) (N := 0) (fuel := 126) hIQ (List.forall_mem_cons.mpr ⟨qk_35 l, List.forall_mem_cons.mpr ⟨qk_36 l, List.forall_mem_cons.mpr ⟨qk_117 l, List.forall_mem_cons.mpr ⟨qk_37 l, List.forall_mem_cons.mpr ⟨qk_171 l, List.forall_mem_cons.mpr ⟨qk_169 l, List.forall_mem_cons.mpr ⟨qk_170 l, List.forall_mem_cons.mpr ⟨qk_172 l, List.forall_mem_cons.mpr ⟨qk_118 l, fun _ h => absurd h List.not_mem_nil⟩⟩⟩⟩⟩⟩⟩⟩⟩) (by decide +kernel)
def kq_176 : ek := (42, [.inr 47, .inr 3, .inl (0, 16)], [], [(1, 3), (1, 4), (46, 999), (47, 999), (48, 999), (49, 999), (50, 999), (51, 999), (52, 999)], [(some (.inl (0, 0)), []), (some (.inl (1, 1)), [((2, 1, 2), (1, 260), none)])], 5, 107)
/-- LoadsAhead.Program readOp -/
theorem qk_176 (l : Launch) : ek_ok l tQ iQ kq_176 := ek_good_ok (sp := sQ) (K := [kq_35, kq_36, kq_117, kq_37, kq_121, kq_128, kq_123, kq_124, kq_118]) (SP := []) (HS := []) (N := 0) (fuel := 126) hIQ (List.forall_mem_cons.mpr ⟨qk_35 l, List.forall_mem_cons.mpr ⟨qk_36 l, List.forall_mem_cons.mpr ⟨qk_117 l, List.forall_mem_cons.mpr ⟨qk_37 l, List.forall_mem_cons.mpr ⟨qk_121 l, List.forall_mem_cons.mpr ⟨qk_128 l, List.forall_mem_cons.mpr ⟨qk_123 l, List.forall_mem_cons.mpr ⟨qk_124 l, List.forall_mem_cons.mpr ⟨qk_118 l, fun _ h => absurd h List.not_mem_nil⟩⟩⟩⟩⟩⟩⟩⟩⟩) (by decide +kernel)
def kq_177 : ek := (42, [.inr 47, .inr 3, .inl (0, 17)], [], [(1, 3), (1, 4), (46, 999), (47, 999), (48, 999), (49, 999), (50, 999), (51, 999), (52, 999)], [(some (.inl (0, 0)), []), (some (.inl (1, 1)), [((2, 1, 2), (1, 260), none)])], 5, 107)
/-- LoadsAhead.Program readOp -/
theorem qk_177 (l : Launch) : ek_ok l tQ iQ kq_177 := ek_good_ok (sp := sQ) (K := [kq_35, kq_36, kq_117, kq_37, kq_121, kq_128, kq_123, kq_124, kq_118]) (SP := []) (HS := []) (N := 0) (fuel := 126) hIQ (List.forall_mem_cons.mpr ⟨qk_35 l, List.forall_mem_cons.mpr ⟨qk_36 l, List.forall_mem_cons.mpr ⟨qk_117 l, List.forall_mem_cons.mpr ⟨qk_37 l, List.forall_mem_cons.mpr ⟨qk_121 l, List.forall_mem_cons.mpr ⟨qk_128 l, List.forall_mem_cons.mpr ⟨qk_123 l, List.forall_mem_cons.mpr ⟨qk_124 l, List.forall_mem_cons.mpr ⟨qk_118 l, fun _ h => absurd h List.not_mem_nil⟩⟩⟩⟩⟩⟩⟩⟩⟩) (by decide +kernel)
def kq_178 : ek := (42, [.inr 47, .inr 3, .inl (0, 18)], [], [(1, 3), (1, 4), (46, 999), (47, 999), (48, 999), (49, 999), (50, 999), (51, 999), (52, 999)], [(some (.inl (0, 0)), []), (some (.inl (1, 1)), [((2, 1, 2), (1, 260), none)])], 5, 107)
/-- LoadsAhead.Program readOp -/
theorem qk_178 (l : Launch) : ek_ok l tQ iQ kq_178 := ek_good_ok (sp := sQ) (K := [kq_35, kq_36, kq_117, kq_37, kq_121, kq_128, kq_123, kq_124, kq_118]) (SP := []) (HS := []) (N := 0) (fuel := 126) hIQ (List.forall_mem_cons.mpr ⟨qk_35 l, List.forall_mem_cons.mpr ⟨qk_36 l, List.forall_mem_cons.mpr ⟨qk_117 l, List.forall_mem_cons.mpr ⟨qk_37 l, List.forall_mem_cons.mpr ⟨qk_121 l, List.forall_mem_cons.mpr ⟨qk_128 l, List.forall_mem_cons.mpr ⟨qk_123 l, List.forall_mem_cons.mpr ⟨qk_124 l, List.forall_mem_cons.mpr ⟨qk_118 l, fun _ h => absurd h List.not_mem_nil⟩⟩⟩⟩⟩⟩⟩⟩⟩) (by decide +kernel)
def kq_179 : ek := (40, [.inr 2, .inl (241, 2147483647)], [], [], [(some (.inl ((-1), (-1))), [])], 0, 0)
/-- LoadsAhead program -/
theorem qk_179 (l : Launch) : ek_ok l tQ iQ kq_179 := ek_good_ok (sp := sQ) (K := []) (SP := []) (HS := []) (N := 0) (fuel := 24) hIQ (fun _ h => absurd h List.not_mem_nil) (by decide +kernel)
def kq_180 : ek := (137, [.inl ((-2147483648), 0), .inl (1, 1), .inl (240, 240)], [], [], [(some (.inl (0, 0)), [])], 0, 0)
/-- LoadsAheadModel in -/
theorem qk_180 (l : Launch) : ek_ok l tQ iQ kq_180 := ek_good_ok (sp := sQ) (K := []) (SP := []) (HS := []) (N := 0) (fuel := 18) hIQ (fun _ h => absurd h List.not_mem_nil) (by decide +kernel)
def kq_181 : ek := (163, [.inr 86, .inl ((-2147483648), 0)], [], [], [(some (.inl ((-1), (-1))), [])], 1, 22)
/-- LoadsAheadModel program -/
theorem qk_181 (l : Launch) : ek_ok l tQ iQ kq_181 := ek_good_ok (sp := sQ) (K := [kq_180]) (SP := [(5, [(2, [0, 240])])]) (HS := []) (N := 0) (fuel := 22) hIQ (List.forall_mem_cons.mpr ⟨qk_180 l, fun _ h => absurd h List.not_mem_nil⟩) (by decide +kernel)
def kq_182 : ek := (137, [.inl (1, 240), .inl (1, 1), .inl (240, 240)], [], [], [(some (.inl (1, 1)), [])], 0, 0)
/-- LoadsAheadModel in -/
theorem qk_182 (l : Launch) : ek_ok l tQ iQ kq_182 := ek_good_ok (sp := sQ) (K := []) (SP := []) (HS := []) (N := 0) (fuel := 26) hIQ (fun _ h => absurd h List.not_mem_nil) (by decide +kernel)
def kq_183 : ek := (142, [.inr 86, .inl (0, 240)], [], [(84, 19), (84, 20), (84, 24), (84, 26)], [(none, [((2, 84, 19), (0, 0), none), ((2, 84, 24), (0, 0), none), ((2, 84, 26), (0, 0), none)])], 0, 0)
/-- LoadsAheadModel beginsText -/
theorem qk_183 (l : Launch) : ek_ok l tQ iQ kq_183 := ek_good_ok (sp := sQ) (K := []) (SP := []) (HS := []) (N := 0) (fuel := 34) hIQ (fun _ h => absurd h List.not_mem_nil) (by decide +kernel)
def kq_184 : ek := (144, [.inr 86], [], [], [(some (.inl (0, 255)), [((2, 84, 19), (0, 239), none), ((2, 84, 20), (1, 240), none)]), (some (.inl ((-1), (-1))), [])], 0, 0)
/-- LoadsAheadModel here -/
theorem qk_184 (l : Launch) : ek_ok l tQ iQ kq_184 := ek_good_ok (sp := sQ) (K := []) (SP := []) (HS := []) (N := 0) (fuel := 36) hIQ (fun _ h => absurd h List.not_mem_nil) (by decide +kernel)
def kq_185 : ek := (145, [.inr 86, .inl (1, 1), .inl (0, 240)], [], [(84, 21)], [(some (.inl (0, 0)), [])], 0, 0)
/-- LoadsAheadModel wrongAt -/
theorem qk_185 (l : Launch) : ek_ok l tQ iQ kq_185 := ek_good_ok (sp := sQ) (K := []) (SP := []) (HS := []) (N := 0) (fuel := 26) hIQ (fun _ h => absurd h List.not_mem_nil) (by decide +kernel)
def kq_186 : ek := (162, [.inr 86, .inl (59, 59)], [], [(84, 19), (84, 21)], [(some (.inl (0, 0)), []), (some (.inl (1, 1)), [((2, 84, 19), (1, 240), none), ((2, 84, 20), (1, 240), none)])], 1, 22)
/-- LoadsAheadModel takes -/
theorem qk_186 (l : Launch) : ek_ok l tQ iQ kq_186 := ek_good_ok (sp := sQ) (K := [kq_184, kq_185]) (SP := []) (HS := []) (N := 0) (fuel := 32) hIQ (List.forall_mem_cons.mpr ⟨qk_184 l, List.forall_mem_cons.mpr ⟨qk_185 l, fun _ h => absurd h List.not_mem_nil⟩⟩) (by decide +kernel)
def kq_187 : ek := (162, [.inr 86, .inl (44, 44)], [], [(84, 19), (84, 21)], [(some (.inl (0, 0)), []), (some (.inl (1, 1)), [((2, 84, 19), (1, 240), none), ((2, 84, 20), (1, 240), none)])], 1, 22)
/-- LoadsAheadModel takes -/
theorem qk_187 (l : Launch) : ek_ok l tQ iQ kq_187 := ek_good_ok (sp := sQ) (K := [kq_184, kq_185]) (SP := []) (HS := []) (N := 0) (fuel := 32) hIQ (List.forall_mem_cons.mpr ⟨qk_184 l, List.forall_mem_cons.mpr ⟨qk_185 l, fun _ h => absurd h List.not_mem_nil⟩⟩) (by decide +kernel)
def kq_188 : ek := (165, [.inl ((-1), (-1))], [], [], [(some (.inl ((-1), (-1))), [])], 0, 0)
/-- LoadsAheadModel kindBy -/
theorem qk_188 (l : Launch) : ek_ok l tQ iQ kq_188 := ek_good_ok (sp := sQ) (K := []) (SP := []) (HS := []) (N := 0) (fuel := 16) hIQ (fun _ h => absurd h List.not_mem_nil) (by decide +kernel)
def kq_189 : ek := (165, [.inl (0, 255)], [], [], [(some (.inl ((-1), (-1))), []), (some (.inl (0, 3)), [])], 0, 0)
/-- LoadsAheadModel kindBy -/
theorem qk_189 (l : Launch) : ek_ok l tQ iQ kq_189 := ek_good_ok (sp := sQ) (K := []) (SP := []) (HS := []) (N := 0) (fuel := 16) hIQ (fun _ h => absurd h List.not_mem_nil) (by decide +kernel)
def kq_190 : ek := (166, [.inl ((-1), (-1))], [], [], [(some (.inl ((-1), (-1))), [])], 0, 0)
/-- LoadsAheadModel sizeBy -/
theorem qk_190 (l : Launch) : ek_ok l tQ iQ kq_190 := ek_good_ok (sp := sQ) (K := []) (SP := []) (HS := []) (N := 0) (fuel := 30) hIQ (fun _ h => absurd h List.not_mem_nil) (by decide +kernel)
def kq_191 : ek := (166, [.inl (0, 255)], [], [], [(some (.inl (1, 4)), []), (some (.inl ((-1), (-1))), [])], 0, 0)
/-- LoadsAheadModel sizeBy -/
theorem qk_191 (l : Launch) : ek_ok l tQ iQ kq_191 := ek_good_ok (sp := sQ) (K := []) (SP := []) (HS := []) (N := 0) (fuel := 32) hIQ (fun _ h => absurd h List.not_mem_nil) (by decide +kernel)
def kq_192 : ek := (162, [.inr 86, .inl (43, 43)], [], [(84, 19), (84, 21)], [(some (.inl (0, 0)), []), (some (.inl (1, 1)), [((2, 84, 19), (1, 240), none), ((2, 84, 20), (1, 240), none)])], 1, 22)
/-- LoadsAheadModel takes -/
theorem qk_192 (l : Launch) : ek_ok l tQ iQ kq_192 := ek_good_ok (sp := sQ) (K := [kq_184, kq_185]) (SP := []) (HS := []) (N := 0) (fuel := 32) hIQ (List.forall_mem_cons.mpr ⟨qk_184 l, List.forall_mem_cons.mpr ⟨qk_185 l, fun _ h => absurd h List.not_mem_nil⟩⟩) (by decide +kernel)
def kq_193 : ek := (145, [.inr 86, .inl (2, 2), .inl (0, 240)], [], [(84, 21)], [(some (.inl (0, 0)), [])], 0, 0)
/-- LoadsAheadModel wrongAt -/
theorem qk_193 (l : Launch) : ek_ok l tQ iQ kq_193 := ek_good_ok (sp := sQ) (K := []) (SP := []) (HS := []) (N := 0) (fuel := 26) hIQ (fun _ h => absurd h List.not_mem_nil) (by decide +kernel)
def kq_194 : ek := (149, [.inr 86], [], [], [(some (.inl (0, 0)), []), (some (.inl (1, 1)), [((2, 84, 19), (0, 239), none), ((2, 84, 20), (1, 240), none)])], 1, 20)
/-- LoadsAheadModel isDigit -/
theorem qk_194 (l : Launch) : ek_ok l tQ iQ kq_194 := ek_good_ok (sp := sQ) (K := [kq_184]) (SP := []) (HS := []) (N := 0) (fuel := 30) hIQ (List.forall_mem_cons.mpr ⟨qk_184 l, fun _ h => absurd h List.not_mem_nil⟩) (by decide +kernel)
def kq_195 : ek := (169, [.inr 86], [], [(84, 19), (84, 21), (84, 22)], [(some (.inl (0, 0)), []), (some (.inl (1, 1)), [])], 2, 40)
/-- LoadsAheadModel readsAmount -/
theorem qk_195 (l : Launch) : ek_ok l tQ iQ kq_195 := ek_good_ok (sp := sQ) (K := [kq_184, kq_194, kq_185, kq_193]) (SP := []) (HS := [((27, [some (.inr 86, none), some (.inl (0, 240), none)], [], [], []), [(0, (0, 0, 0), 0), (1, (2, 84, 19), 240), (0, (0, 0, 0), 0)])]) (N := 3) (fuel := 64) hIQ (List.forall_mem_cons.mpr ⟨qk_184 l, List.forall_mem_cons.mpr ⟨qk_194 l, List.forall_mem_cons.mpr ⟨qk_185 l, List.forall_mem_cons.mpr ⟨qk_193 l, fun _ h => absurd h List.not_mem_nil⟩⟩⟩⟩) (by decide +kernel)
def kq_222 : ek := (145, [.inr 86, .inl (4, 4), .inl (0, 240)], [], [(84, 21)], [(some (.inl (0, 0)), [])], 0, 0)
/-- LoadsAheadModel wrongAt -/
theorem qk_222 (l : Launch) : ek_ok l tQ iQ kq_222 := ek_good_ok (sp := sQ) (K := []) (SP := []) (HS := []) (N := 0) (fuel := 26) hIQ (fun _ h => absurd h List.not_mem_nil) (by decide +kernel)
def kq_223 : ek := (164, [.inr 86], [((2, 84, 41), (20, 20), none)], [(84, 21)], [(some (.inl (0, 0)), [((2, 84, 41), (20, 20), none)])], 1, 22)
/-- LoadsAheadModel readsOp -/
theorem qk_223 (l : Launch) : ek_ok l tQ iQ kq_223 := ek_good_ok (sp := sQ) (K := [kq_184, kq_188, kq_222, kq_185, kq_189]) (SP := []) (HS := []) (N := 0) (fuel := 42) hIQ (List.forall_mem_cons.mpr ⟨qk_184 l, List.forall_mem_cons.mpr ⟨qk_188 l, List.forall_mem_cons.mpr ⟨qk_222 l, List.forall_mem_cons.mpr ⟨qk_185 l, List.forall_mem_cons.mpr ⟨qk_189 l, fun _ h => absurd h List.not_mem_nil⟩⟩⟩⟩⟩) (by decide +kernel)
def kq_239 : ek := (137, [.inl (241, 2147483647), .inl (1, 1), .inl (240, 240)], [], [], [(some (.inl (0, 0)), [])], 0, 0)
/-- LoadsAheadModel in -/
theorem qk_239 (l : Launch) : ek_ok l tQ iQ kq_239 := ek_good_ok (sp := sQ) (K := []) (SP := []) (HS := []) (N := 0) (fuel := 24) hIQ (fun _ h => absurd h List.not_mem_nil) (by decide +kernel)
def kq_240 : ek := (163, [.inr 86, .inl (241, 2147483647)], [], [], [(some (.inl ((-1), (-1))), [])], 1, 22)
/-- LoadsAheadModel program -/
theorem qk_240 (l : Launch) : ek_ok l tQ iQ kq_240 := ek_good_ok (sp := sQ) (K := [kq_239]) (SP := [(5, [(2, [0, 240])])]) (HS := []) (N := 0) (fuel := 22) hIQ (List.forall_mem_cons.mpr ⟨qk_239 l, fun _ h => absurd h List.not_mem_nil⟩) (by decide +kernel)
def kq_241 : ek := (58, [.inr 2, .inl ((-2147483648), 0)], [], [], [(some (.inl (0, 0)), [])], 0, 0)
/-- LoadsAhead canRun -/
theorem qk_241 (l : Launch) : ek_ok l tQ iQ kq_241 := ek_good_ok (sp := sQ) (K := []) (SP := []) (HS := []) (N := 0) (fuel := 18) hIQ (fun _ h => absurd h List.not_mem_nil) (by decide +kernel)
def kq_242 : ek := (57, [.inr 2, .inl ((-2147483648), 0)], [], [], [(some (.inl ((-1), (-1))), [])], 1, 21)
/-- LoadsAhead run -/
theorem qk_242 (l : Launch) : ek_ok l tQ iQ kq_242 := ek_good_ok (sp := sQ) (K := [kq_241]) (SP := [(2, [(0, [0, 4])])]) (HS := []) (N := 0) (fuel := 20) hIQ (List.forall_mem_cons.mpr ⟨qk_241 l, fun _ h => absurd h List.not_mem_nil⟩) (by decide +kernel)
def kq_243 : ek := (58, [.inr 2, .inl (1, 4)], [], [], [(some (.inl (1, 1)), [((2, 4, 11), (1, 20), none)]), (some (.inl (0, 0)), [((2, 4, 11), (0, 0), none)])], 0, 0)
/-- LoadsAhead canRun -/
theorem qk_243 (l : Launch) : ek_ok l tQ iQ kq_243 := ek_good_ok (sp := sQ) (K := []) (SP := []) (HS := []) (N := 0) (fuel := 36) hIQ (fun _ h => absurd h List.not_mem_nil) (by decide +kernel)
def kq_244 : ek := (6, [.inr 41, .inl (0, 0)], [], [(39, 999)], [(none, [])], 0, 0)
/-- java/util/Arrays fill -/
theorem qk_244 (l : Launch) : ek_ok l tQ iQ kq_244 := ek_good_ok (sp := sQ) (K := []) (SP := []) (HS := [((5, [some (.inr 41, none), some (.inl (0, 0), none), some (.inl (0, 20), none), some (.inl (20, 20), none)], [], [], []), [(0, (0, 0, 0), 0), (1, (1, 2, 0), 20), (0, (0, 0, 0), 0)])]) (N := 3) (fuel := 28) hIQ (fun _ h => absurd h List.not_mem_nil) (by decide +kernel)
def kq_245 : ek := (62, [.inr 30, .inr 26], [], [(28, 4), (28, 5), (29, 999), (30, 999)], [(none, [])], 1, 65)
/-- LoadsAhead.State copyCellsFrom -/
theorem qk_245 (l : Launch) : ek_ok l tQ iQ kq_245 := ek_good_ok (sp := sQ) (K := []) (SP := []) (HS := []) (N := 0) (fuel := 58) hIQ (fun _ h => absurd h List.not_mem_nil) (by decide +kernel)
def kq_246 : ek := (63, [.inr 30, .inr 26], [], [(28, 3), (31, 999)], [(none, [])], 1, 65)
/-- LoadsAhead.State copySetsFrom -/
theorem qk_246 (l : Launch) : ek_ok l tQ iQ kq_246 := ek_good_ok (sp := sQ) (K := []) (SP := []) (HS := []) (N := 0) (fuel := 34) hIQ (fun _ h => absurd h List.not_mem_nil) (by decide +kernel)
def kq_247 : ek := (61, [.inr 30, .inr 26], [], [(28, 3), (28, 4), (28, 5), (29, 999), (30, 999), (31, 999)], [(none, [])], 2, 86)
/-- LoadsAhead.State copyFrom -/
theorem qk_247 (l : Launch) : ek_ok l tQ iQ kq_247 := ek_good_ok (sp := sQ) (K := [kq_246, kq_245]) (SP := []) (HS := []) (N := 0) (fuel := 22) hIQ (List.forall_mem_cons.mpr ⟨qk_246 l, List.forall_mem_cons.mpr ⟨qk_245 l, fun _ h => absurd h List.not_mem_nil⟩⟩) (by decide +kernel)
end
section
def kq_248 : ek := (6, [.inr 35, .inl (0, 0)], [], [(33, 999)], [(none, [])], 0, 0)
/-- java/util/Arrays fill -/
theorem qk_248 (l : Launch) : ek_ok l tQ iQ kq_248 := ek_good_ok (sp := sQ) (K := []) (SP := []) (HS := [((5, [some (.inr 35, none), some (.inl (0, 0), none), some (.inl (0, 6), none), some (.inl (6, 6), none)], [], [], []), [(0, (0, 0, 0), 0), (1, (1, 2, 0), 6), (0, (0, 0, 0), 0)])]) (N := 3) (fuel := 28) hIQ (fun _ h => absurd h List.not_mem_nil) (by decide +kernel)
def kq_249 : ek := (6, [.inr 36, .inl (0, 0)], [], [(34, 999)], [(none, [])], 0, 0)
/-- java/util/Arrays fill -/
theorem qk_249 (l : Launch) : ek_ok l tQ iQ kq_249 := ek_good_ok (sp := sQ) (K := []) (SP := []) (HS := [((5, [some (.inr 36, none), some (.inl (0, 0), none), some (.inl (0, 20), none), some (.inl (20, 20), none)], [], [], []), [(0, (0, 0, 0), 0), (1, (1, 2, 0), 20), (0, (0, 0, 0), 0)])]) (N := 3) (fuel := 28) hIQ (fun _ h => absurd h List.not_mem_nil) (by decide +kernel)
def kq_250 : ek := (6, [.inr 37, .inl (0, 0)], [], [(35, 999)], [(none, [])], 0, 0)
/-- java/util/Arrays fill -/
theorem qk_250 (l : Launch) : ek_ok l tQ iQ kq_250 := ek_good_ok (sp := sQ) (K := []) (SP := []) (HS := [((5, [some (.inr 37, none), some (.inl (0, 0), none), some (.inl (0, 20), none), some (.inl (20, 20), none)], [], [], []), [(0, (0, 0, 0), 0), (1, (1, 2, 0), 20), (0, (0, 0, 0), 0)])]) (N := 3) (fuel := 28) hIQ (fun _ h => absurd h List.not_mem_nil) (by decide +kernel)
def kq_251 : ek := (6, [.inr 38, .inl (0, 0)], [], [(36, 999)], [(none, [])], 0, 0)
/-- java/util/Arrays fill -/
theorem qk_251 (l : Launch) : ek_ok l tQ iQ kq_251 := ek_good_ok (sp := sQ) (K := []) (SP := []) (HS := [((5, [some (.inr 38, none), some (.inl (0, 0), none), some (.inl (0, 20), none), some (.inl (20, 20), none)], [], [], []), [(0, (0, 0, 0), 0), (1, (1, 2, 0), 20), (0, (0, 0, 0), 0)])]) (N := 3) (fuel := 28) hIQ (fun _ h => absurd h List.not_mem_nil) (by decide +kernel)
def kq_252 : ek := (6, [.inr 39, .inl (0, 0)], [], [(37, 999)], [(none, [])], 0, 0)
/-- java/util/Arrays fill -/
theorem qk_252 (l : Launch) : ek_ok l tQ iQ kq_252 := ek_good_ok (sp := sQ) (K := []) (SP := []) (HS := [((5, [some (.inr 39, none), some (.inl (0, 0), none), some (.inl (0, 20), none), some (.inl (20, 20), none)], [], [], []), [(0, (0, 0, 0), 0), (1, (1, 2, 0), 20), (0, (0, 0, 0), 0)])]) (N := 3) (fuel := 28) hIQ (fun _ h => absurd h List.not_mem_nil) (by decide +kernel)
def kq_253 : ek := (6, [.inr 40, .inl ((-1), (-1))], [], [(38, 999)], [(none, [])], 0, 0)
/-- java/util/Arrays fill -/
theorem qk_253 (l : Launch) : ek_ok l tQ iQ kq_253 := ek_good_ok (sp := sQ) (K := []) (SP := []) (HS := [((5, [some (.inr 40, none), some (.inl ((-1), (-1)), none), some (.inl (0, 80), none), some (.inl (80, 80), none)], [], [], []), [(0, (0, 0, 0), 0), (1, (1, 2, 0), 80), (0, (0, 0, 0), 0)])]) (N := 3) (fuel := 28) hIQ (fun _ h => absurd h List.not_mem_nil) (by decide +kernel)
def kq_254 : ek := (64, [.inr 34], [], [(33, 999), (34, 999), (35, 999), (36, 999), (37, 999), (38, 999)], [(none, [])], 1, 23)
/-- LoadsAhead.Report clear -/
theorem qk_254 (l : Launch) : ek_ok l tQ iQ kq_254 := ek_good_ok (sp := sQ) (K := [kq_250, kq_253, kq_249, kq_252, kq_251, kq_248]) (SP := []) (HS := []) (N := 0) (fuel := 58) hIQ (List.forall_mem_cons.mpr ⟨qk_250 l, List.forall_mem_cons.mpr ⟨qk_253 l, List.forall_mem_cons.mpr ⟨qk_249 l, List.forall_mem_cons.mpr ⟨qk_252 l, List.forall_mem_cons.mpr ⟨qk_251 l, List.forall_mem_cons.mpr ⟨qk_248 l, fun _ h => absurd h List.not_mem_nil⟩⟩⟩⟩⟩⟩) (by decide +kernel)
def kq_255 : ek := (60, [.inr 5], [], [(28, 3), (28, 4), (28, 5), (29, 999), (30, 999), (31, 999), (33, 999), (34, 999), (35, 999), (36, 999), (37, 999), (38, 999), (39, 999), (41, 999)], [(none, [])], 3, 107)
/-- LoadsAhead.Machine begin -/
theorem qk_255 (l : Launch) : ek_ok l tQ iQ kq_255 := ek_good_ok (sp := sQ) (K := [kq_254, kq_244, kq_247]) (SP := []) (HS := [((28, [some (.inr 5, none), some (.inl (0, 20), none)], [], [], []), [(0, (0, 0, 0), 0), (1, (1, 1, 0), 20), (0, (0, 0, 0), 0)])]) (N := 3) (fuel := 38) hIQ (List.forall_mem_cons.mpr ⟨qk_254 l, List.forall_mem_cons.mpr ⟨qk_244 l, List.forall_mem_cons.mpr ⟨qk_247 l, fun _ h => absurd h List.not_mem_nil⟩⟩⟩) (by decide +kernel)
def kq_256 : ek := (66, [.inr 5, .inl ((-1), 19), .inl ((-1), 7)], [], [], [(some (.inl ((-2147483648), 2147483647)), []), (some (.inl (0, 0)), [])], 1, 20)
/-- LoadsAhead.Machine valueRead -/
theorem qk_256 (l : Launch) : ek_ok l tQ iQ kq_256 := ek_good_ok (sp := sQ) (K := [kq_131, kq_132]) (SP := [(21, [(0, [(-1), 7])])]) (HS := []) (N := 0) (fuel := 32) hIQ (List.forall_mem_cons.mpr ⟨qk_131 l, List.forall_mem_cons.mpr ⟨qk_132 l, fun _ h => absurd h List.not_mem_nil⟩⟩) (by decide +kernel)
def kq_257 : ek := (67, [.inr 6, .inl (0, 19), .inl ((-2147483648), 2147483647)], [], [], [(some (.inl (0, 63)), [])], 0, 0)
/-- LoadsAhead.Program placeBy -/
theorem qk_257 (l : Launch) : ek_ok l tQ iQ kq_257 := ek_good_ok (sp := sQ) (K := []) (SP := []) (HS := []) (N := 0) (fuel := 26) hIQ (fun _ h => absurd h List.not_mem_nil) (by decide +kernel)
def kq_258 : ek := (67, [.inr 6, .inl (0, 19), .inl (0, 0)], [], [], [(some (.inl (0, 63)), [])], 0, 0)
/-- LoadsAhead.Program placeBy -/
theorem qk_258 (l : Launch) : ek_ok l tQ iQ kq_258 := ek_good_ok (sp := sQ) (K := []) (SP := []) (HS := []) (N := 0) (fuel := 26) hIQ (fun _ h => absurd h List.not_mem_nil) (by decide +kernel)
def kq_259 : ek := (70, [.inl ((-2147483648), 2147483647), .inl (0, 4), .inl (0, 63)], [], [], [(some (.inl (1, 1)), []), (some (.inl (0, 0)), [])], 0, 0)
/-- LoadsAhead covers -/
theorem qk_259 (l : Launch) : ek_ok l tQ iQ kq_259 := ek_good_ok (sp := sQ) (K := []) (SP := []) (HS := []) (N := 0) (fuel := 28) hIQ (fun _ h => absurd h List.not_mem_nil) (by decide +kernel)
def kq_260 : ek := (69, [.inr 5, .inl (0, 19), .inl (0, 63)], [], [], [(some (.inl (0, 18)), []), (some (.inl ((-1), (-1))), [])], 1, 22)
/-- LoadsAhead.Machine youngestCovering -/
theorem qk_260 (l : Launch) : ek_ok l tQ iQ kq_260 := ek_good_ok (sp := sQ) (K := [kq_259]) (SP := []) (HS := [((4, [some (.inr 5, none), some (.inl (0, 19), none), some (.inl (0, 63), none), some (.inl ((-1), 18), none)], [], [], []), [(0, (0, 0, 0), 0), (2, (1, 3, 0), (-1)), (0, (0, 0, 0), 0)])]) (N := 3) (fuel := 70) hIQ (List.forall_mem_cons.mpr ⟨qk_259 l, fun _ h => absurd h List.not_mem_nil⟩) (by decide +kernel)
def kq_261 : ek := (71, [.inr 5, .inl (0, 19), .inl (0, 63)], [], [], [(some (.inl (0, 255)), [])], 0, 0)
/-- LoadsAhead.Machine storedAt -/
theorem qk_261 (l : Launch) : ek_ok l tQ iQ kq_261 := ek_good_ok (sp := sQ) (K := []) (SP := []) (HS := []) (N := 0) (fuel := 52) hIQ (fun _ h => absurd h List.not_mem_nil) (by decide +kernel)
def kq_262 : ek := (68, [.inr 5, .inl (0, 19)], [], [(36, 999), (38, 999)], [(none, [])], 2, 45)
/-- LoadsAhead.Machine takeBytes -/
theorem qk_262 (l : Launch) : ek_ok l tQ iQ kq_262 := ek_good_ok (sp := sQ) (K := [kq_260, kq_261]) (SP := []) (HS := [((4, [some (.inr 5, none), some (.inl (0, 19), none), some (.inl ((-2147483648), 2147483647), none), some (.inl (0, 4), none), none, none, none], [], [], []), [(0, (0, 0, 0), 0), (1, (1, 3, 0), 4), (0, (0, 0, 0), 0)])]) (N := 3) (fuel := 114) hIQ (List.forall_mem_cons.mpr ⟨qk_260 l, List.forall_mem_cons.mpr ⟨qk_261 l, fun _ h => absurd h List.not_mem_nil⟩⟩) (by decide +kernel)
def kq_263 : ek := (72, [.inr 6, .inl (0, 19), .inl ((-2147483648), 2147483647)], [], [], [(some (.inl ((-2147483648), 2147483647)), [])], 0, 0)
/-- LoadsAhead.Program storedOf -/
theorem qk_263 (l : Launch) : ek_ok l tQ iQ kq_263 := ek_good_ok (sp := sQ) (K := []) (SP := []) (HS := []) (N := 0) (fuel := 46) hIQ (fun _ h => absurd h List.not_mem_nil) (by decide +kernel)
def kq_264 : ek := (72, [.inr 6, .inl (0, 19), .inl (0, 0)], [], [], [(some (.inl (0, 0)), [])], 0, 0)
/-- LoadsAhead.Program storedOf -/
theorem qk_264 (l : Launch) : ek_ok l tQ iQ kq_264 := ek_good_ok (sp := sQ) (K := []) (SP := []) (HS := []) (N := 0) (fuel := 46) hIQ (fun _ h => absurd h List.not_mem_nil) (by decide +kernel)
def kq_265 : ek := (74, [.inr 5, .inl (0, 19), .inl (0, 19)], [], [], [(some (.inl (1, 1)), []), (some (.inl (0, 0)), [])], 1, 22)
/-- LoadsAhead.Machine tookTooOld -/
theorem qk_265 (l : Launch) : ek_ok l tQ iQ kq_265 := ek_good_ok (sp := sQ) (K := [kq_259]) (SP := []) (HS := [((2, [some (.inr 5, none), some (.inl (0, 19), none), some (.inl (0, 19), none), some (.inl (0, 4), none), none], [], [], []), [(0, (0, 0, 0), 0), (1, (1, 3, 0), 4), (0, (0, 0, 0), 0)])]) (N := 3) (fuel := 96) hIQ (List.forall_mem_cons.mpr ⟨qk_259 l, fun _ h => absurd h List.not_mem_nil⟩) (by decide +kernel)
def kq_266 : ek := (75, [.inr 30, .inl (0, 19), .inl (0, 19)], [], [(28, 3), (31, 999)], [(none, [])], 1, 15)
/-- LoadsAhead.State melt -/
theorem qk_266 (l : Launch) : ek_ok l tQ iQ kq_266 := ek_good_ok (sp := sQ) (K := []) (SP := []) (HS := []) (N := 0) (fuel := 100) hIQ (fun _ h => absurd h List.not_mem_nil) (by decide +kernel)
def kq_267 : ek := (78, [.inr 5, .inl (0, 19)], [], [(30, 999), (33, 999), (41, 999)], [(none, [])], 0, 0)
/-- LoadsAhead.Machine undoDownTo -/
theorem qk_267 (l : Launch) : ek_ok l tQ iQ kq_267 := ek_good_ok (sp := sQ) (K := []) (SP := []) (HS := [((10, [some (.inr 5, none), some (.inl (0, 19), none), some (.inl ((-1), 19), none), none], [], [], []), [(0, (0, 0, 0), 0), (2, (1, 2, 0), (-1)), (0, (0, 0, 0), 1), (0, (0, 0, 0), 0), (0, (0, 0, 0), 0)]), ((26, [some (.inr 5, none), some (.inl (0, 19), none), some (.inl (0, 19), none), some (.inl (0, 4), none)], [], [], []), [(0, (0, 0, 0), 0), (2, (1, 2, 0), (-1)), (0, (0, 0, 0), 0), (1, (1, 3, 0), 4), (0, (0, 0, 0), 0)])]) (N := 5) (fuel := 70) hIQ (fun _ h => absurd h List.not_mem_nil) (by decide +kernel)
def kq_268 : ek := (77, [.inr 5, .inl (0, 19)], [], [(30, 999), (33, 999), (35, 999), (39, 999), (41, 999)], [(none, [])], 1, 23)
/-- LoadsAhead.Machine makeWait -/
theorem qk_268 (l : Launch) : ek_ok l tQ iQ kq_268 := ek_good_ok (sp := sQ) (K := [kq_267]) (SP := []) (HS := []) (N := 0) (fuel := 72) hIQ (List.forall_mem_cons.mpr ⟨qk_267 l, fun _ h => absurd h List.not_mem_nil⟩) (by decide +kernel)
def kq_269 : ek := (79, [.inr 5, .inl (0, 19), .inl (0, 19)], [], [], [(some (.inl (1, 1)), []), (some (.inl (0, 0)), [])], 0, 0)
/-- LoadsAhead.Machine dependsOn -/
theorem qk_269 (l : Launch) : ek_ok l tQ iQ kq_269 := ek_good_ok (sp := sQ) (K := []) (SP := []) (HS := [((55, [some (.inr 5, none), some (.inl (0, 19), none), some (.inl (0, 19), none), some (.inl (0, 4), none)], [], [], []), [(0, (0, 0, 0), 0), (1, (1, 3, 0), 4), (0, (0, 0, 0), 0)])]) (N := 3) (fuel := 68) hIQ (fun _ h => absurd h List.not_mem_nil) (by decide +kernel)
def kq_270 : ek := (76, [.inr 5, .inl (0, 19)], [], [(30, 999), (33, 999), (35, 999), (39, 999), (41, 999), (44, 999)], [(none, [])], 2, 44)
/-- LoadsAhead.Machine replay -/
theorem qk_270 (l : Launch) : ek_ok l tQ iQ kq_270 := ek_good_ok (sp := sQ) (K := [kq_268, kq_269]) (SP := []) (HS := [((16, [some (.inr 5, none), some (.inl (0, 19), none), some (.inl (1, 20), none), some (.inl (0, 20), none), none], [], [], []), [(0, (0, 0, 0), 0), (1, (1, 2, 0), 20), (0, (0, 0, 0), 0), (1, (1, 3, 0), 20), (0, (0, 0, 0), 1), (0, (0, 0, 0), 0), (0, (0, 0, 0), 0)]), ((37, [some (.inr 5, none), some (.inl (0, 19), none), some (.inl (1, 20), none), some (.inl (0, 19), none), some (.inl (1, 20), none)], [], [], []), [(0, (0, 0, 0), 0), (1, (1, 2, 0), 20), (0, (0, 0, 0), 0), (1, (1, 3, 0), 20), (0, (0, 0, 0), 0), (1, (1, 4, 0), 20), (0, (0, 0, 0), 0)])]) (N := 7) (fuel := 74) hIQ (List.forall_mem_cons.mpr ⟨qk_268 l, List.forall_mem_cons.mpr ⟨qk_269 l, fun _ h => absurd h List.not_mem_nil⟩⟩) (by decide +kernel)
def kq_271 : ek := (73, [.inr 5, .inl (0, 19)], [], [(28, 3), (30, 999), (31, 999), (33, 999), (35, 999), (39, 999), (41, 999), (43, 999), (44, 999)], [(none, [])], 3, 68)
/-- LoadsAhead.Machine lookBack -/
theorem qk_271 (l : Launch) : ek_ok l tQ iQ kq_271 := ek_good_ok (sp := sQ) (K := [kq_270, kq_265, kq_266]) (SP := []) (HS := [((6, [some (.inr 5, none), some (.inl (0, 19), none), some (.inl (0, 19), none), some (.inl (1, 20), none)], [], [], [(2, 3, (-1))]), [(0, (0, 0, 0), 1), (1, (1, 3, 0), 20), (0, (0, 0, 0), 0)]), ((76, [some (.inr 5, none), some (.inl (0, 19), none), some (.inl (0, 19), none), some (.inl (0, 19), none)], [], [], []), [(0, (0, 0, 0), 0), (1, (1, 3, 0), 19), (0, (0, 0, 0), 0)])]) (N := 3) (fuel := 82) hIQ (List.forall_mem_cons.mpr ⟨qk_270 l, List.forall_mem_cons.mpr ⟨qk_265 l, List.forall_mem_cons.mpr ⟨qk_266 l, fun _ h => absurd h List.not_mem_nil⟩⟩⟩) (by decide +kernel)
def kq_272 : ek := (80, [.inr 6, .inl (0, 19), .inl ((-2147483648), 2147483647), .inl ((-2147483648), 2147483647)], [], [], [(some (.inl ((-2147483648), 2147483647)), []), (some (.inl (0, 1)), [])], 0, 0)
/-- LoadsAhead.Program reckoned -/
theorem qk_272 (l : Launch) : ek_ok l tQ iQ kq_272 := ek_good_ok (sp := sQ) (K := []) (SP := []) (HS := []) (N := 0) (fuel := 30) hIQ (fun _ h => absurd h List.not_mem_nil) (by decide +kernel)
def kq_273 : ek := (80, [.inr 6, .inl (0, 19), .inl ((-2147483648), 2147483647), .inl (0, 0)], [], [], [(some (.inl ((-2147483648), 2147483647)), []), (some (.inl (0, 1)), [])], 0, 0)
/-- LoadsAhead.Program reckoned -/
theorem qk_273 (l : Launch) : ek_ok l tQ iQ kq_273 := ek_good_ok (sp := sQ) (K := []) (SP := []) (HS := []) (N := 0) (fuel := 30) hIQ (fun _ h => absurd h List.not_mem_nil) (by decide +kernel)
def kq_274 : ek := (80, [.inr 6, .inl (0, 19), .inl (0, 0), .inl ((-2147483648), 2147483647)], [], [], [(some (.inl ((-2147483648), 2147483647)), []), (some (.inl (0, 1)), [])], 0, 0)
/-- LoadsAhead.Program reckoned -/
theorem qk_274 (l : Launch) : ek_ok l tQ iQ kq_274 := ek_good_ok (sp := sQ) (K := []) (SP := []) (HS := []) (N := 0) (fuel := 30) hIQ (fun _ h => absurd h List.not_mem_nil) (by decide +kernel)
def kq_275 : ek := (80, [.inr 6, .inl (0, 19), .inl (0, 0), .inl (0, 0)], [], [], [(some (.inl ((-2147483648), 2147483647)), []), (some (.inl (0, 0)), [])], 0, 0)
/-- LoadsAhead.Program reckoned -/
theorem qk_275 (l : Launch) : ek_ok l tQ iQ kq_275 := ek_good_ok (sp := sQ) (K := []) (SP := []) (HS := []) (N := 0) (fuel := 28) hIQ (fun _ h => absurd h List.not_mem_nil) (by decide +kernel)
def kq_276 : ek := (65, [.inr 5], [], [(28, 3), (30, 999), (31, 999), (33, 999), (34, 999), (35, 999), (36, 999), (37, 999), (38, 999), (39, 999), (41, 999), (43, 999), (44, 999)], [(none, [])], 4, 91)
/-- LoadsAhead.Machine finishOps -/
theorem qk_276 (l : Launch) : ek_ok l tQ iQ kq_276 := ek_good_ok (sp := sQ) (K := [kq_275, kq_264, kq_262, kq_271, kq_258, kq_256, kq_263, kq_273, kq_274, kq_257, kq_272]) (SP := []) (HS := [((2, [some (.inr 5, none), some (.inl (0, 20), none), none, none], [], [], []), [(0, (0, 0, 0), 0), (1, (1, 1, 0), 20), (0, (0, 0, 0), 0)])]) (N := 3) (fuel := 202) hIQ (List.forall_mem_cons.mpr ⟨qk_275 l, List.forall_mem_cons.mpr ⟨qk_264 l, List.forall_mem_cons.mpr ⟨qk_262 l, List.forall_mem_cons.mpr ⟨qk_271 l, List.forall_mem_cons.mpr ⟨qk_258 l, List.forall_mem_cons.mpr ⟨qk_256 l, List.forall_mem_cons.mpr ⟨qk_263 l, List.forall_mem_cons.mpr ⟨qk_273 l, List.forall_mem_cons.mpr ⟨qk_274 l, List.forall_mem_cons.mpr ⟨qk_257 l, List.forall_mem_cons.mpr ⟨qk_272 l, fun _ h => absurd h List.not_mem_nil⟩⟩⟩⟩⟩⟩⟩⟩⟩⟩⟩) (by decide +kernel)
def kq_277 : ek := (82, [.inr 5, .inl ((-1), 19)], [], [], [(some (.inl (1, 1)), []), (some (.inl (0, 0)), [])], 0, 0)
/-- LoadsAhead.Machine isDone -/
theorem qk_277 (l : Launch) : ek_ok l tQ iQ kq_277 := ek_good_ok (sp := sQ) (K := []) (SP := []) (HS := []) (N := 0) (fuel := 36) hIQ (fun _ h => absurd h List.not_mem_nil) (by decide +kernel)
def kq_278 : ek := (83, [.inr 5, .inl (0, 19), .inl (0, 0)], [], [], [(some (.inl (0, 0)), []), (some (.inl (1, 1)), [])], 0, 0)
/-- LoadsAhead.Machine mustWait -/
theorem qk_278 (l : Launch) : ek_ok l tQ iQ kq_278 := ek_good_ok (sp := sQ) (K := []) (SP := []) (HS := [((51, [some (.inr 5, none), some (.inl (0, 19), none), some (.inl (0, 0), none), some (.inl (0, 0), none), some (.inl (0, 15), none), some (.inl ((-1), 18), none)], [], [], []), [(0, (0, 0, 0), 0), (2, (1, 5, 0), (-1)), (0, (0, 0, 0), 0)])]) (N := 3) (fuel := 66) hIQ (fun _ h => absurd h List.not_mem_nil) (by decide +kernel)
def kq_279 : ek := (84, [.inr 30], [], [(28, 5)], [(some (.inl (0, 9)), [])], 0, 0)
/-- LoadsAhead.State draw -/
theorem qk_279 (l : Launch) : ek_ok l tQ iQ kq_279 := ek_good_ok (sp := sQ) (K := []) (SP := []) (HS := []) (N := 0) (fuel := 38) hIQ (fun _ h => absurd h List.not_mem_nil) (by decide +kernel)
def kq_280 : ek := (86, [.inr 18, .inl (0, 19), .inl (0, 3), .inl (0, 240), .inl (0, 15), .inl ((-2147483648), 2147483647), .inl (0, 240), .inl (0, 15)], [], [(22, 999)], [(none, [])], 0, 0)
/-- LoadsAhead.Law tell -/
theorem qk_280 (l : Launch) : ek_ok l tQ iQ kq_280 := ek_good_ok (sp := sQ) (K := []) (SP := []) (HS := []) (N := 0) (fuel := 80) hIQ (fun _ h => absurd h List.not_mem_nil) (by decide +kernel)
def kq_281 : ek := (86, [.inr 18, .inl (0, 19), .inl (0, 3), .inl (0, 240), .inl (16, 16), .inl ((-2147483648), 2147483647), .inl (0, 240), .inl (0, 15)], [], [(22, 999)], [(none, [])], 0, 0)
/-- LoadsAhead.Law tell -/
theorem qk_281 (l : Launch) : ek_ok l tQ iQ kq_281 := ek_good_ok (sp := sQ) (K := []) (SP := []) (HS := []) (N := 0) (fuel := 80) hIQ (fun _ h => absurd h List.not_mem_nil) (by decide +kernel)
def kq_282 : ek := (85, [.inr 5, .inl (0, 19), .inl (0, 15)], [], [(22, 999)], [(none, [])], 1, 27)
/-- LoadsAhead.Machine tellLaw -/
theorem qk_282 (l : Launch) : ek_ok l tQ iQ kq_282 := ek_good_ok (sp := sQ) (K := [kq_281, kq_280]) (SP := []) (HS := []) (N := 0) (fuel := 86) hIQ (List.forall_mem_cons.mpr ⟨qk_281 l, List.forall_mem_cons.mpr ⟨qk_280 l, fun _ h => absurd h List.not_mem_nil⟩⟩) (by decide +kernel)
def kq_287 : ek := (78, [.inr 5, .inl (0, 20)], [], [(30, 999), (33, 999), (41, 999)], [(none, [])], 0, 0)
/-- LoadsAhead.Machine undoDownTo -/
theorem qk_287 (l : Launch) : ek_ok l tQ iQ kq_287 := ek_good_ok (sp := sQ) (K := []) (SP := []) (HS := [((10, [some (.inr 5, none), some (.inl (0, 20), none), some (.inl ((-1), 19), none), none], [], [], []), [(0, (0, 0, 0), 0), (2, (1, 2, 0), (-1)), (0, (0, 0, 0), 1), (0, (0, 0, 0), 0), (0, (0, 0, 0), 0)]), ((26, [some (.inr 5, none), some (.inl (0, 19), none), some (.inl (0, 19), none), some (.inl (0, 4), none)], [], [], []), [(0, (0, 0, 0), 0), (2, (1, 2, 0), (-1)), (0, (0, 0, 0), 0), (1, (1, 3, 0), 4), (0, (0, 0, 0), 0)])]) (N := 5) (fuel := 70) hIQ (fun _ h => absurd h List.not_mem_nil) (by decide +kernel)
def kq_288 : ek := (86, [.inr 18, .inl (0, 19), .inl (0, 3), .inl (0, 240), .inl (0, 15), .inl ((-2147483648), 2147483647), .inl (0, 240), .inl (0, 0)], [], [(22, 999)], [(none, [])], 0, 0)
/-- LoadsAhead.Law tell -/
theorem qk_288 (l : Launch) : ek_ok l tQ iQ kq_288 := ek_good_ok (sp := sQ) (K := []) (SP := []) (HS := []) (N := 0) (fuel := 80) hIQ (fun _ h => absurd h List.not_mem_nil) (by decide +kernel)
def kq_289 : ek := (86, [.inr 18, .inl (0, 19), .inl (0, 3), .inl (0, 240), .inl (16, 16), .inl ((-2147483648), 2147483647), .inl (0, 240), .inl (0, 0)], [], [(22, 999)], [(none, [])], 0, 0)
/-- LoadsAhead.Law tell -/
theorem qk_289 (l : Launch) : ek_ok l tQ iQ kq_289 := ek_good_ok (sp := sQ) (K := []) (SP := []) (HS := []) (N := 0) (fuel := 80) hIQ (fun _ h => absurd h List.not_mem_nil) (by decide +kernel)
def kq_290 : ek := (85, [.inr 5, .inl (0, 19), .inl (0, 0)], [], [(22, 999)], [(none, [])], 1, 27)
/-- LoadsAhead.Machine tellLaw -/
theorem qk_290 (l : Launch) : ek_ok l tQ iQ kq_290 := ek_good_ok (sp := sQ) (K := [kq_289, kq_288]) (SP := []) (HS := []) (N := 0) (fuel := 86) hIQ (List.forall_mem_cons.mpr ⟨qk_289 l, List.forall_mem_cons.mpr ⟨qk_288 l, fun _ h => absurd h List.not_mem_nil⟩⟩) (by decide +kernel)
def kq_291 : ek := (92, [.inr 5], [], [], [(some (.inl (0, 19)), [((2, 4, 11), (1, 20), none)]), (some (.inl ((-1), (-1))), [])], 0, 0)
/-- LoadsAhead.Machine oldestToRetire -/
theorem qk_291 (l : Launch) : ek_ok l tQ iQ kq_291 := ek_good_ok (sp := sQ) (K := []) (SP := []) (HS := [((2, [some (.inr 5, none), some (.inl (0, 20), none)], [], [], []), [(0, (0, 0, 0), 0), (1, (1, 1, 0), 20), (0, (0, 0, 0), 0)])]) (N := 3) (fuel := 60) hIQ (fun _ h => absurd h List.not_mem_nil) (by decide +kernel)
def kq_292 : ek := (93, [.inr 5, .inl (0, 19)], [], [], [(some (.inl (0, 0)), []), (some (.inl (1, 1)), [])], 0, 0)
/-- LoadsAhead.Machine doneAhead -/
theorem qk_292 (l : Launch) : ek_ok l tQ iQ kq_292 := ek_good_ok (sp := sQ) (K := []) (SP := []) (HS := [((2, [some (.inr 5, none), some (.inl (0, 19), none), some (.inl (0, 19), none)], [], [], []), [(0, (0, 0, 0), 0), (1, (1, 2, 0), 19), (0, (0, 0, 0), 0)])]) (N := 3) (fuel := 32) hIQ (fun _ h => absurd h List.not_mem_nil) (by decide +kernel)
def kq_294 : ek := (95, [.inr 30, .inl ((-2147483648), 2147483647), .inl (0, 7), .inl ((-2147483648), 2147483647)], [], [(30, 999)], [(none, [])], 0, 0)
/-- LoadsAhead.State putBytes -/
theorem qk_294 (l : Launch) : ek_ok l tQ iQ kq_294 := ek_good_ok (sp := sQ) (K := []) (SP := []) (HS := [((3, [some (.inr 30, none), some (.inl ((-2147483648), 2147483647), none), some (.inl (0, 7), none), some (.inl ((-2147483648), 2147483647), none), some (.inl (0, 7), none)], [], [], []), [(0, (0, 0, 0), 0), (1, (1, 4, 0), 7), (0, (0, 0, 0), 0)])]) (N := 3) (fuel := 50) hIQ (fun _ h => absurd h List.not_mem_nil) (by decide +kernel)
def kq_296 : ek := (96, [.inr 5], [], [], [(some (.inl (0, 0)), [((2, 4, 11), (1, 20), none)]), (some (.inl (1, 1)), [])], 0, 0)
/-- LoadsAhead.Machine settled -/
theorem qk_296 (l : Launch) : ek_ok l tQ iQ kq_296 := ek_good_ok (sp := sQ) (K := []) (SP := []) (HS := [((2, [some (.inr 5, none), some (.inl (0, 20), none)], [], [], []), [(0, (0, 0, 0), 0), (1, (1, 1, 0), 20), (0, (0, 0, 0), 0)])]) (N := 3) (fuel := 60) hIQ (fun _ h => absurd h List.not_mem_nil) (by decide +kernel)
def kq_297 : ek := (97, [.inr 5], [], [(29, 999)], [(none, [])], 1, 20)
/-- LoadsAhead.Machine giveRegisters -/
theorem qk_297 (l : Launch) : ek_ok l tQ iQ kq_297 := ek_good_ok (sp := sQ) (K := [kq_131, kq_132]) (SP := [(22, [(0, [(-1), 7])])]) (HS := [((2, [some (.inr 5, none), some (.inl (0, 20), none)], [], [], []), [(0, (0, 0, 0), 0), (1, (1, 1, 0), 20), (0, (0, 0, 0), 0)])]) (N := 3) (fuel := 66) hIQ (List.forall_mem_cons.mpr ⟨qk_131 l, List.forall_mem_cons.mpr ⟨qk_132 l, fun _ h => absurd h List.not_mem_nil⟩⟩) (by decide +kernel)
def kq_299 : ek := (62, [.inr 26, .inr 30], [], [(24, 4), (24, 5), (25, 999), (26, 999)], [(none, [])], 1, 65)
/-- LoadsAhead.State copyCellsFrom -/
theorem qk_299 (l : Launch) : ek_ok l tQ iQ kq_299 := ek_good_ok (sp := sQ) (K := []) (SP := []) (HS := []) (N := 0) (fuel := 58) hIQ (fun _ h => absurd h List.not_mem_nil) (by decide +kernel)
def kq_300 : ek := (63, [.inr 26, .inr 30], [], [(24, 3), (27, 999)], [(none, [])], 1, 65)
/-- LoadsAhead.State copySetsFrom -/
theorem qk_300 (l : Launch) : ek_ok l tQ iQ kq_300 := ek_good_ok (sp := sQ) (K := []) (SP := []) (HS := []) (N := 0) (fuel := 34) hIQ (fun _ h => absurd h List.not_mem_nil) (by decide +kernel)
def kq_301 : ek := (61, [.inr 26, .inr 30], [], [(24, 3), (24, 4), (24, 5), (25, 999), (26, 999), (27, 999)], [(none, [])], 2, 86)
/-- LoadsAhead.State copyFrom -/
theorem qk_301 (l : Launch) : ek_ok l tQ iQ kq_301 := ek_good_ok (sp := sQ) (K := [kq_299, kq_300]) (SP := []) (HS := []) (N := 0) (fuel := 22) hIQ (List.forall_mem_cons.mpr ⟨qk_299 l, List.forall_mem_cons.mpr ⟨qk_300 l, fun _ h => absurd h List.not_mem_nil⟩⟩) (by decide +kernel)
def kq_302 : ek := (98, [.inr 73, .inr 34], [], [(72, 999), (73, 999), (74, 999), (75, 999), (76, 999), (77, 999)], [(none, [])], 1, 65)
/-- LoadsAhead.Report copyFrom -/
theorem qk_302 (l : Launch) : ek_ok l tQ iQ kq_302 := ek_good_ok (sp := sQ) (K := []) (SP := []) (HS := []) (N := 0) (fuel := 106) hIQ (fun _ h => absurd h List.not_mem_nil) (by decide +kernel)
def kq_304 : ek := (67, [.inr 6, .inl (0, 15), .inl (0, 0)], [], [], [(some (.inl (0, 63)), [])], 0, 0)
/-- LoadsAhead.Program placeBy -/
theorem qk_304 (l : Launch) : ek_ok l tQ iQ kq_304 := ek_good_ok (sp := sQ) (K := []) (SP := []) (HS := []) (N := 0) (fuel := 26) hIQ (fun _ h => absurd h List.not_mem_nil) (by decide +kernel)
end
section
def kq_305 : ek := (69, [.inr 5, .inl (0, 15), .inl (0, 63)], [], [], [(some (.inl (0, 14)), []), (some (.inl ((-1), (-1))), [])], 1, 22)
/-- LoadsAhead.Machine youngestCovering -/
theorem qk_305 (l : Launch) : ek_ok l tQ iQ kq_305 := ek_good_ok (sp := sQ) (K := [kq_259]) (SP := []) (HS := [((4, [some (.inr 5, none), some (.inl (0, 15), none), some (.inl (0, 63), none), some (.inl ((-1), 14), none)], [], [], []), [(0, (0, 0, 0), 0), (2, (1, 3, 0), (-1)), (0, (0, 0, 0), 0)])]) (N := 3) (fuel := 70) hIQ (List.forall_mem_cons.mpr ⟨qk_259 l, fun _ h => absurd h List.not_mem_nil⟩) (by decide +kernel)
def kq_306 : ek := (71, [.inr 5, .inl (0, 15), .inl (0, 63)], [], [], [(some (.inl (0, 255)), [])], 0, 0)
/-- LoadsAhead.Machine storedAt -/
theorem qk_306 (l : Launch) : ek_ok l tQ iQ kq_306 := ek_good_ok (sp := sQ) (K := []) (SP := []) (HS := []) (N := 0) (fuel := 52) hIQ (fun _ h => absurd h List.not_mem_nil) (by decide +kernel)
def kq_307 : ek := (68, [.inr 5, .inl (0, 15)], [], [(36, 999), (38, 999)], [(none, [])], 2, 45)
/-- LoadsAhead.Machine takeBytes -/
theorem qk_307 (l : Launch) : ek_ok l tQ iQ kq_307 := ek_good_ok (sp := sQ) (K := [kq_305, kq_306]) (SP := []) (HS := [((4, [some (.inr 5, none), some (.inl (0, 15), none), some (.inl ((-2147483648), 2147483647), none), some (.inl (0, 4), none), none, none, none], [], [], []), [(0, (0, 0, 0), 0), (1, (1, 3, 0), 4), (0, (0, 0, 0), 0)])]) (N := 3) (fuel := 114) hIQ (List.forall_mem_cons.mpr ⟨qk_305 l, List.forall_mem_cons.mpr ⟨qk_306 l, fun _ h => absurd h List.not_mem_nil⟩⟩) (by decide +kernel)
def kq_308 : ek := (72, [.inr 6, .inl (0, 15), .inl (0, 0)], [], [], [(some (.inl (0, 0)), [])], 0, 0)
/-- LoadsAhead.Program storedOf -/
theorem qk_308 (l : Launch) : ek_ok l tQ iQ kq_308 := ek_good_ok (sp := sQ) (K := []) (SP := []) (HS := []) (N := 0) (fuel := 46) hIQ (fun _ h => absurd h List.not_mem_nil) (by decide +kernel)
def kq_309 : ek := (74, [.inr 5, .inl (0, 19), .inl (0, 15)], [], [], [(some (.inl (1, 1)), []), (some (.inl (0, 0)), [])], 1, 22)
/-- LoadsAhead.Machine tookTooOld -/
theorem qk_309 (l : Launch) : ek_ok l tQ iQ kq_309 := ek_good_ok (sp := sQ) (K := [kq_259]) (SP := []) (HS := [((2, [some (.inr 5, none), some (.inl (0, 19), none), some (.inl (0, 15), none), some (.inl (0, 4), none), none], [], [], []), [(0, (0, 0, 0), 0), (1, (1, 3, 0), 4), (0, (0, 0, 0), 0)])]) (N := 3) (fuel := 96) hIQ (List.forall_mem_cons.mpr ⟨qk_259 l, fun _ h => absurd h List.not_mem_nil⟩) (by decide +kernel)
def kq_310 : ek := (75, [.inr 30, .inl (0, 19), .inl (0, 15)], [], [(28, 3), (31, 999)], [(none, [])], 1, 15)
/-- LoadsAhead.State melt -/
theorem qk_310 (l : Launch) : ek_ok l tQ iQ kq_310 := ek_good_ok (sp := sQ) (K := []) (SP := []) (HS := []) (N := 0) (fuel := 100) hIQ (fun _ h => absurd h List.not_mem_nil) (by decide +kernel)
def kq_311 : ek := (73, [.inr 5, .inl (0, 15)], [], [(28, 3), (30, 999), (31, 999), (33, 999), (35, 999), (39, 999), (41, 999), (43, 999), (44, 999)], [(none, [])], 3, 68)
/-- LoadsAhead.Machine lookBack -/
theorem qk_311 (l : Launch) : ek_ok l tQ iQ kq_311 := ek_good_ok (sp := sQ) (K := [kq_270, kq_310, kq_309]) (SP := []) (HS := [((6, [some (.inr 5, none), some (.inl (0, 15), none), some (.inl (0, 19), none), some (.inl (1, 20), none)], [], [], [(2, 3, (-1))]), [(0, (0, 0, 0), 1), (1, (1, 3, 0), 20), (0, (0, 0, 0), 0)]), ((76, [some (.inr 5, none), some (.inl (0, 15), none), some (.inl (0, 19), none), some (.inl (0, 19), none)], [], [], []), [(0, (0, 0, 0), 0), (1, (1, 3, 0), 19), (0, (0, 0, 0), 0)])]) (N := 3) (fuel := 82) hIQ (List.forall_mem_cons.mpr ⟨qk_270 l, List.forall_mem_cons.mpr ⟨qk_310 l, List.forall_mem_cons.mpr ⟨qk_309 l, fun _ h => absurd h List.not_mem_nil⟩⟩⟩) (by decide +kernel)
def kq_312 : ek := (80, [.inr 6, .inl (0, 15), .inl (0, 0), .inl (0, 0)], [], [], [(some (.inl ((-2147483648), 2147483647)), []), (some (.inl (0, 0)), [])], 0, 0)
/-- LoadsAhead.Program reckoned -/
theorem qk_312 (l : Launch) : ek_ok l tQ iQ kq_312 := ek_good_ok (sp := sQ) (K := []) (SP := []) (HS := []) (N := 0) (fuel := 28) hIQ (fun _ h => absurd h List.not_mem_nil) (by decide +kernel)
def kq_313 : ek := (67, [.inr 6, .inl (0, 15), .inl ((-2147483648), 2147483647)], [], [], [(some (.inl (0, 63)), [])], 0, 0)
/-- LoadsAhead.Program placeBy -/
theorem qk_313 (l : Launch) : ek_ok l tQ iQ kq_313 := ek_good_ok (sp := sQ) (K := []) (SP := []) (HS := []) (N := 0) (fuel := 26) hIQ (fun _ h => absurd h List.not_mem_nil) (by decide +kernel)
def kq_314 : ek := (80, [.inr 6, .inl (0, 15), .inl (0, 0), .inl ((-2147483648), 2147483647)], [], [], [(some (.inl ((-2147483648), 2147483647)), []), (some (.inl (0, 1)), [])], 0, 0)
/-- LoadsAhead.Program reckoned -/
theorem qk_314 (l : Launch) : ek_ok l tQ iQ kq_314 := ek_good_ok (sp := sQ) (K := []) (SP := []) (HS := []) (N := 0) (fuel := 30) hIQ (fun _ h => absurd h List.not_mem_nil) (by decide +kernel)
def kq_315 : ek := (72, [.inr 6, .inl (0, 15), .inl ((-2147483648), 2147483647)], [], [], [(some (.inl ((-2147483648), 2147483647)), [])], 0, 0)
/-- LoadsAhead.Program storedOf -/
theorem qk_315 (l : Launch) : ek_ok l tQ iQ kq_315 := ek_good_ok (sp := sQ) (K := []) (SP := []) (HS := []) (N := 0) (fuel := 46) hIQ (fun _ h => absurd h List.not_mem_nil) (by decide +kernel)
def kq_316 : ek := (80, [.inr 6, .inl (0, 15), .inl ((-2147483648), 2147483647), .inl (0, 0)], [], [], [(some (.inl ((-2147483648), 2147483647)), []), (some (.inl (0, 1)), [])], 0, 0)
/-- LoadsAhead.Program reckoned -/
theorem qk_316 (l : Launch) : ek_ok l tQ iQ kq_316 := ek_good_ok (sp := sQ) (K := []) (SP := []) (HS := []) (N := 0) (fuel := 30) hIQ (fun _ h => absurd h List.not_mem_nil) (by decide +kernel)
def kq_317 : ek := (80, [.inr 6, .inl (0, 15), .inl ((-2147483648), 2147483647), .inl ((-2147483648), 2147483647)], [], [], [(some (.inl ((-2147483648), 2147483647)), []), (some (.inl (0, 1)), [])], 0, 0)
/-- LoadsAhead.Program reckoned -/
theorem qk_317 (l : Launch) : ek_ok l tQ iQ kq_317 := ek_good_ok (sp := sQ) (K := []) (SP := []) (HS := []) (N := 0) (fuel := 30) hIQ (fun _ h => absurd h List.not_mem_nil) (by decide +kernel)
def kq_318 : ek := (67, [.inr 6, .inl (0, 7), .inl (0, 0)], [], [], [(some (.inl (0, 63)), [])], 0, 0)
/-- LoadsAhead.Program placeBy -/
theorem qk_318 (l : Launch) : ek_ok l tQ iQ kq_318 := ek_good_ok (sp := sQ) (K := []) (SP := []) (HS := []) (N := 0) (fuel := 26) hIQ (fun _ h => absurd h List.not_mem_nil) (by decide +kernel)
def kq_319 : ek := (69, [.inr 5, .inl (0, 7), .inl (0, 63)], [], [], [(some (.inl (0, 6)), []), (some (.inl ((-1), (-1))), [])], 1, 22)
/-- LoadsAhead.Machine youngestCovering -/
theorem qk_319 (l : Launch) : ek_ok l tQ iQ kq_319 := ek_good_ok (sp := sQ) (K := [kq_259]) (SP := []) (HS := [((4, [some (.inr 5, none), some (.inl (0, 7), none), some (.inl (0, 63), none), some (.inl ((-1), 6), none)], [], [], []), [(0, (0, 0, 0), 0), (2, (1, 3, 0), (-1)), (0, (0, 0, 0), 0)])]) (N := 3) (fuel := 70) hIQ (List.forall_mem_cons.mpr ⟨qk_259 l, fun _ h => absurd h List.not_mem_nil⟩) (by decide +kernel)
def kq_320 : ek := (71, [.inr 5, .inl (0, 7), .inl (0, 63)], [], [], [(some (.inl (0, 255)), [])], 0, 0)
/-- LoadsAhead.Machine storedAt -/
theorem qk_320 (l : Launch) : ek_ok l tQ iQ kq_320 := ek_good_ok (sp := sQ) (K := []) (SP := []) (HS := []) (N := 0) (fuel := 52) hIQ (fun _ h => absurd h List.not_mem_nil) (by decide +kernel)
def kq_321 : ek := (68, [.inr 5, .inl (0, 7)], [], [(36, 999), (38, 999)], [(none, [])], 2, 45)
/-- LoadsAhead.Machine takeBytes -/
theorem qk_321 (l : Launch) : ek_ok l tQ iQ kq_321 := ek_good_ok (sp := sQ) (K := [kq_320, kq_319]) (SP := []) (HS := [((4, [some (.inr 5, none), some (.inl (0, 7), none), some (.inl ((-2147483648), 2147483647), none), some (.inl (0, 4), none), none, none, none], [], [], []), [(0, (0, 0, 0), 0), (1, (1, 3, 0), 4), (0, (0, 0, 0), 0)])]) (N := 3) (fuel := 114) hIQ (List.forall_mem_cons.mpr ⟨qk_320 l, List.forall_mem_cons.mpr ⟨qk_319 l, fun _ h => absurd h List.not_mem_nil⟩⟩) (by decide +kernel)
def kq_322 : ek := (72, [.inr 6, .inl (0, 7), .inl (0, 0)], [], [], [(some (.inl (0, 0)), [])], 0, 0)
/-- LoadsAhead.Program storedOf -/
theorem qk_322 (l : Launch) : ek_ok l tQ iQ kq_322 := ek_good_ok (sp := sQ) (K := []) (SP := []) (HS := []) (N := 0) (fuel := 46) hIQ (fun _ h => absurd h List.not_mem_nil) (by decide +kernel)
def kq_323 : ek := (74, [.inr 5, .inl (0, 19), .inl (0, 7)], [], [], [(some (.inl (1, 1)), []), (some (.inl (0, 0)), [])], 1, 22)
/-- LoadsAhead.Machine tookTooOld -/
theorem qk_323 (l : Launch) : ek_ok l tQ iQ kq_323 := ek_good_ok (sp := sQ) (K := [kq_259]) (SP := []) (HS := [((2, [some (.inr 5, none), some (.inl (0, 19), none), some (.inl (0, 7), none), some (.inl (0, 4), none), none], [], [], []), [(0, (0, 0, 0), 0), (1, (1, 3, 0), 4), (0, (0, 0, 0), 0)])]) (N := 3) (fuel := 96) hIQ (List.forall_mem_cons.mpr ⟨qk_259 l, fun _ h => absurd h List.not_mem_nil⟩) (by decide +kernel)
def kq_324 : ek := (75, [.inr 30, .inl (0, 19), .inl (0, 7)], [], [(28, 3), (31, 999)], [(none, [])], 1, 15)
/-- LoadsAhead.State melt -/
theorem qk_324 (l : Launch) : ek_ok l tQ iQ kq_324 := ek_good_ok (sp := sQ) (K := []) (SP := []) (HS := []) (N := 0) (fuel := 100) hIQ (fun _ h => absurd h List.not_mem_nil) (by decide +kernel)
def kq_325 : ek := (73, [.inr 5, .inl (0, 7)], [], [(28, 3), (30, 999), (31, 999), (33, 999), (35, 999), (39, 999), (41, 999), (43, 999), (44, 999)], [(none, [])], 3, 68)
/-- LoadsAhead.Machine lookBack -/
theorem qk_325 (l : Launch) : ek_ok l tQ iQ kq_325 := ek_good_ok (sp := sQ) (K := [kq_270, kq_323, kq_324]) (SP := []) (HS := [((6, [some (.inr 5, none), some (.inl (0, 7), none), some (.inl (0, 19), none), some (.inl (1, 20), none)], [], [], [(2, 3, (-1))]), [(0, (0, 0, 0), 1), (1, (1, 3, 0), 20), (0, (0, 0, 0), 0)]), ((76, [some (.inr 5, none), some (.inl (0, 7), none), some (.inl (0, 19), none), some (.inl (0, 19), none)], [], [], []), [(0, (0, 0, 0), 0), (1, (1, 3, 0), 19), (0, (0, 0, 0), 0)])]) (N := 3) (fuel := 82) hIQ (List.forall_mem_cons.mpr ⟨qk_270 l, List.forall_mem_cons.mpr ⟨qk_323 l, List.forall_mem_cons.mpr ⟨qk_324 l, fun _ h => absurd h List.not_mem_nil⟩⟩⟩) (by decide +kernel)
def kq_326 : ek := (74, [.inr 5, .inl (0, 15), .inl (0, 7)], [], [], [(some (.inl (1, 1)), []), (some (.inl (0, 0)), [])], 1, 22)
/-- LoadsAhead.Machine tookTooOld -/
theorem qk_326 (l : Launch) : ek_ok l tQ iQ kq_326 := ek_good_ok (sp := sQ) (K := [kq_259]) (SP := []) (HS := [((2, [some (.inr 5, none), some (.inl (0, 15), none), some (.inl (0, 7), none), some (.inl (0, 4), none), none], [], [], []), [(0, (0, 0, 0), 0), (1, (1, 3, 0), 4), (0, (0, 0, 0), 0)])]) (N := 3) (fuel := 96) hIQ (List.forall_mem_cons.mpr ⟨qk_259 l, fun _ h => absurd h List.not_mem_nil⟩) (by decide +kernel)
def kq_327 : ek := (75, [.inr 30, .inl (0, 15), .inl (0, 7)], [], [(28, 3), (31, 999)], [(none, [])], 1, 15)
/-- LoadsAhead.State melt -/
theorem qk_327 (l : Launch) : ek_ok l tQ iQ kq_327 := ek_good_ok (sp := sQ) (K := []) (SP := []) (HS := []) (N := 0) (fuel := 100) hIQ (fun _ h => absurd h List.not_mem_nil) (by decide +kernel)
def kq_328 : ek := (80, [.inr 6, .inl (0, 7), .inl (0, 0), .inl (0, 0)], [], [], [(some (.inl ((-2147483648), 2147483647)), []), (some (.inl (0, 0)), [])], 0, 0)
/-- LoadsAhead.Program reckoned -/
theorem qk_328 (l : Launch) : ek_ok l tQ iQ kq_328 := ek_good_ok (sp := sQ) (K := []) (SP := []) (HS := []) (N := 0) (fuel := 28) hIQ (fun _ h => absurd h List.not_mem_nil) (by decide +kernel)
def kq_329 : ek := (67, [.inr 6, .inl (0, 7), .inl ((-2147483648), 2147483647)], [], [], [(some (.inl (0, 63)), [])], 0, 0)
/-- LoadsAhead.Program placeBy -/
theorem qk_329 (l : Launch) : ek_ok l tQ iQ kq_329 := ek_good_ok (sp := sQ) (K := []) (SP := []) (HS := []) (N := 0) (fuel := 26) hIQ (fun _ h => absurd h List.not_mem_nil) (by decide +kernel)
def kq_330 : ek := (80, [.inr 6, .inl (0, 7), .inl (0, 0), .inl ((-2147483648), 2147483647)], [], [], [(some (.inl ((-2147483648), 2147483647)), []), (some (.inl (0, 1)), [])], 0, 0)
/-- LoadsAhead.Program reckoned -/
theorem qk_330 (l : Launch) : ek_ok l tQ iQ kq_330 := ek_good_ok (sp := sQ) (K := []) (SP := []) (HS := []) (N := 0) (fuel := 30) hIQ (fun _ h => absurd h List.not_mem_nil) (by decide +kernel)
def kq_331 : ek := (72, [.inr 6, .inl (0, 7), .inl ((-2147483648), 2147483647)], [], [], [(some (.inl ((-2147483648), 2147483647)), [])], 0, 0)
/-- LoadsAhead.Program storedOf -/
theorem qk_331 (l : Launch) : ek_ok l tQ iQ kq_331 := ek_good_ok (sp := sQ) (K := []) (SP := []) (HS := []) (N := 0) (fuel := 46) hIQ (fun _ h => absurd h List.not_mem_nil) (by decide +kernel)
def kq_332 : ek := (80, [.inr 6, .inl (0, 7), .inl ((-2147483648), 2147483647), .inl (0, 0)], [], [], [(some (.inl ((-2147483648), 2147483647)), []), (some (.inl (0, 1)), [])], 0, 0)
/-- LoadsAhead.Program reckoned -/
theorem qk_332 (l : Launch) : ek_ok l tQ iQ kq_332 := ek_good_ok (sp := sQ) (K := []) (SP := []) (HS := []) (N := 0) (fuel := 30) hIQ (fun _ h => absurd h List.not_mem_nil) (by decide +kernel)
def kq_333 : ek := (80, [.inr 6, .inl (0, 7), .inl ((-2147483648), 2147483647), .inl ((-2147483648), 2147483647)], [], [], [(some (.inl ((-2147483648), 2147483647)), []), (some (.inl (0, 1)), [])], 0, 0)
/-- LoadsAhead.Program reckoned -/
theorem qk_333 (l : Launch) : ek_ok l tQ iQ kq_333 := ek_good_ok (sp := sQ) (K := []) (SP := []) (HS := []) (N := 0) (fuel := 30) hIQ (fun _ h => absurd h List.not_mem_nil) (by decide +kernel)
def kq_334 : ek := (67, [.inr 6, .inl (0, 3), .inl (0, 0)], [], [], [(some (.inl (0, 63)), [])], 0, 0)
/-- LoadsAhead.Program placeBy -/
theorem qk_334 (l : Launch) : ek_ok l tQ iQ kq_334 := ek_good_ok (sp := sQ) (K := []) (SP := []) (HS := []) (N := 0) (fuel := 26) hIQ (fun _ h => absurd h List.not_mem_nil) (by decide +kernel)
def kq_335 : ek := (69, [.inr 5, .inl (0, 3), .inl (0, 63)], [], [], [(some (.inl (0, 2)), []), (some (.inl ((-1), (-1))), [])], 1, 22)
/-- LoadsAhead.Machine youngestCovering -/
theorem qk_335 (l : Launch) : ek_ok l tQ iQ kq_335 := ek_good_ok (sp := sQ) (K := [kq_259]) (SP := []) (HS := [((4, [some (.inr 5, none), some (.inl (0, 3), none), some (.inl (0, 63), none), some (.inl ((-1), 2), none)], [], [], []), [(0, (0, 0, 0), 0), (2, (1, 3, 0), (-1)), (0, (0, 0, 0), 0)])]) (N := 3) (fuel := 70) hIQ (List.forall_mem_cons.mpr ⟨qk_259 l, fun _ h => absurd h List.not_mem_nil⟩) (by decide +kernel)
def kq_336 : ek := (71, [.inr 5, .inl (0, 3), .inl (0, 63)], [], [], [(some (.inl (0, 255)), [])], 0, 0)
/-- LoadsAhead.Machine storedAt -/
theorem qk_336 (l : Launch) : ek_ok l tQ iQ kq_336 := ek_good_ok (sp := sQ) (K := []) (SP := []) (HS := []) (N := 0) (fuel := 52) hIQ (fun _ h => absurd h List.not_mem_nil) (by decide +kernel)
def kq_337 : ek := (68, [.inr 5, .inl (0, 3)], [], [(36, 999), (38, 999)], [(none, [])], 2, 45)
/-- LoadsAhead.Machine takeBytes -/
theorem qk_337 (l : Launch) : ek_ok l tQ iQ kq_337 := ek_good_ok (sp := sQ) (K := [kq_335, kq_336]) (SP := []) (HS := [((4, [some (.inr 5, none), some (.inl (0, 3), none), some (.inl ((-2147483648), 2147483647), none), some (.inl (0, 4), none), none, none, none], [], [], []), [(0, (0, 0, 0), 0), (1, (1, 3, 0), 4), (0, (0, 0, 0), 0)])]) (N := 3) (fuel := 114) hIQ (List.forall_mem_cons.mpr ⟨qk_335 l, List.forall_mem_cons.mpr ⟨qk_336 l, fun _ h => absurd h List.not_mem_nil⟩⟩) (by decide +kernel)
def kq_338 : ek := (72, [.inr 6, .inl (0, 3), .inl (0, 0)], [], [], [(some (.inl (0, 0)), [])], 0, 0)
/-- LoadsAhead.Program storedOf -/
theorem qk_338 (l : Launch) : ek_ok l tQ iQ kq_338 := ek_good_ok (sp := sQ) (K := []) (SP := []) (HS := []) (N := 0) (fuel := 46) hIQ (fun _ h => absurd h List.not_mem_nil) (by decide +kernel)
def kq_339 : ek := (74, [.inr 5, .inl (0, 19), .inl (0, 3)], [], [], [(some (.inl (1, 1)), []), (some (.inl (0, 0)), [])], 1, 22)
/-- LoadsAhead.Machine tookTooOld -/
theorem qk_339 (l : Launch) : ek_ok l tQ iQ kq_339 := ek_good_ok (sp := sQ) (K := [kq_259]) (SP := []) (HS := [((2, [some (.inr 5, none), some (.inl (0, 19), none), some (.inl (0, 3), none), some (.inl (0, 4), none), none], [], [], []), [(0, (0, 0, 0), 0), (1, (1, 3, 0), 4), (0, (0, 0, 0), 0)])]) (N := 3) (fuel := 96) hIQ (List.forall_mem_cons.mpr ⟨qk_259 l, fun _ h => absurd h List.not_mem_nil⟩) (by decide +kernel)
def kq_340 : ek := (75, [.inr 30, .inl (0, 19), .inl (0, 3)], [], [(28, 3), (31, 999)], [(none, [])], 1, 15)
/-- LoadsAhead.State melt -/
theorem qk_340 (l : Launch) : ek_ok l tQ iQ kq_340 := ek_good_ok (sp := sQ) (K := []) (SP := []) (HS := []) (N := 0) (fuel := 100) hIQ (fun _ h => absurd h List.not_mem_nil) (by decide +kernel)
def kq_341 : ek := (73, [.inr 5, .inl (0, 3)], [], [(28, 3), (30, 999), (31, 999), (33, 999), (35, 999), (39, 999), (41, 999), (43, 999), (44, 999)], [(none, [])], 3, 68)
/-- LoadsAhead.Machine lookBack -/
theorem qk_341 (l : Launch) : ek_ok l tQ iQ kq_341 := ek_good_ok (sp := sQ) (K := [kq_270, kq_339, kq_340]) (SP := []) (HS := [((6, [some (.inr 5, none), some (.inl (0, 3), none), some (.inl (0, 19), none), some (.inl (1, 20), none)], [], [], [(2, 3, (-1))]), [(0, (0, 0, 0), 1), (1, (1, 3, 0), 20), (0, (0, 0, 0), 0)]), ((76, [some (.inr 5, none), some (.inl (0, 3), none), some (.inl (0, 19), none), some (.inl (0, 19), none)], [], [], []), [(0, (0, 0, 0), 0), (1, (1, 3, 0), 19), (0, (0, 0, 0), 0)])]) (N := 3) (fuel := 82) hIQ (List.forall_mem_cons.mpr ⟨qk_270 l, List.forall_mem_cons.mpr ⟨qk_339 l, List.forall_mem_cons.mpr ⟨qk_340 l, fun _ h => absurd h List.not_mem_nil⟩⟩⟩) (by decide +kernel)
def kq_342 : ek := (74, [.inr 5, .inl (0, 7), .inl (0, 3)], [], [], [(some (.inl (1, 1)), []), (some (.inl (0, 0)), [])], 1, 22)
/-- LoadsAhead.Machine tookTooOld -/
theorem qk_342 (l : Launch) : ek_ok l tQ iQ kq_342 := ek_good_ok (sp := sQ) (K := [kq_259]) (SP := []) (HS := [((2, [some (.inr 5, none), some (.inl (0, 7), none), some (.inl (0, 3), none), some (.inl (0, 4), none), none], [], [], []), [(0, (0, 0, 0), 0), (1, (1, 3, 0), 4), (0, (0, 0, 0), 0)])]) (N := 3) (fuel := 96) hIQ (List.forall_mem_cons.mpr ⟨qk_259 l, fun _ h => absurd h List.not_mem_nil⟩) (by decide +kernel)
def kq_343 : ek := (74, [.inr 5, .inl (0, 15), .inl (0, 3)], [], [], [(some (.inl (1, 1)), []), (some (.inl (0, 0)), [])], 1, 22)
/-- LoadsAhead.Machine tookTooOld -/
theorem qk_343 (l : Launch) : ek_ok l tQ iQ kq_343 := ek_good_ok (sp := sQ) (K := [kq_259]) (SP := []) (HS := [((2, [some (.inr 5, none), some (.inl (0, 15), none), some (.inl (0, 3), none), some (.inl (0, 4), none), none], [], [], []), [(0, (0, 0, 0), 0), (1, (1, 3, 0), 4), (0, (0, 0, 0), 0)])]) (N := 3) (fuel := 96) hIQ (List.forall_mem_cons.mpr ⟨qk_259 l, fun _ h => absurd h List.not_mem_nil⟩) (by decide +kernel)
def kq_344 : ek := (75, [.inr 30, .inl (0, 15), .inl (0, 3)], [], [(28, 3), (31, 999)], [(none, [])], 1, 15)
/-- LoadsAhead.State melt -/
theorem qk_344 (l : Launch) : ek_ok l tQ iQ kq_344 := ek_good_ok (sp := sQ) (K := []) (SP := []) (HS := []) (N := 0) (fuel := 100) hIQ (fun _ h => absurd h List.not_mem_nil) (by decide +kernel)
def kq_345 : ek := (75, [.inr 30, .inl (0, 7), .inl (0, 3)], [], [(28, 3), (31, 999)], [(none, [])], 1, 15)
/-- LoadsAhead.State melt -/
theorem qk_345 (l : Launch) : ek_ok l tQ iQ kq_345 := ek_good_ok (sp := sQ) (K := []) (SP := []) (HS := []) (N := 0) (fuel := 100) hIQ (fun _ h => absurd h List.not_mem_nil) (by decide +kernel)
def kq_346 : ek := (80, [.inr 6, .inl (0, 3), .inl (0, 0), .inl (0, 0)], [], [], [(some (.inl ((-2147483648), 2147483647)), []), (some (.inl (0, 0)), [])], 0, 0)
/-- LoadsAhead.Program reckoned -/
theorem qk_346 (l : Launch) : ek_ok l tQ iQ kq_346 := ek_good_ok (sp := sQ) (K := []) (SP := []) (HS := []) (N := 0) (fuel := 28) hIQ (fun _ h => absurd h List.not_mem_nil) (by decide +kernel)
def kq_347 : ek := (67, [.inr 6, .inl (0, 3), .inl ((-2147483648), 2147483647)], [], [], [(some (.inl (0, 63)), [])], 0, 0)
/-- LoadsAhead.Program placeBy -/
theorem qk_347 (l : Launch) : ek_ok l tQ iQ kq_347 := ek_good_ok (sp := sQ) (K := []) (SP := []) (HS := []) (N := 0) (fuel := 26) hIQ (fun _ h => absurd h List.not_mem_nil) (by decide +kernel)
def kq_348 : ek := (80, [.inr 6, .inl (0, 3), .inl (0, 0), .inl ((-2147483648), 2147483647)], [], [], [(some (.inl ((-2147483648), 2147483647)), []), (some (.inl (0, 1)), [])], 0, 0)
/-- LoadsAhead.Program reckoned -/
theorem qk_348 (l : Launch) : ek_ok l tQ iQ kq_348 := ek_good_ok (sp := sQ) (K := []) (SP := []) (HS := []) (N := 0) (fuel := 30) hIQ (fun _ h => absurd h List.not_mem_nil) (by decide +kernel)
end
section
def kq_349 : ek := (72, [.inr 6, .inl (0, 3), .inl ((-2147483648), 2147483647)], [], [], [(some (.inl ((-2147483648), 2147483647)), [])], 0, 0)
/-- LoadsAhead.Program storedOf -/
theorem qk_349 (l : Launch) : ek_ok l tQ iQ kq_349 := ek_good_ok (sp := sQ) (K := []) (SP := []) (HS := []) (N := 0) (fuel := 46) hIQ (fun _ h => absurd h List.not_mem_nil) (by decide +kernel)
def kq_350 : ek := (80, [.inr 6, .inl (0, 3), .inl ((-2147483648), 2147483647), .inl (0, 0)], [], [], [(some (.inl ((-2147483648), 2147483647)), []), (some (.inl (0, 1)), [])], 0, 0)
/-- LoadsAhead.Program reckoned -/
theorem qk_350 (l : Launch) : ek_ok l tQ iQ kq_350 := ek_good_ok (sp := sQ) (K := []) (SP := []) (HS := []) (N := 0) (fuel := 30) hIQ (fun _ h => absurd h List.not_mem_nil) (by decide +kernel)
def kq_351 : ek := (80, [.inr 6, .inl (0, 3), .inl ((-2147483648), 2147483647), .inl ((-2147483648), 2147483647)], [], [], [(some (.inl ((-2147483648), 2147483647)), []), (some (.inl (0, 1)), [])], 0, 0)
/-- LoadsAhead.Program reckoned -/
theorem qk_351 (l : Launch) : ek_ok l tQ iQ kq_351 := ek_good_ok (sp := sQ) (K := []) (SP := []) (HS := []) (N := 0) (fuel := 30) hIQ (fun _ h => absurd h List.not_mem_nil) (by decide +kernel)
def kq_352 : ek := (67, [.inr 6, .inl (0, 1), .inl (0, 0)], [], [], [(some (.inl (0, 63)), [])], 0, 0)
/-- LoadsAhead.Program placeBy -/
theorem qk_352 (l : Launch) : ek_ok l tQ iQ kq_352 := ek_good_ok (sp := sQ) (K := []) (SP := []) (HS := []) (N := 0) (fuel := 26) hIQ (fun _ h => absurd h List.not_mem_nil) (by decide +kernel)
def kq_353 : ek := (69, [.inr 5, .inl (0, 1), .inl (0, 63)], [], [], [(some (.inl (0, 0)), []), (some (.inl ((-1), (-1))), [])], 1, 22)
/-- LoadsAhead.Machine youngestCovering -/
theorem qk_353 (l : Launch) : ek_ok l tQ iQ kq_353 := ek_good_ok (sp := sQ) (K := [kq_259]) (SP := []) (HS := [((4, [some (.inr 5, none), some (.inl (0, 1), none), some (.inl (0, 63), none), some (.inl ((-1), 0), none)], [], [], []), [(0, (0, 0, 0), 0), (2, (1, 3, 0), (-1)), (0, (0, 0, 0), 0)])]) (N := 3) (fuel := 70) hIQ (List.forall_mem_cons.mpr ⟨qk_259 l, fun _ h => absurd h List.not_mem_nil⟩) (by decide +kernel)
def kq_354 : ek := (71, [.inr 5, .inl (0, 0), .inl (0, 63)], [], [], [(some (.inl (0, 255)), [])], 0, 0)
/-- LoadsAhead.Machine storedAt -/
theorem qk_354 (l : Launch) : ek_ok l tQ iQ kq_354 := ek_good_ok (sp := sQ) (K := []) (SP := []) (HS := []) (N := 0) (fuel := 52) hIQ (fun _ h => absurd h List.not_mem_nil) (by decide +kernel)
def kq_355 : ek := (68, [.inr 5, .inl (0, 1)], [], [(36, 999), (38, 999)], [(none, [])], 2, 45)
/-- LoadsAhead.Machine takeBytes -/
theorem qk_355 (l : Launch) : ek_ok l tQ iQ kq_355 := ek_good_ok (sp := sQ) (K := [kq_354, kq_353]) (SP := []) (HS := [((4, [some (.inr 5, none), some (.inl (0, 1), none), some (.inl ((-2147483648), 2147483647), none), some (.inl (0, 4), none), none, none, none], [], [], []), [(0, (0, 0, 0), 0), (1, (1, 3, 0), 4), (0, (0, 0, 0), 0)])]) (N := 3) (fuel := 114) hIQ (List.forall_mem_cons.mpr ⟨qk_354 l, List.forall_mem_cons.mpr ⟨qk_353 l, fun _ h => absurd h List.not_mem_nil⟩⟩) (by decide +kernel)
def kq_356 : ek := (72, [.inr 6, .inl (0, 1), .inl (0, 0)], [], [], [(some (.inl (0, 0)), [])], 0, 0)
/-- LoadsAhead.Program storedOf -/
theorem qk_356 (l : Launch) : ek_ok l tQ iQ kq_356 := ek_good_ok (sp := sQ) (K := []) (SP := []) (HS := []) (N := 0) (fuel := 46) hIQ (fun _ h => absurd h List.not_mem_nil) (by decide +kernel)
def kq_357 : ek := (74, [.inr 5, .inl (0, 19), .inl (0, 1)], [], [], [(some (.inl (1, 1)), []), (some (.inl (0, 0)), [])], 1, 22)
/-- LoadsAhead.Machine tookTooOld -/
theorem qk_357 (l : Launch) : ek_ok l tQ iQ kq_357 := ek_good_ok (sp := sQ) (K := [kq_259]) (SP := []) (HS := [((2, [some (.inr 5, none), some (.inl (0, 19), none), some (.inl (0, 1), none), some (.inl (0, 4), none), none], [], [], []), [(0, (0, 0, 0), 0), (1, (1, 3, 0), 4), (0, (0, 0, 0), 0)])]) (N := 3) (fuel := 96) hIQ (List.forall_mem_cons.mpr ⟨qk_259 l, fun _ h => absurd h List.not_mem_nil⟩) (by decide +kernel)
def kq_358 : ek := (75, [.inr 30, .inl (0, 19), .inl (0, 1)], [], [(28, 3), (31, 999)], [(none, [])], 1, 15)
/-- LoadsAhead.State melt -/
theorem qk_358 (l : Launch) : ek_ok l tQ iQ kq_358 := ek_good_ok (sp := sQ) (K := []) (SP := []) (HS := []) (N := 0) (fuel := 100) hIQ (fun _ h => absurd h List.not_mem_nil) (by decide +kernel)
def kq_359 : ek := (73, [.inr 5, .inl (0, 1)], [], [(28, 3), (30, 999), (31, 999), (33, 999), (35, 999), (39, 999), (41, 999), (43, 999), (44, 999)], [(none, [])], 3, 68)
/-- LoadsAhead.Machine lookBack -/
theorem qk_359 (l : Launch) : ek_ok l tQ iQ kq_359 := ek_good_ok (sp := sQ) (K := [kq_270, kq_357, kq_358]) (SP := []) (HS := [((6, [some (.inr 5, none), some (.inl (0, 1), none), some (.inl (0, 19), none), some (.inl (1, 20), none)], [], [], [(2, 3, (-1))]), [(0, (0, 0, 0), 1), (1, (1, 3, 0), 20), (0, (0, 0, 0), 0)]), ((76, [some (.inr 5, none), some (.inl (0, 1), none), some (.inl (0, 19), none), some (.inl (0, 19), none)], [], [], []), [(0, (0, 0, 0), 0), (1, (1, 3, 0), 19), (0, (0, 0, 0), 0)])]) (N := 3) (fuel := 82) hIQ (List.forall_mem_cons.mpr ⟨qk_270 l, List.forall_mem_cons.mpr ⟨qk_357 l, List.forall_mem_cons.mpr ⟨qk_358 l, fun _ h => absurd h List.not_mem_nil⟩⟩⟩) (by decide +kernel)
def kq_360 : ek := (74, [.inr 5, .inl (0, 3), .inl (0, 1)], [], [], [(some (.inl (1, 1)), []), (some (.inl (0, 0)), [])], 1, 22)
/-- LoadsAhead.Machine tookTooOld -/
theorem qk_360 (l : Launch) : ek_ok l tQ iQ kq_360 := ek_good_ok (sp := sQ) (K := [kq_259]) (SP := []) (HS := [((2, [some (.inr 5, none), some (.inl (0, 3), none), some (.inl (0, 1), none), some (.inl (0, 4), none), none], [], [], []), [(0, (0, 0, 0), 0), (1, (1, 3, 0), 4), (0, (0, 0, 0), 0)])]) (N := 3) (fuel := 96) hIQ (List.forall_mem_cons.mpr ⟨qk_259 l, fun _ h => absurd h List.not_mem_nil⟩) (by decide +kernel)
def kq_361 : ek := (74, [.inr 5, .inl (0, 7), .inl (0, 1)], [], [], [(some (.inl (1, 1)), []), (some (.inl (0, 0)), [])], 1, 22)
/-- LoadsAhead.Machine tookTooOld -/
theorem qk_361 (l : Launch) : ek_ok l tQ iQ kq_361 := ek_good_ok (sp := sQ) (K := [kq_259]) (SP := []) (HS := [((2, [some (.inr 5, none), some (.inl (0, 7), none), some (.inl (0, 1), none), some (.inl (0, 4), none), none], [], [], []), [(0, (0, 0, 0), 0), (1, (1, 3, 0), 4), (0, (0, 0, 0), 0)])]) (N := 3) (fuel := 96) hIQ (List.forall_mem_cons.mpr ⟨qk_259 l, fun _ h => absurd h List.not_mem_nil⟩) (by decide +kernel)
def kq_362 : ek := (74, [.inr 5, .inl (0, 15), .inl (0, 1)], [], [], [(some (.inl (1, 1)), []), (some (.inl (0, 0)), [])], 1, 22)
/-- LoadsAhead.Machine tookTooOld -/
theorem qk_362 (l : Launch) : ek_ok l tQ iQ kq_362 := ek_good_ok (sp := sQ) (K := [kq_259]) (SP := []) (HS := [((2, [some (.inr 5, none), some (.inl (0, 15), none), some (.inl (0, 1), none), some (.inl (0, 4), none), none], [], [], []), [(0, (0, 0, 0), 0), (1, (1, 3, 0), 4), (0, (0, 0, 0), 0)])]) (N := 3) (fuel := 96) hIQ (List.forall_mem_cons.mpr ⟨qk_259 l, fun _ h => absurd h List.not_mem_nil⟩) (by decide +kernel)
def kq_363 : ek := (75, [.inr 30, .inl (0, 15), .inl (0, 1)], [], [(28, 3), (31, 999)], [(none, [])], 1, 15)
/-- LoadsAhead.State melt -/
theorem qk_363 (l : Launch) : ek_ok l tQ iQ kq_363 := ek_good_ok (sp := sQ) (K := []) (SP := []) (HS := []) (N := 0) (fuel := 100) hIQ (fun _ h => absurd h List.not_mem_nil) (by decide +kernel)
def kq_364 : ek := (75, [.inr 30, .inl (0, 7), .inl (0, 1)], [], [(28, 3), (31, 999)], [(none, [])], 1, 15)
/-- LoadsAhead.State melt -/
theorem qk_364 (l : Launch) : ek_ok l tQ iQ kq_364 := ek_good_ok (sp := sQ) (K := []) (SP := []) (HS := []) (N := 0) (fuel := 100) hIQ (fun _ h => absurd h List.not_mem_nil) (by decide +kernel)
def kq_365 : ek := (75, [.inr 30, .inl (0, 3), .inl (0, 1)], [], [(28, 3), (31, 999)], [(none, [])], 1, 15)
/-- LoadsAhead.State melt -/
theorem qk_365 (l : Launch) : ek_ok l tQ iQ kq_365 := ek_good_ok (sp := sQ) (K := []) (SP := []) (HS := []) (N := 0) (fuel := 100) hIQ (fun _ h => absurd h List.not_mem_nil) (by decide +kernel)
def kq_366 : ek := (80, [.inr 6, .inl (0, 1), .inl (0, 0), .inl (0, 0)], [], [], [(some (.inl ((-2147483648), 2147483647)), []), (some (.inl (0, 0)), [])], 0, 0)
/-- LoadsAhead.Program reckoned -/
theorem qk_366 (l : Launch) : ek_ok l tQ iQ kq_366 := ek_good_ok (sp := sQ) (K := []) (SP := []) (HS := []) (N := 0) (fuel := 28) hIQ (fun _ h => absurd h List.not_mem_nil) (by decide +kernel)
def kq_367 : ek := (67, [.inr 6, .inl (0, 1), .inl ((-2147483648), 2147483647)], [], [], [(some (.inl (0, 63)), [])], 0, 0)
/-- LoadsAhead.Program placeBy -/
theorem qk_367 (l : Launch) : ek_ok l tQ iQ kq_367 := ek_good_ok (sp := sQ) (K := []) (SP := []) (HS := []) (N := 0) (fuel := 26) hIQ (fun _ h => absurd h List.not_mem_nil) (by decide +kernel)
def kq_368 : ek := (80, [.inr 6, .inl (0, 1), .inl (0, 0), .inl ((-2147483648), 2147483647)], [], [], [(some (.inl ((-2147483648), 2147483647)), []), (some (.inl (0, 1)), [])], 0, 0)
/-- LoadsAhead.Program reckoned -/
theorem qk_368 (l : Launch) : ek_ok l tQ iQ kq_368 := ek_good_ok (sp := sQ) (K := []) (SP := []) (HS := []) (N := 0) (fuel := 30) hIQ (fun _ h => absurd h List.not_mem_nil) (by decide +kernel)
def kq_369 : ek := (72, [.inr 6, .inl (0, 1), .inl ((-2147483648), 2147483647)], [], [], [(some (.inl ((-2147483648), 2147483647)), [])], 0, 0)
/-- LoadsAhead.Program storedOf -/
theorem qk_369 (l : Launch) : ek_ok l tQ iQ kq_369 := ek_good_ok (sp := sQ) (K := []) (SP := []) (HS := []) (N := 0) (fuel := 46) hIQ (fun _ h => absurd h List.not_mem_nil) (by decide +kernel)
def kq_370 : ek := (80, [.inr 6, .inl (0, 1), .inl ((-2147483648), 2147483647), .inl (0, 0)], [], [], [(some (.inl ((-2147483648), 2147483647)), []), (some (.inl (0, 1)), [])], 0, 0)
/-- LoadsAhead.Program reckoned -/
theorem qk_370 (l : Launch) : ek_ok l tQ iQ kq_370 := ek_good_ok (sp := sQ) (K := []) (SP := []) (HS := []) (N := 0) (fuel := 30) hIQ (fun _ h => absurd h List.not_mem_nil) (by decide +kernel)
def kq_371 : ek := (80, [.inr 6, .inl (0, 1), .inl ((-2147483648), 2147483647), .inl ((-2147483648), 2147483647)], [], [], [(some (.inl ((-2147483648), 2147483647)), []), (some (.inl (0, 1)), [])], 0, 0)
/-- LoadsAhead.Program reckoned -/
theorem qk_371 (l : Launch) : ek_ok l tQ iQ kq_371 := ek_good_ok (sp := sQ) (K := []) (SP := []) (HS := []) (N := 0) (fuel := 30) hIQ (fun _ h => absurd h List.not_mem_nil) (by decide +kernel)
def kq_372 : ek := (67, [.inr 6, .inl (0, 0), .inl (0, 0)], [], [], [(some (.inl (0, 63)), [])], 0, 0)
/-- LoadsAhead.Program placeBy -/
theorem qk_372 (l : Launch) : ek_ok l tQ iQ kq_372 := ek_good_ok (sp := sQ) (K := []) (SP := []) (HS := []) (N := 0) (fuel := 26) hIQ (fun _ h => absurd h List.not_mem_nil) (by decide +kernel)
def kq_373 : ek := (69, [.inr 5, .inl (0, 0), .inl (0, 63)], [], [], [(some (.inl ((-1), (-1))), [])], 0, 0)
/-- LoadsAhead.Machine youngestCovering -/
theorem qk_373 (l : Launch) : ek_ok l tQ iQ kq_373 := ek_good_ok (sp := sQ) (K := []) (SP := []) (HS := [((4, [some (.inr 5, none), some (.inl (0, 0), none), some (.inl (0, 63), none), some (.inl ((-1), (-1)), none)], [], [], []), [(0, (0, 0, 0), 0)])]) (N := 1) (fuel := 18) hIQ (fun _ h => absurd h List.not_mem_nil) (by decide +kernel)
def kq_374 : ek := (68, [.inr 5, .inl (0, 0)], [], [(36, 999), (38, 999)], [(none, [])], 1, 23)
/-- LoadsAhead.Machine takeBytes -/
theorem qk_374 (l : Launch) : ek_ok l tQ iQ kq_374 := ek_good_ok (sp := sQ) (K := [kq_373]) (SP := []) (HS := [((4, [some (.inr 5, none), some (.inl (0, 0), none), some (.inl ((-2147483648), 2147483647), none), some (.inl (0, 4), none), none, none, none], [], [], []), [(0, (0, 0, 0), 0), (1, (1, 3, 0), 4), (0, (0, 0, 0), 0)])]) (N := 3) (fuel := 114) hIQ (List.forall_mem_cons.mpr ⟨qk_373 l, fun _ h => absurd h List.not_mem_nil⟩) (by decide +kernel)
def kq_375 : ek := (72, [.inr 6, .inl (0, 0), .inl (0, 0)], [], [], [(some (.inl (0, 0)), [])], 0, 0)
/-- LoadsAhead.Program storedOf -/
theorem qk_375 (l : Launch) : ek_ok l tQ iQ kq_375 := ek_good_ok (sp := sQ) (K := []) (SP := []) (HS := []) (N := 0) (fuel := 46) hIQ (fun _ h => absurd h List.not_mem_nil) (by decide +kernel)
def kq_376 : ek := (74, [.inr 5, .inl (0, 19), .inl (0, 0)], [], [], [(some (.inl (1, 1)), []), (some (.inl (0, 0)), [])], 1, 22)
/-- LoadsAhead.Machine tookTooOld -/
theorem qk_376 (l : Launch) : ek_ok l tQ iQ kq_376 := ek_good_ok (sp := sQ) (K := [kq_259]) (SP := []) (HS := [((2, [some (.inr 5, none), some (.inl (0, 19), none), some (.inl (0, 0), none), some (.inl (0, 4), none), none], [], [], []), [(0, (0, 0, 0), 0), (1, (1, 3, 0), 4), (0, (0, 0, 0), 0)])]) (N := 3) (fuel := 96) hIQ (List.forall_mem_cons.mpr ⟨qk_259 l, fun _ h => absurd h List.not_mem_nil⟩) (by decide +kernel)
def kq_377 : ek := (75, [.inr 30, .inl (0, 19), .inl (0, 0)], [], [(28, 3), (31, 999)], [(none, [])], 1, 15)
/-- LoadsAhead.State melt -/
theorem qk_377 (l : Launch) : ek_ok l tQ iQ kq_377 := ek_good_ok (sp := sQ) (K := []) (SP := []) (HS := []) (N := 0) (fuel := 100) hIQ (fun _ h => absurd h List.not_mem_nil) (by decide +kernel)
def kq_378 : ek := (73, [.inr 5, .inl (0, 0)], [], [(28, 3), (30, 999), (31, 999), (33, 999), (35, 999), (39, 999), (41, 999), (43, 999), (44, 999)], [(none, [])], 3, 68)
/-- LoadsAhead.Machine lookBack -/
theorem qk_378 (l : Launch) : ek_ok l tQ iQ kq_378 := ek_good_ok (sp := sQ) (K := [kq_270, kq_376, kq_377]) (SP := []) (HS := [((6, [some (.inr 5, none), some (.inl (0, 0), none), some (.inl (0, 19), none), some (.inl (1, 20), none)], [], [], [(2, 3, (-1))]), [(0, (0, 0, 0), 1), (1, (1, 3, 0), 20), (0, (0, 0, 0), 0)]), ((76, [some (.inr 5, none), some (.inl (0, 0), none), some (.inl (0, 19), none), some (.inl (0, 19), none)], [], [], []), [(0, (0, 0, 0), 0), (1, (1, 3, 0), 19), (0, (0, 0, 0), 0)])]) (N := 3) (fuel := 82) hIQ (List.forall_mem_cons.mpr ⟨qk_270 l, List.forall_mem_cons.mpr ⟨qk_376 l, List.forall_mem_cons.mpr ⟨qk_377 l, fun _ h => absurd h List.not_mem_nil⟩⟩⟩) (by decide +kernel)
def kq_379 : ek := (74, [.inr 5, .inl (1, 1), .inl (0, 0)], [], [], [(some (.inl (1, 1)), []), (some (.inl (0, 0)), [])], 1, 22)
/-- LoadsAhead.Machine tookTooOld -/
theorem qk_379 (l : Launch) : ek_ok l tQ iQ kq_379 := ek_good_ok (sp := sQ) (K := [kq_259]) (SP := []) (HS := [((2, [some (.inr 5, none), some (.inl (1, 1), none), some (.inl (0, 0), none), some (.inl (0, 4), none), none], [], [], []), [(0, (0, 0, 0), 0), (1, (1, 3, 0), 4), (0, (0, 0, 0), 0)])]) (N := 3) (fuel := 96) hIQ (List.forall_mem_cons.mpr ⟨qk_259 l, fun _ h => absurd h List.not_mem_nil⟩) (by decide +kernel)
def kq_380 : ek := (74, [.inr 5, .inl (0, 3), .inl (0, 0)], [], [], [(some (.inl (1, 1)), []), (some (.inl (0, 0)), [])], 1, 22)
/-- LoadsAhead.Machine tookTooOld -/
theorem qk_380 (l : Launch) : ek_ok l tQ iQ kq_380 := ek_good_ok (sp := sQ) (K := [kq_259]) (SP := []) (HS := [((2, [some (.inr 5, none), some (.inl (0, 3), none), some (.inl (0, 0), none), some (.inl (0, 4), none), none], [], [], []), [(0, (0, 0, 0), 0), (1, (1, 3, 0), 4), (0, (0, 0, 0), 0)])]) (N := 3) (fuel := 96) hIQ (List.forall_mem_cons.mpr ⟨qk_259 l, fun _ h => absurd h List.not_mem_nil⟩) (by decide +kernel)
def kq_381 : ek := (74, [.inr 5, .inl (0, 7), .inl (0, 0)], [], [], [(some (.inl (1, 1)), []), (some (.inl (0, 0)), [])], 1, 22)
/-- LoadsAhead.Machine tookTooOld -/
theorem qk_381 (l : Launch) : ek_ok l tQ iQ kq_381 := ek_good_ok (sp := sQ) (K := [kq_259]) (SP := []) (HS := [((2, [some (.inr 5, none), some (.inl (0, 7), none), some (.inl (0, 0), none), some (.inl (0, 4), none), none], [], [], []), [(0, (0, 0, 0), 0), (1, (1, 3, 0), 4), (0, (0, 0, 0), 0)])]) (N := 3) (fuel := 96) hIQ (List.forall_mem_cons.mpr ⟨qk_259 l, fun _ h => absurd h List.not_mem_nil⟩) (by decide +kernel)
def kq_382 : ek := (74, [.inr 5, .inl (0, 15), .inl (0, 0)], [], [], [(some (.inl (1, 1)), []), (some (.inl (0, 0)), [])], 1, 22)
/-- LoadsAhead.Machine tookTooOld -/
theorem qk_382 (l : Launch) : ek_ok l tQ iQ kq_382 := ek_good_ok (sp := sQ) (K := [kq_259]) (SP := []) (HS := [((2, [some (.inr 5, none), some (.inl (0, 15), none), some (.inl (0, 0), none), some (.inl (0, 4), none), none], [], [], []), [(0, (0, 0, 0), 0), (1, (1, 3, 0), 4), (0, (0, 0, 0), 0)])]) (N := 3) (fuel := 96) hIQ (List.forall_mem_cons.mpr ⟨qk_259 l, fun _ h => absurd h List.not_mem_nil⟩) (by decide +kernel)
def kq_383 : ek := (75, [.inr 30, .inl (0, 15), .inl (0, 0)], [], [(28, 3), (31, 999)], [(none, [])], 1, 15)
/-- LoadsAhead.State melt -/
theorem qk_383 (l : Launch) : ek_ok l tQ iQ kq_383 := ek_good_ok (sp := sQ) (K := []) (SP := []) (HS := []) (N := 0) (fuel := 100) hIQ (fun _ h => absurd h List.not_mem_nil) (by decide +kernel)
def kq_384 : ek := (75, [.inr 30, .inl (0, 7), .inl (0, 0)], [], [(28, 3), (31, 999)], [(none, [])], 1, 15)
/-- LoadsAhead.State melt -/
theorem qk_384 (l : Launch) : ek_ok l tQ iQ kq_384 := ek_good_ok (sp := sQ) (K := []) (SP := []) (HS := []) (N := 0) (fuel := 100) hIQ (fun _ h => absurd h List.not_mem_nil) (by decide +kernel)
def kq_385 : ek := (75, [.inr 30, .inl (0, 3), .inl (0, 0)], [], [(28, 3), (31, 999)], [(none, [])], 1, 15)
/-- LoadsAhead.State melt -/
theorem qk_385 (l : Launch) : ek_ok l tQ iQ kq_385 := ek_good_ok (sp := sQ) (K := []) (SP := []) (HS := []) (N := 0) (fuel := 100) hIQ (fun _ h => absurd h List.not_mem_nil) (by decide +kernel)
def kq_386 : ek := (75, [.inr 30, .inl (1, 1), .inl (0, 0)], [], [(28, 3), (31, 999)], [(none, [])], 1, 15)
/-- LoadsAhead.State melt -/
theorem qk_386 (l : Launch) : ek_ok l tQ iQ kq_386 := ek_good_ok (sp := sQ) (K := []) (SP := []) (HS := []) (N := 0) (fuel := 100) hIQ (fun _ h => absurd h List.not_mem_nil) (by decide +kernel)
def kq_387 : ek := (80, [.inr 6, .inl (0, 0), .inl (0, 0), .inl (0, 0)], [], [], [(some (.inl ((-2147483648), 2147483647)), []), (some (.inl (0, 0)), [])], 0, 0)
/-- LoadsAhead.Program reckoned -/
theorem qk_387 (l : Launch) : ek_ok l tQ iQ kq_387 := ek_good_ok (sp := sQ) (K := []) (SP := []) (HS := []) (N := 0) (fuel := 28) hIQ (fun _ h => absurd h List.not_mem_nil) (by decide +kernel)
def kq_388 : ek := (67, [.inr 6, .inl (0, 0), .inl ((-2147483648), 2147483647)], [], [], [(some (.inl (0, 63)), [])], 0, 0)
/-- LoadsAhead.Program placeBy -/
theorem qk_388 (l : Launch) : ek_ok l tQ iQ kq_388 := ek_good_ok (sp := sQ) (K := []) (SP := []) (HS := []) (N := 0) (fuel := 26) hIQ (fun _ h => absurd h List.not_mem_nil) (by decide +kernel)
def kq_389 : ek := (80, [.inr 6, .inl (0, 0), .inl (0, 0), .inl ((-2147483648), 2147483647)], [], [], [(some (.inl ((-2147483648), 2147483647)), []), (some (.inl (0, 1)), [])], 0, 0)
/-- LoadsAhead.Program reckoned -/
theorem qk_389 (l : Launch) : ek_ok l tQ iQ kq_389 := ek_good_ok (sp := sQ) (K := []) (SP := []) (HS := []) (N := 0) (fuel := 30) hIQ (fun _ h => absurd h List.not_mem_nil) (by decide +kernel)
def kq_390 : ek := (72, [.inr 6, .inl (0, 0), .inl ((-2147483648), 2147483647)], [], [], [(some (.inl ((-2147483648), 2147483647)), [])], 0, 0)
/-- LoadsAhead.Program storedOf -/
theorem qk_390 (l : Launch) : ek_ok l tQ iQ kq_390 := ek_good_ok (sp := sQ) (K := []) (SP := []) (HS := []) (N := 0) (fuel := 46) hIQ (fun _ h => absurd h List.not_mem_nil) (by decide +kernel)
end
section
def kq_391 : ek := (80, [.inr 6, .inl (0, 0), .inl ((-2147483648), 2147483647), .inl (0, 0)], [], [], [(some (.inl ((-2147483648), 2147483647)), []), (some (.inl (0, 1)), [])], 0, 0)
/-- LoadsAhead.Program reckoned -/
theorem qk_391 (l : Launch) : ek_ok l tQ iQ kq_391 := ek_good_ok (sp := sQ) (K := []) (SP := []) (HS := []) (N := 0) (fuel := 30) hIQ (fun _ h => absurd h List.not_mem_nil) (by decide +kernel)
def kq_392 : ek := (80, [.inr 6, .inl (0, 0), .inl ((-2147483648), 2147483647), .inl ((-2147483648), 2147483647)], [], [], [(some (.inl ((-2147483648), 2147483647)), []), (some (.inl (0, 1)), [])], 0, 0)
/-- LoadsAhead.Program reckoned -/
theorem qk_392 (l : Launch) : ek_ok l tQ iQ kq_392 := ek_good_ok (sp := sQ) (K := []) (SP := []) (HS := []) (N := 0) (fuel := 30) hIQ (fun _ h => absurd h List.not_mem_nil) (by decide +kernel)
def kq_397 : ek := (83, [.inr 5, .inl (0, 15), .inl (0, 0)], [], [], [(some (.inl (0, 0)), []), (some (.inl (1, 1)), [])], 0, 0)
/-- LoadsAhead.Machine mustWait -/
theorem qk_397 (l : Launch) : ek_ok l tQ iQ kq_397 := ek_good_ok (sp := sQ) (K := []) (SP := []) (HS := [((51, [some (.inr 5, none), some (.inl (0, 15), none), some (.inl (0, 0), none), some (.inl (0, 0), none), some (.inl (0, 15), none), some (.inl ((-1), 14), none)], [], [], []), [(0, (0, 0, 0), 0), (2, (1, 5, 0), (-1)), (0, (0, 0, 0), 0)])]) (N := 3) (fuel := 66) hIQ (fun _ h => absurd h List.not_mem_nil) (by decide +kernel)
def kq_398 : ek := (86, [.inr 18, .inl (0, 15), .inl (0, 3), .inl (0, 240), .inl (0, 15), .inl ((-2147483648), 2147483647), .inl (0, 240), .inl (0, 15)], [], [(22, 999)], [(none, [])], 0, 0)
/-- LoadsAhead.Law tell -/
theorem qk_398 (l : Launch) : ek_ok l tQ iQ kq_398 := ek_good_ok (sp := sQ) (K := []) (SP := []) (HS := []) (N := 0) (fuel := 80) hIQ (fun _ h => absurd h List.not_mem_nil) (by decide +kernel)
def kq_399 : ek := (86, [.inr 18, .inl (0, 15), .inl (0, 3), .inl (0, 240), .inl (16, 16), .inl ((-2147483648), 2147483647), .inl (0, 240), .inl (0, 15)], [], [(22, 999)], [(none, [])], 0, 0)
/-- LoadsAhead.Law tell -/
theorem qk_399 (l : Launch) : ek_ok l tQ iQ kq_399 := ek_good_ok (sp := sQ) (K := []) (SP := []) (HS := []) (N := 0) (fuel := 80) hIQ (fun _ h => absurd h List.not_mem_nil) (by decide +kernel)
def kq_400 : ek := (85, [.inr 5, .inl (0, 15), .inl (0, 15)], [], [(22, 999)], [(none, [])], 1, 27)
/-- LoadsAhead.Machine tellLaw -/
theorem qk_400 (l : Launch) : ek_ok l tQ iQ kq_400 := ek_good_ok (sp := sQ) (K := [kq_399, kq_398]) (SP := []) (HS := []) (N := 0) (fuel := 86) hIQ (List.forall_mem_cons.mpr ⟨qk_399 l, List.forall_mem_cons.mpr ⟨qk_398 l, fun _ h => absurd h List.not_mem_nil⟩⟩) (by decide +kernel)
def kq_401 : ek := (83, [.inr 5, .inl (0, 7), .inl (0, 0)], [], [], [(some (.inl (0, 0)), []), (some (.inl (1, 1)), [])], 0, 0)
/-- LoadsAhead.Machine mustWait -/
theorem qk_401 (l : Launch) : ek_ok l tQ iQ kq_401 := ek_good_ok (sp := sQ) (K := []) (SP := []) (HS := [((51, [some (.inr 5, none), some (.inl (0, 7), none), some (.inl (0, 0), none), some (.inl (0, 0), none), some (.inl (0, 15), none), some (.inl ((-1), 6), none)], [], [], []), [(0, (0, 0, 0), 0), (2, (1, 5, 0), (-1)), (0, (0, 0, 0), 0)])]) (N := 3) (fuel := 66) hIQ (fun _ h => absurd h List.not_mem_nil) (by decide +kernel)
def kq_402 : ek := (86, [.inr 18, .inl (0, 7), .inl (0, 3), .inl (0, 240), .inl (0, 15), .inl ((-2147483648), 2147483647), .inl (0, 240), .inl (0, 15)], [], [(22, 999)], [(none, [])], 0, 0)
/-- LoadsAhead.Law tell -/
theorem qk_402 (l : Launch) : ek_ok l tQ iQ kq_402 := ek_good_ok (sp := sQ) (K := []) (SP := []) (HS := []) (N := 0) (fuel := 80) hIQ (fun _ h => absurd h List.not_mem_nil) (by decide +kernel)
def kq_403 : ek := (86, [.inr 18, .inl (0, 7), .inl (0, 3), .inl (0, 240), .inl (16, 16), .inl ((-2147483648), 2147483647), .inl (0, 240), .inl (0, 15)], [], [(22, 999)], [(none, [])], 0, 0)
/-- LoadsAhead.Law tell -/
theorem qk_403 (l : Launch) : ek_ok l tQ iQ kq_403 := ek_good_ok (sp := sQ) (K := []) (SP := []) (HS := []) (N := 0) (fuel := 80) hIQ (fun _ h => absurd h List.not_mem_nil) (by decide +kernel)
def kq_404 : ek := (85, [.inr 5, .inl (0, 7), .inl (0, 15)], [], [(22, 999)], [(none, [])], 1, 27)
/-- LoadsAhead.Machine tellLaw -/
theorem qk_404 (l : Launch) : ek_ok l tQ iQ kq_404 := ek_good_ok (sp := sQ) (K := [kq_403, kq_402]) (SP := []) (HS := []) (N := 0) (fuel := 86) hIQ (List.forall_mem_cons.mpr ⟨qk_403 l, List.forall_mem_cons.mpr ⟨qk_402 l, fun _ h => absurd h List.not_mem_nil⟩⟩) (by decide +kernel)
def kq_405 : ek := (83, [.inr 5, .inl (0, 3), .inl (0, 0)], [], [], [(some (.inl (0, 0)), []), (some (.inl (1, 1)), [])], 0, 0)
/-- LoadsAhead.Machine mustWait -/
theorem qk_405 (l : Launch) : ek_ok l tQ iQ kq_405 := ek_good_ok (sp := sQ) (K := []) (SP := []) (HS := [((51, [some (.inr 5, none), some (.inl (0, 3), none), some (.inl (0, 0), none), some (.inl (0, 0), none), some (.inl (0, 15), none), some (.inl ((-1), 2), none)], [], [], []), [(0, (0, 0, 0), 0), (2, (1, 5, 0), (-1)), (0, (0, 0, 0), 0)])]) (N := 3) (fuel := 66) hIQ (fun _ h => absurd h List.not_mem_nil) (by decide +kernel)
def kq_406 : ek := (86, [.inr 18, .inl (0, 3), .inl (0, 3), .inl (0, 240), .inl (0, 15), .inl ((-2147483648), 2147483647), .inl (0, 240), .inl (0, 15)], [], [(22, 999)], [(none, [])], 0, 0)
/-- LoadsAhead.Law tell -/
theorem qk_406 (l : Launch) : ek_ok l tQ iQ kq_406 := ek_good_ok (sp := sQ) (K := []) (SP := []) (HS := []) (N := 0) (fuel := 80) hIQ (fun _ h => absurd h List.not_mem_nil) (by decide +kernel)
def kq_407 : ek := (86, [.inr 18, .inl (0, 3), .inl (0, 3), .inl (0, 240), .inl (16, 16), .inl ((-2147483648), 2147483647), .inl (0, 240), .inl (0, 15)], [], [(22, 999)], [(none, [])], 0, 0)
/-- LoadsAhead.Law tell -/
theorem qk_407 (l : Launch) : ek_ok l tQ iQ kq_407 := ek_good_ok (sp := sQ) (K := []) (SP := []) (HS := []) (N := 0) (fuel := 80) hIQ (fun _ h => absurd h List.not_mem_nil) (by decide +kernel)
def kq_408 : ek := (85, [.inr 5, .inl (0, 3), .inl (0, 15)], [], [(22, 999)], [(none, [])], 1, 27)
/-- LoadsAhead.Machine tellLaw -/
theorem qk_408 (l : Launch) : ek_ok l tQ iQ kq_408 := ek_good_ok (sp := sQ) (K := [kq_407, kq_406]) (SP := []) (HS := []) (N := 0) (fuel := 86) hIQ (List.forall_mem_cons.mpr ⟨qk_407 l, List.forall_mem_cons.mpr ⟨qk_406 l, fun _ h => absurd h List.not_mem_nil⟩⟩) (by decide +kernel)
def kq_409 : ek := (83, [.inr 5, .inl (0, 1), .inl (0, 0)], [], [], [(some (.inl (0, 0)), []), (some (.inl (1, 1)), [])], 0, 0)
/-- LoadsAhead.Machine mustWait -/
theorem qk_409 (l : Launch) : ek_ok l tQ iQ kq_409 := ek_good_ok (sp := sQ) (K := []) (SP := []) (HS := [((51, [some (.inr 5, none), some (.inl (0, 1), none), some (.inl (0, 0), none), some (.inl (0, 0), none), some (.inl (0, 15), none), some (.inl ((-1), 0), none)], [], [], []), [(0, (0, 0, 0), 0), (2, (1, 5, 0), (-1)), (0, (0, 0, 0), 0)])]) (N := 3) (fuel := 66) hIQ (fun _ h => absurd h List.not_mem_nil) (by decide +kernel)
def kq_410 : ek := (86, [.inr 18, .inl (0, 1), .inl (0, 3), .inl (0, 240), .inl (0, 15), .inl ((-2147483648), 2147483647), .inl (0, 240), .inl (0, 15)], [], [(22, 999)], [(none, [])], 0, 0)
/-- LoadsAhead.Law tell -/
theorem qk_410 (l : Launch) : ek_ok l tQ iQ kq_410 := ek_good_ok (sp := sQ) (K := []) (SP := []) (HS := []) (N := 0) (fuel := 80) hIQ (fun _ h => absurd h List.not_mem_nil) (by decide +kernel)
def kq_411 : ek := (86, [.inr 18, .inl (0, 1), .inl (0, 3), .inl (0, 240), .inl (16, 16), .inl ((-2147483648), 2147483647), .inl (0, 240), .inl (0, 15)], [], [(22, 999)], [(none, [])], 0, 0)
/-- LoadsAhead.Law tell -/
theorem qk_411 (l : Launch) : ek_ok l tQ iQ kq_411 := ek_good_ok (sp := sQ) (K := []) (SP := []) (HS := []) (N := 0) (fuel := 80) hIQ (fun _ h => absurd h List.not_mem_nil) (by decide +kernel)
def kq_412 : ek := (85, [.inr 5, .inl (0, 1), .inl (0, 15)], [], [(22, 999)], [(none, [])], 1, 27)
/-- LoadsAhead.Machine tellLaw -/
theorem qk_412 (l : Launch) : ek_ok l tQ iQ kq_412 := ek_good_ok (sp := sQ) (K := [kq_411, kq_410]) (SP := []) (HS := []) (N := 0) (fuel := 86) hIQ (List.forall_mem_cons.mpr ⟨qk_411 l, List.forall_mem_cons.mpr ⟨qk_410 l, fun _ h => absurd h List.not_mem_nil⟩⟩) (by decide +kernel)
def kq_413 : ek := (83, [.inr 5, .inl (0, 0), .inl (0, 0)], [], [], [(some (.inl (0, 0)), [])], 0, 0)
/-- LoadsAhead.Machine mustWait -/
theorem qk_413 (l : Launch) : ek_ok l tQ iQ kq_413 := ek_good_ok (sp := sQ) (K := []) (SP := []) (HS := [((51, [some (.inr 5, none), some (.inl (0, 0), none), some (.inl (0, 0), none), some (.inl (0, 0), none), some (.inl (0, 15), none), some (.inl ((-1), (-1)), none)], [], [], []), [(0, (0, 0, 0), 0)])]) (N := 1) (fuel := 48) hIQ (fun _ h => absurd h List.not_mem_nil) (by decide +kernel)
def kq_414 : ek := (86, [.inr 18, .inl (0, 0), .inl (0, 3), .inl (0, 240), .inl (0, 15), .inl ((-2147483648), 2147483647), .inl (0, 240), .inl (0, 15)], [], [(22, 999)], [(none, [])], 0, 0)
/-- LoadsAhead.Law tell -/
theorem qk_414 (l : Launch) : ek_ok l tQ iQ kq_414 := ek_good_ok (sp := sQ) (K := []) (SP := []) (HS := []) (N := 0) (fuel := 80) hIQ (fun _ h => absurd h List.not_mem_nil) (by decide +kernel)
def kq_415 : ek := (86, [.inr 18, .inl (0, 0), .inl (0, 3), .inl (0, 240), .inl (16, 16), .inl ((-2147483648), 2147483647), .inl (0, 240), .inl (0, 15)], [], [(22, 999)], [(none, [])], 0, 0)
/-- LoadsAhead.Law tell -/
theorem qk_415 (l : Launch) : ek_ok l tQ iQ kq_415 := ek_good_ok (sp := sQ) (K := []) (SP := []) (HS := []) (N := 0) (fuel := 80) hIQ (fun _ h => absurd h List.not_mem_nil) (by decide +kernel)
def kq_416 : ek := (85, [.inr 5, .inl (0, 0), .inl (0, 15)], [], [(22, 999)], [(none, [])], 1, 27)
/-- LoadsAhead.Machine tellLaw -/
theorem qk_416 (l : Launch) : ek_ok l tQ iQ kq_416 := ek_good_ok (sp := sQ) (K := [kq_415, kq_414]) (SP := []) (HS := []) (N := 0) (fuel := 86) hIQ (List.forall_mem_cons.mpr ⟨qk_415 l, List.forall_mem_cons.mpr ⟨qk_414 l, fun _ h => absurd h List.not_mem_nil⟩⟩) (by decide +kernel)
def kq_417 : ek := (95, [.inr 30, .inl ((-2147483648), 2147483647), .inl (0, 3), .inl ((-2147483648), 2147483647)], [], [(30, 999)], [(none, [])], 0, 0)
/-- LoadsAhead.State putBytes -/
theorem qk_417 (l : Launch) : ek_ok l tQ iQ kq_417 := ek_good_ok (sp := sQ) (K := []) (SP := []) (HS := [((3, [some (.inr 30, none), some (.inl ((-2147483648), 2147483647), none), some (.inl (0, 3), none), some (.inl ((-2147483648), 2147483647), none), some (.inl (0, 3), none)], [], [], []), [(0, (0, 0, 0), 0), (1, (1, 4, 0), 3), (0, (0, 0, 0), 0)])]) (N := 3) (fuel := 50) hIQ (fun _ h => absurd h List.not_mem_nil) (by decide +kernel)
def kq_418 : ek := (95, [.inr 30, .inl ((-2147483648), 2147483647), .inl (0, 1), .inl ((-2147483648), 2147483647)], [], [(30, 999)], [(none, [])], 0, 0)
/-- LoadsAhead.State putBytes -/
theorem qk_418 (l : Launch) : ek_ok l tQ iQ kq_418 := ek_good_ok (sp := sQ) (K := []) (SP := []) (HS := [((3, [some (.inr 30, none), some (.inl ((-2147483648), 2147483647), none), some (.inl (0, 1), none), some (.inl ((-2147483648), 2147483647), none), some (.inl (0, 1), none)], [], [], []), [(0, (0, 0, 0), 0), (1, (1, 4, 0), 1), (0, (0, 0, 0), 0)])]) (N := 3) (fuel := 50) hIQ (fun _ h => absurd h List.not_mem_nil) (by decide +kernel)
def kq_419 : ek := (95, [.inr 30, .inl ((-2147483648), 2147483647), .inl (0, 0), .inl ((-2147483648), 2147483647)], [], [], [(none, [])], 0, 0)
/-- LoadsAhead.State putBytes -/
theorem qk_419 (l : Launch) : ek_ok l tQ iQ kq_419 := ek_good_ok (sp := sQ) (K := []) (SP := []) (HS := [((3, [some (.inr 30, none), some (.inl ((-2147483648), 2147483647), none), some (.inl (0, 0), none), some (.inl ((-2147483648), 2147483647), none), some (.inl (0, 0), none)], [], [], []), [(0, (0, 0, 0), 0)])]) (N := 1) (fuel := 16) hIQ (fun _ h => absurd h List.not_mem_nil) (by decide +kernel)
def kq_420 : ek := (58, [.inr 2, .inl (5, 2147483647)], [], [], [(some (.inl (0, 0)), [])], 0, 0)
/-- LoadsAhead canRun -/
theorem qk_420 (l : Launch) : ek_ok l tQ iQ kq_420 := ek_good_ok (sp := sQ) (K := []) (SP := []) (HS := []) (N := 0) (fuel := 24) hIQ (fun _ h => absurd h List.not_mem_nil) (by decide +kernel)
def kq_421 : ek := (57, [.inr 2, .inl (5, 2147483647)], [], [], [(some (.inl ((-1), (-1))), [])], 1, 21)
/-- LoadsAhead run -/
theorem qk_421 (l : Launch) : ek_ok l tQ iQ kq_421 := ek_good_ok (sp := sQ) (K := [kq_420]) (SP := [(2, [(0, [0, 4])])]) (HS := []) (N := 0) (fuel := 20) hIQ (List.forall_mem_cons.mpr ⟨qk_420 l, fun _ h => absurd h List.not_mem_nil⟩) (by decide +kernel)
def kq_422 : ek := (137, [.inl ((-2147483648), 0), .inl (1, 1), .inl (4, 4)], [], [], [(some (.inl (0, 0)), [])], 0, 0)
/-- LoadsAheadModel in -/
theorem qk_422 (l : Launch) : ek_ok l tQ iQ kq_422 := ek_good_ok (sp := sQ) (K := []) (SP := []) (HS := []) (N := 0) (fuel := 18) hIQ (fun _ h => absurd h List.not_mem_nil) (by decide +kernel)
def kq_423 : ek := (176, [.inr 86, .inl ((-2147483648), 0)], [], [], [(some (.inl (0, 0)), [])], 1, 22)
/-- LoadsAheadModel canRun -/
theorem qk_423 (l : Launch) : ek_ok l tQ iQ kq_423 := ek_good_ok (sp := sQ) (K := [kq_422]) (SP := [(3, [(2, [0, 4])])]) (HS := []) (N := 0) (fuel := 22) hIQ (List.forall_mem_cons.mpr ⟨qk_422 l, fun _ h => absurd h List.not_mem_nil⟩) (by decide +kernel)
def kq_424 : ek := (175, [.inr 86, .inl ((-2147483648), 0)], [], [], [(some (.inl ((-1), (-1))), [])], 2, 43)
/-- LoadsAheadModel run -/
theorem qk_424 (l : Launch) : ek_ok l tQ iQ kq_424 := ek_good_ok (sp := sQ) (K := [kq_423]) (SP := [(2, [(0, [0, 4])])]) (HS := []) (N := 0) (fuel := 20) hIQ (List.forall_mem_cons.mpr ⟨qk_423 l, fun _ h => absurd h List.not_mem_nil⟩) (by decide +kernel)
def kq_425 : ek := (137, [.inl (1, 4), .inl (1, 1), .inl (4, 4)], [], [], [(some (.inl (1, 1)), [])], 0, 0)
/-- LoadsAheadModel in -/
theorem qk_425 (l : Launch) : ek_ok l tQ iQ kq_425 := ek_good_ok (sp := sQ) (K := []) (SP := []) (HS := []) (N := 0) (fuel := 26) hIQ (fun _ h => absurd h List.not_mem_nil) (by decide +kernel)
def kq_426 : ek := (176, [.inr 86, .inl (1, 4)], [], [], [(some (.inl (1, 1)), [((2, 84, 2), (1, 20), none)]), (some (.inl (0, 0)), [((2, 84, 2), (0, 0), none)])], 1, 22)
/-- LoadsAheadModel canRun -/
theorem qk_426 (l : Launch) : ek_ok l tQ iQ kq_426 := ek_good_ok (sp := sQ) (K := [kq_425]) (SP := [(3, [(2, [0, 4])])]) (HS := []) (N := 0) (fuel := 30) hIQ (List.forall_mem_cons.mpr ⟨qk_425 l, fun _ h => absurd h List.not_mem_nil⟩) (by decide +kernel)
def kq_427 : ek := (174, [.inr 86, .inl (0, 19), .inl (0, 7)], [], [], [(some (.inl (1, 1)), []), (some (.inl (0, 0)), [])], 0, 0)
/-- LoadsAheadModel gives -/
theorem qk_427 (l : Launch) : ek_ok l tQ iQ kq_427 := ek_good_ok (sp := sQ) (K := []) (SP := []) (HS := []) (N := 0) (fuel := 38) hIQ (fun _ h => absurd h List.not_mem_nil) (by decide +kernel)
def kq_428 : ek := (173, [.inr 86, .inl (0, 19), .inl (0, 7)], [], [], [(some (.inl (0, 18)), []), (some (.inl ((-1), (-1))), [])], 1, 22)
/-- LoadsAheadModel giverOf -/
theorem qk_428 (l : Launch) : ek_ok l tQ iQ kq_428 := ek_good_ok (sp := sQ) (K := [kq_427]) (SP := []) (HS := [((4, [some (.inr 86, none), some (.inl (0, 19), none), some (.inl (0, 7), none), some (.inl ((-1), 18), none)], [], [], []), [(0, (0, 0, 0), 0), (2, (1, 3, 0), (-1)), (0, (0, 0, 0), 0)])]) (N := 3) (fuel := 28) hIQ (List.forall_mem_cons.mpr ⟨qk_427 l, fun _ h => absurd h List.not_mem_nil⟩) (by decide +kernel)
def kq_429 : ek := (180, [.inr 86, .inl (0, 19), .inl (0, 7)], [], [], [(some (.inl ((-2147483648), 2147483647)), [])], 2, 45)
/-- LoadsAheadModel readBy -/
theorem qk_429 (l : Launch) : ek_ok l tQ iQ kq_429 := ek_good_ok (sp := sQ) (K := [kq_428]) (SP := []) (HS := []) (N := 0) (fuel := 36) hIQ (List.forall_mem_cons.mpr ⟨qk_428 l, fun _ h => absurd h List.not_mem_nil⟩) (by decide +kernel)
def kq_430 : ek := (181, [.inl ((-2147483648), 2147483647), .inl ((-2147483648), 2147483647), .inl ((-2147483648), 2147483647)], [], [], [(some (.inl (0, 1)), []), (some (.inl ((-2147483648), 2147483647)), [])], 0, 0)
/-- LoadsAheadModel reckoned -/
theorem qk_430 (l : Launch) : ek_ok l tQ iQ kq_430 := ek_good_ok (sp := sQ) (K := []) (SP := []) (HS := []) (N := 0) (fuel := 24) hIQ (fun _ h => absurd h List.not_mem_nil) (by decide +kernel)
def kq_431 : ek := (182, [.inr 86, .inl (0, 19)], [], [], [(some (.inl (0, 63)), [])], 3, 68)
/-- LoadsAheadModel placeBy -/
theorem qk_431 (l : Launch) : ek_ok l tQ iQ kq_431 := ek_good_ok (sp := sQ) (K := [kq_429]) (SP := []) (HS := []) (N := 0) (fuel := 54) hIQ (List.forall_mem_cons.mpr ⟨qk_429 l, fun _ h => absurd h List.not_mem_nil⟩) (by decide +kernel)
def kq_432 : ek := (184, [.inr 86, .inl (0, 19), .inl (0, 63)], [], [], [(some (.inl (1, 1)), []), (some (.inl (0, 0)), [])], 0, 0)
/-- LoadsAheadModel covers -/
theorem qk_432 (l : Launch) : ek_ok l tQ iQ kq_432 := ek_good_ok (sp := sQ) (K := []) (SP := []) (HS := []) (N := 0) (fuel := 40) hIQ (fun _ h => absurd h List.not_mem_nil) (by decide +kernel)
def kq_433 : ek := (185, [.inl ((-2147483648), 2147483647), .inl (0, 63)], [], [], [(some (.inl (0, 255)), [])], 0, 0)
/-- LoadsAheadModel byteOf -/
theorem qk_433 (l : Launch) : ek_ok l tQ iQ kq_433 := ek_good_ok (sp := sQ) (K := []) (SP := []) (HS := []) (N := 0) (fuel := 24) hIQ (fun _ h => absurd h List.not_mem_nil) (by decide +kernel)
def kq_434 : ek := (183, [.inr 86, .inl (0, 19)], [], [(120, 999), (124, 999)], [(none, [])], 1, 22)
/-- LoadsAheadModel loads -/
theorem qk_434 (l : Launch) : ek_ok l tQ iQ kq_434 := ek_good_ok (sp := sQ) (K := [kq_432, kq_433]) (SP := []) (HS := [((9, [some (.inr 86, none), some (.inl (0, 19), none), some (.inl (0, 4), none), none, none, none], [], [], []), [(0, (0, 0, 0), 0), (1, (1, 2, 0), 4), (0, (0, 0, 0), 1), (0, (0, 0, 0), 0), (0, (0, 0, 0), 0)]), ((37, [some (.inr 86, none), some (.inl (0, 19), none), some (.inl (0, 3), none), some (.inl (0, 63), none), some (.inl ((-1), 18), none), some (.inl (0, 19), none)], [], [], []), [(0, (0, 0, 0), 0), (1, (1, 2, 0), 4), (0, (0, 0, 0), 0), (1, (1, 5, 0), 19), (0, (0, 0, 0), 0)])]) (N := 5) (fuel := 100) hIQ (List.forall_mem_cons.mpr ⟨qk_432 l, List.forall_mem_cons.mpr ⟨qk_433 l, fun _ h => absurd h List.not_mem_nil⟩⟩) (by decide +kernel)
def kq_435 : ek := (186, [.inl ((-2147483648), 2147483647), .inl ((-1), 4)], [], [], [(some (.inl (0, 65535)), []), (some (.inl ((-2147483648), 2147483647)), [])], 0, 0)
/-- LoadsAheadModel cut -/
theorem qk_435 (l : Launch) : ek_ok l tQ iQ kq_435 := ek_good_ok (sp := sQ) (K := []) (SP := []) (HS := []) (N := 0) (fuel := 30) hIQ (fun _ h => absurd h List.not_mem_nil) (by decide +kernel)
def kq_436 : ek := (188, [.inr 86, .inl (0, 19), .inl (0, 19)], [], [], [(some (.inl (1, 1)), []), (some (.inl (0, 0)), [])], 1, 22)
/-- LoadsAheadModel tookOld -/
theorem qk_436 (l : Launch) : ek_ok l tQ iQ kq_436 := ek_good_ok (sp := sQ) (K := [kq_432]) (SP := []) (HS := [((2, [some (.inr 86, none), some (.inl (0, 19), none), some (.inl (0, 19), none), some (.inl (0, 4), none)], [], [], []), [(0, (0, 0, 0), 0), (1, (1, 3, 0), 4), (0, (0, 0, 0), 0)])]) (N := 3) (fuel := 70) hIQ (List.forall_mem_cons.mpr ⟨qk_432 l, fun _ h => absurd h List.not_mem_nil⟩) (by decide +kernel)
def kq_437 : ek := (190, [.inl (0, 15), .inl (0, 15)], [], [], [(some (.inl (0, 15)), [])], 0, 0)
/-- LoadsAheadModel min -/
theorem qk_437 (l : Launch) : ek_ok l tQ iQ kq_437 := ek_good_ok (sp := sQ) (K := []) (SP := []) (HS := []) (N := 0) (fuel := 20) hIQ (fun _ h => absurd h List.not_mem_nil) (by decide +kernel)
def kq_438 : ek := (189, [.inr 86, .inl (0, 19), .inl (0, 19)], [], [(84, 3), (87, 999)], [(none, [])], 1, 21)
/-- LoadsAheadModel melts -/
theorem qk_438 (l : Launch) : ek_ok l tQ iQ kq_438 := ek_good_ok (sp := sQ) (K := [kq_437]) (SP := []) (HS := []) (N := 0) (fuel := 90) hIQ (List.forall_mem_cons.mpr ⟨qk_437 l, fun _ h => absurd h List.not_mem_nil⟩) (by decide +kernel)
def kq_441 : ek := (172, [.inr 86, .inl (0, 19), .inl (0, 7)], [], [], [(some (.inl (1, 1)), []), (some (.inl (0, 0)), [])], 0, 0)
/-- LoadsAheadModel doesRead -/
theorem qk_441 (l : Launch) : ek_ok l tQ iQ kq_441 := ek_good_ok (sp := sQ) (K := []) (SP := []) (HS := []) (N := 0) (fuel := 48) hIQ (fun _ h => absurd h List.not_mem_nil) (by decide +kernel)
def kq_442 : ek := (197, [.inr 86, .inl (0, 19)], [], [], [(some (.inl (0, 0)), []), (some (.inl (1, 1)), [])], 2, 45)
/-- LoadsAheadModel areSourcesDone -/
theorem qk_442 (l : Launch) : ek_ok l tQ iQ kq_442 := ek_good_ok (sp := sQ) (K := [kq_441, kq_428]) (SP := []) (HS := [((2, [some (.inr 86, none), some (.inl (0, 19), none), some (.inl (0, 8), none), none], [], [], []), [(0, (0, 0, 0), 0), (1, (1, 2, 0), 8), (0, (0, 0, 0), 0)])]) (N := 3) (fuel := 60) hIQ (List.forall_mem_cons.mpr ⟨qk_441 l, List.forall_mem_cons.mpr ⟨qk_428 l, fun _ h => absurd h List.not_mem_nil⟩⟩) (by decide +kernel)
def kq_443 : ek := (199, [.inr 86, .inl (0, 19)], [], [], [(some (.inl (0, 0)), []), (some (.inl (1, 1)), [])], 0, 0)
/-- LoadsAheadModel areStoresDone -/
theorem qk_443 (l : Launch) : ek_ok l tQ iQ kq_443 := ek_good_ok (sp := sQ) (K := []) (SP := []) (HS := [((2, [some (.inr 86, none), some (.inl (0, 19), none), some (.inl (0, 19), none)], [], [], []), [(0, (0, 0, 0), 0), (1, (1, 2, 0), 19), (0, (0, 0, 0), 0)])]) (N := 3) (fuel := 44) hIQ (fun _ h => absurd h List.not_mem_nil) (by decide +kernel)
def kq_444 : ek := (198, [.inr 86, .inl (0, 19)], [], [], [(some (.inl (0, 0)), []), (some (.inl (1, 1)), [])], 1, 22)
/-- LoadsAheadModel isKeptBack -/
theorem qk_444 (l : Launch) : ek_ok l tQ iQ kq_444 := ek_good_ok (sp := sQ) (K := [kq_443]) (SP := []) (HS := [((47, [some (.inr 86, none), some (.inl (0, 19), none), some (.inl ((-1), 18), none)], [], [], []), [(0, (0, 0, 0), 0), (2, (1, 2, 0), (-1)), (0, (0, 0, 0), 0)])]) (N := 3) (fuel := 60) hIQ (List.forall_mem_cons.mpr ⟨qk_443 l, fun _ h => absurd h List.not_mem_nil⟩) (by decide +kernel)
def kq_445 : ek := (201, [.inr 86, .inl (0, 19), .inl (0, 2000), .inl (0, 15)], [], [(109, 999)], [(none, [])], 0, 0)
/-- LoadsAheadModel feels -/
theorem qk_445 (l : Launch) : ek_ok l tQ iQ kq_445 := ek_good_ok (sp := sQ) (K := []) (SP := []) (HS := []) (N := 0) (fuel := 120) hIQ (fun _ h => absurd h List.not_mem_nil) (by decide +kernel)
def kq_448 : ek := (185, [.inl ((-2147483648), 2147483647), .inl (0, 3)], [], [], [(some (.inl (0, 255)), [])], 0, 0)
/-- LoadsAheadModel byteOf -/
theorem qk_448 (l : Launch) : ek_ok l tQ iQ kq_448 := ek_good_ok (sp := sQ) (K := []) (SP := []) (HS := []) (N := 0) (fuel := 24) hIQ (fun _ h => absurd h List.not_mem_nil) (by decide +kernel)
def kq_449 : ek := (196, [.inr 86, .inl (0, 20)], [], [(84, 67), (126, 999), (128, 999)], [(none, [])], 0, 0)
/-- LoadsAheadModel undoesTo -/
theorem qk_449 (l : Launch) : ek_ok l tQ iQ kq_449 := ek_good_ok (sp := sQ) (K := []) (SP := []) (HS := [((7, [some (.inr 86, none), some (.inl (0, 20), none), some (.inl ((-1), 19), none), none], [], [], []), [(0, (0, 0, 0), 0), (2, (1, 2, 0), (-1)), (0, (0, 0, 0), 1), (0, (0, 0, 0), 0), (0, (0, 0, 0), 0)]), ((26, [some (.inr 86, none), some (.inl (0, 19), none), some (.inl (0, 19), none), some (.inl (0, 4), none)], [], [], []), [(0, (0, 0, 0), 0), (2, (1, 2, 0), (-1)), (0, (0, 0, 0), 0), (1, (1, 3, 0), 4), (0, (0, 0, 0), 0)])]) (N := 5) (fuel := 64) hIQ (fun _ h => absurd h List.not_mem_nil) (by decide +kernel)
def kq_450 : ek := (201, [.inr 86, .inl (0, 19), .inl (0, 2000), .inl (0, 0)], [], [(109, 999)], [(none, [])], 0, 0)
/-- LoadsAheadModel feels -/
theorem qk_450 (l : Launch) : ek_ok l tQ iQ kq_450 := ek_good_ok (sp := sQ) (K := []) (SP := []) (HS := []) (N := 0) (fuel := 120) hIQ (fun _ h => absurd h List.not_mem_nil) (by decide +kernel)
end
section
def kq_451 : ek := (206, [.inr 86], [], [], [(some (.inl (0, 19)), [((2, 84, 2), (1, 20), none)]), (some (.inl ((-1), (-1))), [])], 0, 0)
/-- LoadsAheadModel oldestToRetire -/
theorem qk_451 (l : Launch) : ek_ok l tQ iQ kq_451 := ek_good_ok (sp := sQ) (K := []) (SP := []) (HS := [((2, [some (.inr 86, none), some (.inl (0, 20), none)], [], [], []), [(0, (0, 0, 0), 0), (1, (1, 1, 0), 20), (0, (0, 0, 0), 0)])]) (N := 3) (fuel := 56) hIQ (fun _ h => absurd h List.not_mem_nil) (by decide +kernel)
def kq_452 : ek := (207, [.inr 86, .inl (0, 19)], [], [], [(some (.inl (0, 0)), []), (some (.inl (1, 1)), [])], 0, 0)
/-- LoadsAheadModel areAllDone -/
theorem qk_452 (l : Launch) : ek_ok l tQ iQ kq_452 := ek_good_ok (sp := sQ) (K := []) (SP := []) (HS := [((2, [some (.inr 86, none), some (.inl (0, 19), none), some (.inl (0, 19), none)], [], [], []), [(0, (0, 0, 0), 0), (1, (1, 2, 0), 19), (0, (0, 0, 0), 0)])]) (N := 3) (fuel := 32) hIQ (fun _ h => absurd h List.not_mem_nil) (by decide +kernel)
def kq_456 : ek := (173, [.inr 86, .inl (0, 20), .inl (0, 7)], [], [], [(some (.inl (0, 19)), []), (some (.inl ((-1), (-1))), [])], 1, 22)
/-- LoadsAheadModel giverOf -/
theorem qk_456 (l : Launch) : ek_ok l tQ iQ kq_456 := ek_good_ok (sp := sQ) (K := [kq_427]) (SP := []) (HS := [((4, [some (.inr 86, none), some (.inl (0, 20), none), some (.inl (0, 7), none), some (.inl ((-1), 19), none)], [], [], []), [(0, (0, 0, 0), 0), (2, (1, 3, 0), (-1)), (0, (0, 0, 0), 0)])]) (N := 3) (fuel := 28) hIQ (List.forall_mem_cons.mpr ⟨qk_427 l, fun _ h => absurd h List.not_mem_nil⟩) (by decide +kernel)
def kq_457 : ek := (180, [.inr 86, .inl (0, 20), .inl (0, 7)], [], [], [(some (.inl ((-2147483648), 2147483647)), [])], 2, 45)
/-- LoadsAheadModel readBy -/
theorem qk_457 (l : Launch) : ek_ok l tQ iQ kq_457 := ek_good_ok (sp := sQ) (K := [kq_456]) (SP := []) (HS := []) (N := 0) (fuel := 36) hIQ (List.forall_mem_cons.mpr ⟨qk_456 l, fun _ h => absurd h List.not_mem_nil⟩) (by decide +kernel)
def kq_458 : ek := (209, [.inr 86], [], [], [(some (.inl (0, 0)), [((2, 84, 2), (1, 20), none)]), (some (.inl (1, 1)), [])], 0, 0)
/-- LoadsAheadModel isOver -/
theorem qk_458 (l : Launch) : ek_ok l tQ iQ kq_458 := ek_good_ok (sp := sQ) (K := []) (SP := []) (HS := [((2, [some (.inr 86, none), some (.inl (0, 20), none)], [], [], []), [(0, (0, 0, 0), 0), (1, (1, 1, 0), 20), (0, (0, 0, 0), 0)])]) (N := 3) (fuel := 56) hIQ (fun _ h => absurd h List.not_mem_nil) (by decide +kernel)
def kq_460 : ek := (190, [.inl (9999, 9999), .inl (1, 10000)], [], [], [(some (.inl (1, 9999)), [])], 0, 0)
/-- LoadsAheadModel min -/
theorem qk_460 (l : Launch) : ek_ok l tQ iQ kq_460 := ek_good_ok (sp := sQ) (K := []) (SP := []) (HS := []) (N := 0) (fuel := 20) hIQ (fun _ h => absurd h List.not_mem_nil) (by decide +kernel)
def kq_461 : ek := (210, [.inr 86], [], [(84, 3), (87, 999)], [(none, [])], 0, 0)
/-- LoadsAheadModel putsSetsBack -/
theorem qk_461 (l : Launch) : ek_ok l tQ iQ kq_461 := ek_good_ok (sp := sQ) (K := []) (SP := []) (HS := [((2, [some (.inr 86, none), some (.inl (0, 20), none)], [], [], []), [(0, (0, 0, 0), 0), (1, (1, 1, 0), 20), (0, (0, 0, 0), 0)])]) (N := 3) (fuel := 38) hIQ (fun _ h => absurd h List.not_mem_nil) (by decide +kernel)
def kq_462 : ek := (211, [.inr 86, .inl (0, 7)], [], [], [(some (.inl ((-2147483648), 2147483647)), [])], 0, 0)
/-- LoadsAheadModel toldOf -/
theorem qk_462 (l : Launch) : ek_ok l tQ iQ kq_462 := ek_good_ok (sp := sQ) (K := []) (SP := []) (HS := []) (N := 0) (fuel := 18) hIQ (fun _ h => absurd h List.not_mem_nil) (by decide +kernel)
def kq_465 : ek := (201, [.inr 86, .inl (0, 19), .inl (0, 0), .inl (0, 15)], [], [(109, 999)], [(none, [])], 0, 0)
/-- LoadsAheadModel feels -/
theorem qk_465 (l : Launch) : ek_ok l tQ iQ kq_465 := ek_good_ok (sp := sQ) (K := []) (SP := []) (HS := []) (N := 0) (fuel := 120) hIQ (fun _ h => absurd h List.not_mem_nil) (by decide +kernel)
def kq_467 : ek := (201, [.inr 86, .inl (0, 19), .inl (0, 0), .inl (0, 0)], [], [(109, 999)], [(none, [])], 0, 0)
/-- LoadsAheadModel feels -/
theorem qk_467 (l : Launch) : ek_ok l tQ iQ kq_467 := ek_good_ok (sp := sQ) (K := []) (SP := []) (HS := []) (N := 0) (fuel := 120) hIQ (fun _ h => absurd h List.not_mem_nil) (by decide +kernel)
def kq_470 : ek := (173, [.inr 86, .inl (0, 0), .inl (0, 7)], [], [], [(some (.inl ((-1), (-1))), [])], 0, 0)
/-- LoadsAheadModel giverOf -/
theorem qk_470 (l : Launch) : ek_ok l tQ iQ kq_470 := ek_good_ok (sp := sQ) (K := []) (SP := []) (HS := [((4, [some (.inr 86, none), some (.inl (0, 0), none), some (.inl (0, 7), none), some (.inl ((-1), (-1)), none)], [], [], []), [(0, (0, 0, 0), 0)])]) (N := 1) (fuel := 18) hIQ (fun _ h => absurd h List.not_mem_nil) (by decide +kernel)
def kq_471 : ek := (180, [.inr 86, .inl (0, 0), .inl (0, 7)], [], [], [(some (.inl ((-2147483648), 2147483647)), [])], 1, 23)
/-- LoadsAheadModel readBy -/
theorem qk_471 (l : Launch) : ek_ok l tQ iQ kq_471 := ek_good_ok (sp := sQ) (K := [kq_470]) (SP := []) (HS := []) (N := 0) (fuel := 36) hIQ (List.forall_mem_cons.mpr ⟨qk_470 l, fun _ h => absurd h List.not_mem_nil⟩) (by decide +kernel)
def kq_472 : ek := (182, [.inr 86, .inl (0, 0)], [], [], [(some (.inl (0, 63)), [])], 2, 46)
/-- LoadsAheadModel placeBy -/
theorem qk_472 (l : Launch) : ek_ok l tQ iQ kq_472 := ek_good_ok (sp := sQ) (K := [kq_471]) (SP := []) (HS := []) (N := 0) (fuel := 54) hIQ (List.forall_mem_cons.mpr ⟨qk_471 l, fun _ h => absurd h List.not_mem_nil⟩) (by decide +kernel)
def kq_473 : ek := (183, [.inr 86, .inl (0, 0)], [], [(120, 999), (124, 999)], [(none, [])], 0, 0)
/-- LoadsAheadModel loads -/
theorem qk_473 (l : Launch) : ek_ok l tQ iQ kq_473 := ek_good_ok (sp := sQ) (K := []) (SP := []) (HS := [((9, [some (.inr 86, none), some (.inl (0, 0), none), some (.inl (0, 4), none), none, none, none], [], [], []), [(0, (0, 0, 0), 0), (1, (1, 2, 0), 4), (0, (0, 0, 0), 1)]), ((37, [some (.inr 86, none), some (.inl (0, 0), none), some (.inl (0, 3), none), some (.inl (0, 63), none), some (.inl ((-1), (-1)), none), some (.inl (0, 0), none)], [], [], []), [(0, (0, 0, 0), 0), (1, (1, 2, 0), 4), (0, (0, 0, 0), 0)])]) (N := 3) (fuel := 84) hIQ (fun _ h => absurd h List.not_mem_nil) (by decide +kernel)
def kq_474 : ek := (184, [.inr 86, .inl (0, 0), .inl (0, 63)], [], [], [(some (.inl (1, 1)), []), (some (.inl (0, 0)), [])], 0, 0)
/-- LoadsAheadModel covers -/
theorem qk_474 (l : Launch) : ek_ok l tQ iQ kq_474 := ek_good_ok (sp := sQ) (K := []) (SP := []) (HS := []) (N := 0) (fuel := 40) hIQ (fun _ h => absurd h List.not_mem_nil) (by decide +kernel)
def kq_475 : ek := (188, [.inr 86, .inl (0, 19), .inl (0, 0)], [], [], [(some (.inl (1, 1)), []), (some (.inl (0, 0)), [])], 1, 22)
/-- LoadsAheadModel tookOld -/
theorem qk_475 (l : Launch) : ek_ok l tQ iQ kq_475 := ek_good_ok (sp := sQ) (K := [kq_474]) (SP := []) (HS := [((2, [some (.inr 86, none), some (.inl (0, 19), none), some (.inl (0, 0), none), some (.inl (0, 4), none)], [], [], []), [(0, (0, 0, 0), 0), (1, (1, 3, 0), 4), (0, (0, 0, 0), 0)])]) (N := 3) (fuel := 70) hIQ (List.forall_mem_cons.mpr ⟨qk_474 l, fun _ h => absurd h List.not_mem_nil⟩) (by decide +kernel)
def kq_476 : ek := (189, [.inr 86, .inl (0, 19), .inl (0, 0)], [], [(84, 3), (87, 999)], [(none, [])], 1, 21)
/-- LoadsAheadModel melts -/
theorem qk_476 (l : Launch) : ek_ok l tQ iQ kq_476 := ek_good_ok (sp := sQ) (K := [kq_437]) (SP := []) (HS := []) (N := 0) (fuel := 90) hIQ (List.forall_mem_cons.mpr ⟨qk_437 l, fun _ h => absurd h List.not_mem_nil⟩) (by decide +kernel)
def kq_479 : ek := (188, [.inr 86, .inl (1, 1), .inl (0, 0)], [], [], [(some (.inl (1, 1)), []), (some (.inl (0, 0)), [])], 1, 22)
/-- LoadsAheadModel tookOld -/
theorem qk_479 (l : Launch) : ek_ok l tQ iQ kq_479 := ek_good_ok (sp := sQ) (K := [kq_474]) (SP := []) (HS := [((2, [some (.inr 86, none), some (.inl (1, 1), none), some (.inl (0, 0), none), some (.inl (0, 4), none)], [], [], []), [(0, (0, 0, 0), 0), (1, (1, 3, 0), 4), (0, (0, 0, 0), 0)])]) (N := 3) (fuel := 70) hIQ (List.forall_mem_cons.mpr ⟨qk_474 l, fun _ h => absurd h List.not_mem_nil⟩) (by decide +kernel)
def kq_480 : ek := (188, [.inr 86, .inl (0, 3), .inl (0, 0)], [], [], [(some (.inl (1, 1)), []), (some (.inl (0, 0)), [])], 1, 22)
/-- LoadsAheadModel tookOld -/
theorem qk_480 (l : Launch) : ek_ok l tQ iQ kq_480 := ek_good_ok (sp := sQ) (K := [kq_474]) (SP := []) (HS := [((2, [some (.inr 86, none), some (.inl (0, 3), none), some (.inl (0, 0), none), some (.inl (0, 4), none)], [], [], []), [(0, (0, 0, 0), 0), (1, (1, 3, 0), 4), (0, (0, 0, 0), 0)])]) (N := 3) (fuel := 70) hIQ (List.forall_mem_cons.mpr ⟨qk_474 l, fun _ h => absurd h List.not_mem_nil⟩) (by decide +kernel)
def kq_481 : ek := (188, [.inr 86, .inl (0, 7), .inl (0, 0)], [], [], [(some (.inl (1, 1)), []), (some (.inl (0, 0)), [])], 1, 22)
/-- LoadsAheadModel tookOld -/
theorem qk_481 (l : Launch) : ek_ok l tQ iQ kq_481 := ek_good_ok (sp := sQ) (K := [kq_474]) (SP := []) (HS := [((2, [some (.inr 86, none), some (.inl (0, 7), none), some (.inl (0, 0), none), some (.inl (0, 4), none)], [], [], []), [(0, (0, 0, 0), 0), (1, (1, 3, 0), 4), (0, (0, 0, 0), 0)])]) (N := 3) (fuel := 70) hIQ (List.forall_mem_cons.mpr ⟨qk_474 l, fun _ h => absurd h List.not_mem_nil⟩) (by decide +kernel)
def kq_482 : ek := (188, [.inr 86, .inl (0, 15), .inl (0, 0)], [], [], [(some (.inl (1, 1)), []), (some (.inl (0, 0)), [])], 1, 22)
/-- LoadsAheadModel tookOld -/
theorem qk_482 (l : Launch) : ek_ok l tQ iQ kq_482 := ek_good_ok (sp := sQ) (K := [kq_474]) (SP := []) (HS := [((2, [some (.inr 86, none), some (.inl (0, 15), none), some (.inl (0, 0), none), some (.inl (0, 4), none)], [], [], []), [(0, (0, 0, 0), 0), (1, (1, 3, 0), 4), (0, (0, 0, 0), 0)])]) (N := 3) (fuel := 70) hIQ (List.forall_mem_cons.mpr ⟨qk_474 l, fun _ h => absurd h List.not_mem_nil⟩) (by decide +kernel)
def kq_483 : ek := (174, [.inr 86, .inl (0, 0), .inl (0, 7)], [], [], [(some (.inl (1, 1)), []), (some (.inl (0, 0)), [])], 0, 0)
/-- LoadsAheadModel gives -/
theorem qk_483 (l : Launch) : ek_ok l tQ iQ kq_483 := ek_good_ok (sp := sQ) (K := []) (SP := []) (HS := []) (N := 0) (fuel := 38) hIQ (fun _ h => absurd h List.not_mem_nil) (by decide +kernel)
def kq_484 : ek := (173, [.inr 86, .inl (0, 1), .inl (0, 7)], [], [], [(some (.inl (0, 0)), []), (some (.inl ((-1), (-1))), [])], 1, 22)
/-- LoadsAheadModel giverOf -/
theorem qk_484 (l : Launch) : ek_ok l tQ iQ kq_484 := ek_good_ok (sp := sQ) (K := [kq_483]) (SP := []) (HS := [((4, [some (.inr 86, none), some (.inl (0, 1), none), some (.inl (0, 7), none), some (.inl ((-1), 0), none)], [], [], []), [(0, (0, 0, 0), 0), (2, (1, 3, 0), (-1)), (0, (0, 0, 0), 0)])]) (N := 3) (fuel := 28) hIQ (List.forall_mem_cons.mpr ⟨qk_483 l, fun _ h => absurd h List.not_mem_nil⟩) (by decide +kernel)
def kq_485 : ek := (180, [.inr 86, .inl (0, 1), .inl (0, 7)], [], [], [(some (.inl ((-2147483648), 2147483647)), [])], 2, 45)
/-- LoadsAheadModel readBy -/
theorem qk_485 (l : Launch) : ek_ok l tQ iQ kq_485 := ek_good_ok (sp := sQ) (K := [kq_484]) (SP := []) (HS := []) (N := 0) (fuel := 36) hIQ (List.forall_mem_cons.mpr ⟨qk_484 l, fun _ h => absurd h List.not_mem_nil⟩) (by decide +kernel)
def kq_486 : ek := (182, [.inr 86, .inl (0, 1)], [], [], [(some (.inl (0, 63)), [])], 3, 68)
/-- LoadsAheadModel placeBy -/
theorem qk_486 (l : Launch) : ek_ok l tQ iQ kq_486 := ek_good_ok (sp := sQ) (K := [kq_485]) (SP := []) (HS := []) (N := 0) (fuel := 54) hIQ (List.forall_mem_cons.mpr ⟨qk_485 l, fun _ h => absurd h List.not_mem_nil⟩) (by decide +kernel)
def kq_487 : ek := (183, [.inr 86, .inl (0, 1)], [], [(120, 999), (124, 999)], [(none, [])], 1, 22)
/-- LoadsAheadModel loads -/
theorem qk_487 (l : Launch) : ek_ok l tQ iQ kq_487 := ek_good_ok (sp := sQ) (K := [kq_474, kq_433]) (SP := []) (HS := [((9, [some (.inr 86, none), some (.inl (0, 1), none), some (.inl (0, 4), none), none, none, none], [], [], []), [(0, (0, 0, 0), 0), (1, (1, 2, 0), 4), (0, (0, 0, 0), 1), (0, (0, 0, 0), 0), (0, (0, 0, 0), 0)]), ((37, [some (.inr 86, none), some (.inl (0, 1), none), some (.inl (0, 3), none), some (.inl (0, 63), none), some (.inl ((-1), 0), none), some (.inl (0, 1), none)], [], [], []), [(0, (0, 0, 0), 0), (1, (1, 2, 0), 4), (0, (0, 0, 0), 0), (1, (1, 5, 0), 1), (0, (0, 0, 0), 0)])]) (N := 5) (fuel := 100) hIQ (List.forall_mem_cons.mpr ⟨qk_474 l, List.forall_mem_cons.mpr ⟨qk_433 l, fun _ h => absurd h List.not_mem_nil⟩⟩) (by decide +kernel)
def kq_488 : ek := (184, [.inr 86, .inl (0, 1), .inl (0, 63)], [], [], [(some (.inl (1, 1)), []), (some (.inl (0, 0)), [])], 0, 0)
/-- LoadsAheadModel covers -/
theorem qk_488 (l : Launch) : ek_ok l tQ iQ kq_488 := ek_good_ok (sp := sQ) (K := []) (SP := []) (HS := []) (N := 0) (fuel := 40) hIQ (fun _ h => absurd h List.not_mem_nil) (by decide +kernel)
def kq_489 : ek := (188, [.inr 86, .inl (0, 19), .inl (0, 1)], [], [], [(some (.inl (1, 1)), []), (some (.inl (0, 0)), [])], 1, 22)
/-- LoadsAheadModel tookOld -/
theorem qk_489 (l : Launch) : ek_ok l tQ iQ kq_489 := ek_good_ok (sp := sQ) (K := [kq_488]) (SP := []) (HS := [((2, [some (.inr 86, none), some (.inl (0, 19), none), some (.inl (0, 1), none), some (.inl (0, 4), none)], [], [], []), [(0, (0, 0, 0), 0), (1, (1, 3, 0), 4), (0, (0, 0, 0), 0)])]) (N := 3) (fuel := 70) hIQ (List.forall_mem_cons.mpr ⟨qk_488 l, fun _ h => absurd h List.not_mem_nil⟩) (by decide +kernel)
def kq_490 : ek := (189, [.inr 86, .inl (0, 19), .inl (0, 1)], [], [(84, 3), (87, 999)], [(none, [])], 1, 21)
/-- LoadsAheadModel melts -/
theorem qk_490 (l : Launch) : ek_ok l tQ iQ kq_490 := ek_good_ok (sp := sQ) (K := [kq_437]) (SP := []) (HS := []) (N := 0) (fuel := 90) hIQ (List.forall_mem_cons.mpr ⟨qk_437 l, fun _ h => absurd h List.not_mem_nil⟩) (by decide +kernel)
def kq_493 : ek := (188, [.inr 86, .inl (0, 3), .inl (0, 1)], [], [], [(some (.inl (1, 1)), []), (some (.inl (0, 0)), [])], 1, 22)
/-- LoadsAheadModel tookOld -/
theorem qk_493 (l : Launch) : ek_ok l tQ iQ kq_493 := ek_good_ok (sp := sQ) (K := [kq_488]) (SP := []) (HS := [((2, [some (.inr 86, none), some (.inl (0, 3), none), some (.inl (0, 1), none), some (.inl (0, 4), none)], [], [], []), [(0, (0, 0, 0), 0), (1, (1, 3, 0), 4), (0, (0, 0, 0), 0)])]) (N := 3) (fuel := 70) hIQ (List.forall_mem_cons.mpr ⟨qk_488 l, fun _ h => absurd h List.not_mem_nil⟩) (by decide +kernel)
def kq_494 : ek := (188, [.inr 86, .inl (0, 7), .inl (0, 1)], [], [], [(some (.inl (1, 1)), []), (some (.inl (0, 0)), [])], 1, 22)
/-- LoadsAheadModel tookOld -/
theorem qk_494 (l : Launch) : ek_ok l tQ iQ kq_494 := ek_good_ok (sp := sQ) (K := [kq_488]) (SP := []) (HS := [((2, [some (.inr 86, none), some (.inl (0, 7), none), some (.inl (0, 1), none), some (.inl (0, 4), none)], [], [], []), [(0, (0, 0, 0), 0), (1, (1, 3, 0), 4), (0, (0, 0, 0), 0)])]) (N := 3) (fuel := 70) hIQ (List.forall_mem_cons.mpr ⟨qk_488 l, fun _ h => absurd h List.not_mem_nil⟩) (by decide +kernel)
def kq_495 : ek := (188, [.inr 86, .inl (0, 15), .inl (0, 1)], [], [], [(some (.inl (1, 1)), []), (some (.inl (0, 0)), [])], 1, 22)
/-- LoadsAheadModel tookOld -/
theorem qk_495 (l : Launch) : ek_ok l tQ iQ kq_495 := ek_good_ok (sp := sQ) (K := [kq_488]) (SP := []) (HS := [((2, [some (.inr 86, none), some (.inl (0, 15), none), some (.inl (0, 1), none), some (.inl (0, 4), none)], [], [], []), [(0, (0, 0, 0), 0), (1, (1, 3, 0), 4), (0, (0, 0, 0), 0)])]) (N := 3) (fuel := 70) hIQ (List.forall_mem_cons.mpr ⟨qk_488 l, fun _ h => absurd h List.not_mem_nil⟩) (by decide +kernel)
def kq_496 : ek := (174, [.inr 86, .inl (0, 3), .inl (0, 7)], [], [], [(some (.inl (1, 1)), []), (some (.inl (0, 0)), [])], 0, 0)
/-- LoadsAheadModel gives -/
theorem qk_496 (l : Launch) : ek_ok l tQ iQ kq_496 := ek_good_ok (sp := sQ) (K := []) (SP := []) (HS := []) (N := 0) (fuel := 38) hIQ (fun _ h => absurd h List.not_mem_nil) (by decide +kernel)
def kq_497 : ek := (173, [.inr 86, .inl (0, 3), .inl (0, 7)], [], [], [(some (.inl (0, 2)), []), (some (.inl ((-1), (-1))), [])], 1, 22)
/-- LoadsAheadModel giverOf -/
theorem qk_497 (l : Launch) : ek_ok l tQ iQ kq_497 := ek_good_ok (sp := sQ) (K := [kq_496]) (SP := []) (HS := [((4, [some (.inr 86, none), some (.inl (0, 3), none), some (.inl (0, 7), none), some (.inl ((-1), 2), none)], [], [], []), [(0, (0, 0, 0), 0), (2, (1, 3, 0), (-1)), (0, (0, 0, 0), 0)])]) (N := 3) (fuel := 28) hIQ (List.forall_mem_cons.mpr ⟨qk_496 l, fun _ h => absurd h List.not_mem_nil⟩) (by decide +kernel)
def kq_498 : ek := (180, [.inr 86, .inl (0, 3), .inl (0, 7)], [], [], [(some (.inl ((-2147483648), 2147483647)), [])], 2, 45)
/-- LoadsAheadModel readBy -/
theorem qk_498 (l : Launch) : ek_ok l tQ iQ kq_498 := ek_good_ok (sp := sQ) (K := [kq_497]) (SP := []) (HS := []) (N := 0) (fuel := 36) hIQ (List.forall_mem_cons.mpr ⟨qk_497 l, fun _ h => absurd h List.not_mem_nil⟩) (by decide +kernel)
def kq_499 : ek := (182, [.inr 86, .inl (0, 3)], [], [], [(some (.inl (0, 63)), [])], 3, 68)
/-- LoadsAheadModel placeBy -/
theorem qk_499 (l : Launch) : ek_ok l tQ iQ kq_499 := ek_good_ok (sp := sQ) (K := [kq_498]) (SP := []) (HS := []) (N := 0) (fuel := 54) hIQ (List.forall_mem_cons.mpr ⟨qk_498 l, fun _ h => absurd h List.not_mem_nil⟩) (by decide +kernel)
def kq_500 : ek := (184, [.inr 86, .inl (0, 3), .inl (0, 63)], [], [], [(some (.inl (1, 1)), []), (some (.inl (0, 0)), [])], 0, 0)
/-- LoadsAheadModel covers -/
theorem qk_500 (l : Launch) : ek_ok l tQ iQ kq_500 := ek_good_ok (sp := sQ) (K := []) (SP := []) (HS := []) (N := 0) (fuel := 40) hIQ (fun _ h => absurd h List.not_mem_nil) (by decide +kernel)
def kq_501 : ek := (183, [.inr 86, .inl (0, 3)], [], [(120, 999), (124, 999)], [(none, [])], 1, 22)
/-- LoadsAheadModel loads -/
theorem qk_501 (l : Launch) : ek_ok l tQ iQ kq_501 := ek_good_ok (sp := sQ) (K := [kq_500, kq_433]) (SP := []) (HS := [((9, [some (.inr 86, none), some (.inl (0, 3), none), some (.inl (0, 4), none), none, none, none], [], [], []), [(0, (0, 0, 0), 0), (1, (1, 2, 0), 4), (0, (0, 0, 0), 1), (0, (0, 0, 0), 0), (0, (0, 0, 0), 0)]), ((37, [some (.inr 86, none), some (.inl (0, 3), none), some (.inl (0, 3), none), some (.inl (0, 63), none), some (.inl ((-1), 2), none), some (.inl (0, 3), none)], [], [], []), [(0, (0, 0, 0), 0), (1, (1, 2, 0), 4), (0, (0, 0, 0), 0), (1, (1, 5, 0), 3), (0, (0, 0, 0), 0)])]) (N := 5) (fuel := 100) hIQ (List.forall_mem_cons.mpr ⟨qk_500 l, List.forall_mem_cons.mpr ⟨qk_433 l, fun _ h => absurd h List.not_mem_nil⟩⟩) (by decide +kernel)
def kq_502 : ek := (188, [.inr 86, .inl (0, 19), .inl (0, 3)], [], [], [(some (.inl (1, 1)), []), (some (.inl (0, 0)), [])], 1, 22)
/-- LoadsAheadModel tookOld -/
theorem qk_502 (l : Launch) : ek_ok l tQ iQ kq_502 := ek_good_ok (sp := sQ) (K := [kq_500]) (SP := []) (HS := [((2, [some (.inr 86, none), some (.inl (0, 19), none), some (.inl (0, 3), none), some (.inl (0, 4), none)], [], [], []), [(0, (0, 0, 0), 0), (1, (1, 3, 0), 4), (0, (0, 0, 0), 0)])]) (N := 3) (fuel := 70) hIQ (List.forall_mem_cons.mpr ⟨qk_500 l, fun _ h => absurd h List.not_mem_nil⟩) (by decide +kernel)
def kq_503 : ek := (189, [.inr 86, .inl (0, 19), .inl (0, 3)], [], [(84, 3), (87, 999)], [(none, [])], 1, 21)
/-- LoadsAheadModel melts -/
theorem qk_503 (l : Launch) : ek_ok l tQ iQ kq_503 := ek_good_ok (sp := sQ) (K := [kq_437]) (SP := []) (HS := []) (N := 0) (fuel := 90) hIQ (List.forall_mem_cons.mpr ⟨qk_437 l, fun _ h => absurd h List.not_mem_nil⟩) (by decide +kernel)
def kq_506 : ek := (188, [.inr 86, .inl (0, 7), .inl (0, 3)], [], [], [(some (.inl (1, 1)), []), (some (.inl (0, 0)), [])], 1, 22)
/-- LoadsAheadModel tookOld -/
theorem qk_506 (l : Launch) : ek_ok l tQ iQ kq_506 := ek_good_ok (sp := sQ) (K := [kq_500]) (SP := []) (HS := [((2, [some (.inr 86, none), some (.inl (0, 7), none), some (.inl (0, 3), none), some (.inl (0, 4), none)], [], [], []), [(0, (0, 0, 0), 0), (1, (1, 3, 0), 4), (0, (0, 0, 0), 0)])]) (N := 3) (fuel := 70) hIQ (List.forall_mem_cons.mpr ⟨qk_500 l, fun _ h => absurd h List.not_mem_nil⟩) (by decide +kernel)
def kq_507 : ek := (188, [.inr 86, .inl (0, 15), .inl (0, 3)], [], [], [(some (.inl (1, 1)), []), (some (.inl (0, 0)), [])], 1, 22)
/-- LoadsAheadModel tookOld -/
theorem qk_507 (l : Launch) : ek_ok l tQ iQ kq_507 := ek_good_ok (sp := sQ) (K := [kq_500]) (SP := []) (HS := [((2, [some (.inr 86, none), some (.inl (0, 15), none), some (.inl (0, 3), none), some (.inl (0, 4), none)], [], [], []), [(0, (0, 0, 0), 0), (1, (1, 3, 0), 4), (0, (0, 0, 0), 0)])]) (N := 3) (fuel := 70) hIQ (List.forall_mem_cons.mpr ⟨qk_500 l, fun _ h => absurd h List.not_mem_nil⟩) (by decide +kernel)
def kq_508 : ek := (174, [.inr 86, .inl (0, 7), .inl (0, 7)], [], [], [(some (.inl (1, 1)), []), (some (.inl (0, 0)), [])], 0, 0)
/-- LoadsAheadModel gives -/
theorem qk_508 (l : Launch) : ek_ok l tQ iQ kq_508 := ek_good_ok (sp := sQ) (K := []) (SP := []) (HS := []) (N := 0) (fuel := 38) hIQ (fun _ h => absurd h List.not_mem_nil) (by decide +kernel)
def kq_509 : ek := (173, [.inr 86, .inl (0, 7), .inl (0, 7)], [], [], [(some (.inl (0, 6)), []), (some (.inl ((-1), (-1))), [])], 1, 22)
/-- LoadsAheadModel giverOf -/
theorem qk_509 (l : Launch) : ek_ok l tQ iQ kq_509 := ek_good_ok (sp := sQ) (K := [kq_508]) (SP := []) (HS := [((4, [some (.inr 86, none), some (.inl (0, 7), none), some (.inl (0, 7), none), some (.inl ((-1), 6), none)], [], [], []), [(0, (0, 0, 0), 0), (2, (1, 3, 0), (-1)), (0, (0, 0, 0), 0)])]) (N := 3) (fuel := 28) hIQ (List.forall_mem_cons.mpr ⟨qk_508 l, fun _ h => absurd h List.not_mem_nil⟩) (by decide +kernel)
def kq_510 : ek := (180, [.inr 86, .inl (0, 7), .inl (0, 7)], [], [], [(some (.inl ((-2147483648), 2147483647)), [])], 2, 45)
/-- LoadsAheadModel readBy -/
theorem qk_510 (l : Launch) : ek_ok l tQ iQ kq_510 := ek_good_ok (sp := sQ) (K := [kq_509]) (SP := []) (HS := []) (N := 0) (fuel := 36) hIQ (List.forall_mem_cons.mpr ⟨qk_509 l, fun _ h => absurd h List.not_mem_nil⟩) (by decide +kernel)
def kq_511 : ek := (182, [.inr 86, .inl (0, 7)], [], [], [(some (.inl (0, 63)), [])], 3, 68)
/-- LoadsAheadModel placeBy -/
theorem qk_511 (l : Launch) : ek_ok l tQ iQ kq_511 := ek_good_ok (sp := sQ) (K := [kq_510]) (SP := []) (HS := []) (N := 0) (fuel := 54) hIQ (List.forall_mem_cons.mpr ⟨qk_510 l, fun _ h => absurd h List.not_mem_nil⟩) (by decide +kernel)
def kq_512 : ek := (184, [.inr 86, .inl (0, 7), .inl (0, 63)], [], [], [(some (.inl (1, 1)), []), (some (.inl (0, 0)), [])], 0, 0)
/-- LoadsAheadModel covers -/
theorem qk_512 (l : Launch) : ek_ok l tQ iQ kq_512 := ek_good_ok (sp := sQ) (K := []) (SP := []) (HS := []) (N := 0) (fuel := 40) hIQ (fun _ h => absurd h List.not_mem_nil) (by decide +kernel)
def kq_513 : ek := (183, [.inr 86, .inl (0, 7)], [], [(120, 999), (124, 999)], [(none, [])], 1, 22)
/-- LoadsAheadModel loads -/
theorem qk_513 (l : Launch) : ek_ok l tQ iQ kq_513 := ek_good_ok (sp := sQ) (K := [kq_512, kq_433]) (SP := []) (HS := [((9, [some (.inr 86, none), some (.inl (0, 7), none), some (.inl (0, 4), none), none, none, none], [], [], []), [(0, (0, 0, 0), 0), (1, (1, 2, 0), 4), (0, (0, 0, 0), 1), (0, (0, 0, 0), 0), (0, (0, 0, 0), 0)]), ((37, [some (.inr 86, none), some (.inl (0, 7), none), some (.inl (0, 3), none), some (.inl (0, 63), none), some (.inl ((-1), 6), none), some (.inl (0, 7), none)], [], [], []), [(0, (0, 0, 0), 0), (1, (1, 2, 0), 4), (0, (0, 0, 0), 0), (1, (1, 5, 0), 7), (0, (0, 0, 0), 0)])]) (N := 5) (fuel := 100) hIQ (List.forall_mem_cons.mpr ⟨qk_512 l, List.forall_mem_cons.mpr ⟨qk_433 l, fun _ h => absurd h List.not_mem_nil⟩⟩) (by decide +kernel)
def kq_514 : ek := (188, [.inr 86, .inl (0, 19), .inl (0, 7)], [], [], [(some (.inl (1, 1)), []), (some (.inl (0, 0)), [])], 1, 22)
/-- LoadsAheadModel tookOld -/
theorem qk_514 (l : Launch) : ek_ok l tQ iQ kq_514 := ek_good_ok (sp := sQ) (K := [kq_512]) (SP := []) (HS := [((2, [some (.inr 86, none), some (.inl (0, 19), none), some (.inl (0, 7), none), some (.inl (0, 4), none)], [], [], []), [(0, (0, 0, 0), 0), (1, (1, 3, 0), 4), (0, (0, 0, 0), 0)])]) (N := 3) (fuel := 70) hIQ (List.forall_mem_cons.mpr ⟨qk_512 l, fun _ h => absurd h List.not_mem_nil⟩) (by decide +kernel)
def kq_515 : ek := (189, [.inr 86, .inl (0, 19), .inl (0, 7)], [], [(84, 3), (87, 999)], [(none, [])], 1, 21)
/-- LoadsAheadModel melts -/
theorem qk_515 (l : Launch) : ek_ok l tQ iQ kq_515 := ek_good_ok (sp := sQ) (K := [kq_437]) (SP := []) (HS := []) (N := 0) (fuel := 90) hIQ (List.forall_mem_cons.mpr ⟨qk_437 l, fun _ h => absurd h List.not_mem_nil⟩) (by decide +kernel)
end
section
def kq_518 : ek := (188, [.inr 86, .inl (0, 15), .inl (0, 7)], [], [], [(some (.inl (1, 1)), []), (some (.inl (0, 0)), [])], 1, 22)
/-- LoadsAheadModel tookOld -/
theorem qk_518 (l : Launch) : ek_ok l tQ iQ kq_518 := ek_good_ok (sp := sQ) (K := [kq_512]) (SP := []) (HS := [((2, [some (.inr 86, none), some (.inl (0, 15), none), some (.inl (0, 7), none), some (.inl (0, 4), none)], [], [], []), [(0, (0, 0, 0), 0), (1, (1, 3, 0), 4), (0, (0, 0, 0), 0)])]) (N := 3) (fuel := 70) hIQ (List.forall_mem_cons.mpr ⟨qk_512 l, fun _ h => absurd h List.not_mem_nil⟩) (by decide +kernel)
def kq_519 : ek := (174, [.inr 86, .inl (0, 15), .inl (0, 7)], [], [], [(some (.inl (1, 1)), []), (some (.inl (0, 0)), [])], 0, 0)
/-- LoadsAheadModel gives -/
theorem qk_519 (l : Launch) : ek_ok l tQ iQ kq_519 := ek_good_ok (sp := sQ) (K := []) (SP := []) (HS := []) (N := 0) (fuel := 38) hIQ (fun _ h => absurd h List.not_mem_nil) (by decide +kernel)
def kq_520 : ek := (173, [.inr 86, .inl (0, 15), .inl (0, 7)], [], [], [(some (.inl (0, 14)), []), (some (.inl ((-1), (-1))), [])], 1, 22)
/-- LoadsAheadModel giverOf -/
theorem qk_520 (l : Launch) : ek_ok l tQ iQ kq_520 := ek_good_ok (sp := sQ) (K := [kq_519]) (SP := []) (HS := [((4, [some (.inr 86, none), some (.inl (0, 15), none), some (.inl (0, 7), none), some (.inl ((-1), 14), none)], [], [], []), [(0, (0, 0, 0), 0), (2, (1, 3, 0), (-1)), (0, (0, 0, 0), 0)])]) (N := 3) (fuel := 28) hIQ (List.forall_mem_cons.mpr ⟨qk_519 l, fun _ h => absurd h List.not_mem_nil⟩) (by decide +kernel)
def kq_521 : ek := (180, [.inr 86, .inl (0, 15), .inl (0, 7)], [], [], [(some (.inl ((-2147483648), 2147483647)), [])], 2, 45)
/-- LoadsAheadModel readBy -/
theorem qk_521 (l : Launch) : ek_ok l tQ iQ kq_521 := ek_good_ok (sp := sQ) (K := [kq_520]) (SP := []) (HS := []) (N := 0) (fuel := 36) hIQ (List.forall_mem_cons.mpr ⟨qk_520 l, fun _ h => absurd h List.not_mem_nil⟩) (by decide +kernel)
def kq_522 : ek := (182, [.inr 86, .inl (0, 15)], [], [], [(some (.inl (0, 63)), [])], 3, 68)
/-- LoadsAheadModel placeBy -/
theorem qk_522 (l : Launch) : ek_ok l tQ iQ kq_522 := ek_good_ok (sp := sQ) (K := [kq_521]) (SP := []) (HS := []) (N := 0) (fuel := 54) hIQ (List.forall_mem_cons.mpr ⟨qk_521 l, fun _ h => absurd h List.not_mem_nil⟩) (by decide +kernel)
def kq_523 : ek := (184, [.inr 86, .inl (0, 15), .inl (0, 63)], [], [], [(some (.inl (1, 1)), []), (some (.inl (0, 0)), [])], 0, 0)
/-- LoadsAheadModel covers -/
theorem qk_523 (l : Launch) : ek_ok l tQ iQ kq_523 := ek_good_ok (sp := sQ) (K := []) (SP := []) (HS := []) (N := 0) (fuel := 40) hIQ (fun _ h => absurd h List.not_mem_nil) (by decide +kernel)
def kq_524 : ek := (183, [.inr 86, .inl (0, 15)], [], [(120, 999), (124, 999)], [(none, [])], 1, 22)
/-- LoadsAheadModel loads -/
theorem qk_524 (l : Launch) : ek_ok l tQ iQ kq_524 := ek_good_ok (sp := sQ) (K := [kq_523, kq_433]) (SP := []) (HS := [((9, [some (.inr 86, none), some (.inl (0, 15), none), some (.inl (0, 4), none), none, none, none], [], [], []), [(0, (0, 0, 0), 0), (1, (1, 2, 0), 4), (0, (0, 0, 0), 1), (0, (0, 0, 0), 0), (0, (0, 0, 0), 0)]), ((37, [some (.inr 86, none), some (.inl (0, 15), none), some (.inl (0, 3), none), some (.inl (0, 63), none), some (.inl ((-1), 15), none), some (.inl (0, 15), none)], [], [], []), [(0, (0, 0, 0), 0), (1, (1, 2, 0), 4), (0, (0, 0, 0), 0), (1, (1, 5, 0), 15), (0, (0, 0, 0), 0)])]) (N := 5) (fuel := 100) hIQ (List.forall_mem_cons.mpr ⟨qk_523 l, List.forall_mem_cons.mpr ⟨qk_433 l, fun _ h => absurd h List.not_mem_nil⟩⟩) (by decide +kernel)
def kq_525 : ek := (188, [.inr 86, .inl (0, 19), .inl (0, 15)], [], [], [(some (.inl (1, 1)), []), (some (.inl (0, 0)), [])], 1, 22)
/-- LoadsAheadModel tookOld -/
theorem qk_525 (l : Launch) : ek_ok l tQ iQ kq_525 := ek_good_ok (sp := sQ) (K := [kq_523]) (SP := []) (HS := [((2, [some (.inr 86, none), some (.inl (0, 19), none), some (.inl (0, 15), none), some (.inl (0, 4), none)], [], [], []), [(0, (0, 0, 0), 0), (1, (1, 3, 0), 4), (0, (0, 0, 0), 0)])]) (N := 3) (fuel := 70) hIQ (List.forall_mem_cons.mpr ⟨qk_523 l, fun _ h => absurd h List.not_mem_nil⟩) (by decide +kernel)
def kq_526 : ek := (189, [.inr 86, .inl (0, 19), .inl (0, 15)], [], [(84, 3), (87, 999)], [(none, [])], 1, 21)
/-- LoadsAheadModel melts -/
theorem qk_526 (l : Launch) : ek_ok l tQ iQ kq_526 := ek_good_ok (sp := sQ) (K := [kq_437]) (SP := []) (HS := []) (N := 0) (fuel := 90) hIQ (List.forall_mem_cons.mpr ⟨qk_437 l, fun _ h => absurd h List.not_mem_nil⟩) (by decide +kernel)
def kq_529 : ek := (172, [.inr 86, .inl (0, 0), .inl (0, 7)], [], [], [(some (.inl (1, 1)), []), (some (.inl (0, 0)), [])], 0, 0)
/-- LoadsAheadModel doesRead -/
theorem qk_529 (l : Launch) : ek_ok l tQ iQ kq_529 := ek_good_ok (sp := sQ) (K := []) (SP := []) (HS := []) (N := 0) (fuel := 48) hIQ (fun _ h => absurd h List.not_mem_nil) (by decide +kernel)
def kq_530 : ek := (197, [.inr 86, .inl (0, 0)], [], [], [(some (.inl (1, 1)), [])], 1, 23)
/-- LoadsAheadModel areSourcesDone -/
theorem qk_530 (l : Launch) : ek_ok l tQ iQ kq_530 := ek_good_ok (sp := sQ) (K := [kq_529, kq_470]) (SP := []) (HS := [((2, [some (.inr 86, none), some (.inl (0, 0), none), some (.inl (0, 8), none), none], [], [], []), [(0, (0, 0, 0), 0), (1, (1, 2, 0), 8), (0, (0, 0, 0), 0)])]) (N := 3) (fuel := 48) hIQ (List.forall_mem_cons.mpr ⟨qk_529 l, List.forall_mem_cons.mpr ⟨qk_470 l, fun _ h => absurd h List.not_mem_nil⟩⟩) (by decide +kernel)
def kq_531 : ek := (172, [.inr 86, .inl (0, 0), .inl (0, 0)], [], [], [(some (.inl (1, 1)), []), (some (.inl (0, 0)), [])], 0, 0)
/-- LoadsAheadModel doesRead -/
theorem qk_531 (l : Launch) : ek_ok l tQ iQ kq_531 := ek_good_ok (sp := sQ) (K := []) (SP := []) (HS := []) (N := 0) (fuel := 48) hIQ (fun _ h => absurd h List.not_mem_nil) (by decide +kernel)
def kq_532 : ek := (172, [.inr 86, .inl (0, 0), .inl (0, 1)], [], [], [(some (.inl (1, 1)), []), (some (.inl (0, 0)), [])], 0, 0)
/-- LoadsAheadModel doesRead -/
theorem qk_532 (l : Launch) : ek_ok l tQ iQ kq_532 := ek_good_ok (sp := sQ) (K := []) (SP := []) (HS := []) (N := 0) (fuel := 48) hIQ (fun _ h => absurd h List.not_mem_nil) (by decide +kernel)
def kq_533 : ek := (172, [.inr 86, .inl (0, 0), .inl (0, 3)], [], [], [(some (.inl (1, 1)), []), (some (.inl (0, 0)), [])], 0, 0)
/-- LoadsAheadModel doesRead -/
theorem qk_533 (l : Launch) : ek_ok l tQ iQ kq_533 := ek_good_ok (sp := sQ) (K := []) (SP := []) (HS := []) (N := 0) (fuel := 48) hIQ (fun _ h => absurd h List.not_mem_nil) (by decide +kernel)
def kq_534 : ek := (173, [.inr 86, .inl (0, 0), .inl (0, 3)], [], [], [(some (.inl ((-1), (-1))), [])], 0, 0)
/-- LoadsAheadModel giverOf -/
theorem qk_534 (l : Launch) : ek_ok l tQ iQ kq_534 := ek_good_ok (sp := sQ) (K := []) (SP := []) (HS := [((4, [some (.inr 86, none), some (.inl (0, 0), none), some (.inl (0, 3), none), some (.inl ((-1), (-1)), none)], [], [], []), [(0, (0, 0, 0), 0)])]) (N := 1) (fuel := 18) hIQ (fun _ h => absurd h List.not_mem_nil) (by decide +kernel)
def kq_535 : ek := (173, [.inr 86, .inl (0, 0), .inl (0, 1)], [], [], [(some (.inl ((-1), (-1))), [])], 0, 0)
/-- LoadsAheadModel giverOf -/
theorem qk_535 (l : Launch) : ek_ok l tQ iQ kq_535 := ek_good_ok (sp := sQ) (K := []) (SP := []) (HS := [((4, [some (.inr 86, none), some (.inl (0, 0), none), some (.inl (0, 1), none), some (.inl ((-1), (-1)), none)], [], [], []), [(0, (0, 0, 0), 0)])]) (N := 1) (fuel := 18) hIQ (fun _ h => absurd h List.not_mem_nil) (by decide +kernel)
def kq_536 : ek := (173, [.inr 86, .inl (0, 0), .inl (0, 0)], [], [], [(some (.inl ((-1), (-1))), [])], 0, 0)
/-- LoadsAheadModel giverOf -/
theorem qk_536 (l : Launch) : ek_ok l tQ iQ kq_536 := ek_good_ok (sp := sQ) (K := []) (SP := []) (HS := [((4, [some (.inr 86, none), some (.inl (0, 0), none), some (.inl (0, 0), none), some (.inl ((-1), (-1)), none)], [], [], []), [(0, (0, 0, 0), 0)])]) (N := 1) (fuel := 18) hIQ (fun _ h => absurd h List.not_mem_nil) (by decide +kernel)
def kq_537 : ek := (199, [.inr 86, .inl (0, 0)], [], [], [(some (.inl (1, 1)), [])], 0, 0)
/-- LoadsAheadModel areStoresDone -/
theorem qk_537 (l : Launch) : ek_ok l tQ iQ kq_537 := ek_good_ok (sp := sQ) (K := []) (SP := []) (HS := [((2, [some (.inr 86, none), some (.inl (0, 0), none), some (.inl (0, 0), none)], [], [], []), [(0, (0, 0, 0), 0)])]) (N := 1) (fuel := 18) hIQ (fun _ h => absurd h List.not_mem_nil) (by decide +kernel)
def kq_538 : ek := (198, [.inr 86, .inl (0, 0)], [], [], [(some (.inl (0, 0)), [])], 1, 22)
/-- LoadsAheadModel isKeptBack -/
theorem qk_538 (l : Launch) : ek_ok l tQ iQ kq_538 := ek_good_ok (sp := sQ) (K := [kq_537]) (SP := []) (HS := [((47, [some (.inr 86, none), some (.inl (0, 0), none), some (.inl ((-1), (-1)), none)], [], [], []), [(0, (0, 0, 0), 0)])]) (N := 1) (fuel := 48) hIQ (List.forall_mem_cons.mpr ⟨qk_537 l, fun _ h => absurd h List.not_mem_nil⟩) (by decide +kernel)
def kq_539 : ek := (201, [.inr 86, .inl (0, 0), .inl (0, 0), .inl (0, 15)], [], [(109, 999)], [(none, [])], 0, 0)
/-- LoadsAheadModel feels -/
theorem qk_539 (l : Launch) : ek_ok l tQ iQ kq_539 := ek_good_ok (sp := sQ) (K := []) (SP := []) (HS := []) (N := 0) (fuel := 120) hIQ (fun _ h => absurd h List.not_mem_nil) (by decide +kernel)
def kq_542 : ek := (172, [.inr 86, .inl (0, 1), .inl (0, 7)], [], [], [(some (.inl (1, 1)), []), (some (.inl (0, 0)), [])], 0, 0)
/-- LoadsAheadModel doesRead -/
theorem qk_542 (l : Launch) : ek_ok l tQ iQ kq_542 := ek_good_ok (sp := sQ) (K := []) (SP := []) (HS := []) (N := 0) (fuel := 48) hIQ (fun _ h => absurd h List.not_mem_nil) (by decide +kernel)
def kq_543 : ek := (197, [.inr 86, .inl (0, 1)], [], [], [(some (.inl (0, 0)), []), (some (.inl (1, 1)), [])], 2, 45)
/-- LoadsAheadModel areSourcesDone -/
theorem qk_543 (l : Launch) : ek_ok l tQ iQ kq_543 := ek_good_ok (sp := sQ) (K := [kq_484, kq_542]) (SP := []) (HS := [((2, [some (.inr 86, none), some (.inl (0, 1), none), some (.inl (0, 8), none), none], [], [], []), [(0, (0, 0, 0), 0), (1, (1, 2, 0), 8), (0, (0, 0, 0), 0)])]) (N := 3) (fuel := 60) hIQ (List.forall_mem_cons.mpr ⟨qk_484 l, List.forall_mem_cons.mpr ⟨qk_542 l, fun _ h => absurd h List.not_mem_nil⟩⟩) (by decide +kernel)
def kq_544 : ek := (172, [.inr 86, .inl (0, 1), .inl (0, 0)], [], [], [(some (.inl (1, 1)), []), (some (.inl (0, 0)), [])], 0, 0)
/-- LoadsAheadModel doesRead -/
theorem qk_544 (l : Launch) : ek_ok l tQ iQ kq_544 := ek_good_ok (sp := sQ) (K := []) (SP := []) (HS := []) (N := 0) (fuel := 48) hIQ (fun _ h => absurd h List.not_mem_nil) (by decide +kernel)
def kq_545 : ek := (172, [.inr 86, .inl (0, 1), .inl (0, 1)], [], [], [(some (.inl (1, 1)), []), (some (.inl (0, 0)), [])], 0, 0)
/-- LoadsAheadModel doesRead -/
theorem qk_545 (l : Launch) : ek_ok l tQ iQ kq_545 := ek_good_ok (sp := sQ) (K := []) (SP := []) (HS := []) (N := 0) (fuel := 48) hIQ (fun _ h => absurd h List.not_mem_nil) (by decide +kernel)
def kq_546 : ek := (172, [.inr 86, .inl (0, 1), .inl (0, 3)], [], [], [(some (.inl (1, 1)), []), (some (.inl (0, 0)), [])], 0, 0)
/-- LoadsAheadModel doesRead -/
theorem qk_546 (l : Launch) : ek_ok l tQ iQ kq_546 := ek_good_ok (sp := sQ) (K := []) (SP := []) (HS := []) (N := 0) (fuel := 48) hIQ (fun _ h => absurd h List.not_mem_nil) (by decide +kernel)
def kq_547 : ek := (174, [.inr 86, .inl (0, 0), .inl (0, 3)], [], [], [(some (.inl (1, 1)), []), (some (.inl (0, 0)), [])], 0, 0)
/-- LoadsAheadModel gives -/
theorem qk_547 (l : Launch) : ek_ok l tQ iQ kq_547 := ek_good_ok (sp := sQ) (K := []) (SP := []) (HS := []) (N := 0) (fuel := 38) hIQ (fun _ h => absurd h List.not_mem_nil) (by decide +kernel)
def kq_548 : ek := (173, [.inr 86, .inl (0, 1), .inl (0, 3)], [], [], [(some (.inl (0, 0)), []), (some (.inl ((-1), (-1))), [])], 1, 22)
/-- LoadsAheadModel giverOf -/
theorem qk_548 (l : Launch) : ek_ok l tQ iQ kq_548 := ek_good_ok (sp := sQ) (K := [kq_547]) (SP := []) (HS := [((4, [some (.inr 86, none), some (.inl (0, 1), none), some (.inl (0, 3), none), some (.inl ((-1), 0), none)], [], [], []), [(0, (0, 0, 0), 0), (2, (1, 3, 0), (-1)), (0, (0, 0, 0), 0)])]) (N := 3) (fuel := 28) hIQ (List.forall_mem_cons.mpr ⟨qk_547 l, fun _ h => absurd h List.not_mem_nil⟩) (by decide +kernel)
def kq_549 : ek := (174, [.inr 86, .inl (0, 0), .inl (0, 1)], [], [], [(some (.inl (1, 1)), []), (some (.inl (0, 0)), [])], 0, 0)
/-- LoadsAheadModel gives -/
theorem qk_549 (l : Launch) : ek_ok l tQ iQ kq_549 := ek_good_ok (sp := sQ) (K := []) (SP := []) (HS := []) (N := 0) (fuel := 38) hIQ (fun _ h => absurd h List.not_mem_nil) (by decide +kernel)
def kq_550 : ek := (173, [.inr 86, .inl (0, 1), .inl (0, 1)], [], [], [(some (.inl (0, 0)), []), (some (.inl ((-1), (-1))), [])], 1, 22)
/-- LoadsAheadModel giverOf -/
theorem qk_550 (l : Launch) : ek_ok l tQ iQ kq_550 := ek_good_ok (sp := sQ) (K := [kq_549]) (SP := []) (HS := [((4, [some (.inr 86, none), some (.inl (0, 1), none), some (.inl (0, 1), none), some (.inl ((-1), 0), none)], [], [], []), [(0, (0, 0, 0), 0), (2, (1, 3, 0), (-1)), (0, (0, 0, 0), 0)])]) (N := 3) (fuel := 28) hIQ (List.forall_mem_cons.mpr ⟨qk_549 l, fun _ h => absurd h List.not_mem_nil⟩) (by decide +kernel)
def kq_551 : ek := (174, [.inr 86, .inl (0, 0), .inl (0, 0)], [], [], [(some (.inl (1, 1)), []), (some (.inl (0, 0)), [])], 0, 0)
/-- LoadsAheadModel gives -/
theorem qk_551 (l : Launch) : ek_ok l tQ iQ kq_551 := ek_good_ok (sp := sQ) (K := []) (SP := []) (HS := []) (N := 0) (fuel := 38) hIQ (fun _ h => absurd h List.not_mem_nil) (by decide +kernel)
def kq_552 : ek := (173, [.inr 86, .inl (0, 1), .inl (0, 0)], [], [], [(some (.inl (0, 0)), []), (some (.inl ((-1), (-1))), [])], 1, 22)
/-- LoadsAheadModel giverOf -/
theorem qk_552 (l : Launch) : ek_ok l tQ iQ kq_552 := ek_good_ok (sp := sQ) (K := [kq_551]) (SP := []) (HS := [((4, [some (.inr 86, none), some (.inl (0, 1), none), some (.inl (0, 0), none), some (.inl ((-1), 0), none)], [], [], []), [(0, (0, 0, 0), 0), (2, (1, 3, 0), (-1)), (0, (0, 0, 0), 0)])]) (N := 3) (fuel := 28) hIQ (List.forall_mem_cons.mpr ⟨qk_551 l, fun _ h => absurd h List.not_mem_nil⟩) (by decide +kernel)
def kq_553 : ek := (199, [.inr 86, .inl (0, 1)], [], [], [(some (.inl (0, 0)), []), (some (.inl (1, 1)), [])], 0, 0)
/-- LoadsAheadModel areStoresDone -/
theorem qk_553 (l : Launch) : ek_ok l tQ iQ kq_553 := ek_good_ok (sp := sQ) (K := []) (SP := []) (HS := [((2, [some (.inr 86, none), some (.inl (0, 1), none), some (.inl (0, 1), none)], [], [], []), [(0, (0, 0, 0), 0), (1, (1, 2, 0), 1), (0, (0, 0, 0), 0)])]) (N := 3) (fuel := 44) hIQ (fun _ h => absurd h List.not_mem_nil) (by decide +kernel)
def kq_554 : ek := (198, [.inr 86, .inl (0, 1)], [], [], [(some (.inl (0, 0)), []), (some (.inl (1, 1)), [])], 1, 22)
/-- LoadsAheadModel isKeptBack -/
theorem qk_554 (l : Launch) : ek_ok l tQ iQ kq_554 := ek_good_ok (sp := sQ) (K := [kq_553]) (SP := []) (HS := [((47, [some (.inr 86, none), some (.inl (0, 1), none), some (.inl ((-1), 0), none)], [], [], []), [(0, (0, 0, 0), 0), (2, (1, 2, 0), (-1)), (0, (0, 0, 0), 0)])]) (N := 3) (fuel := 60) hIQ (List.forall_mem_cons.mpr ⟨qk_553 l, fun _ h => absurd h List.not_mem_nil⟩) (by decide +kernel)
def kq_555 : ek := (172, [.inr 86, .inl (0, 3), .inl (0, 7)], [], [], [(some (.inl (1, 1)), []), (some (.inl (0, 0)), [])], 0, 0)
/-- LoadsAheadModel doesRead -/
theorem qk_555 (l : Launch) : ek_ok l tQ iQ kq_555 := ek_good_ok (sp := sQ) (K := []) (SP := []) (HS := []) (N := 0) (fuel := 48) hIQ (fun _ h => absurd h List.not_mem_nil) (by decide +kernel)
def kq_556 : ek := (197, [.inr 86, .inl (0, 3)], [], [], [(some (.inl (0, 0)), []), (some (.inl (1, 1)), [])], 2, 45)
/-- LoadsAheadModel areSourcesDone -/
theorem qk_556 (l : Launch) : ek_ok l tQ iQ kq_556 := ek_good_ok (sp := sQ) (K := [kq_555, kq_497]) (SP := []) (HS := [((2, [some (.inr 86, none), some (.inl (0, 3), none), some (.inl (0, 8), none), none], [], [], []), [(0, (0, 0, 0), 0), (1, (1, 2, 0), 8), (0, (0, 0, 0), 0)])]) (N := 3) (fuel := 60) hIQ (List.forall_mem_cons.mpr ⟨qk_555 l, List.forall_mem_cons.mpr ⟨qk_497 l, fun _ h => absurd h List.not_mem_nil⟩⟩) (by decide +kernel)
def kq_557 : ek := (172, [.inr 86, .inl (0, 3), .inl (0, 0)], [], [], [(some (.inl (1, 1)), []), (some (.inl (0, 0)), [])], 0, 0)
/-- LoadsAheadModel doesRead -/
theorem qk_557 (l : Launch) : ek_ok l tQ iQ kq_557 := ek_good_ok (sp := sQ) (K := []) (SP := []) (HS := []) (N := 0) (fuel := 48) hIQ (fun _ h => absurd h List.not_mem_nil) (by decide +kernel)
def kq_558 : ek := (172, [.inr 86, .inl (0, 3), .inl (0, 1)], [], [], [(some (.inl (1, 1)), []), (some (.inl (0, 0)), [])], 0, 0)
/-- LoadsAheadModel doesRead -/
theorem qk_558 (l : Launch) : ek_ok l tQ iQ kq_558 := ek_good_ok (sp := sQ) (K := []) (SP := []) (HS := []) (N := 0) (fuel := 48) hIQ (fun _ h => absurd h List.not_mem_nil) (by decide +kernel)
def kq_559 : ek := (172, [.inr 86, .inl (0, 3), .inl (0, 3)], [], [], [(some (.inl (1, 1)), []), (some (.inl (0, 0)), [])], 0, 0)
/-- LoadsAheadModel doesRead -/
theorem qk_559 (l : Launch) : ek_ok l tQ iQ kq_559 := ek_good_ok (sp := sQ) (K := []) (SP := []) (HS := []) (N := 0) (fuel := 48) hIQ (fun _ h => absurd h List.not_mem_nil) (by decide +kernel)
def kq_560 : ek := (174, [.inr 86, .inl (0, 3), .inl (0, 3)], [], [], [(some (.inl (1, 1)), []), (some (.inl (0, 0)), [])], 0, 0)
/-- LoadsAheadModel gives -/
theorem qk_560 (l : Launch) : ek_ok l tQ iQ kq_560 := ek_good_ok (sp := sQ) (K := []) (SP := []) (HS := []) (N := 0) (fuel := 38) hIQ (fun _ h => absurd h List.not_mem_nil) (by decide +kernel)
def kq_561 : ek := (173, [.inr 86, .inl (0, 3), .inl (0, 3)], [], [], [(some (.inl (0, 2)), []), (some (.inl ((-1), (-1))), [])], 1, 22)
/-- LoadsAheadModel giverOf -/
theorem qk_561 (l : Launch) : ek_ok l tQ iQ kq_561 := ek_good_ok (sp := sQ) (K := [kq_560]) (SP := []) (HS := [((4, [some (.inr 86, none), some (.inl (0, 3), none), some (.inl (0, 3), none), some (.inl ((-1), 2), none)], [], [], []), [(0, (0, 0, 0), 0), (2, (1, 3, 0), (-1)), (0, (0, 0, 0), 0)])]) (N := 3) (fuel := 28) hIQ (List.forall_mem_cons.mpr ⟨qk_560 l, fun _ h => absurd h List.not_mem_nil⟩) (by decide +kernel)
def kq_562 : ek := (174, [.inr 86, .inl (0, 3), .inl (0, 1)], [], [], [(some (.inl (1, 1)), []), (some (.inl (0, 0)), [])], 0, 0)
/-- LoadsAheadModel gives -/
theorem qk_562 (l : Launch) : ek_ok l tQ iQ kq_562 := ek_good_ok (sp := sQ) (K := []) (SP := []) (HS := []) (N := 0) (fuel := 38) hIQ (fun _ h => absurd h List.not_mem_nil) (by decide +kernel)
def kq_563 : ek := (173, [.inr 86, .inl (0, 3), .inl (0, 1)], [], [], [(some (.inl (0, 2)), []), (some (.inl ((-1), (-1))), [])], 1, 22)
/-- LoadsAheadModel giverOf -/
theorem qk_563 (l : Launch) : ek_ok l tQ iQ kq_563 := ek_good_ok (sp := sQ) (K := [kq_562]) (SP := []) (HS := [((4, [some (.inr 86, none), some (.inl (0, 3), none), some (.inl (0, 1), none), some (.inl ((-1), 2), none)], [], [], []), [(0, (0, 0, 0), 0), (2, (1, 3, 0), (-1)), (0, (0, 0, 0), 0)])]) (N := 3) (fuel := 28) hIQ (List.forall_mem_cons.mpr ⟨qk_562 l, fun _ h => absurd h List.not_mem_nil⟩) (by decide +kernel)
def kq_564 : ek := (174, [.inr 86, .inl (0, 3), .inl (0, 0)], [], [], [(some (.inl (1, 1)), []), (some (.inl (0, 0)), [])], 0, 0)
/-- LoadsAheadModel gives -/
theorem qk_564 (l : Launch) : ek_ok l tQ iQ kq_564 := ek_good_ok (sp := sQ) (K := []) (SP := []) (HS := []) (N := 0) (fuel := 38) hIQ (fun _ h => absurd h List.not_mem_nil) (by decide +kernel)
def kq_565 : ek := (173, [.inr 86, .inl (0, 3), .inl (0, 0)], [], [], [(some (.inl (0, 2)), []), (some (.inl ((-1), (-1))), [])], 1, 22)
/-- LoadsAheadModel giverOf -/
theorem qk_565 (l : Launch) : ek_ok l tQ iQ kq_565 := ek_good_ok (sp := sQ) (K := [kq_564]) (SP := []) (HS := [((4, [some (.inr 86, none), some (.inl (0, 3), none), some (.inl (0, 0), none), some (.inl ((-1), 2), none)], [], [], []), [(0, (0, 0, 0), 0), (2, (1, 3, 0), (-1)), (0, (0, 0, 0), 0)])]) (N := 3) (fuel := 28) hIQ (List.forall_mem_cons.mpr ⟨qk_564 l, fun _ h => absurd h List.not_mem_nil⟩) (by decide +kernel)
def kq_566 : ek := (199, [.inr 86, .inl (0, 3)], [], [], [(some (.inl (0, 0)), []), (some (.inl (1, 1)), [])], 0, 0)
/-- LoadsAheadModel areStoresDone -/
theorem qk_566 (l : Launch) : ek_ok l tQ iQ kq_566 := ek_good_ok (sp := sQ) (K := []) (SP := []) (HS := [((2, [some (.inr 86, none), some (.inl (0, 3), none), some (.inl (0, 3), none)], [], [], []), [(0, (0, 0, 0), 0), (1, (1, 2, 0), 3), (0, (0, 0, 0), 0)])]) (N := 3) (fuel := 44) hIQ (fun _ h => absurd h List.not_mem_nil) (by decide +kernel)
def kq_567 : ek := (198, [.inr 86, .inl (0, 3)], [], [], [(some (.inl (0, 0)), []), (some (.inl (1, 1)), [])], 1, 22)
/-- LoadsAheadModel isKeptBack -/
theorem qk_567 (l : Launch) : ek_ok l tQ iQ kq_567 := ek_good_ok (sp := sQ) (K := [kq_566]) (SP := []) (HS := [((47, [some (.inr 86, none), some (.inl (0, 3), none), some (.inl ((-1), 2), none)], [], [], []), [(0, (0, 0, 0), 0), (2, (1, 2, 0), (-1)), (0, (0, 0, 0), 0)])]) (N := 3) (fuel := 60) hIQ (List.forall_mem_cons.mpr ⟨qk_566 l, fun _ h => absurd h List.not_mem_nil⟩) (by decide +kernel)
def kq_568 : ek := (172, [.inr 86, .inl (0, 7), .inl (0, 7)], [], [], [(some (.inl (1, 1)), []), (some (.inl (0, 0)), [])], 0, 0)
/-- LoadsAheadModel doesRead -/
theorem qk_568 (l : Launch) : ek_ok l tQ iQ kq_568 := ek_good_ok (sp := sQ) (K := []) (SP := []) (HS := []) (N := 0) (fuel := 48) hIQ (fun _ h => absurd h List.not_mem_nil) (by decide +kernel)
def kq_569 : ek := (197, [.inr 86, .inl (0, 7)], [], [], [(some (.inl (0, 0)), []), (some (.inl (1, 1)), [])], 2, 45)
/-- LoadsAheadModel areSourcesDone -/
theorem qk_569 (l : Launch) : ek_ok l tQ iQ kq_569 := ek_good_ok (sp := sQ) (K := [kq_509, kq_568]) (SP := []) (HS := [((2, [some (.inr 86, none), some (.inl (0, 7), none), some (.inl (0, 8), none), none], [], [], []), [(0, (0, 0, 0), 0), (1, (1, 2, 0), 8), (0, (0, 0, 0), 0)])]) (N := 3) (fuel := 60) hIQ (List.forall_mem_cons.mpr ⟨qk_509 l, List.forall_mem_cons.mpr ⟨qk_568 l, fun _ h => absurd h List.not_mem_nil⟩⟩) (by decide +kernel)
def kq_570 : ek := (172, [.inr 86, .inl (0, 7), .inl (0, 0)], [], [], [(some (.inl (1, 1)), []), (some (.inl (0, 0)), [])], 0, 0)
/-- LoadsAheadModel doesRead -/
theorem qk_570 (l : Launch) : ek_ok l tQ iQ kq_570 := ek_good_ok (sp := sQ) (K := []) (SP := []) (HS := []) (N := 0) (fuel := 48) hIQ (fun _ h => absurd h List.not_mem_nil) (by decide +kernel)
def kq_571 : ek := (172, [.inr 86, .inl (0, 7), .inl (0, 1)], [], [], [(some (.inl (1, 1)), []), (some (.inl (0, 0)), [])], 0, 0)
/-- LoadsAheadModel doesRead -/
theorem qk_571 (l : Launch) : ek_ok l tQ iQ kq_571 := ek_good_ok (sp := sQ) (K := []) (SP := []) (HS := []) (N := 0) (fuel := 48) hIQ (fun _ h => absurd h List.not_mem_nil) (by decide +kernel)
end
section
def kq_572 : ek := (172, [.inr 86, .inl (0, 7), .inl (0, 3)], [], [], [(some (.inl (1, 1)), []), (some (.inl (0, 0)), [])], 0, 0)
/-- LoadsAheadModel doesRead -/
theorem qk_572 (l : Launch) : ek_ok l tQ iQ kq_572 := ek_good_ok (sp := sQ) (K := []) (SP := []) (HS := []) (N := 0) (fuel := 48) hIQ (fun _ h => absurd h List.not_mem_nil) (by decide +kernel)
def kq_573 : ek := (174, [.inr 86, .inl (0, 7), .inl (0, 3)], [], [], [(some (.inl (1, 1)), []), (some (.inl (0, 0)), [])], 0, 0)
/-- LoadsAheadModel gives -/
theorem qk_573 (l : Launch) : ek_ok l tQ iQ kq_573 := ek_good_ok (sp := sQ) (K := []) (SP := []) (HS := []) (N := 0) (fuel := 38) hIQ (fun _ h => absurd h List.not_mem_nil) (by decide +kernel)
def kq_574 : ek := (173, [.inr 86, .inl (0, 7), .inl (0, 3)], [], [], [(some (.inl (0, 6)), []), (some (.inl ((-1), (-1))), [])], 1, 22)
/-- LoadsAheadModel giverOf -/
theorem qk_574 (l : Launch) : ek_ok l tQ iQ kq_574 := ek_good_ok (sp := sQ) (K := [kq_573]) (SP := []) (HS := [((4, [some (.inr 86, none), some (.inl (0, 7), none), some (.inl (0, 3), none), some (.inl ((-1), 6), none)], [], [], []), [(0, (0, 0, 0), 0), (2, (1, 3, 0), (-1)), (0, (0, 0, 0), 0)])]) (N := 3) (fuel := 28) hIQ (List.forall_mem_cons.mpr ⟨qk_573 l, fun _ h => absurd h List.not_mem_nil⟩) (by decide +kernel)
def kq_575 : ek := (174, [.inr 86, .inl (0, 7), .inl (0, 1)], [], [], [(some (.inl (1, 1)), []), (some (.inl (0, 0)), [])], 0, 0)
/-- LoadsAheadModel gives -/
theorem qk_575 (l : Launch) : ek_ok l tQ iQ kq_575 := ek_good_ok (sp := sQ) (K := []) (SP := []) (HS := []) (N := 0) (fuel := 38) hIQ (fun _ h => absurd h List.not_mem_nil) (by decide +kernel)
def kq_576 : ek := (173, [.inr 86, .inl (0, 7), .inl (0, 1)], [], [], [(some (.inl (0, 6)), []), (some (.inl ((-1), (-1))), [])], 1, 22)
/-- LoadsAheadModel giverOf -/
theorem qk_576 (l : Launch) : ek_ok l tQ iQ kq_576 := ek_good_ok (sp := sQ) (K := [kq_575]) (SP := []) (HS := [((4, [some (.inr 86, none), some (.inl (0, 7), none), some (.inl (0, 1), none), some (.inl ((-1), 6), none)], [], [], []), [(0, (0, 0, 0), 0), (2, (1, 3, 0), (-1)), (0, (0, 0, 0), 0)])]) (N := 3) (fuel := 28) hIQ (List.forall_mem_cons.mpr ⟨qk_575 l, fun _ h => absurd h List.not_mem_nil⟩) (by decide +kernel)
def kq_577 : ek := (174, [.inr 86, .inl (0, 7), .inl (0, 0)], [], [], [(some (.inl (1, 1)), []), (some (.inl (0, 0)), [])], 0, 0)
/-- LoadsAheadModel gives -/
theorem qk_577 (l : Launch) : ek_ok l tQ iQ kq_577 := ek_good_ok (sp := sQ) (K := []) (SP := []) (HS := []) (N := 0) (fuel := 38) hIQ (fun _ h => absurd h List.not_mem_nil) (by decide +kernel)
def kq_578 : ek := (173, [.inr 86, .inl (0, 7), .inl (0, 0)], [], [], [(some (.inl (0, 6)), []), (some (.inl ((-1), (-1))), [])], 1, 22)
/-- LoadsAheadModel giverOf -/
theorem qk_578 (l : Launch) : ek_ok l tQ iQ kq_578 := ek_good_ok (sp := sQ) (K := [kq_577]) (SP := []) (HS := [((4, [some (.inr 86, none), some (.inl (0, 7), none), some (.inl (0, 0), none), some (.inl ((-1), 6), none)], [], [], []), [(0, (0, 0, 0), 0), (2, (1, 3, 0), (-1)), (0, (0, 0, 0), 0)])]) (N := 3) (fuel := 28) hIQ (List.forall_mem_cons.mpr ⟨qk_577 l, fun _ h => absurd h List.not_mem_nil⟩) (by decide +kernel)
def kq_579 : ek := (199, [.inr 86, .inl (0, 7)], [], [], [(some (.inl (0, 0)), []), (some (.inl (1, 1)), [])], 0, 0)
/-- LoadsAheadModel areStoresDone -/
theorem qk_579 (l : Launch) : ek_ok l tQ iQ kq_579 := ek_good_ok (sp := sQ) (K := []) (SP := []) (HS := [((2, [some (.inr 86, none), some (.inl (0, 7), none), some (.inl (0, 7), none)], [], [], []), [(0, (0, 0, 0), 0), (1, (1, 2, 0), 7), (0, (0, 0, 0), 0)])]) (N := 3) (fuel := 44) hIQ (fun _ h => absurd h List.not_mem_nil) (by decide +kernel)
def kq_580 : ek := (198, [.inr 86, .inl (0, 7)], [], [], [(some (.inl (0, 0)), []), (some (.inl (1, 1)), [])], 1, 22)
/-- LoadsAheadModel isKeptBack -/
theorem qk_580 (l : Launch) : ek_ok l tQ iQ kq_580 := ek_good_ok (sp := sQ) (K := [kq_579]) (SP := []) (HS := [((47, [some (.inr 86, none), some (.inl (0, 7), none), some (.inl ((-1), 6), none)], [], [], []), [(0, (0, 0, 0), 0), (2, (1, 2, 0), (-1)), (0, (0, 0, 0), 0)])]) (N := 3) (fuel := 60) hIQ (List.forall_mem_cons.mpr ⟨qk_579 l, fun _ h => absurd h List.not_mem_nil⟩) (by decide +kernel)
def kq_581 : ek := (172, [.inr 86, .inl (0, 15), .inl (0, 7)], [], [], [(some (.inl (1, 1)), []), (some (.inl (0, 0)), [])], 0, 0)
/-- LoadsAheadModel doesRead -/
theorem qk_581 (l : Launch) : ek_ok l tQ iQ kq_581 := ek_good_ok (sp := sQ) (K := []) (SP := []) (HS := []) (N := 0) (fuel := 48) hIQ (fun _ h => absurd h List.not_mem_nil) (by decide +kernel)
def kq_582 : ek := (197, [.inr 86, .inl (0, 15)], [], [], [(some (.inl (0, 0)), []), (some (.inl (1, 1)), [])], 2, 45)
/-- LoadsAheadModel areSourcesDone -/
theorem qk_582 (l : Launch) : ek_ok l tQ iQ kq_582 := ek_good_ok (sp := sQ) (K := [kq_581, kq_520]) (SP := []) (HS := [((2, [some (.inr 86, none), some (.inl (0, 15), none), some (.inl (0, 8), none), none], [], [], []), [(0, (0, 0, 0), 0), (1, (1, 2, 0), 8), (0, (0, 0, 0), 0)])]) (N := 3) (fuel := 60) hIQ (List.forall_mem_cons.mpr ⟨qk_581 l, List.forall_mem_cons.mpr ⟨qk_520 l, fun _ h => absurd h List.not_mem_nil⟩⟩) (by decide +kernel)
def kq_583 : ek := (172, [.inr 86, .inl (0, 15), .inl (0, 0)], [], [], [(some (.inl (1, 1)), []), (some (.inl (0, 0)), [])], 0, 0)
/-- LoadsAheadModel doesRead -/
theorem qk_583 (l : Launch) : ek_ok l tQ iQ kq_583 := ek_good_ok (sp := sQ) (K := []) (SP := []) (HS := []) (N := 0) (fuel := 48) hIQ (fun _ h => absurd h List.not_mem_nil) (by decide +kernel)
def kq_584 : ek := (172, [.inr 86, .inl (0, 15), .inl (0, 1)], [], [], [(some (.inl (1, 1)), []), (some (.inl (0, 0)), [])], 0, 0)
/-- LoadsAheadModel doesRead -/
theorem qk_584 (l : Launch) : ek_ok l tQ iQ kq_584 := ek_good_ok (sp := sQ) (K := []) (SP := []) (HS := []) (N := 0) (fuel := 48) hIQ (fun _ h => absurd h List.not_mem_nil) (by decide +kernel)
def kq_585 : ek := (172, [.inr 86, .inl (0, 15), .inl (0, 3)], [], [], [(some (.inl (1, 1)), []), (some (.inl (0, 0)), [])], 0, 0)
/-- LoadsAheadModel doesRead -/
theorem qk_585 (l : Launch) : ek_ok l tQ iQ kq_585 := ek_good_ok (sp := sQ) (K := []) (SP := []) (HS := []) (N := 0) (fuel := 48) hIQ (fun _ h => absurd h List.not_mem_nil) (by decide +kernel)
def kq_586 : ek := (174, [.inr 86, .inl (0, 15), .inl (0, 3)], [], [], [(some (.inl (1, 1)), []), (some (.inl (0, 0)), [])], 0, 0)
/-- LoadsAheadModel gives -/
theorem qk_586 (l : Launch) : ek_ok l tQ iQ kq_586 := ek_good_ok (sp := sQ) (K := []) (SP := []) (HS := []) (N := 0) (fuel := 38) hIQ (fun _ h => absurd h List.not_mem_nil) (by decide +kernel)
def kq_587 : ek := (173, [.inr 86, .inl (0, 15), .inl (0, 3)], [], [], [(some (.inl (0, 14)), []), (some (.inl ((-1), (-1))), [])], 1, 22)
/-- LoadsAheadModel giverOf -/
theorem qk_587 (l : Launch) : ek_ok l tQ iQ kq_587 := ek_good_ok (sp := sQ) (K := [kq_586]) (SP := []) (HS := [((4, [some (.inr 86, none), some (.inl (0, 15), none), some (.inl (0, 3), none), some (.inl ((-1), 14), none)], [], [], []), [(0, (0, 0, 0), 0), (2, (1, 3, 0), (-1)), (0, (0, 0, 0), 0)])]) (N := 3) (fuel := 28) hIQ (List.forall_mem_cons.mpr ⟨qk_586 l, fun _ h => absurd h List.not_mem_nil⟩) (by decide +kernel)
def kq_588 : ek := (174, [.inr 86, .inl (0, 15), .inl (0, 1)], [], [], [(some (.inl (1, 1)), []), (some (.inl (0, 0)), [])], 0, 0)
/-- LoadsAheadModel gives -/
theorem qk_588 (l : Launch) : ek_ok l tQ iQ kq_588 := ek_good_ok (sp := sQ) (K := []) (SP := []) (HS := []) (N := 0) (fuel := 38) hIQ (fun _ h => absurd h List.not_mem_nil) (by decide +kernel)
def kq_589 : ek := (173, [.inr 86, .inl (0, 15), .inl (0, 1)], [], [], [(some (.inl (0, 14)), []), (some (.inl ((-1), (-1))), [])], 1, 22)
/-- LoadsAheadModel giverOf -/
theorem qk_589 (l : Launch) : ek_ok l tQ iQ kq_589 := ek_good_ok (sp := sQ) (K := [kq_588]) (SP := []) (HS := [((4, [some (.inr 86, none), some (.inl (0, 15), none), some (.inl (0, 1), none), some (.inl ((-1), 14), none)], [], [], []), [(0, (0, 0, 0), 0), (2, (1, 3, 0), (-1)), (0, (0, 0, 0), 0)])]) (N := 3) (fuel := 28) hIQ (List.forall_mem_cons.mpr ⟨qk_588 l, fun _ h => absurd h List.not_mem_nil⟩) (by decide +kernel)
def kq_590 : ek := (174, [.inr 86, .inl (0, 15), .inl (0, 0)], [], [], [(some (.inl (1, 1)), []), (some (.inl (0, 0)), [])], 0, 0)
/-- LoadsAheadModel gives -/
theorem qk_590 (l : Launch) : ek_ok l tQ iQ kq_590 := ek_good_ok (sp := sQ) (K := []) (SP := []) (HS := []) (N := 0) (fuel := 38) hIQ (fun _ h => absurd h List.not_mem_nil) (by decide +kernel)
def kq_591 : ek := (173, [.inr 86, .inl (0, 15), .inl (0, 0)], [], [], [(some (.inl (0, 14)), []), (some (.inl ((-1), (-1))), [])], 1, 22)
/-- LoadsAheadModel giverOf -/
theorem qk_591 (l : Launch) : ek_ok l tQ iQ kq_591 := ek_good_ok (sp := sQ) (K := [kq_590]) (SP := []) (HS := [((4, [some (.inr 86, none), some (.inl (0, 15), none), some (.inl (0, 0), none), some (.inl ((-1), 14), none)], [], [], []), [(0, (0, 0, 0), 0), (2, (1, 3, 0), (-1)), (0, (0, 0, 0), 0)])]) (N := 3) (fuel := 28) hIQ (List.forall_mem_cons.mpr ⟨qk_590 l, fun _ h => absurd h List.not_mem_nil⟩) (by decide +kernel)
def kq_592 : ek := (199, [.inr 86, .inl (0, 15)], [], [], [(some (.inl (0, 0)), []), (some (.inl (1, 1)), [])], 0, 0)
/-- LoadsAheadModel areStoresDone -/
theorem qk_592 (l : Launch) : ek_ok l tQ iQ kq_592 := ek_good_ok (sp := sQ) (K := []) (SP := []) (HS := [((2, [some (.inr 86, none), some (.inl (0, 15), none), some (.inl (0, 15), none)], [], [], []), [(0, (0, 0, 0), 0), (1, (1, 2, 0), 15), (0, (0, 0, 0), 0)])]) (N := 3) (fuel := 44) hIQ (fun _ h => absurd h List.not_mem_nil) (by decide +kernel)
def kq_593 : ek := (198, [.inr 86, .inl (0, 15)], [], [], [(some (.inl (0, 0)), []), (some (.inl (1, 1)), [])], 1, 22)
/-- LoadsAheadModel isKeptBack -/
theorem qk_593 (l : Launch) : ek_ok l tQ iQ kq_593 := ek_good_ok (sp := sQ) (K := [kq_592]) (SP := []) (HS := [((47, [some (.inr 86, none), some (.inl (0, 15), none), some (.inl ((-1), 14), none)], [], [], []), [(0, (0, 0, 0), 0), (2, (1, 2, 0), (-1)), (0, (0, 0, 0), 0)])]) (N := 3) (fuel := 60) hIQ (List.forall_mem_cons.mpr ⟨qk_592 l, fun _ h => absurd h List.not_mem_nil⟩) (by decide +kernel)
def kq_594 : ek := (172, [.inr 86, .inl (0, 19), .inl (0, 0)], [], [], [(some (.inl (1, 1)), []), (some (.inl (0, 0)), [])], 0, 0)
/-- LoadsAheadModel doesRead -/
theorem qk_594 (l : Launch) : ek_ok l tQ iQ kq_594 := ek_good_ok (sp := sQ) (K := []) (SP := []) (HS := []) (N := 0) (fuel := 48) hIQ (fun _ h => absurd h List.not_mem_nil) (by decide +kernel)
def kq_595 : ek := (172, [.inr 86, .inl (0, 19), .inl (0, 1)], [], [], [(some (.inl (1, 1)), []), (some (.inl (0, 0)), [])], 0, 0)
/-- LoadsAheadModel doesRead -/
theorem qk_595 (l : Launch) : ek_ok l tQ iQ kq_595 := ek_good_ok (sp := sQ) (K := []) (SP := []) (HS := []) (N := 0) (fuel := 48) hIQ (fun _ h => absurd h List.not_mem_nil) (by decide +kernel)
def kq_596 : ek := (172, [.inr 86, .inl (0, 19), .inl (0, 3)], [], [], [(some (.inl (1, 1)), []), (some (.inl (0, 0)), [])], 0, 0)
/-- LoadsAheadModel doesRead -/
theorem qk_596 (l : Launch) : ek_ok l tQ iQ kq_596 := ek_good_ok (sp := sQ) (K := []) (SP := []) (HS := []) (N := 0) (fuel := 48) hIQ (fun _ h => absurd h List.not_mem_nil) (by decide +kernel)
def kq_597 : ek := (174, [.inr 86, .inl (0, 19), .inl (0, 3)], [], [], [(some (.inl (1, 1)), []), (some (.inl (0, 0)), [])], 0, 0)
/-- LoadsAheadModel gives -/
theorem qk_597 (l : Launch) : ek_ok l tQ iQ kq_597 := ek_good_ok (sp := sQ) (K := []) (SP := []) (HS := []) (N := 0) (fuel := 38) hIQ (fun _ h => absurd h List.not_mem_nil) (by decide +kernel)
def kq_598 : ek := (173, [.inr 86, .inl (0, 19), .inl (0, 3)], [], [], [(some (.inl (0, 18)), []), (some (.inl ((-1), (-1))), [])], 1, 22)
/-- LoadsAheadModel giverOf -/
theorem qk_598 (l : Launch) : ek_ok l tQ iQ kq_598 := ek_good_ok (sp := sQ) (K := [kq_597]) (SP := []) (HS := [((4, [some (.inr 86, none), some (.inl (0, 19), none), some (.inl (0, 3), none), some (.inl ((-1), 18), none)], [], [], []), [(0, (0, 0, 0), 0), (2, (1, 3, 0), (-1)), (0, (0, 0, 0), 0)])]) (N := 3) (fuel := 28) hIQ (List.forall_mem_cons.mpr ⟨qk_597 l, fun _ h => absurd h List.not_mem_nil⟩) (by decide +kernel)
def kq_599 : ek := (174, [.inr 86, .inl (0, 19), .inl (0, 1)], [], [], [(some (.inl (1, 1)), []), (some (.inl (0, 0)), [])], 0, 0)
/-- LoadsAheadModel gives -/
theorem qk_599 (l : Launch) : ek_ok l tQ iQ kq_599 := ek_good_ok (sp := sQ) (K := []) (SP := []) (HS := []) (N := 0) (fuel := 38) hIQ (fun _ h => absurd h List.not_mem_nil) (by decide +kernel)
def kq_600 : ek := (173, [.inr 86, .inl (0, 19), .inl (0, 1)], [], [], [(some (.inl (0, 18)), []), (some (.inl ((-1), (-1))), [])], 1, 22)
/-- LoadsAheadModel giverOf -/
theorem qk_600 (l : Launch) : ek_ok l tQ iQ kq_600 := ek_good_ok (sp := sQ) (K := [kq_599]) (SP := []) (HS := [((4, [some (.inr 86, none), some (.inl (0, 19), none), some (.inl (0, 1), none), some (.inl ((-1), 18), none)], [], [], []), [(0, (0, 0, 0), 0), (2, (1, 3, 0), (-1)), (0, (0, 0, 0), 0)])]) (N := 3) (fuel := 28) hIQ (List.forall_mem_cons.mpr ⟨qk_599 l, fun _ h => absurd h List.not_mem_nil⟩) (by decide +kernel)
def kq_601 : ek := (174, [.inr 86, .inl (0, 19), .inl (0, 0)], [], [], [(some (.inl (1, 1)), []), (some (.inl (0, 0)), [])], 0, 0)
/-- LoadsAheadModel gives -/
theorem qk_601 (l : Launch) : ek_ok l tQ iQ kq_601 := ek_good_ok (sp := sQ) (K := []) (SP := []) (HS := []) (N := 0) (fuel := 38) hIQ (fun _ h => absurd h List.not_mem_nil) (by decide +kernel)
def kq_602 : ek := (173, [.inr 86, .inl (0, 19), .inl (0, 0)], [], [], [(some (.inl (0, 18)), []), (some (.inl ((-1), (-1))), [])], 1, 22)
/-- LoadsAheadModel giverOf -/
theorem qk_602 (l : Launch) : ek_ok l tQ iQ kq_602 := ek_good_ok (sp := sQ) (K := [kq_601]) (SP := []) (HS := [((4, [some (.inr 86, none), some (.inl (0, 19), none), some (.inl (0, 0), none), some (.inl ((-1), 18), none)], [], [], []), [(0, (0, 0, 0), 0), (2, (1, 3, 0), (-1)), (0, (0, 0, 0), 0)])]) (N := 3) (fuel := 28) hIQ (List.forall_mem_cons.mpr ⟨qk_601 l, fun _ h => absurd h List.not_mem_nil⟩) (by decide +kernel)
def kq_603 : ek := (185, [.inl ((-2147483648), 2147483647), .inl (0, 0)], [], [], [(some (.inl (0, 255)), [])], 0, 0)
/-- LoadsAheadModel byteOf -/
theorem qk_603 (l : Launch) : ek_ok l tQ iQ kq_603 := ek_good_ok (sp := sQ) (K := []) (SP := []) (HS := []) (N := 0) (fuel := 24) hIQ (fun _ h => absurd h List.not_mem_nil) (by decide +kernel)
def kq_604 : ek := (185, [.inl ((-2147483648), 2147483647), .inl (0, 1)], [], [], [(some (.inl (0, 255)), [])], 0, 0)
/-- LoadsAheadModel byteOf -/
theorem qk_604 (l : Launch) : ek_ok l tQ iQ kq_604 := ek_good_ok (sp := sQ) (K := []) (SP := []) (HS := []) (N := 0) (fuel := 24) hIQ (fun _ h => absurd h List.not_mem_nil) (by decide +kernel)
def kq_605 : ek := (185, [.inl ((-2147483648), 2147483647), .inl (0, 2)], [], [], [(some (.inl (0, 255)), [])], 0, 0)
/-- LoadsAheadModel byteOf -/
theorem qk_605 (l : Launch) : ek_ok l tQ iQ kq_605 := ek_good_ok (sp := sQ) (K := []) (SP := []) (HS := []) (N := 0) (fuel := 24) hIQ (fun _ h => absurd h List.not_mem_nil) (by decide +kernel)
def kq_606 : ek := (201, [.inr 86, .inl (0, 15), .inl (0, 0), .inl (0, 15)], [], [(109, 999)], [(none, [])], 0, 0)
/-- LoadsAheadModel feels -/
theorem qk_606 (l : Launch) : ek_ok l tQ iQ kq_606 := ek_good_ok (sp := sQ) (K := []) (SP := []) (HS := []) (N := 0) (fuel := 120) hIQ (fun _ h => absurd h List.not_mem_nil) (by decide +kernel)
def kq_609 : ek := (201, [.inr 86, .inl (0, 7), .inl (0, 0), .inl (0, 15)], [], [(109, 999)], [(none, [])], 0, 0)
/-- LoadsAheadModel feels -/
theorem qk_609 (l : Launch) : ek_ok l tQ iQ kq_609 := ek_good_ok (sp := sQ) (K := []) (SP := []) (HS := []) (N := 0) (fuel := 120) hIQ (fun _ h => absurd h List.not_mem_nil) (by decide +kernel)
def kq_612 : ek := (201, [.inr 86, .inl (0, 3), .inl (0, 0), .inl (0, 15)], [], [(109, 999)], [(none, [])], 0, 0)
/-- LoadsAheadModel feels -/
theorem qk_612 (l : Launch) : ek_ok l tQ iQ kq_612 := ek_good_ok (sp := sQ) (K := []) (SP := []) (HS := []) (N := 0) (fuel := 120) hIQ (fun _ h => absurd h List.not_mem_nil) (by decide +kernel)
def kq_615 : ek := (201, [.inr 86, .inl (0, 1), .inl (0, 0), .inl (0, 15)], [], [(109, 999)], [(none, [])], 0, 0)
/-- LoadsAheadModel feels -/
theorem qk_615 (l : Launch) : ek_ok l tQ iQ kq_615 := ek_good_ok (sp := sQ) (K := []) (SP := []) (HS := []) (N := 0) (fuel := 120) hIQ (fun _ h => absurd h List.not_mem_nil) (by decide +kernel)
def kq_619 : ek := (201, [.inr 86, .inl (0, 19), .inl (0, 1), .inl (0, 15)], [], [(109, 999)], [(none, [])], 0, 0)
/-- LoadsAheadModel feels -/
theorem qk_619 (l : Launch) : ek_ok l tQ iQ kq_619 := ek_good_ok (sp := sQ) (K := []) (SP := []) (HS := []) (N := 0) (fuel := 120) hIQ (fun _ h => absurd h List.not_mem_nil) (by decide +kernel)
def kq_621 : ek := (201, [.inr 86, .inl (0, 19), .inl (0, 1), .inl (0, 0)], [], [(109, 999)], [(none, [])], 0, 0)
/-- LoadsAheadModel feels -/
theorem qk_621 (l : Launch) : ek_ok l tQ iQ kq_621 := ek_good_ok (sp := sQ) (K := []) (SP := []) (HS := []) (N := 0) (fuel := 120) hIQ (fun _ h => absurd h List.not_mem_nil) (by decide +kernel)
def kq_629 : ek := (201, [.inr 86, .inl (0, 0), .inl (0, 1), .inl (0, 15)], [], [(109, 999)], [(none, [])], 0, 0)
/-- LoadsAheadModel feels -/
theorem qk_629 (l : Launch) : ek_ok l tQ iQ kq_629 := ek_good_ok (sp := sQ) (K := []) (SP := []) (HS := []) (N := 0) (fuel := 120) hIQ (fun _ h => absurd h List.not_mem_nil) (by decide +kernel)
def kq_631 : ek := (201, [.inr 86, .inl (0, 15), .inl (0, 1), .inl (0, 15)], [], [(109, 999)], [(none, [])], 0, 0)
/-- LoadsAheadModel feels -/
theorem qk_631 (l : Launch) : ek_ok l tQ iQ kq_631 := ek_good_ok (sp := sQ) (K := []) (SP := []) (HS := []) (N := 0) (fuel := 120) hIQ (fun _ h => absurd h List.not_mem_nil) (by decide +kernel)
def kq_633 : ek := (201, [.inr 86, .inl (0, 7), .inl (0, 1), .inl (0, 15)], [], [(109, 999)], [(none, [])], 0, 0)
/-- LoadsAheadModel feels -/
theorem qk_633 (l : Launch) : ek_ok l tQ iQ kq_633 := ek_good_ok (sp := sQ) (K := []) (SP := []) (HS := []) (N := 0) (fuel := 120) hIQ (fun _ h => absurd h List.not_mem_nil) (by decide +kernel)
def kq_635 : ek := (201, [.inr 86, .inl (0, 3), .inl (0, 1), .inl (0, 15)], [], [(109, 999)], [(none, [])], 0, 0)
/-- LoadsAheadModel feels -/
theorem qk_635 (l : Launch) : ek_ok l tQ iQ kq_635 := ek_good_ok (sp := sQ) (K := []) (SP := []) (HS := []) (N := 0) (fuel := 120) hIQ (fun _ h => absurd h List.not_mem_nil) (by decide +kernel)
def kq_637 : ek := (201, [.inr 86, .inl (0, 1), .inl (0, 1), .inl (0, 15)], [], [(109, 999)], [(none, [])], 0, 0)
/-- LoadsAheadModel feels -/
theorem qk_637 (l : Launch) : ek_ok l tQ iQ kq_637 := ek_good_ok (sp := sQ) (K := []) (SP := []) (HS := []) (N := 0) (fuel := 120) hIQ (fun _ h => absurd h List.not_mem_nil) (by decide +kernel)
def kq_640 : ek := (201, [.inr 86, .inl (0, 19), .inl (0, 3), .inl (0, 15)], [], [(109, 999)], [(none, [])], 0, 0)
/-- LoadsAheadModel feels -/
theorem qk_640 (l : Launch) : ek_ok l tQ iQ kq_640 := ek_good_ok (sp := sQ) (K := []) (SP := []) (HS := []) (N := 0) (fuel := 120) hIQ (fun _ h => absurd h List.not_mem_nil) (by decide +kernel)
def kq_642 : ek := (201, [.inr 86, .inl (0, 19), .inl (0, 3), .inl (0, 0)], [], [(109, 999)], [(none, [])], 0, 0)
/-- LoadsAheadModel feels -/
theorem qk_642 (l : Launch) : ek_ok l tQ iQ kq_642 := ek_good_ok (sp := sQ) (K := []) (SP := []) (HS := []) (N := 0) (fuel := 120) hIQ (fun _ h => absurd h List.not_mem_nil) (by decide +kernel)
end
section
def kq_650 : ek := (201, [.inr 86, .inl (0, 0), .inl (0, 3), .inl (0, 15)], [], [(109, 999)], [(none, [])], 0, 0)
/-- LoadsAheadModel feels -/
theorem qk_650 (l : Launch) : ek_ok l tQ iQ kq_650 := ek_good_ok (sp := sQ) (K := []) (SP := []) (HS := []) (N := 0) (fuel := 120) hIQ (fun _ h => absurd h List.not_mem_nil) (by decide +kernel)
def kq_652 : ek := (201, [.inr 86, .inl (0, 15), .inl (0, 3), .inl (0, 15)], [], [(109, 999)], [(none, [])], 0, 0)
/-- LoadsAheadModel feels -/
theorem qk_652 (l : Launch) : ek_ok l tQ iQ kq_652 := ek_good_ok (sp := sQ) (K := []) (SP := []) (HS := []) (N := 0) (fuel := 120) hIQ (fun _ h => absurd h List.not_mem_nil) (by decide +kernel)
def kq_654 : ek := (201, [.inr 86, .inl (0, 7), .inl (0, 3), .inl (0, 15)], [], [(109, 999)], [(none, [])], 0, 0)
/-- LoadsAheadModel feels -/
theorem qk_654 (l : Launch) : ek_ok l tQ iQ kq_654 := ek_good_ok (sp := sQ) (K := []) (SP := []) (HS := []) (N := 0) (fuel := 120) hIQ (fun _ h => absurd h List.not_mem_nil) (by decide +kernel)
def kq_656 : ek := (201, [.inr 86, .inl (0, 3), .inl (0, 3), .inl (0, 15)], [], [(109, 999)], [(none, [])], 0, 0)
/-- LoadsAheadModel feels -/
theorem qk_656 (l : Launch) : ek_ok l tQ iQ kq_656 := ek_good_ok (sp := sQ) (K := []) (SP := []) (HS := []) (N := 0) (fuel := 120) hIQ (fun _ h => absurd h List.not_mem_nil) (by decide +kernel)
def kq_658 : ek := (201, [.inr 86, .inl (0, 1), .inl (0, 3), .inl (0, 15)], [], [(109, 999)], [(none, [])], 0, 0)
/-- LoadsAheadModel feels -/
theorem qk_658 (l : Launch) : ek_ok l tQ iQ kq_658 := ek_good_ok (sp := sQ) (K := []) (SP := []) (HS := []) (N := 0) (fuel := 120) hIQ (fun _ h => absurd h List.not_mem_nil) (by decide +kernel)
def kq_661 : ek := (201, [.inr 86, .inl (0, 19), .inl (0, 7), .inl (0, 15)], [], [(109, 999)], [(none, [])], 0, 0)
/-- LoadsAheadModel feels -/
theorem qk_661 (l : Launch) : ek_ok l tQ iQ kq_661 := ek_good_ok (sp := sQ) (K := []) (SP := []) (HS := []) (N := 0) (fuel := 120) hIQ (fun _ h => absurd h List.not_mem_nil) (by decide +kernel)
def kq_663 : ek := (201, [.inr 86, .inl (0, 19), .inl (0, 7), .inl (0, 0)], [], [(109, 999)], [(none, [])], 0, 0)
/-- LoadsAheadModel feels -/
theorem qk_663 (l : Launch) : ek_ok l tQ iQ kq_663 := ek_good_ok (sp := sQ) (K := []) (SP := []) (HS := []) (N := 0) (fuel := 120) hIQ (fun _ h => absurd h List.not_mem_nil) (by decide +kernel)
def kq_671 : ek := (201, [.inr 86, .inl (0, 0), .inl (0, 7), .inl (0, 15)], [], [(109, 999)], [(none, [])], 0, 0)
/-- LoadsAheadModel feels -/
theorem qk_671 (l : Launch) : ek_ok l tQ iQ kq_671 := ek_good_ok (sp := sQ) (K := []) (SP := []) (HS := []) (N := 0) (fuel := 120) hIQ (fun _ h => absurd h List.not_mem_nil) (by decide +kernel)
def kq_673 : ek := (201, [.inr 86, .inl (0, 15), .inl (0, 7), .inl (0, 15)], [], [(109, 999)], [(none, [])], 0, 0)
/-- LoadsAheadModel feels -/
theorem qk_673 (l : Launch) : ek_ok l tQ iQ kq_673 := ek_good_ok (sp := sQ) (K := []) (SP := []) (HS := []) (N := 0) (fuel := 120) hIQ (fun _ h => absurd h List.not_mem_nil) (by decide +kernel)
def kq_675 : ek := (201, [.inr 86, .inl (0, 7), .inl (0, 7), .inl (0, 15)], [], [(109, 999)], [(none, [])], 0, 0)
/-- LoadsAheadModel feels -/
theorem qk_675 (l : Launch) : ek_ok l tQ iQ kq_675 := ek_good_ok (sp := sQ) (K := []) (SP := []) (HS := []) (N := 0) (fuel := 120) hIQ (fun _ h => absurd h List.not_mem_nil) (by decide +kernel)
def kq_677 : ek := (201, [.inr 86, .inl (0, 3), .inl (0, 7), .inl (0, 15)], [], [(109, 999)], [(none, [])], 0, 0)
/-- LoadsAheadModel feels -/
theorem qk_677 (l : Launch) : ek_ok l tQ iQ kq_677 := ek_good_ok (sp := sQ) (K := []) (SP := []) (HS := []) (N := 0) (fuel := 120) hIQ (fun _ h => absurd h List.not_mem_nil) (by decide +kernel)
def kq_679 : ek := (201, [.inr 86, .inl (0, 1), .inl (0, 7), .inl (0, 15)], [], [(109, 999)], [(none, [])], 0, 0)
/-- LoadsAheadModel feels -/
theorem qk_679 (l : Launch) : ek_ok l tQ iQ kq_679 := ek_good_ok (sp := sQ) (K := []) (SP := []) (HS := []) (N := 0) (fuel := 120) hIQ (fun _ h => absurd h List.not_mem_nil) (by decide +kernel)
def kq_682 : ek := (201, [.inr 86, .inl (0, 19), .inl (0, 15), .inl (0, 15)], [], [(109, 999)], [(none, [])], 0, 0)
/-- LoadsAheadModel feels -/
theorem qk_682 (l : Launch) : ek_ok l tQ iQ kq_682 := ek_good_ok (sp := sQ) (K := []) (SP := []) (HS := []) (N := 0) (fuel := 120) hIQ (fun _ h => absurd h List.not_mem_nil) (by decide +kernel)
def kq_684 : ek := (201, [.inr 86, .inl (0, 19), .inl (0, 15), .inl (0, 0)], [], [(109, 999)], [(none, [])], 0, 0)
/-- LoadsAheadModel feels -/
theorem qk_684 (l : Launch) : ek_ok l tQ iQ kq_684 := ek_good_ok (sp := sQ) (K := []) (SP := []) (HS := []) (N := 0) (fuel := 120) hIQ (fun _ h => absurd h List.not_mem_nil) (by decide +kernel)
def kq_692 : ek := (201, [.inr 86, .inl (0, 0), .inl (0, 15), .inl (0, 15)], [], [(109, 999)], [(none, [])], 0, 0)
/-- LoadsAheadModel feels -/
theorem qk_692 (l : Launch) : ek_ok l tQ iQ kq_692 := ek_good_ok (sp := sQ) (K := []) (SP := []) (HS := []) (N := 0) (fuel := 120) hIQ (fun _ h => absurd h List.not_mem_nil) (by decide +kernel)
def kq_694 : ek := (201, [.inr 86, .inl (0, 15), .inl (0, 15), .inl (0, 15)], [], [(109, 999)], [(none, [])], 0, 0)
/-- LoadsAheadModel feels -/
theorem qk_694 (l : Launch) : ek_ok l tQ iQ kq_694 := ek_good_ok (sp := sQ) (K := []) (SP := []) (HS := []) (N := 0) (fuel := 120) hIQ (fun _ h => absurd h List.not_mem_nil) (by decide +kernel)
def kq_696 : ek := (201, [.inr 86, .inl (0, 7), .inl (0, 15), .inl (0, 15)], [], [(109, 999)], [(none, [])], 0, 0)
/-- LoadsAheadModel feels -/
theorem qk_696 (l : Launch) : ek_ok l tQ iQ kq_696 := ek_good_ok (sp := sQ) (K := []) (SP := []) (HS := []) (N := 0) (fuel := 120) hIQ (fun _ h => absurd h List.not_mem_nil) (by decide +kernel)
def kq_698 : ek := (201, [.inr 86, .inl (0, 3), .inl (0, 15), .inl (0, 15)], [], [(109, 999)], [(none, [])], 0, 0)
/-- LoadsAheadModel feels -/
theorem qk_698 (l : Launch) : ek_ok l tQ iQ kq_698 := ek_good_ok (sp := sQ) (K := []) (SP := []) (HS := []) (N := 0) (fuel := 120) hIQ (fun _ h => absurd h List.not_mem_nil) (by decide +kernel)
def kq_700 : ek := (201, [.inr 86, .inl (0, 1), .inl (0, 15), .inl (0, 15)], [], [(109, 999)], [(none, [])], 0, 0)
/-- LoadsAheadModel feels -/
theorem qk_700 (l : Launch) : ek_ok l tQ iQ kq_700 := ek_good_ok (sp := sQ) (K := []) (SP := []) (HS := []) (N := 0) (fuel := 120) hIQ (fun _ h => absurd h List.not_mem_nil) (by decide +kernel)
def kq_703 : ek := (201, [.inr 86, .inl (0, 19), .inl (0, 19), .inl (0, 15)], [], [(109, 999)], [(none, [])], 0, 0)
/-- LoadsAheadModel feels -/
theorem qk_703 (l : Launch) : ek_ok l tQ iQ kq_703 := ek_good_ok (sp := sQ) (K := []) (SP := []) (HS := []) (N := 0) (fuel := 120) hIQ (fun _ h => absurd h List.not_mem_nil) (by decide +kernel)
def kq_705 : ek := (201, [.inr 86, .inl (0, 19), .inl (0, 19), .inl (0, 0)], [], [(109, 999)], [(none, [])], 0, 0)
/-- LoadsAheadModel feels -/
theorem qk_705 (l : Launch) : ek_ok l tQ iQ kq_705 := ek_good_ok (sp := sQ) (K := []) (SP := []) (HS := []) (N := 0) (fuel := 120) hIQ (fun _ h => absurd h List.not_mem_nil) (by decide +kernel)
def kq_713 : ek := (201, [.inr 86, .inl (0, 0), .inl (0, 19), .inl (0, 15)], [], [(109, 999)], [(none, [])], 0, 0)
/-- LoadsAheadModel feels -/
theorem qk_713 (l : Launch) : ek_ok l tQ iQ kq_713 := ek_good_ok (sp := sQ) (K := []) (SP := []) (HS := []) (N := 0) (fuel := 120) hIQ (fun _ h => absurd h List.not_mem_nil) (by decide +kernel)
def kq_715 : ek := (201, [.inr 86, .inl (0, 15), .inl (0, 19), .inl (0, 15)], [], [(109, 999)], [(none, [])], 0, 0)
/-- LoadsAheadModel feels -/
theorem qk_715 (l : Launch) : ek_ok l tQ iQ kq_715 := ek_good_ok (sp := sQ) (K := []) (SP := []) (HS := []) (N := 0) (fuel := 120) hIQ (fun _ h => absurd h List.not_mem_nil) (by decide +kernel)
def kq_717 : ek := (201, [.inr 86, .inl (0, 7), .inl (0, 19), .inl (0, 15)], [], [(109, 999)], [(none, [])], 0, 0)
/-- LoadsAheadModel feels -/
theorem qk_717 (l : Launch) : ek_ok l tQ iQ kq_717 := ek_good_ok (sp := sQ) (K := []) (SP := []) (HS := []) (N := 0) (fuel := 120) hIQ (fun _ h => absurd h List.not_mem_nil) (by decide +kernel)
def kq_719 : ek := (201, [.inr 86, .inl (0, 3), .inl (0, 19), .inl (0, 15)], [], [(109, 999)], [(none, [])], 0, 0)
/-- LoadsAheadModel feels -/
theorem qk_719 (l : Launch) : ek_ok l tQ iQ kq_719 := ek_good_ok (sp := sQ) (K := []) (SP := []) (HS := []) (N := 0) (fuel := 120) hIQ (fun _ h => absurd h List.not_mem_nil) (by decide +kernel)
def kq_721 : ek := (201, [.inr 86, .inl (0, 1), .inl (0, 19), .inl (0, 15)], [], [(109, 999)], [(none, [])], 0, 0)
/-- LoadsAheadModel feels -/
theorem qk_721 (l : Launch) : ek_ok l tQ iQ kq_721 := ek_good_ok (sp := sQ) (K := []) (SP := []) (HS := []) (N := 0) (fuel := 120) hIQ (fun _ h => absurd h List.not_mem_nil) (by decide +kernel)
def kq_724 : ek := (201, [.inr 86, .inl (0, 19), .inl (0, 20), .inl (0, 15)], [], [(109, 999)], [(none, [])], 0, 0)
/-- LoadsAheadModel feels -/
theorem qk_724 (l : Launch) : ek_ok l tQ iQ kq_724 := ek_good_ok (sp := sQ) (K := []) (SP := []) (HS := []) (N := 0) (fuel := 120) hIQ (fun _ h => absurd h List.not_mem_nil) (by decide +kernel)
def kq_726 : ek := (201, [.inr 86, .inl (0, 19), .inl (0, 20), .inl (0, 0)], [], [(109, 999)], [(none, [])], 0, 0)
/-- LoadsAheadModel feels -/
theorem qk_726 (l : Launch) : ek_ok l tQ iQ kq_726 := ek_good_ok (sp := sQ) (K := []) (SP := []) (HS := []) (N := 0) (fuel := 120) hIQ (fun _ h => absurd h List.not_mem_nil) (by decide +kernel)
def kq_734 : ek := (201, [.inr 86, .inl (0, 0), .inl (0, 20), .inl (0, 15)], [], [(109, 999)], [(none, [])], 0, 0)
/-- LoadsAheadModel feels -/
theorem qk_734 (l : Launch) : ek_ok l tQ iQ kq_734 := ek_good_ok (sp := sQ) (K := []) (SP := []) (HS := []) (N := 0) (fuel := 120) hIQ (fun _ h => absurd h List.not_mem_nil) (by decide +kernel)
def kq_736 : ek := (201, [.inr 86, .inl (0, 15), .inl (0, 20), .inl (0, 15)], [], [(109, 999)], [(none, [])], 0, 0)
/-- LoadsAheadModel feels -/
theorem qk_736 (l : Launch) : ek_ok l tQ iQ kq_736 := ek_good_ok (sp := sQ) (K := []) (SP := []) (HS := []) (N := 0) (fuel := 120) hIQ (fun _ h => absurd h List.not_mem_nil) (by decide +kernel)
def kq_738 : ek := (201, [.inr 86, .inl (0, 7), .inl (0, 20), .inl (0, 15)], [], [(109, 999)], [(none, [])], 0, 0)
/-- LoadsAheadModel feels -/
theorem qk_738 (l : Launch) : ek_ok l tQ iQ kq_738 := ek_good_ok (sp := sQ) (K := []) (SP := []) (HS := []) (N := 0) (fuel := 120) hIQ (fun _ h => absurd h List.not_mem_nil) (by decide +kernel)
def kq_740 : ek := (201, [.inr 86, .inl (0, 3), .inl (0, 20), .inl (0, 15)], [], [(109, 999)], [(none, [])], 0, 0)
/-- LoadsAheadModel feels -/
theorem qk_740 (l : Launch) : ek_ok l tQ iQ kq_740 := ek_good_ok (sp := sQ) (K := []) (SP := []) (HS := []) (N := 0) (fuel := 120) hIQ (fun _ h => absurd h List.not_mem_nil) (by decide +kernel)
def kq_742 : ek := (201, [.inr 86, .inl (0, 1), .inl (0, 20), .inl (0, 15)], [], [(109, 999)], [(none, [])], 0, 0)
/-- LoadsAheadModel feels -/
theorem qk_742 (l : Launch) : ek_ok l tQ iQ kq_742 := ek_good_ok (sp := sQ) (K := []) (SP := []) (HS := []) (N := 0) (fuel := 120) hIQ (fun _ h => absurd h List.not_mem_nil) (by decide +kernel)
def kq_745 : ek := (201, [.inr 86, .inl (0, 19), .inl (0, 63), .inl (0, 15)], [], [(109, 999)], [(none, [])], 0, 0)
/-- LoadsAheadModel feels -/
theorem qk_745 (l : Launch) : ek_ok l tQ iQ kq_745 := ek_good_ok (sp := sQ) (K := []) (SP := []) (HS := []) (N := 0) (fuel := 120) hIQ (fun _ h => absurd h List.not_mem_nil) (by decide +kernel)
end
section
def kq_747 : ek := (201, [.inr 86, .inl (0, 19), .inl (0, 63), .inl (0, 0)], [], [(109, 999)], [(none, [])], 0, 0)
/-- LoadsAheadModel feels -/
theorem qk_747 (l : Launch) : ek_ok l tQ iQ kq_747 := ek_good_ok (sp := sQ) (K := []) (SP := []) (HS := []) (N := 0) (fuel := 120) hIQ (fun _ h => absurd h List.not_mem_nil) (by decide +kernel)
def kq_755 : ek := (201, [.inr 86, .inl (0, 0), .inl (0, 63), .inl (0, 15)], [], [(109, 999)], [(none, [])], 0, 0)
/-- LoadsAheadModel feels -/
theorem qk_755 (l : Launch) : ek_ok l tQ iQ kq_755 := ek_good_ok (sp := sQ) (K := []) (SP := []) (HS := []) (N := 0) (fuel := 120) hIQ (fun _ h => absurd h List.not_mem_nil) (by decide +kernel)
def kq_757 : ek := (201, [.inr 86, .inl (0, 15), .inl (0, 63), .inl (0, 15)], [], [(109, 999)], [(none, [])], 0, 0)
/-- LoadsAheadModel feels -/
theorem qk_757 (l : Launch) : ek_ok l tQ iQ kq_757 := ek_good_ok (sp := sQ) (K := []) (SP := []) (HS := []) (N := 0) (fuel := 120) hIQ (fun _ h => absurd h List.not_mem_nil) (by decide +kernel)
def kq_759 : ek := (201, [.inr 86, .inl (0, 7), .inl (0, 63), .inl (0, 15)], [], [(109, 999)], [(none, [])], 0, 0)
/-- LoadsAheadModel feels -/
theorem qk_759 (l : Launch) : ek_ok l tQ iQ kq_759 := ek_good_ok (sp := sQ) (K := []) (SP := []) (HS := []) (N := 0) (fuel := 120) hIQ (fun _ h => absurd h List.not_mem_nil) (by decide +kernel)
def kq_761 : ek := (201, [.inr 86, .inl (0, 3), .inl (0, 63), .inl (0, 15)], [], [(109, 999)], [(none, [])], 0, 0)
/-- LoadsAheadModel feels -/
theorem qk_761 (l : Launch) : ek_ok l tQ iQ kq_761 := ek_good_ok (sp := sQ) (K := []) (SP := []) (HS := []) (N := 0) (fuel := 120) hIQ (fun _ h => absurd h List.not_mem_nil) (by decide +kernel)
def kq_763 : ek := (201, [.inr 86, .inl (0, 1), .inl (0, 63), .inl (0, 15)], [], [(109, 999)], [(none, [])], 0, 0)
/-- LoadsAheadModel feels -/
theorem qk_763 (l : Launch) : ek_ok l tQ iQ kq_763 := ek_good_ok (sp := sQ) (K := []) (SP := []) (HS := []) (N := 0) (fuel := 120) hIQ (fun _ h => absurd h List.not_mem_nil) (by decide +kernel)
def kq_766 : ek := (201, [.inr 86, .inl (0, 19), .inl (0, 64), .inl (0, 15)], [], [(109, 999)], [(none, [])], 0, 0)
/-- LoadsAheadModel feels -/
theorem qk_766 (l : Launch) : ek_ok l tQ iQ kq_766 := ek_good_ok (sp := sQ) (K := []) (SP := []) (HS := []) (N := 0) (fuel := 120) hIQ (fun _ h => absurd h List.not_mem_nil) (by decide +kernel)
def kq_768 : ek := (201, [.inr 86, .inl (0, 19), .inl (0, 64), .inl (0, 0)], [], [(109, 999)], [(none, [])], 0, 0)
/-- LoadsAheadModel feels -/
theorem qk_768 (l : Launch) : ek_ok l tQ iQ kq_768 := ek_good_ok (sp := sQ) (K := []) (SP := []) (HS := []) (N := 0) (fuel := 120) hIQ (fun _ h => absurd h List.not_mem_nil) (by decide +kernel)
def kq_776 : ek := (201, [.inr 86, .inl (0, 0), .inl (0, 64), .inl (0, 15)], [], [(109, 999)], [(none, [])], 0, 0)
/-- LoadsAheadModel feels -/
theorem qk_776 (l : Launch) : ek_ok l tQ iQ kq_776 := ek_good_ok (sp := sQ) (K := []) (SP := []) (HS := []) (N := 0) (fuel := 120) hIQ (fun _ h => absurd h List.not_mem_nil) (by decide +kernel)
def kq_778 : ek := (201, [.inr 86, .inl (0, 15), .inl (0, 64), .inl (0, 15)], [], [(109, 999)], [(none, [])], 0, 0)
/-- LoadsAheadModel feels -/
theorem qk_778 (l : Launch) : ek_ok l tQ iQ kq_778 := ek_good_ok (sp := sQ) (K := []) (SP := []) (HS := []) (N := 0) (fuel := 120) hIQ (fun _ h => absurd h List.not_mem_nil) (by decide +kernel)
def kq_780 : ek := (201, [.inr 86, .inl (0, 7), .inl (0, 64), .inl (0, 15)], [], [(109, 999)], [(none, [])], 0, 0)
/-- LoadsAheadModel feels -/
theorem qk_780 (l : Launch) : ek_ok l tQ iQ kq_780 := ek_good_ok (sp := sQ) (K := []) (SP := []) (HS := []) (N := 0) (fuel := 120) hIQ (fun _ h => absurd h List.not_mem_nil) (by decide +kernel)
def kq_782 : ek := (201, [.inr 86, .inl (0, 3), .inl (0, 64), .inl (0, 15)], [], [(109, 999)], [(none, [])], 0, 0)
/-- LoadsAheadModel feels -/
theorem qk_782 (l : Launch) : ek_ok l tQ iQ kq_782 := ek_good_ok (sp := sQ) (K := []) (SP := []) (HS := []) (N := 0) (fuel := 120) hIQ (fun _ h => absurd h List.not_mem_nil) (by decide +kernel)
def kq_784 : ek := (201, [.inr 86, .inl (0, 1), .inl (0, 64), .inl (0, 15)], [], [(109, 999)], [(none, [])], 0, 0)
/-- LoadsAheadModel feels -/
theorem qk_784 (l : Launch) : ek_ok l tQ iQ kq_784 := ek_good_ok (sp := sQ) (K := []) (SP := []) (HS := []) (N := 0) (fuel := 120) hIQ (fun _ h => absurd h List.not_mem_nil) (by decide +kernel)
def kq_787 : ek := (201, [.inr 86, .inl (0, 19), .inl (0, 240), .inl (0, 15)], [], [(109, 999)], [(none, [])], 0, 0)
/-- LoadsAheadModel feels -/
theorem qk_787 (l : Launch) : ek_ok l tQ iQ kq_787 := ek_good_ok (sp := sQ) (K := []) (SP := []) (HS := []) (N := 0) (fuel := 120) hIQ (fun _ h => absurd h List.not_mem_nil) (by decide +kernel)
def kq_789 : ek := (201, [.inr 86, .inl (0, 19), .inl (0, 240), .inl (0, 0)], [], [(109, 999)], [(none, [])], 0, 0)
/-- LoadsAheadModel feels -/
theorem qk_789 (l : Launch) : ek_ok l tQ iQ kq_789 := ek_good_ok (sp := sQ) (K := []) (SP := []) (HS := []) (N := 0) (fuel := 120) hIQ (fun _ h => absurd h List.not_mem_nil) (by decide +kernel)
def kq_797 : ek := (201, [.inr 86, .inl (0, 0), .inl (0, 240), .inl (0, 15)], [], [(109, 999)], [(none, [])], 0, 0)
/-- LoadsAheadModel feels -/
theorem qk_797 (l : Launch) : ek_ok l tQ iQ kq_797 := ek_good_ok (sp := sQ) (K := []) (SP := []) (HS := []) (N := 0) (fuel := 120) hIQ (fun _ h => absurd h List.not_mem_nil) (by decide +kernel)
def kq_799 : ek := (201, [.inr 86, .inl (0, 15), .inl (0, 240), .inl (0, 15)], [], [(109, 999)], [(none, [])], 0, 0)
/-- LoadsAheadModel feels -/
theorem qk_799 (l : Launch) : ek_ok l tQ iQ kq_799 := ek_good_ok (sp := sQ) (K := []) (SP := []) (HS := []) (N := 0) (fuel := 120) hIQ (fun _ h => absurd h List.not_mem_nil) (by decide +kernel)
def kq_801 : ek := (201, [.inr 86, .inl (0, 7), .inl (0, 240), .inl (0, 15)], [], [(109, 999)], [(none, [])], 0, 0)
/-- LoadsAheadModel feels -/
theorem qk_801 (l : Launch) : ek_ok l tQ iQ kq_801 := ek_good_ok (sp := sQ) (K := []) (SP := []) (HS := []) (N := 0) (fuel := 120) hIQ (fun _ h => absurd h List.not_mem_nil) (by decide +kernel)
def kq_803 : ek := (201, [.inr 86, .inl (0, 3), .inl (0, 240), .inl (0, 15)], [], [(109, 999)], [(none, [])], 0, 0)
/-- LoadsAheadModel feels -/
theorem qk_803 (l : Launch) : ek_ok l tQ iQ kq_803 := ek_good_ok (sp := sQ) (K := []) (SP := []) (HS := []) (N := 0) (fuel := 120) hIQ (fun _ h => absurd h List.not_mem_nil) (by decide +kernel)
def kq_805 : ek := (201, [.inr 86, .inl (0, 1), .inl (0, 240), .inl (0, 15)], [], [(109, 999)], [(none, [])], 0, 0)
/-- LoadsAheadModel feels -/
theorem qk_805 (l : Launch) : ek_ok l tQ iQ kq_805 := ek_good_ok (sp := sQ) (K := []) (SP := []) (HS := []) (N := 0) (fuel := 120) hIQ (fun _ h => absurd h List.not_mem_nil) (by decide +kernel)
def kq_808 : ek := (201, [.inr 86, .inl (0, 19), .inl (0, 255), .inl (0, 15)], [], [(109, 999)], [(none, [])], 0, 0)
/-- LoadsAheadModel feels -/
theorem qk_808 (l : Launch) : ek_ok l tQ iQ kq_808 := ek_good_ok (sp := sQ) (K := []) (SP := []) (HS := []) (N := 0) (fuel := 120) hIQ (fun _ h => absurd h List.not_mem_nil) (by decide +kernel)
def kq_810 : ek := (201, [.inr 86, .inl (0, 19), .inl (0, 255), .inl (0, 0)], [], [(109, 999)], [(none, [])], 0, 0)
/-- LoadsAheadModel feels -/
theorem qk_810 (l : Launch) : ek_ok l tQ iQ kq_810 := ek_good_ok (sp := sQ) (K := []) (SP := []) (HS := []) (N := 0) (fuel := 120) hIQ (fun _ h => absurd h List.not_mem_nil) (by decide +kernel)
def kq_818 : ek := (201, [.inr 86, .inl (0, 0), .inl (0, 255), .inl (0, 15)], [], [(109, 999)], [(none, [])], 0, 0)
/-- LoadsAheadModel feels -/
theorem qk_818 (l : Launch) : ek_ok l tQ iQ kq_818 := ek_good_ok (sp := sQ) (K := []) (SP := []) (HS := []) (N := 0) (fuel := 120) hIQ (fun _ h => absurd h List.not_mem_nil) (by decide +kernel)
def kq_820 : ek := (201, [.inr 86, .inl (0, 15), .inl (0, 255), .inl (0, 15)], [], [(109, 999)], [(none, [])], 0, 0)
/-- LoadsAheadModel feels -/
theorem qk_820 (l : Launch) : ek_ok l tQ iQ kq_820 := ek_good_ok (sp := sQ) (K := []) (SP := []) (HS := []) (N := 0) (fuel := 120) hIQ (fun _ h => absurd h List.not_mem_nil) (by decide +kernel)
def kq_822 : ek := (201, [.inr 86, .inl (0, 7), .inl (0, 255), .inl (0, 15)], [], [(109, 999)], [(none, [])], 0, 0)
/-- LoadsAheadModel feels -/
theorem qk_822 (l : Launch) : ek_ok l tQ iQ kq_822 := ek_good_ok (sp := sQ) (K := []) (SP := []) (HS := []) (N := 0) (fuel := 120) hIQ (fun _ h => absurd h List.not_mem_nil) (by decide +kernel)
def kq_824 : ek := (201, [.inr 86, .inl (0, 3), .inl (0, 255), .inl (0, 15)], [], [(109, 999)], [(none, [])], 0, 0)
/-- LoadsAheadModel feels -/
theorem qk_824 (l : Launch) : ek_ok l tQ iQ kq_824 := ek_good_ok (sp := sQ) (K := []) (SP := []) (HS := []) (N := 0) (fuel := 120) hIQ (fun _ h => absurd h List.not_mem_nil) (by decide +kernel)
def kq_826 : ek := (201, [.inr 86, .inl (0, 1), .inl (0, 255), .inl (0, 15)], [], [(109, 999)], [(none, [])], 0, 0)
/-- LoadsAheadModel feels -/
theorem qk_826 (l : Launch) : ek_ok l tQ iQ kq_826 := ek_good_ok (sp := sQ) (K := []) (SP := []) (HS := []) (N := 0) (fuel := 120) hIQ (fun _ h => absurd h List.not_mem_nil) (by decide +kernel)
def kq_829 : ek := (201, [.inr 86, .inl (0, 19), .inl (0, 260), .inl (0, 15)], [], [(109, 999)], [(none, [])], 0, 0)
/-- LoadsAheadModel feels -/
theorem qk_829 (l : Launch) : ek_ok l tQ iQ kq_829 := ek_good_ok (sp := sQ) (K := []) (SP := []) (HS := []) (N := 0) (fuel := 120) hIQ (fun _ h => absurd h List.not_mem_nil) (by decide +kernel)
def kq_831 : ek := (201, [.inr 86, .inl (0, 19), .inl (0, 260), .inl (0, 0)], [], [(109, 999)], [(none, [])], 0, 0)
/-- LoadsAheadModel feels -/
theorem qk_831 (l : Launch) : ek_ok l tQ iQ kq_831 := ek_good_ok (sp := sQ) (K := []) (SP := []) (HS := []) (N := 0) (fuel := 120) hIQ (fun _ h => absurd h List.not_mem_nil) (by decide +kernel)
def kq_839 : ek := (201, [.inr 86, .inl (0, 0), .inl (0, 260), .inl (0, 15)], [], [(109, 999)], [(none, [])], 0, 0)
/-- LoadsAheadModel feels -/
theorem qk_839 (l : Launch) : ek_ok l tQ iQ kq_839 := ek_good_ok (sp := sQ) (K := []) (SP := []) (HS := []) (N := 0) (fuel := 120) hIQ (fun _ h => absurd h List.not_mem_nil) (by decide +kernel)
def kq_841 : ek := (201, [.inr 86, .inl (0, 15), .inl (0, 260), .inl (0, 15)], [], [(109, 999)], [(none, [])], 0, 0)
/-- LoadsAheadModel feels -/
theorem qk_841 (l : Launch) : ek_ok l tQ iQ kq_841 := ek_good_ok (sp := sQ) (K := []) (SP := []) (HS := []) (N := 0) (fuel := 120) hIQ (fun _ h => absurd h List.not_mem_nil) (by decide +kernel)
def kq_843 : ek := (201, [.inr 86, .inl (0, 7), .inl (0, 260), .inl (0, 15)], [], [(109, 999)], [(none, [])], 0, 0)
/-- LoadsAheadModel feels -/
theorem qk_843 (l : Launch) : ek_ok l tQ iQ kq_843 := ek_good_ok (sp := sQ) (K := []) (SP := []) (HS := []) (N := 0) (fuel := 120) hIQ (fun _ h => absurd h List.not_mem_nil) (by decide +kernel)
def kq_845 : ek := (201, [.inr 86, .inl (0, 3), .inl (0, 260), .inl (0, 15)], [], [(109, 999)], [(none, [])], 0, 0)
/-- LoadsAheadModel feels -/
theorem qk_845 (l : Launch) : ek_ok l tQ iQ kq_845 := ek_good_ok (sp := sQ) (K := []) (SP := []) (HS := []) (N := 0) (fuel := 120) hIQ (fun _ h => absurd h List.not_mem_nil) (by decide +kernel)
def kq_847 : ek := (201, [.inr 86, .inl (0, 1), .inl (0, 260), .inl (0, 15)], [], [(109, 999)], [(none, [])], 0, 0)
/-- LoadsAheadModel feels -/
theorem qk_847 (l : Launch) : ek_ok l tQ iQ kq_847 := ek_good_ok (sp := sQ) (K := []) (SP := []) (HS := []) (N := 0) (fuel := 120) hIQ (fun _ h => absurd h List.not_mem_nil) (by decide +kernel)
end
section
def kq_854 : ek := (201, [.inr 86, .inl (0, 0), .inl (0, 2000), .inl (0, 15)], [], [(109, 999)], [(none, [])], 0, 0)
/-- LoadsAheadModel feels -/
theorem qk_854 (l : Launch) : ek_ok l tQ iQ kq_854 := ek_good_ok (sp := sQ) (K := []) (SP := []) (HS := []) (N := 0) (fuel := 120) hIQ (fun _ h => absurd h List.not_mem_nil) (by decide +kernel)
def kq_856 : ek := (201, [.inr 86, .inl (0, 15), .inl (0, 2000), .inl (0, 15)], [], [(109, 999)], [(none, [])], 0, 0)
/-- LoadsAheadModel feels -/
theorem qk_856 (l : Launch) : ek_ok l tQ iQ kq_856 := ek_good_ok (sp := sQ) (K := []) (SP := []) (HS := []) (N := 0) (fuel := 120) hIQ (fun _ h => absurd h List.not_mem_nil) (by decide +kernel)
def kq_858 : ek := (201, [.inr 86, .inl (0, 7), .inl (0, 2000), .inl (0, 15)], [], [(109, 999)], [(none, [])], 0, 0)
/-- LoadsAheadModel feels -/
theorem qk_858 (l : Launch) : ek_ok l tQ iQ kq_858 := ek_good_ok (sp := sQ) (K := []) (SP := []) (HS := []) (N := 0) (fuel := 120) hIQ (fun _ h => absurd h List.not_mem_nil) (by decide +kernel)
def kq_860 : ek := (201, [.inr 86, .inl (0, 3), .inl (0, 2000), .inl (0, 15)], [], [(109, 999)], [(none, [])], 0, 0)
/-- LoadsAheadModel feels -/
theorem qk_860 (l : Launch) : ek_ok l tQ iQ kq_860 := ek_good_ok (sp := sQ) (K := []) (SP := []) (HS := []) (N := 0) (fuel := 120) hIQ (fun _ h => absurd h List.not_mem_nil) (by decide +kernel)
def kq_862 : ek := (201, [.inr 86, .inl (0, 1), .inl (0, 2000), .inl (0, 15)], [], [(109, 999)], [(none, [])], 0, 0)
/-- LoadsAheadModel feels -/
theorem qk_862 (l : Launch) : ek_ok l tQ iQ kq_862 := ek_good_ok (sp := sQ) (K := []) (SP := []) (HS := []) (N := 0) (fuel := 120) hIQ (fun _ h => absurd h List.not_mem_nil) (by decide +kernel)
def kq_864 : ek := (173, [.inr 86, .inl (0, 20), .inl (0, 0)], [], [], [(some (.inl (0, 19)), []), (some (.inl ((-1), (-1))), [])], 1, 22)
/-- LoadsAheadModel giverOf -/
theorem qk_864 (l : Launch) : ek_ok l tQ iQ kq_864 := ek_good_ok (sp := sQ) (K := [kq_601]) (SP := []) (HS := [((4, [some (.inr 86, none), some (.inl (0, 20), none), some (.inl (0, 0), none), some (.inl ((-1), 19), none)], [], [], []), [(0, (0, 0, 0), 0), (2, (1, 3, 0), (-1)), (0, (0, 0, 0), 0)])]) (N := 3) (fuel := 28) hIQ (List.forall_mem_cons.mpr ⟨qk_601 l, fun _ h => absurd h List.not_mem_nil⟩) (by decide +kernel)
def kq_865 : ek := (180, [.inr 86, .inl (0, 20), .inl (0, 0)], [], [], [(some (.inl ((-2147483648), 2147483647)), [])], 2, 45)
/-- LoadsAheadModel readBy -/
theorem qk_865 (l : Launch) : ek_ok l tQ iQ kq_865 := ek_good_ok (sp := sQ) (K := [kq_864]) (SP := []) (HS := []) (N := 0) (fuel := 36) hIQ (List.forall_mem_cons.mpr ⟨qk_864 l, fun _ h => absurd h List.not_mem_nil⟩) (by decide +kernel)
def kq_866 : ek := (173, [.inr 86, .inl (0, 20), .inl (0, 1)], [], [], [(some (.inl (0, 19)), []), (some (.inl ((-1), (-1))), [])], 1, 22)
/-- LoadsAheadModel giverOf -/
theorem qk_866 (l : Launch) : ek_ok l tQ iQ kq_866 := ek_good_ok (sp := sQ) (K := [kq_599]) (SP := []) (HS := [((4, [some (.inr 86, none), some (.inl (0, 20), none), some (.inl (0, 1), none), some (.inl ((-1), 19), none)], [], [], []), [(0, (0, 0, 0), 0), (2, (1, 3, 0), (-1)), (0, (0, 0, 0), 0)])]) (N := 3) (fuel := 28) hIQ (List.forall_mem_cons.mpr ⟨qk_599 l, fun _ h => absurd h List.not_mem_nil⟩) (by decide +kernel)
def kq_867 : ek := (180, [.inr 86, .inl (0, 20), .inl (0, 1)], [], [], [(some (.inl ((-2147483648), 2147483647)), [])], 2, 45)
/-- LoadsAheadModel readBy -/
theorem qk_867 (l : Launch) : ek_ok l tQ iQ kq_867 := ek_good_ok (sp := sQ) (K := [kq_866]) (SP := []) (HS := []) (N := 0) (fuel := 36) hIQ (List.forall_mem_cons.mpr ⟨qk_866 l, fun _ h => absurd h List.not_mem_nil⟩) (by decide +kernel)
def kq_868 : ek := (173, [.inr 86, .inl (0, 20), .inl (0, 3)], [], [], [(some (.inl (0, 19)), []), (some (.inl ((-1), (-1))), [])], 1, 22)
/-- LoadsAheadModel giverOf -/
theorem qk_868 (l : Launch) : ek_ok l tQ iQ kq_868 := ek_good_ok (sp := sQ) (K := [kq_597]) (SP := []) (HS := [((4, [some (.inr 86, none), some (.inl (0, 20), none), some (.inl (0, 3), none), some (.inl ((-1), 19), none)], [], [], []), [(0, (0, 0, 0), 0), (2, (1, 3, 0), (-1)), (0, (0, 0, 0), 0)])]) (N := 3) (fuel := 28) hIQ (List.forall_mem_cons.mpr ⟨qk_597 l, fun _ h => absurd h List.not_mem_nil⟩) (by decide +kernel)
def kq_869 : ek := (180, [.inr 86, .inl (0, 20), .inl (0, 3)], [], [], [(some (.inl ((-2147483648), 2147483647)), [])], 2, 45)
/-- LoadsAheadModel readBy -/
theorem qk_869 (l : Launch) : ek_ok l tQ iQ kq_869 := ek_good_ok (sp := sQ) (K := [kq_868]) (SP := []) (HS := []) (N := 0) (fuel := 36) hIQ (List.forall_mem_cons.mpr ⟨qk_868 l, fun _ h => absurd h List.not_mem_nil⟩) (by decide +kernel)
def kq_870 : ek := (211, [.inr 86, .inl (0, 0)], [], [], [(some (.inl ((-2147483648), 2147483647)), [])], 0, 0)
/-- LoadsAheadModel toldOf -/
theorem qk_870 (l : Launch) : ek_ok l tQ iQ kq_870 := ek_good_ok (sp := sQ) (K := []) (SP := []) (HS := []) (N := 0) (fuel := 18) hIQ (fun _ h => absurd h List.not_mem_nil) (by decide +kernel)
def kq_871 : ek := (211, [.inr 86, .inl (0, 1)], [], [], [(some (.inl ((-2147483648), 2147483647)), [])], 0, 0)
/-- LoadsAheadModel toldOf -/
theorem qk_871 (l : Launch) : ek_ok l tQ iQ kq_871 := ek_good_ok (sp := sQ) (K := []) (SP := []) (HS := []) (N := 0) (fuel := 18) hIQ (fun _ h => absurd h List.not_mem_nil) (by decide +kernel)
def kq_872 : ek := (211, [.inr 86, .inl (0, 3)], [], [], [(some (.inl ((-2147483648), 2147483647)), [])], 0, 0)
/-- LoadsAheadModel toldOf -/
theorem qk_872 (l : Launch) : ek_ok l tQ iQ kq_872 := ek_good_ok (sp := sQ) (K := []) (SP := []) (HS := []) (N := 0) (fuel := 18) hIQ (fun _ h => absurd h List.not_mem_nil) (by decide +kernel)
def kq_873 : ek := (137, [.inl (5, 2147483647), .inl (1, 1), .inl (4, 4)], [], [], [(some (.inl (0, 0)), [])], 0, 0)
/-- LoadsAheadModel in -/
theorem qk_873 (l : Launch) : ek_ok l tQ iQ kq_873 := ek_good_ok (sp := sQ) (K := []) (SP := []) (HS := []) (N := 0) (fuel := 24) hIQ (fun _ h => absurd h List.not_mem_nil) (by decide +kernel)
def kq_874 : ek := (176, [.inr 86, .inl (5, 2147483647)], [], [], [(some (.inl (0, 0)), [])], 1, 22)
/-- LoadsAheadModel canRun -/
theorem qk_874 (l : Launch) : ek_ok l tQ iQ kq_874 := ek_good_ok (sp := sQ) (K := [kq_873]) (SP := [(3, [(2, [0, 4])])]) (HS := []) (N := 0) (fuel := 22) hIQ (List.forall_mem_cons.mpr ⟨qk_873 l, fun _ h => absurd h List.not_mem_nil⟩) (by decide +kernel)
def kq_875 : ek := (175, [.inr 86, .inl (5, 2147483647)], [], [], [(some (.inl ((-1), (-1))), [])], 2, 43)
/-- LoadsAheadModel run -/
theorem qk_875 (l : Launch) : ek_ok l tQ iQ kq_875 := ek_good_ok (sp := sQ) (K := [kq_874]) (SP := [(2, [(0, [0, 4])])]) (HS := []) (N := 0) (fuel := 20) hIQ (List.forall_mem_cons.mpr ⟨qk_874 l, fun _ h => absurd h List.not_mem_nil⟩) (by decide +kernel)
def kq_876 : ek := (99, [.inr 2, .inl ((-2147483648), 0), .inl ((-2147483648), (-2147483639))], [], [], [(some (.inl ((-1), (-1))), [])], 1, 21)
/-- LoadsAhead tried -/
theorem qk_876 (l : Launch) : ek_ok l tQ iQ kq_876 := ek_good_ok (sp := sQ) (K := [kq_241]) (SP := [(2, [(0, [0, 4])])]) (HS := []) (N := 0) (fuel := 20) hIQ (List.forall_mem_cons.mpr ⟨qk_241 l, fun _ h => absurd h List.not_mem_nil⟩) (by decide +kernel)
def kq_877 : ek := (99, [.inr 2, .inl ((-2147483648), 0), .inl ((-2147483638), (-1))], [], [], [(some (.inl ((-1), (-1))), [])], 1, 21)
/-- LoadsAhead tried -/
theorem qk_877 (l : Launch) : ek_ok l tQ iQ kq_877 := ek_good_ok (sp := sQ) (K := [kq_241]) (SP := [(2, [(0, [0, 4])])]) (HS := []) (N := 0) (fuel := 20) hIQ (List.forall_mem_cons.mpr ⟨qk_241 l, fun _ h => absurd h List.not_mem_nil⟩) (by decide +kernel)
def kq_878 : ek := (99, [.inr 2, .inl ((-2147483648), 0), .inl (0, 5)], [], [], [(some (.inl ((-1), (-1))), [])], 1, 21)
/-- LoadsAhead tried -/
theorem qk_878 (l : Launch) : ek_ok l tQ iQ kq_878 := ek_good_ok (sp := sQ) (K := [kq_241]) (SP := [(2, [(0, [0, 4])])]) (HS := []) (N := 0) (fuel := 20) hIQ (List.forall_mem_cons.mpr ⟨qk_241 l, fun _ h => absurd h List.not_mem_nil⟩) (by decide +kernel)
def kq_879 : ek := (99, [.inr 2, .inl ((-2147483648), 0), .inl (6, 9)], [], [], [(some (.inl ((-1), (-1))), [])], 1, 21)
/-- LoadsAhead tried -/
theorem qk_879 (l : Launch) : ek_ok l tQ iQ kq_879 := ek_good_ok (sp := sQ) (K := [kq_241]) (SP := [(2, [(0, [0, 4])])]) (HS := []) (N := 0) (fuel := 20) hIQ (List.forall_mem_cons.mpr ⟨qk_241 l, fun _ h => absurd h List.not_mem_nil⟩) (by decide +kernel)
def kq_880 : ek := (99, [.inr 2, .inl ((-2147483648), 0), .inl (10, 17)], [], [], [(some (.inl ((-1), (-1))), [])], 1, 21)
/-- LoadsAhead tried -/
theorem qk_880 (l : Launch) : ek_ok l tQ iQ kq_880 := ek_good_ok (sp := sQ) (K := [kq_241]) (SP := [(2, [(0, [0, 4])])]) (HS := []) (N := 0) (fuel := 20) hIQ (List.forall_mem_cons.mpr ⟨qk_241 l, fun _ h => absurd h List.not_mem_nil⟩) (by decide +kernel)
def kq_881 : ek := (99, [.inr 2, .inl ((-2147483648), 0), .inl (18, 99)], [], [], [(some (.inl ((-1), (-1))), [])], 1, 21)
/-- LoadsAhead tried -/
theorem qk_881 (l : Launch) : ek_ok l tQ iQ kq_881 := ek_good_ok (sp := sQ) (K := [kq_241]) (SP := [(2, [(0, [0, 4])])]) (HS := []) (N := 0) (fuel := 20) hIQ (List.forall_mem_cons.mpr ⟨qk_241 l, fun _ h => absurd h List.not_mem_nil⟩) (by decide +kernel)
def kq_882 : ek := (99, [.inr 2, .inl ((-2147483648), 0), .inl (100, 163)], [], [], [(some (.inl ((-1), (-1))), [])], 1, 21)
/-- LoadsAhead tried -/
theorem qk_882 (l : Launch) : ek_ok l tQ iQ kq_882 := ek_good_ok (sp := sQ) (K := [kq_241]) (SP := [(2, [(0, [0, 4])])]) (HS := []) (N := 0) (fuel := 20) hIQ (List.forall_mem_cons.mpr ⟨qk_241 l, fun _ h => absurd h List.not_mem_nil⟩) (by decide +kernel)
def kq_883 : ek := (99, [.inr 2, .inl ((-2147483648), 0), .inl (164, 2147483647)], [], [], [(some (.inl ((-1), (-1))), [])], 1, 21)
/-- LoadsAhead tried -/
theorem qk_883 (l : Launch) : ek_ok l tQ iQ kq_883 := ek_good_ok (sp := sQ) (K := [kq_241]) (SP := [(2, [(0, [0, 4])])]) (HS := []) (N := 0) (fuel := 20) hIQ (List.forall_mem_cons.mpr ⟨qk_241 l, fun _ h => absurd h List.not_mem_nil⟩) (by decide +kernel)
def kq_884 : ek := (100, [.inl ((-2147483648), (-2147483639))], [], [], [(some (.inl (0, 0)), [])], 0, 0)
/-- LoadsAhead isTotal -/
theorem qk_884 (l : Launch) : ek_ok l tQ iQ kq_884 := ek_good_ok (sp := sQ) (K := []) (SP := []) (HS := []) (N := 0) (fuel := 16) hIQ (fun _ h => absurd h List.not_mem_nil) (by decide +kernel)
def kq_885 : ek := (101, [.inl ((-2147483648), (-2147483639))], [], [], [(some (.inl (0, 0)), [])], 0, 0)
/-- LoadsAhead isByte -/
theorem qk_885 (l : Launch) : ek_ok l tQ iQ kq_885 := ek_good_ok (sp := sQ) (K := []) (SP := []) (HS := []) (N := 0) (fuel := 18) hIQ (fun _ h => absurd h List.not_mem_nil) (by decide +kernel)
def kq_886 : ek := (52, [.inl (2147483638, 2147483647)], [], [], [(some (.inl (0, 0)), [])], 0, 0)
/-- LoadsAhead isCell -/
theorem qk_886 (l : Launch) : ek_ok l tQ iQ kq_886 := ek_good_ok (sp := sQ) (K := []) (SP := []) (HS := []) (N := 0) (fuel := 22) hIQ (fun _ h => absurd h List.not_mem_nil) (by decide +kernel)
def kq_887 : ek := (99, [.inr 2, .inl (1, 4), .inl ((-2147483648), (-2147483639))], [], [], [(some (.inl ((-1), (-1))), [])], 1, 21)
/-- LoadsAhead tried -/
theorem qk_887 (l : Launch) : ek_ok l tQ iQ kq_887 := ek_good_ok (sp := sQ) (K := [kq_243, kq_884, kq_886, kq_885]) (SP := [(2, [(0, [0, 4])]), (9, [(0, [(-1), 5])]), (19, [(0, [(-1), 7])]), (26, [(0, [99, 163])])]) (HS := []) (N := 0) (fuel := 42) hIQ (List.forall_mem_cons.mpr ⟨qk_243 l, List.forall_mem_cons.mpr ⟨qk_884 l, List.forall_mem_cons.mpr ⟨qk_886 l, List.forall_mem_cons.mpr ⟨qk_885 l, fun _ h => absurd h List.not_mem_nil⟩⟩⟩⟩) (by decide +kernel)
def kq_888 : ek := (100, [.inl ((-2147483638), (-1))], [], [], [(some (.inl (0, 0)), [])], 0, 0)
/-- LoadsAhead isTotal -/
theorem qk_888 (l : Launch) : ek_ok l tQ iQ kq_888 := ek_good_ok (sp := sQ) (K := []) (SP := []) (HS := []) (N := 0) (fuel := 16) hIQ (fun _ h => absurd h List.not_mem_nil) (by decide +kernel)
def kq_889 : ek := (101, [.inl ((-2147483638), (-1))], [], [], [(some (.inl (0, 0)), [])], 0, 0)
/-- LoadsAhead isByte -/
theorem qk_889 (l : Launch) : ek_ok l tQ iQ kq_889 := ek_good_ok (sp := sQ) (K := []) (SP := []) (HS := []) (N := 0) (fuel := 18) hIQ (fun _ h => absurd h List.not_mem_nil) (by decide +kernel)
def kq_890 : ek := (52, [.inl ((-2147483648), (-11))], [], [], [(some (.inl (0, 0)), [])], 0, 0)
/-- LoadsAhead isCell -/
theorem qk_890 (l : Launch) : ek_ok l tQ iQ kq_890 := ek_good_ok (sp := sQ) (K := []) (SP := []) (HS := []) (N := 0) (fuel := 16) hIQ (fun _ h => absurd h List.not_mem_nil) (by decide +kernel)
def kq_891 : ek := (99, [.inr 2, .inl (1, 4), .inl ((-2147483638), (-1))], [], [], [(some (.inl ((-1), (-1))), [])], 1, 21)
/-- LoadsAhead tried -/
theorem qk_891 (l : Launch) : ek_ok l tQ iQ kq_891 := ek_good_ok (sp := sQ) (K := [kq_243, kq_890, kq_889, kq_888]) (SP := [(2, [(0, [0, 4])]), (9, [(0, [(-1), 5])]), (19, [(0, [(-1), 7])]), (26, [(0, [99, 163])])]) (HS := []) (N := 0) (fuel := 42) hIQ (List.forall_mem_cons.mpr ⟨qk_243 l, List.forall_mem_cons.mpr ⟨qk_890 l, List.forall_mem_cons.mpr ⟨qk_889 l, List.forall_mem_cons.mpr ⟨qk_888 l, fun _ h => absurd h List.not_mem_nil⟩⟩⟩⟩) (by decide +kernel)
def kq_892 : ek := (100, [.inl (0, 5)], [], [], [(some (.inl (1, 1)), [])], 0, 0)
/-- LoadsAhead isTotal -/
theorem qk_892 (l : Launch) : ek_ok l tQ iQ kq_892 := ek_good_ok (sp := sQ) (K := []) (SP := []) (HS := []) (N := 0) (fuel := 24) hIQ (fun _ h => absurd h List.not_mem_nil) (by decide +kernel)
def kq_893 : ek := (101, [.inl (0, 5)], [], [], [(some (.inl (0, 0)), [])], 0, 0)
/-- LoadsAhead isByte -/
theorem qk_893 (l : Launch) : ek_ok l tQ iQ kq_893 := ek_good_ok (sp := sQ) (K := []) (SP := []) (HS := []) (N := 0) (fuel := 18) hIQ (fun _ h => absurd h List.not_mem_nil) (by decide +kernel)
def kq_894 : ek := (52, [.inl ((-10), (-5))], [], [], [(some (.inl (0, 0)), [])], 0, 0)
/-- LoadsAhead isCell -/
theorem qk_894 (l : Launch) : ek_ok l tQ iQ kq_894 := ek_good_ok (sp := sQ) (K := []) (SP := []) (HS := []) (N := 0) (fuel := 16) hIQ (fun _ h => absurd h List.not_mem_nil) (by decide +kernel)
def kq_896 : ek := (100, [.inl (6, 9)], [], [], [(some (.inl (0, 0)), [])], 0, 0)
/-- LoadsAhead isTotal -/
theorem qk_896 (l : Launch) : ek_ok l tQ iQ kq_896 := ek_good_ok (sp := sQ) (K := []) (SP := []) (HS := []) (N := 0) (fuel := 22) hIQ (fun _ h => absurd h List.not_mem_nil) (by decide +kernel)
def kq_897 : ek := (101, [.inl (6, 9)], [], [], [(some (.inl (0, 0)), [])], 0, 0)
/-- LoadsAhead isByte -/
theorem qk_897 (l : Launch) : ek_ok l tQ iQ kq_897 := ek_good_ok (sp := sQ) (K := []) (SP := []) (HS := []) (N := 0) (fuel := 18) hIQ (fun _ h => absurd h List.not_mem_nil) (by decide +kernel)
def kq_898 : ek := (52, [.inl ((-4), (-1))], [], [], [(some (.inl (0, 0)), [])], 0, 0)
/-- LoadsAhead isCell -/
theorem qk_898 (l : Launch) : ek_ok l tQ iQ kq_898 := ek_good_ok (sp := sQ) (K := []) (SP := []) (HS := []) (N := 0) (fuel := 16) hIQ (fun _ h => absurd h List.not_mem_nil) (by decide +kernel)
def kq_899 : ek := (99, [.inr 2, .inl (1, 4), .inl (6, 9)], [], [], [(some (.inl ((-1), (-1))), [])], 1, 21)
/-- LoadsAhead tried -/
theorem qk_899 (l : Launch) : ek_ok l tQ iQ kq_899 := ek_good_ok (sp := sQ) (K := [kq_896, kq_897, kq_898, kq_243]) (SP := [(2, [(0, [0, 4])]), (9, [(0, [(-1), 5])]), (19, [(0, [(-1), 7])]), (26, [(0, [99, 163])])]) (HS := []) (N := 0) (fuel := 42) hIQ (List.forall_mem_cons.mpr ⟨qk_896 l, List.forall_mem_cons.mpr ⟨qk_897 l, List.forall_mem_cons.mpr ⟨qk_898 l, List.forall_mem_cons.mpr ⟨qk_243 l, fun _ h => absurd h List.not_mem_nil⟩⟩⟩⟩) (by decide +kernel)
def kq_900 : ek := (100, [.inl (10, 17)], [], [], [(some (.inl (0, 0)), [])], 0, 0)
/-- LoadsAhead isTotal -/
theorem qk_900 (l : Launch) : ek_ok l tQ iQ kq_900 := ek_good_ok (sp := sQ) (K := []) (SP := []) (HS := []) (N := 0) (fuel := 22) hIQ (fun _ h => absurd h List.not_mem_nil) (by decide +kernel)
def kq_901 : ek := (101, [.inl (10, 17)], [], [], [(some (.inl (0, 0)), [])], 0, 0)
/-- LoadsAhead isByte -/
theorem qk_901 (l : Launch) : ek_ok l tQ iQ kq_901 := ek_good_ok (sp := sQ) (K := []) (SP := []) (HS := []) (N := 0) (fuel := 18) hIQ (fun _ h => absurd h List.not_mem_nil) (by decide +kernel)
def kq_903 : ek := (100, [.inl (18, 99)], [], [], [(some (.inl (0, 0)), [])], 0, 0)
/-- LoadsAhead isTotal -/
theorem qk_903 (l : Launch) : ek_ok l tQ iQ kq_903 := ek_good_ok (sp := sQ) (K := []) (SP := []) (HS := []) (N := 0) (fuel := 22) hIQ (fun _ h => absurd h List.not_mem_nil) (by decide +kernel)
def kq_904 : ek := (101, [.inl (18, 99)], [], [], [(some (.inl (0, 0)), [])], 0, 0)
/-- LoadsAhead isByte -/
theorem qk_904 (l : Launch) : ek_ok l tQ iQ kq_904 := ek_good_ok (sp := sQ) (K := []) (SP := []) (HS := []) (N := 0) (fuel := 18) hIQ (fun _ h => absurd h List.not_mem_nil) (by decide +kernel)
def kq_905 : ek := (52, [.inl (8, 89)], [], [], [(some (.inl (0, 0)), [])], 0, 0)
/-- LoadsAhead isCell -/
theorem qk_905 (l : Launch) : ek_ok l tQ iQ kq_905 := ek_good_ok (sp := sQ) (K := []) (SP := []) (HS := []) (N := 0) (fuel := 22) hIQ (fun _ h => absurd h List.not_mem_nil) (by decide +kernel)
def kq_906 : ek := (99, [.inr 2, .inl (1, 4), .inl (18, 99)], [], [], [(some (.inl ((-1), (-1))), [])], 1, 21)
/-- LoadsAhead tried -/
theorem qk_906 (l : Launch) : ek_ok l tQ iQ kq_906 := ek_good_ok (sp := sQ) (K := [kq_243, kq_905, kq_904, kq_903]) (SP := [(2, [(0, [0, 4])]), (9, [(0, [(-1), 5])]), (19, [(0, [(-1), 7])]), (26, [(0, [99, 163])])]) (HS := []) (N := 0) (fuel := 42) hIQ (List.forall_mem_cons.mpr ⟨qk_243 l, List.forall_mem_cons.mpr ⟨qk_905 l, List.forall_mem_cons.mpr ⟨qk_904 l, List.forall_mem_cons.mpr ⟨qk_903 l, fun _ h => absurd h List.not_mem_nil⟩⟩⟩⟩) (by decide +kernel)
def kq_907 : ek := (100, [.inl (100, 163)], [], [], [(some (.inl (0, 0)), [])], 0, 0)
/-- LoadsAhead isTotal -/
theorem qk_907 (l : Launch) : ek_ok l tQ iQ kq_907 := ek_good_ok (sp := sQ) (K := []) (SP := []) (HS := []) (N := 0) (fuel := 22) hIQ (fun _ h => absurd h List.not_mem_nil) (by decide +kernel)
def kq_908 : ek := (101, [.inl (100, 163)], [], [], [(some (.inl (1, 1)), [])], 0, 0)
/-- LoadsAhead isByte -/
theorem qk_908 (l : Launch) : ek_ok l tQ iQ kq_908 := ek_good_ok (sp := sQ) (K := []) (SP := []) (HS := []) (N := 0) (fuel := 26) hIQ (fun _ h => absurd h List.not_mem_nil) (by decide +kernel)
def kq_909 : ek := (52, [.inl (90, 153)], [], [], [(some (.inl (0, 0)), [])], 0, 0)
/-- LoadsAhead isCell -/
theorem qk_909 (l : Launch) : ek_ok l tQ iQ kq_909 := ek_good_ok (sp := sQ) (K := []) (SP := []) (HS := []) (N := 0) (fuel := 22) hIQ (fun _ h => absurd h List.not_mem_nil) (by decide +kernel)
def kq_911 : ek := (100, [.inl (164, 2147483647)], [], [], [(some (.inl (0, 0)), [])], 0, 0)
/-- LoadsAhead isTotal -/
theorem qk_911 (l : Launch) : ek_ok l tQ iQ kq_911 := ek_good_ok (sp := sQ) (K := []) (SP := []) (HS := []) (N := 0) (fuel := 22) hIQ (fun _ h => absurd h List.not_mem_nil) (by decide +kernel)
def kq_912 : ek := (101, [.inl (164, 2147483647)], [], [], [(some (.inl (0, 0)), [])], 0, 0)
/-- LoadsAhead isByte -/
theorem qk_912 (l : Launch) : ek_ok l tQ iQ kq_912 := ek_good_ok (sp := sQ) (K := []) (SP := []) (HS := []) (N := 0) (fuel := 24) hIQ (fun _ h => absurd h List.not_mem_nil) (by decide +kernel)
def kq_913 : ek := (52, [.inl (154, 2147483637)], [], [], [(some (.inl (0, 0)), [])], 0, 0)
/-- LoadsAhead isCell -/
theorem qk_913 (l : Launch) : ek_ok l tQ iQ kq_913 := ek_good_ok (sp := sQ) (K := []) (SP := []) (HS := []) (N := 0) (fuel := 22) hIQ (fun _ h => absurd h List.not_mem_nil) (by decide +kernel)
def kq_914 : ek := (99, [.inr 2, .inl (1, 4), .inl (164, 2147483647)], [], [], [(some (.inl ((-1), (-1))), [])], 1, 21)
/-- LoadsAhead tried -/
theorem qk_914 (l : Launch) : ek_ok l tQ iQ kq_914 := ek_good_ok (sp := sQ) (K := [kq_243, kq_912, kq_913, kq_911]) (SP := [(2, [(0, [0, 4])]), (9, [(0, [(-1), 5])]), (19, [(0, [(-1), 7])]), (26, [(0, [99, 163])])]) (HS := []) (N := 0) (fuel := 42) hIQ (List.forall_mem_cons.mpr ⟨qk_243 l, List.forall_mem_cons.mpr ⟨qk_912 l, List.forall_mem_cons.mpr ⟨qk_913 l, List.forall_mem_cons.mpr ⟨qk_911 l, fun _ h => absurd h List.not_mem_nil⟩⟩⟩⟩) (by decide +kernel)
def kq_915 : ek := (99, [.inr 2, .inl (5, 2147483647), .inl ((-2147483648), (-2147483639))], [], [], [(some (.inl ((-1), (-1))), [])], 1, 21)
/-- LoadsAhead tried -/
theorem qk_915 (l : Launch) : ek_ok l tQ iQ kq_915 := ek_good_ok (sp := sQ) (K := [kq_420]) (SP := [(2, [(0, [0, 4])])]) (HS := []) (N := 0) (fuel := 20) hIQ (List.forall_mem_cons.mpr ⟨qk_420 l, fun _ h => absurd h List.not_mem_nil⟩) (by decide +kernel)
def kq_916 : ek := (99, [.inr 2, .inl (5, 2147483647), .inl ((-2147483638), (-1))], [], [], [(some (.inl ((-1), (-1))), [])], 1, 21)
/-- LoadsAhead tried -/
theorem qk_916 (l : Launch) : ek_ok l tQ iQ kq_916 := ek_good_ok (sp := sQ) (K := [kq_420]) (SP := [(2, [(0, [0, 4])])]) (HS := []) (N := 0) (fuel := 20) hIQ (List.forall_mem_cons.mpr ⟨qk_420 l, fun _ h => absurd h List.not_mem_nil⟩) (by decide +kernel)
def kq_917 : ek := (99, [.inr 2, .inl (5, 2147483647), .inl (0, 5)], [], [], [(some (.inl ((-1), (-1))), [])], 1, 21)
/-- LoadsAhead tried -/
theorem qk_917 (l : Launch) : ek_ok l tQ iQ kq_917 := ek_good_ok (sp := sQ) (K := [kq_420]) (SP := [(2, [(0, [0, 4])])]) (HS := []) (N := 0) (fuel := 20) hIQ (List.forall_mem_cons.mpr ⟨qk_420 l, fun _ h => absurd h List.not_mem_nil⟩) (by decide +kernel)
def kq_918 : ek := (99, [.inr 2, .inl (5, 2147483647), .inl (6, 9)], [], [], [(some (.inl ((-1), (-1))), [])], 1, 21)
/-- LoadsAhead tried -/
theorem qk_918 (l : Launch) : ek_ok l tQ iQ kq_918 := ek_good_ok (sp := sQ) (K := [kq_420]) (SP := [(2, [(0, [0, 4])])]) (HS := []) (N := 0) (fuel := 20) hIQ (List.forall_mem_cons.mpr ⟨qk_420 l, fun _ h => absurd h List.not_mem_nil⟩) (by decide +kernel)
def kq_919 : ek := (99, [.inr 2, .inl (5, 2147483647), .inl (10, 17)], [], [], [(some (.inl ((-1), (-1))), [])], 1, 21)
/-- LoadsAhead tried -/
theorem qk_919 (l : Launch) : ek_ok l tQ iQ kq_919 := ek_good_ok (sp := sQ) (K := [kq_420]) (SP := [(2, [(0, [0, 4])])]) (HS := []) (N := 0) (fuel := 20) hIQ (List.forall_mem_cons.mpr ⟨qk_420 l, fun _ h => absurd h List.not_mem_nil⟩) (by decide +kernel)
def kq_920 : ek := (99, [.inr 2, .inl (5, 2147483647), .inl (18, 99)], [], [], [(some (.inl ((-1), (-1))), [])], 1, 21)
/-- LoadsAhead tried -/
theorem qk_920 (l : Launch) : ek_ok l tQ iQ kq_920 := ek_good_ok (sp := sQ) (K := [kq_420]) (SP := [(2, [(0, [0, 4])])]) (HS := []) (N := 0) (fuel := 20) hIQ (List.forall_mem_cons.mpr ⟨qk_420 l, fun _ h => absurd h List.not_mem_nil⟩) (by decide +kernel)
def kq_921 : ek := (99, [.inr 2, .inl (5, 2147483647), .inl (100, 163)], [], [], [(some (.inl ((-1), (-1))), [])], 1, 21)
/-- LoadsAhead tried -/
theorem qk_921 (l : Launch) : ek_ok l tQ iQ kq_921 := ek_good_ok (sp := sQ) (K := [kq_420]) (SP := [(2, [(0, [0, 4])])]) (HS := []) (N := 0) (fuel := 20) hIQ (List.forall_mem_cons.mpr ⟨qk_420 l, fun _ h => absurd h List.not_mem_nil⟩) (by decide +kernel)
def kq_922 : ek := (99, [.inr 2, .inl (5, 2147483647), .inl (164, 2147483647)], [], [], [(some (.inl ((-1), (-1))), [])], 1, 21)
/-- LoadsAhead tried -/
theorem qk_922 (l : Launch) : ek_ok l tQ iQ kq_922 := ek_good_ok (sp := sQ) (K := [kq_420]) (SP := [(2, [(0, [0, 4])])]) (HS := []) (N := 0) (fuel := 20) hIQ (List.forall_mem_cons.mpr ⟨qk_420 l, fun _ h => absurd h List.not_mem_nil⟩) (by decide +kernel)
def kq_923 : ek := (137, [.inl ((-2147483648), (-2147483639)), .inl (0, 0), .inl (5, 5)], [], [], [(some (.inl (0, 0)), [])], 0, 0)
/-- LoadsAheadModel in -/
theorem qk_923 (l : Launch) : ek_ok l tQ iQ kq_923 := ek_good_ok (sp := sQ) (K := []) (SP := []) (HS := []) (N := 0) (fuel := 18) hIQ (fun _ h => absurd h List.not_mem_nil) (by decide +kernel)
def kq_924 : ek := (137, [.inl ((-2147483648), (-2147483639)), .inl (10, 10), .inl (17, 17)], [], [], [(some (.inl (0, 0)), [])], 0, 0)
/-- LoadsAheadModel in -/
theorem qk_924 (l : Launch) : ek_ok l tQ iQ kq_924 := ek_good_ok (sp := sQ) (K := []) (SP := []) (HS := []) (N := 0) (fuel := 18) hIQ (fun _ h => absurd h List.not_mem_nil) (by decide +kernel)
def kq_925 : ek := (137, [.inl ((-2147483648), (-2147483639)), .inl (100, 100), .inl (163, 163)], [], [], [(some (.inl (0, 0)), [])], 0, 0)
/-- LoadsAheadModel in -/
theorem qk_925 (l : Launch) : ek_ok l tQ iQ kq_925 := ek_good_ok (sp := sQ) (K := []) (SP := []) (HS := []) (N := 0) (fuel := 18) hIQ (fun _ h => absurd h List.not_mem_nil) (by decide +kernel)
def kq_926 : ek := (212, [.inr 86, .inl ((-2147483648), 0), .inl ((-2147483648), (-2147483639))], [], [], [(some (.inl ((-1), (-1))), [])], 2, 43)
/-- LoadsAheadModel tried -/
theorem qk_926 (l : Launch) : ek_ok l tQ iQ kq_926 := ek_good_ok (sp := sQ) (K := [kq_925, kq_924, kq_923, kq_423]) (SP := [(3, [(2, [(-1), 5])]), (14, [(2, [9, 17])]), (26, [(2, [99, 163])]), (40, [(0, [0, 4])])]) (HS := []) (N := 0) (fuel := 54) hIQ (List.forall_mem_cons.mpr ⟨qk_925 l, List.forall_mem_cons.mpr ⟨qk_924 l, List.forall_mem_cons.mpr ⟨qk_923 l, List.forall_mem_cons.mpr ⟨qk_423 l, fun _ h => absurd h List.not_mem_nil⟩⟩⟩⟩) (by decide +kernel)
def kq_927 : ek := (137, [.inl ((-2147483638), (-1)), .inl (0, 0), .inl (5, 5)], [], [], [(some (.inl (0, 0)), [])], 0, 0)
/-- LoadsAheadModel in -/
theorem qk_927 (l : Launch) : ek_ok l tQ iQ kq_927 := ek_good_ok (sp := sQ) (K := []) (SP := []) (HS := []) (N := 0) (fuel := 18) hIQ (fun _ h => absurd h List.not_mem_nil) (by decide +kernel)
def kq_928 : ek := (137, [.inl ((-2147483638), (-1)), .inl (10, 10), .inl (17, 17)], [], [], [(some (.inl (0, 0)), [])], 0, 0)
/-- LoadsAheadModel in -/
theorem qk_928 (l : Launch) : ek_ok l tQ iQ kq_928 := ek_good_ok (sp := sQ) (K := []) (SP := []) (HS := []) (N := 0) (fuel := 18) hIQ (fun _ h => absurd h List.not_mem_nil) (by decide +kernel)
def kq_929 : ek := (137, [.inl ((-2147483638), (-1)), .inl (100, 100), .inl (163, 163)], [], [], [(some (.inl (0, 0)), [])], 0, 0)
/-- LoadsAheadModel in -/
theorem qk_929 (l : Launch) : ek_ok l tQ iQ kq_929 := ek_good_ok (sp := sQ) (K := []) (SP := []) (HS := []) (N := 0) (fuel := 18) hIQ (fun _ h => absurd h List.not_mem_nil) (by decide +kernel)
def kq_930 : ek := (212, [.inr 86, .inl ((-2147483648), 0), .inl ((-2147483638), (-1))], [], [], [(some (.inl ((-1), (-1))), [])], 2, 43)
/-- LoadsAheadModel tried -/
theorem qk_930 (l : Launch) : ek_ok l tQ iQ kq_930 := ek_good_ok (sp := sQ) (K := [kq_928, kq_929, kq_927, kq_423]) (SP := [(3, [(2, [(-1), 5])]), (14, [(2, [9, 17])]), (26, [(2, [99, 163])]), (40, [(0, [0, 4])])]) (HS := []) (N := 0) (fuel := 54) hIQ (List.forall_mem_cons.mpr ⟨qk_928 l, List.forall_mem_cons.mpr ⟨qk_929 l, List.forall_mem_cons.mpr ⟨qk_927 l, List.forall_mem_cons.mpr ⟨qk_423 l, fun _ h => absurd h List.not_mem_nil⟩⟩⟩⟩) (by decide +kernel)
def kq_931 : ek := (137, [.inl (0, 5), .inl (0, 0), .inl (5, 5)], [], [], [(some (.inl (1, 1)), [])], 0, 0)
/-- LoadsAheadModel in -/
theorem qk_931 (l : Launch) : ek_ok l tQ iQ kq_931 := ek_good_ok (sp := sQ) (K := []) (SP := []) (HS := []) (N := 0) (fuel := 26) hIQ (fun _ h => absurd h List.not_mem_nil) (by decide +kernel)
def kq_932 : ek := (212, [.inr 86, .inl ((-2147483648), 0), .inl (0, 5)], [], [], [(some (.inl ((-1), (-1))), [])], 2, 43)
/-- LoadsAheadModel tried -/
theorem qk_932 (l : Launch) : ek_ok l tQ iQ kq_932 := ek_good_ok (sp := sQ) (K := [kq_931, kq_423]) (SP := [(3, [(2, [(-1), 5])]), (40, [(0, [0, 4])])]) (HS := []) (N := 0) (fuel := 36) hIQ (List.forall_mem_cons.mpr ⟨qk_931 l, List.forall_mem_cons.mpr ⟨qk_423 l, fun _ h => absurd h List.not_mem_nil⟩⟩) (by decide +kernel)
def kq_933 : ek := (137, [.inl (6, 9), .inl (0, 0), .inl (5, 5)], [], [], [(some (.inl (0, 0)), [])], 0, 0)
/-- LoadsAheadModel in -/
theorem qk_933 (l : Launch) : ek_ok l tQ iQ kq_933 := ek_good_ok (sp := sQ) (K := []) (SP := []) (HS := []) (N := 0) (fuel := 24) hIQ (fun _ h => absurd h List.not_mem_nil) (by decide +kernel)
def kq_934 : ek := (137, [.inl (6, 9), .inl (10, 10), .inl (17, 17)], [], [], [(some (.inl (0, 0)), [])], 0, 0)
/-- LoadsAheadModel in -/
theorem qk_934 (l : Launch) : ek_ok l tQ iQ kq_934 := ek_good_ok (sp := sQ) (K := []) (SP := []) (HS := []) (N := 0) (fuel := 18) hIQ (fun _ h => absurd h List.not_mem_nil) (by decide +kernel)
def kq_935 : ek := (137, [.inl (6, 9), .inl (100, 100), .inl (163, 163)], [], [], [(some (.inl (0, 0)), [])], 0, 0)
/-- LoadsAheadModel in -/
theorem qk_935 (l : Launch) : ek_ok l tQ iQ kq_935 := ek_good_ok (sp := sQ) (K := []) (SP := []) (HS := []) (N := 0) (fuel := 18) hIQ (fun _ h => absurd h List.not_mem_nil) (by decide +kernel)
def kq_936 : ek := (212, [.inr 86, .inl ((-2147483648), 0), .inl (6, 9)], [], [], [(some (.inl ((-1), (-1))), [])], 2, 43)
/-- LoadsAheadModel tried -/
theorem qk_936 (l : Launch) : ek_ok l tQ iQ kq_936 := ek_good_ok (sp := sQ) (K := [kq_933, kq_935, kq_934, kq_423]) (SP := [(3, [(2, [(-1), 5])]), (14, [(2, [9, 17])]), (26, [(2, [99, 163])]), (40, [(0, [0, 4])])]) (HS := []) (N := 0) (fuel := 54) hIQ (List.forall_mem_cons.mpr ⟨qk_933 l, List.forall_mem_cons.mpr ⟨qk_935 l, List.forall_mem_cons.mpr ⟨qk_934 l, List.forall_mem_cons.mpr ⟨qk_423 l, fun _ h => absurd h List.not_mem_nil⟩⟩⟩⟩) (by decide +kernel)
end
section
def kq_937 : ek := (137, [.inl (10, 17), .inl (0, 0), .inl (5, 5)], [], [], [(some (.inl (0, 0)), [])], 0, 0)
/-- LoadsAheadModel in -/
theorem qk_937 (l : Launch) : ek_ok l tQ iQ kq_937 := ek_good_ok (sp := sQ) (K := []) (SP := []) (HS := []) (N := 0) (fuel := 24) hIQ (fun _ h => absurd h List.not_mem_nil) (by decide +kernel)
def kq_938 : ek := (137, [.inl (10, 17), .inl (10, 10), .inl (17, 17)], [], [], [(some (.inl (1, 1)), [])], 0, 0)
/-- LoadsAheadModel in -/
theorem qk_938 (l : Launch) : ek_ok l tQ iQ kq_938 := ek_good_ok (sp := sQ) (K := []) (SP := []) (HS := []) (N := 0) (fuel := 26) hIQ (fun _ h => absurd h List.not_mem_nil) (by decide +kernel)
def kq_939 : ek := (212, [.inr 86, .inl ((-2147483648), 0), .inl (10, 17)], [], [], [(some (.inl ((-1), (-1))), [])], 2, 43)
/-- LoadsAheadModel tried -/
theorem qk_939 (l : Launch) : ek_ok l tQ iQ kq_939 := ek_good_ok (sp := sQ) (K := [kq_938, kq_937, kq_423]) (SP := [(3, [(2, [(-1), 5])]), (14, [(2, [9, 17])]), (40, [(0, [0, 4])])]) (HS := []) (N := 0) (fuel := 46) hIQ (List.forall_mem_cons.mpr ⟨qk_938 l, List.forall_mem_cons.mpr ⟨qk_937 l, List.forall_mem_cons.mpr ⟨qk_423 l, fun _ h => absurd h List.not_mem_nil⟩⟩⟩) (by decide +kernel)
def kq_940 : ek := (137, [.inl (18, 99), .inl (0, 0), .inl (5, 5)], [], [], [(some (.inl (0, 0)), [])], 0, 0)
/-- LoadsAheadModel in -/
theorem qk_940 (l : Launch) : ek_ok l tQ iQ kq_940 := ek_good_ok (sp := sQ) (K := []) (SP := []) (HS := []) (N := 0) (fuel := 24) hIQ (fun _ h => absurd h List.not_mem_nil) (by decide +kernel)
def kq_941 : ek := (137, [.inl (18, 99), .inl (10, 10), .inl (17, 17)], [], [], [(some (.inl (0, 0)), [])], 0, 0)
/-- LoadsAheadModel in -/
theorem qk_941 (l : Launch) : ek_ok l tQ iQ kq_941 := ek_good_ok (sp := sQ) (K := []) (SP := []) (HS := []) (N := 0) (fuel := 24) hIQ (fun _ h => absurd h List.not_mem_nil) (by decide +kernel)
def kq_942 : ek := (137, [.inl (18, 99), .inl (100, 100), .inl (163, 163)], [], [], [(some (.inl (0, 0)), [])], 0, 0)
/-- LoadsAheadModel in -/
theorem qk_942 (l : Launch) : ek_ok l tQ iQ kq_942 := ek_good_ok (sp := sQ) (K := []) (SP := []) (HS := []) (N := 0) (fuel := 18) hIQ (fun _ h => absurd h List.not_mem_nil) (by decide +kernel)
def kq_943 : ek := (212, [.inr 86, .inl ((-2147483648), 0), .inl (18, 99)], [], [], [(some (.inl ((-1), (-1))), [])], 2, 43)
/-- LoadsAheadModel tried -/
theorem qk_943 (l : Launch) : ek_ok l tQ iQ kq_943 := ek_good_ok (sp := sQ) (K := [kq_942, kq_941, kq_940, kq_423]) (SP := [(3, [(2, [(-1), 5])]), (14, [(2, [9, 17])]), (26, [(2, [99, 163])]), (40, [(0, [0, 4])])]) (HS := []) (N := 0) (fuel := 54) hIQ (List.forall_mem_cons.mpr ⟨qk_942 l, List.forall_mem_cons.mpr ⟨qk_941 l, List.forall_mem_cons.mpr ⟨qk_940 l, List.forall_mem_cons.mpr ⟨qk_423 l, fun _ h => absurd h List.not_mem_nil⟩⟩⟩⟩) (by decide +kernel)
def kq_944 : ek := (137, [.inl (100, 163), .inl (0, 0), .inl (5, 5)], [], [], [(some (.inl (0, 0)), [])], 0, 0)
/-- LoadsAheadModel in -/
theorem qk_944 (l : Launch) : ek_ok l tQ iQ kq_944 := ek_good_ok (sp := sQ) (K := []) (SP := []) (HS := []) (N := 0) (fuel := 24) hIQ (fun _ h => absurd h List.not_mem_nil) (by decide +kernel)
def kq_945 : ek := (137, [.inl (100, 163), .inl (10, 10), .inl (17, 17)], [], [], [(some (.inl (0, 0)), [])], 0, 0)
/-- LoadsAheadModel in -/
theorem qk_945 (l : Launch) : ek_ok l tQ iQ kq_945 := ek_good_ok (sp := sQ) (K := []) (SP := []) (HS := []) (N := 0) (fuel := 24) hIQ (fun _ h => absurd h List.not_mem_nil) (by decide +kernel)
def kq_946 : ek := (137, [.inl (100, 163), .inl (100, 100), .inl (163, 163)], [], [], [(some (.inl (1, 1)), [])], 0, 0)
/-- LoadsAheadModel in -/
theorem qk_946 (l : Launch) : ek_ok l tQ iQ kq_946 := ek_good_ok (sp := sQ) (K := []) (SP := []) (HS := []) (N := 0) (fuel := 26) hIQ (fun _ h => absurd h List.not_mem_nil) (by decide +kernel)
def kq_947 : ek := (212, [.inr 86, .inl ((-2147483648), 0), .inl (100, 163)], [], [], [(some (.inl ((-1), (-1))), [])], 2, 43)
/-- LoadsAheadModel tried -/
theorem qk_947 (l : Launch) : ek_ok l tQ iQ kq_947 := ek_good_ok (sp := sQ) (K := [kq_946, kq_945, kq_944, kq_423]) (SP := [(3, [(2, [(-1), 5])]), (14, [(2, [9, 17])]), (26, [(2, [99, 163])]), (40, [(0, [0, 4])])]) (HS := []) (N := 0) (fuel := 56) hIQ (List.forall_mem_cons.mpr ⟨qk_946 l, List.forall_mem_cons.mpr ⟨qk_945 l, List.forall_mem_cons.mpr ⟨qk_944 l, List.forall_mem_cons.mpr ⟨qk_423 l, fun _ h => absurd h List.not_mem_nil⟩⟩⟩⟩) (by decide +kernel)
def kq_948 : ek := (137, [.inl (164, 2147483647), .inl (0, 0), .inl (5, 5)], [], [], [(some (.inl (0, 0)), [])], 0, 0)
/-- LoadsAheadModel in -/
theorem qk_948 (l : Launch) : ek_ok l tQ iQ kq_948 := ek_good_ok (sp := sQ) (K := []) (SP := []) (HS := []) (N := 0) (fuel := 24) hIQ (fun _ h => absurd h List.not_mem_nil) (by decide +kernel)
def kq_949 : ek := (137, [.inl (164, 2147483647), .inl (10, 10), .inl (17, 17)], [], [], [(some (.inl (0, 0)), [])], 0, 0)
/-- LoadsAheadModel in -/
theorem qk_949 (l : Launch) : ek_ok l tQ iQ kq_949 := ek_good_ok (sp := sQ) (K := []) (SP := []) (HS := []) (N := 0) (fuel := 24) hIQ (fun _ h => absurd h List.not_mem_nil) (by decide +kernel)
def kq_950 : ek := (137, [.inl (164, 2147483647), .inl (100, 100), .inl (163, 163)], [], [], [(some (.inl (0, 0)), [])], 0, 0)
/-- LoadsAheadModel in -/
theorem qk_950 (l : Launch) : ek_ok l tQ iQ kq_950 := ek_good_ok (sp := sQ) (K := []) (SP := []) (HS := []) (N := 0) (fuel := 24) hIQ (fun _ h => absurd h List.not_mem_nil) (by decide +kernel)
def kq_951 : ek := (212, [.inr 86, .inl ((-2147483648), 0), .inl (164, 2147483647)], [], [], [(some (.inl ((-1), (-1))), [])], 2, 43)
/-- LoadsAheadModel tried -/
theorem qk_951 (l : Launch) : ek_ok l tQ iQ kq_951 := ek_good_ok (sp := sQ) (K := [kq_950, kq_948, kq_949, kq_423]) (SP := [(3, [(2, [(-1), 5])]), (14, [(2, [9, 17])]), (26, [(2, [99, 163])]), (40, [(0, [0, 4])])]) (HS := []) (N := 0) (fuel := 54) hIQ (List.forall_mem_cons.mpr ⟨qk_950 l, List.forall_mem_cons.mpr ⟨qk_948 l, List.forall_mem_cons.mpr ⟨qk_949 l, List.forall_mem_cons.mpr ⟨qk_423 l, fun _ h => absurd h List.not_mem_nil⟩⟩⟩⟩) (by decide +kernel)
def kq_952 : ek := (212, [.inr 86, .inl (1, 4), .inl ((-2147483648), (-2147483639))], [], [], [(some (.inl ((-1), (-1))), [])], 2, 43)
/-- LoadsAheadModel tried -/
theorem qk_952 (l : Launch) : ek_ok l tQ iQ kq_952 := ek_good_ok (sp := sQ) (K := [kq_426, kq_925, kq_924, kq_923]) (SP := [(3, [(2, [(-1), 5])]), (14, [(2, [9, 17])]), (26, [(2, [99, 163])]), (40, [(0, [0, 4])])]) (HS := []) (N := 0) (fuel := 58) hIQ (List.forall_mem_cons.mpr ⟨qk_426 l, List.forall_mem_cons.mpr ⟨qk_925 l, List.forall_mem_cons.mpr ⟨qk_924 l, List.forall_mem_cons.mpr ⟨qk_923 l, fun _ h => absurd h List.not_mem_nil⟩⟩⟩⟩) (by decide +kernel)
def kq_953 : ek := (212, [.inr 86, .inl (1, 4), .inl ((-2147483638), (-1))], [], [], [(some (.inl ((-1), (-1))), [])], 2, 43)
/-- LoadsAheadModel tried -/
theorem qk_953 (l : Launch) : ek_ok l tQ iQ kq_953 := ek_good_ok (sp := sQ) (K := [kq_426, kq_928, kq_929, kq_927]) (SP := [(3, [(2, [(-1), 5])]), (14, [(2, [9, 17])]), (26, [(2, [99, 163])]), (40, [(0, [0, 4])])]) (HS := []) (N := 0) (fuel := 58) hIQ (List.forall_mem_cons.mpr ⟨qk_426 l, List.forall_mem_cons.mpr ⟨qk_928 l, List.forall_mem_cons.mpr ⟨qk_929 l, List.forall_mem_cons.mpr ⟨qk_927 l, fun _ h => absurd h List.not_mem_nil⟩⟩⟩⟩) (by decide +kernel)
def kq_956 : ek := (212, [.inr 86, .inl (1, 4), .inl (6, 9)], [], [], [(some (.inl ((-1), (-1))), [])], 2, 43)
/-- LoadsAheadModel tried -/
theorem qk_956 (l : Launch) : ek_ok l tQ iQ kq_956 := ek_good_ok (sp := sQ) (K := [kq_933, kq_426, kq_935, kq_934]) (SP := [(3, [(2, [(-1), 5])]), (14, [(2, [9, 17])]), (26, [(2, [99, 163])]), (40, [(0, [0, 4])])]) (HS := []) (N := 0) (fuel := 58) hIQ (List.forall_mem_cons.mpr ⟨qk_933 l, List.forall_mem_cons.mpr ⟨qk_426 l, List.forall_mem_cons.mpr ⟨qk_935 l, List.forall_mem_cons.mpr ⟨qk_934 l, fun _ h => absurd h List.not_mem_nil⟩⟩⟩⟩) (by decide +kernel)
def kq_958 : ek := (212, [.inr 86, .inl (1, 4), .inl (18, 99)], [], [], [(some (.inl ((-1), (-1))), [])], 2, 43)
/-- LoadsAheadModel tried -/
theorem qk_958 (l : Launch) : ek_ok l tQ iQ kq_958 := ek_good_ok (sp := sQ) (K := [kq_426, kq_942, kq_941, kq_940]) (SP := [(3, [(2, [(-1), 5])]), (14, [(2, [9, 17])]), (26, [(2, [99, 163])]), (40, [(0, [0, 4])])]) (HS := []) (N := 0) (fuel := 58) hIQ (List.forall_mem_cons.mpr ⟨qk_426 l, List.forall_mem_cons.mpr ⟨qk_942 l, List.forall_mem_cons.mpr ⟨qk_941 l, List.forall_mem_cons.mpr ⟨qk_940 l, fun _ h => absurd h List.not_mem_nil⟩⟩⟩⟩) (by decide +kernel)
def kq_960 : ek := (212, [.inr 86, .inl (1, 4), .inl (164, 2147483647)], [], [], [(some (.inl ((-1), (-1))), [])], 2, 43)
/-- LoadsAheadModel tried -/
theorem qk_960 (l : Launch) : ek_ok l tQ iQ kq_960 := ek_good_ok (sp := sQ) (K := [kq_426, kq_950, kq_948, kq_949]) (SP := [(3, [(2, [(-1), 5])]), (14, [(2, [9, 17])]), (26, [(2, [99, 163])]), (40, [(0, [0, 4])])]) (HS := []) (N := 0) (fuel := 58) hIQ (List.forall_mem_cons.mpr ⟨qk_426 l, List.forall_mem_cons.mpr ⟨qk_950 l, List.forall_mem_cons.mpr ⟨qk_948 l, List.forall_mem_cons.mpr ⟨qk_949 l, fun _ h => absurd h List.not_mem_nil⟩⟩⟩⟩) (by decide +kernel)
def kq_961 : ek := (212, [.inr 86, .inl (5, 2147483647), .inl ((-2147483648), (-2147483639))], [], [], [(some (.inl ((-1), (-1))), [])], 2, 43)
/-- LoadsAheadModel tried -/
theorem qk_961 (l : Launch) : ek_ok l tQ iQ kq_961 := ek_good_ok (sp := sQ) (K := [kq_925, kq_924, kq_923, kq_874]) (SP := [(3, [(2, [(-1), 5])]), (14, [(2, [9, 17])]), (26, [(2, [99, 163])]), (40, [(0, [0, 4])])]) (HS := []) (N := 0) (fuel := 54) hIQ (List.forall_mem_cons.mpr ⟨qk_925 l, List.forall_mem_cons.mpr ⟨qk_924 l, List.forall_mem_cons.mpr ⟨qk_923 l, List.forall_mem_cons.mpr ⟨qk_874 l, fun _ h => absurd h List.not_mem_nil⟩⟩⟩⟩) (by decide +kernel)
def kq_962 : ek := (212, [.inr 86, .inl (5, 2147483647), .inl ((-2147483638), (-1))], [], [], [(some (.inl ((-1), (-1))), [])], 2, 43)
/-- LoadsAheadModel tried -/
theorem qk_962 (l : Launch) : ek_ok l tQ iQ kq_962 := ek_good_ok (sp := sQ) (K := [kq_928, kq_929, kq_927, kq_874]) (SP := [(3, [(2, [(-1), 5])]), (14, [(2, [9, 17])]), (26, [(2, [99, 163])]), (40, [(0, [0, 4])])]) (HS := []) (N := 0) (fuel := 54) hIQ (List.forall_mem_cons.mpr ⟨qk_928 l, List.forall_mem_cons.mpr ⟨qk_929 l, List.forall_mem_cons.mpr ⟨qk_927 l, List.forall_mem_cons.mpr ⟨qk_874 l, fun _ h => absurd h List.not_mem_nil⟩⟩⟩⟩) (by decide +kernel)
def kq_963 : ek := (212, [.inr 86, .inl (5, 2147483647), .inl (0, 5)], [], [], [(some (.inl ((-1), (-1))), [])], 2, 43)
/-- LoadsAheadModel tried -/
theorem qk_963 (l : Launch) : ek_ok l tQ iQ kq_963 := ek_good_ok (sp := sQ) (K := [kq_931, kq_874]) (SP := [(3, [(2, [(-1), 5])]), (40, [(0, [0, 4])])]) (HS := []) (N := 0) (fuel := 36) hIQ (List.forall_mem_cons.mpr ⟨qk_931 l, List.forall_mem_cons.mpr ⟨qk_874 l, fun _ h => absurd h List.not_mem_nil⟩⟩) (by decide +kernel)
def kq_964 : ek := (212, [.inr 86, .inl (5, 2147483647), .inl (6, 9)], [], [], [(some (.inl ((-1), (-1))), [])], 2, 43)
/-- LoadsAheadModel tried -/
theorem qk_964 (l : Launch) : ek_ok l tQ iQ kq_964 := ek_good_ok (sp := sQ) (K := [kq_933, kq_935, kq_934, kq_874]) (SP := [(3, [(2, [(-1), 5])]), (14, [(2, [9, 17])]), (26, [(2, [99, 163])]), (40, [(0, [0, 4])])]) (HS := []) (N := 0) (fuel := 54) hIQ (List.forall_mem_cons.mpr ⟨qk_933 l, List.forall_mem_cons.mpr ⟨qk_935 l, List.forall_mem_cons.mpr ⟨qk_934 l, List.forall_mem_cons.mpr ⟨qk_874 l, fun _ h => absurd h List.not_mem_nil⟩⟩⟩⟩) (by decide +kernel)
def kq_965 : ek := (212, [.inr 86, .inl (5, 2147483647), .inl (10, 17)], [], [], [(some (.inl ((-1), (-1))), [])], 2, 43)
/-- LoadsAheadModel tried -/
theorem qk_965 (l : Launch) : ek_ok l tQ iQ kq_965 := ek_good_ok (sp := sQ) (K := [kq_938, kq_937, kq_874]) (SP := [(3, [(2, [(-1), 5])]), (14, [(2, [9, 17])]), (40, [(0, [0, 4])])]) (HS := []) (N := 0) (fuel := 46) hIQ (List.forall_mem_cons.mpr ⟨qk_938 l, List.forall_mem_cons.mpr ⟨qk_937 l, List.forall_mem_cons.mpr ⟨qk_874 l, fun _ h => absurd h List.not_mem_nil⟩⟩⟩) (by decide +kernel)
def kq_966 : ek := (212, [.inr 86, .inl (5, 2147483647), .inl (18, 99)], [], [], [(some (.inl ((-1), (-1))), [])], 2, 43)
/-- LoadsAheadModel tried -/
theorem qk_966 (l : Launch) : ek_ok l tQ iQ kq_966 := ek_good_ok (sp := sQ) (K := [kq_942, kq_941, kq_940, kq_874]) (SP := [(3, [(2, [(-1), 5])]), (14, [(2, [9, 17])]), (26, [(2, [99, 163])]), (40, [(0, [0, 4])])]) (HS := []) (N := 0) (fuel := 54) hIQ (List.forall_mem_cons.mpr ⟨qk_942 l, List.forall_mem_cons.mpr ⟨qk_941 l, List.forall_mem_cons.mpr ⟨qk_940 l, List.forall_mem_cons.mpr ⟨qk_874 l, fun _ h => absurd h List.not_mem_nil⟩⟩⟩⟩) (by decide +kernel)
def kq_967 : ek := (212, [.inr 86, .inl (5, 2147483647), .inl (100, 163)], [], [], [(some (.inl ((-1), (-1))), [])], 2, 43)
/-- LoadsAheadModel tried -/
theorem qk_967 (l : Launch) : ek_ok l tQ iQ kq_967 := ek_good_ok (sp := sQ) (K := [kq_946, kq_945, kq_944, kq_874]) (SP := [(3, [(2, [(-1), 5])]), (14, [(2, [9, 17])]), (26, [(2, [99, 163])]), (40, [(0, [0, 4])])]) (HS := []) (N := 0) (fuel := 56) hIQ (List.forall_mem_cons.mpr ⟨qk_946 l, List.forall_mem_cons.mpr ⟨qk_945 l, List.forall_mem_cons.mpr ⟨qk_944 l, List.forall_mem_cons.mpr ⟨qk_874 l, fun _ h => absurd h List.not_mem_nil⟩⟩⟩⟩) (by decide +kernel)
def kq_968 : ek := (212, [.inr 86, .inl (5, 2147483647), .inl (164, 2147483647)], [], [], [(some (.inl ((-1), (-1))), [])], 2, 43)
/-- LoadsAheadModel tried -/
theorem qk_968 (l : Launch) : ek_ok l tQ iQ kq_968 := ek_good_ok (sp := sQ) (K := [kq_950, kq_948, kq_949, kq_874]) (SP := [(3, [(2, [(-1), 5])]), (14, [(2, [9, 17])]), (26, [(2, [99, 163])]), (40, [(0, [0, 4])])]) (HS := []) (N := 0) (fuel := 54) hIQ (List.forall_mem_cons.mpr ⟨qk_950 l, List.forall_mem_cons.mpr ⟨qk_948 l, List.forall_mem_cons.mpr ⟨qk_949 l, List.forall_mem_cons.mpr ⟨qk_874 l, fun _ h => absurd h List.not_mem_nil⟩⟩⟩⟩) (by decide +kernel)
def kq_969 : ek := (100, [.inl ((-2147483648), (-1))], [], [], [(some (.inl (0, 0)), [])], 0, 0)
/-- LoadsAhead isTotal -/
theorem qk_969 (l : Launch) : ek_ok l tQ iQ kq_969 := ek_good_ok (sp := sQ) (K := []) (SP := []) (HS := []) (N := 0) (fuel := 16) hIQ (fun _ h => absurd h List.not_mem_nil) (by decide +kernel)
def kq_970 : ek := (102, [.inr 2, .inl ((-2147483648), (-1))], [], [], [(some (.inl ((-1), (-1))), [])], 1, 20)
/-- LoadsAhead lastRun -/
theorem qk_970 (l : Launch) : ek_ok l tQ iQ kq_970 := ek_good_ok (sp := sQ) (K := [kq_969]) (SP := [(1, [(0, [(-1), 5])])]) (HS := []) (N := 0) (fuel := 18) hIQ (List.forall_mem_cons.mpr ⟨qk_969 l, fun _ h => absurd h List.not_mem_nil⟩) (by decide +kernel)
def kq_971 : ek := (102, [.inr 2, .inl (0, 5)], [], [], [(some (.inl ((-2147483648), 2147483647)), [((2, 0, 8), (1, 1), none)]), (some (.inl ((-2), (-2))), [((2, 0, 8), (0, 0), none)])], 1, 20)
/-- LoadsAhead lastRun -/
theorem qk_971 (l : Launch) : ek_ok l tQ iQ kq_971 := ek_good_ok (sp := sQ) (K := [kq_892]) (SP := [(1, [(0, [(-1), 5])])]) (HS := []) (N := 0) (fuel := 34) hIQ (List.forall_mem_cons.mpr ⟨qk_892 l, fun _ h => absurd h List.not_mem_nil⟩) (by decide +kernel)
def kq_972 : ek := (100, [.inl (6, 2147483647)], [], [], [(some (.inl (0, 0)), [])], 0, 0)
/-- LoadsAhead isTotal -/
theorem qk_972 (l : Launch) : ek_ok l tQ iQ kq_972 := ek_good_ok (sp := sQ) (K := []) (SP := []) (HS := []) (N := 0) (fuel := 22) hIQ (fun _ h => absurd h List.not_mem_nil) (by decide +kernel)
def kq_973 : ek := (102, [.inr 2, .inl (6, 2147483647)], [], [], [(some (.inl ((-1), (-1))), [])], 1, 20)
/-- LoadsAhead lastRun -/
theorem qk_973 (l : Launch) : ek_ok l tQ iQ kq_973 := ek_good_ok (sp := sQ) (K := [kq_972]) (SP := [(1, [(0, [(-1), 5])])]) (HS := []) (N := 0) (fuel := 18) hIQ (List.forall_mem_cons.mpr ⟨qk_972 l, fun _ h => absurd h List.not_mem_nil⟩) (by decide +kernel)
def kq_974 : ek := (137, [.inl ((-2147483648), (-1)), .inl (0, 0), .inl (5, 5)], [], [], [(some (.inl (0, 0)), [])], 0, 0)
/-- LoadsAheadModel in -/
theorem qk_974 (l : Launch) : ek_ok l tQ iQ kq_974 := ek_good_ok (sp := sQ) (K := []) (SP := []) (HS := []) (N := 0) (fuel := 18) hIQ (fun _ h => absurd h List.not_mem_nil) (by decide +kernel)
def kq_975 : ek := (216, [.inr 86, .inl ((-2147483648), (-1))], [], [], [(some (.inl ((-1), (-1))), [])], 1, 22)
/-- LoadsAheadModel lastRun -/
theorem qk_975 (l : Launch) : ek_ok l tQ iQ kq_975 := ek_good_ok (sp := sQ) (K := [kq_974]) (SP := [(3, [(2, [(-1), 5])])]) (HS := []) (N := 0) (fuel := 22) hIQ (List.forall_mem_cons.mpr ⟨qk_974 l, fun _ h => absurd h List.not_mem_nil⟩) (by decide +kernel)
def kq_976 : ek := (216, [.inr 86, .inl (0, 5)], [], [], [(some (.inl ((-2147483648), 2147483647)), [((2, 84, 75), (1, 1), none)]), (some (.inl ((-2), (-2))), [((2, 84, 75), (0, 0), none)])], 1, 22)
/-- LoadsAheadModel lastRun -/
theorem qk_976 (l : Launch) : ek_ok l tQ iQ kq_976 := ek_good_ok (sp := sQ) (K := [kq_931]) (SP := [(3, [(2, [(-1), 5])])]) (HS := []) (N := 0) (fuel := 36) hIQ (List.forall_mem_cons.mpr ⟨qk_931 l, fun _ h => absurd h List.not_mem_nil⟩) (by decide +kernel)
def kq_977 : ek := (137, [.inl (6, 2147483647), .inl (0, 0), .inl (5, 5)], [], [], [(some (.inl (0, 0)), [])], 0, 0)
/-- LoadsAheadModel in -/
theorem qk_977 (l : Launch) : ek_ok l tQ iQ kq_977 := ek_good_ok (sp := sQ) (K := []) (SP := []) (HS := []) (N := 0) (fuel := 24) hIQ (fun _ h => absurd h List.not_mem_nil) (by decide +kernel)
def kq_978 : ek := (216, [.inr 86, .inl (6, 2147483647)], [], [], [(some (.inl ((-1), (-1))), [])], 1, 22)
/-- LoadsAheadModel lastRun -/
theorem qk_978 (l : Launch) : ek_ok l tQ iQ kq_978 := ek_good_ok (sp := sQ) (K := [kq_977]) (SP := [(3, [(2, [(-1), 5])])]) (HS := []) (N := 0) (fuel := 22) hIQ (List.forall_mem_cons.mpr ⟨qk_977 l, fun _ h => absurd h List.not_mem_nil⟩) (by decide +kernel)
def kq_979 : ek := (104, [.inr 2, .inl ((-2147483648), (-1))], [], [], [(some (.inl (0, 0)), [])], 0, 0)
/-- LoadsAhead isOp -/
theorem qk_979 (l : Launch) : ek_ok l tQ iQ kq_979 := ek_good_ok (sp := sQ) (K := []) (SP := []) (HS := []) (N := 0) (fuel := 16) hIQ (fun _ h => absurd h List.not_mem_nil) (by decide +kernel)
def kq_980 : ek := (103, [.inr 2, .inl ((-2147483648), (-1)), .inl ((-2147483648), 2147483647)], [], [], [(some (.inl ((-100000), (-100000))), [])], 1, 21)
/-- LoadsAhead opIs -/
theorem qk_980 (l : Launch) : ek_ok l tQ iQ kq_980 := ek_good_ok (sp := sQ) (K := [kq_979]) (SP := [(2, [(0, [(-1), 19])])]) (HS := []) (N := 0) (fuel := 20) hIQ (List.forall_mem_cons.mpr ⟨qk_979 l, fun _ h => absurd h List.not_mem_nil⟩) (by decide +kernel)
def kq_981 : ek := (104, [.inr 2, .inl (0, 19)], [], [], [(some (.inl (1, 1)), [((2, 4, 11), (1, 20), none)]), (some (.inl (0, 0)), [((2, 4, 11), (0, 19), none)])], 0, 0)
/-- LoadsAhead isOp -/
theorem qk_981 (l : Launch) : ek_ok l tQ iQ kq_981 := ek_good_ok (sp := sQ) (K := []) (SP := []) (HS := []) (N := 0) (fuel := 30) hIQ (fun _ h => absurd h List.not_mem_nil) (by decide +kernel)
def kq_982 : ek := (104, [.inr 2, .inl (20, 2147483647)], [], [], [(some (.inl (0, 0)), [])], 0, 0)
/-- LoadsAhead isOp -/
theorem qk_982 (l : Launch) : ek_ok l tQ iQ kq_982 := ek_good_ok (sp := sQ) (K := []) (SP := []) (HS := []) (N := 0) (fuel := 28) hIQ (fun _ h => absurd h List.not_mem_nil) (by decide +kernel)
def kq_983 : ek := (106, [.inl ((-1), 19)], [], [], [(some (.inl ((-2), (-2))), []), (some (.inl (0, 19)), [])], 0, 0)
/-- LoadsAhead orAbsent -/
theorem qk_983 (l : Launch) : ek_ok l tQ iQ kq_983 := ek_good_ok (sp := sQ) (K := []) (SP := []) (HS := []) (N := 0) (fuel := 20) hIQ (fun _ h => absurd h List.not_mem_nil) (by decide +kernel)
def kq_984 : ek := (105, [.inr 2, .inl (0, 19), .inl (0, 2147483637)], [], [], [(some (.inl ((-4), (-2))), []), (some (.inl (0, 19)), [((2, 0, 8), (1, 1), none)])], 1, 20)
/-- LoadsAhead giverOf -/
theorem qk_984 (l : Launch) : ek_ok l tQ iQ kq_984 := ek_good_ok (sp := sQ) (K := [kq_983]) (SP := []) (HS := []) (N := 0) (fuel := 70) hIQ (List.forall_mem_cons.mpr ⟨qk_983 l, fun _ h => absurd h List.not_mem_nil⟩) (by decide +kernel)
def kq_985 : ek := (106, [.inl ((-1), 15)], [], [], [(some (.inl ((-2), (-2))), []), (some (.inl (0, 15)), [])], 0, 0)
/-- LoadsAhead orAbsent -/
theorem qk_985 (l : Launch) : ek_ok l tQ iQ kq_985 := ek_good_ok (sp := sQ) (K := []) (SP := []) (HS := []) (N := 0) (fuel := 20) hIQ (fun _ h => absurd h List.not_mem_nil) (by decide +kernel)
def kq_986 : ek := (107, [.inr 6, .inl (0, 19)], [], [], [(some (.inl (1, 1)), []), (some (.inl (0, 0)), [])], 0, 0)
/-- LoadsAhead.Program moves -/
theorem qk_986 (l : Launch) : ek_ok l tQ iQ kq_986 := ek_good_ok (sp := sQ) (K := []) (SP := []) (HS := []) (N := 0) (fuel := 38) hIQ (fun _ h => absurd h List.not_mem_nil) (by decide +kernel)
def kq_987 : ek := (103, [.inr 2, .inl (0, 2147483647), .inl ((-2147483648), 2147483647)], [], [], [(some (.inl ((-100000), (-2))), []), (some (.inl (0, 19)), [((2, 4, 11), (1, 20), none)]), (some (.inl ((-2147483648), 2147483647)), [((2, 0, 8), (1, 1), none), ((2, 4, 11), (1, 20), none)])], 2, 42)
/-- LoadsAhead opIs -/
theorem qk_987 (l : Launch) : ek_ok l tQ iQ kq_987 := ek_good_ok (sp := sQ) (K := [kq_985, kq_981, kq_986, kq_982, kq_984]) (SP := [(2, [(0, [(-1), 19])])]) (HS := []) (N := 0) (fuel := 78) hIQ (List.forall_mem_cons.mpr ⟨qk_985 l, List.forall_mem_cons.mpr ⟨qk_981 l, List.forall_mem_cons.mpr ⟨qk_986 l, List.forall_mem_cons.mpr ⟨qk_982 l, List.forall_mem_cons.mpr ⟨qk_984 l, fun _ h => absurd h List.not_mem_nil⟩⟩⟩⟩⟩) (by decide +kernel)
def kq_988 : ek := (137, [.inl ((-2147483648), (-1)), .inl (0, 0), .inl ((-1), 19)], [], [], [(some (.inl (0, 0)), [])], 0, 0)
/-- LoadsAheadModel in -/
theorem qk_988 (l : Launch) : ek_ok l tQ iQ kq_988 := ek_good_ok (sp := sQ) (K := []) (SP := []) (HS := []) (N := 0) (fuel := 18) hIQ (fun _ h => absurd h List.not_mem_nil) (by decide +kernel)
def kq_989 : ek := (171, [.inr 86, .inl ((-2147483648), (-1))], [], [], [(some (.inl (0, 0)), [])], 1, 22)
/-- LoadsAheadModel isOp -/
theorem qk_989 (l : Launch) : ek_ok l tQ iQ kq_989 := ek_good_ok (sp := sQ) (K := [kq_988]) (SP := [(8, [(2, [(-1)])])]) (HS := []) (N := 0) (fuel := 24) hIQ (List.forall_mem_cons.mpr ⟨qk_988 l, fun _ h => absurd h List.not_mem_nil⟩) (by decide +kernel)
def kq_990 : ek := (226, [.inr 86, .inl ((-2147483648), (-1)), .inl ((-2147483648), 2147483647)], [], [], [(some (.inl ((-100000), (-100000))), [])], 2, 43)
/-- LoadsAheadModel opIs -/
theorem qk_990 (l : Launch) : ek_ok l tQ iQ kq_990 := ek_good_ok (sp := sQ) (K := [kq_989]) (SP := [(2, [(0, [(-1), 19])])]) (HS := []) (N := 0) (fuel := 20) hIQ (List.forall_mem_cons.mpr ⟨qk_989 l, fun _ h => absurd h List.not_mem_nil⟩) (by decide +kernel)
def kq_991 : ek := (137, [.inl (0, 19), .inl (0, 0), .inl ((-1), 19)], [], [], [(some (.inl (1, 1)), []), (some (.inl (0, 0)), [])], 0, 0)
/-- LoadsAheadModel in -/
theorem qk_991 (l : Launch) : ek_ok l tQ iQ kq_991 := ek_good_ok (sp := sQ) (K := []) (SP := []) (HS := []) (N := 0) (fuel := 26) hIQ (fun _ h => absurd h List.not_mem_nil) (by decide +kernel)
def kq_992 : ek := (171, [.inr 86, .inl (0, 19)], [], [], [(some (.inl (0, 0)), []), (some (.inl (1, 1)), [])], 1, 22)
/-- LoadsAheadModel isOp -/
theorem qk_992 (l : Launch) : ek_ok l tQ iQ kq_992 := ek_good_ok (sp := sQ) (K := [kq_991]) (SP := [(8, [(2, [(-1)])])]) (HS := []) (N := 0) (fuel := 24) hIQ (List.forall_mem_cons.mpr ⟨qk_991 l, fun _ h => absurd h List.not_mem_nil⟩) (by decide +kernel)
def kq_993 : ek := (137, [.inl (20, 2147483647), .inl (0, 0), .inl ((-1), 19)], [], [], [(some (.inl (0, 0)), [])], 0, 0)
/-- LoadsAheadModel in -/
theorem qk_993 (l : Launch) : ek_ok l tQ iQ kq_993 := ek_good_ok (sp := sQ) (K := []) (SP := []) (HS := []) (N := 0) (fuel := 24) hIQ (fun _ h => absurd h List.not_mem_nil) (by decide +kernel)
def kq_994 : ek := (171, [.inr 86, .inl (20, 2147483647)], [], [], [(some (.inl (0, 0)), [])], 1, 22)
/-- LoadsAheadModel isOp -/
theorem qk_994 (l : Launch) : ek_ok l tQ iQ kq_994 := ek_good_ok (sp := sQ) (K := [kq_993]) (SP := [(8, [(2, [(-1)])])]) (HS := []) (N := 0) (fuel := 24) hIQ (List.forall_mem_cons.mpr ⟨qk_993 l, fun _ h => absurd h List.not_mem_nil⟩) (by decide +kernel)
def kq_995 : ek := (227, [.inr 86, .inl (0, 19), .inl (0, 7)], [], [], [(some (.inl (0, 15)), []), (some (.inl ((-2), (-2))), []), (some (.inl ((-2147483648), 2147483647)), [((2, 84, 75), (1, 1), none)])], 0, 0)
/-- LoadsAheadModel toldOfOp -/
theorem qk_995 (l : Launch) : ek_ok l tQ iQ kq_995 := ek_good_ok (sp := sQ) (K := []) (SP := []) (HS := []) (N := 0) (fuel := 50) hIQ (fun _ h => absurd h List.not_mem_nil) (by decide +kernel)
def kq_996 : ek := (226, [.inr 86, .inl (0, 2147483647), .inl ((-2147483648), 2147483647)], [], [], [(some (.inl ((-100000), (-2))), []), (some (.inl ((-2147483648), 2147483647)), [((2, 84, 75), (1, 1), none)]), (some (.inl (0, 15)), [])], 2, 43)
/-- LoadsAheadModel opIs -/
theorem qk_996 (l : Launch) : ek_ok l tQ iQ kq_996 := ek_good_ok (sp := sQ) (K := [kq_931, kq_992, kq_995, kq_994, kq_977, kq_974]) (SP := [(2, [(0, [(-1), 19])]), (11, [(2, [(-1), 5])])]) (HS := []) (N := 0) (fuel := 114) hIQ (List.forall_mem_cons.mpr ⟨qk_931 l, List.forall_mem_cons.mpr ⟨qk_992 l, List.forall_mem_cons.mpr ⟨qk_995 l, List.forall_mem_cons.mpr ⟨qk_994 l, List.forall_mem_cons.mpr ⟨qk_977 l, List.forall_mem_cons.mpr ⟨qk_974 l, fun _ h => absurd h List.not_mem_nil⟩⟩⟩⟩⟩⟩) (by decide +kernel)
def kq_997 : ek := (108, [.inr 2, .inl ((-2147483648), (-1)), .inl ((-2147483648), 2147483647)], [], [], [(some (.inl ((-1), (-1))), [])], 1, 21)
/-- LoadsAhead source -/
theorem qk_997 (l : Launch) : ek_ok l tQ iQ kq_997 := ek_good_ok (sp := sQ) (K := [kq_979]) (SP := [(2, [(0, [(-1), 19])])]) (HS := []) (N := 0) (fuel := 20) hIQ (List.forall_mem_cons.mpr ⟨qk_979 l, fun _ h => absurd h List.not_mem_nil⟩) (by decide +kernel)
def kq_998 : ek := (52, [.inl ((-2147483648), (-1))], [], [], [(some (.inl (0, 0)), [])], 0, 0)
/-- LoadsAhead isCell -/
theorem qk_998 (l : Launch) : ek_ok l tQ iQ kq_998 := ek_good_ok (sp := sQ) (K := []) (SP := []) (HS := []) (N := 0) (fuel := 16) hIQ (fun _ h => absurd h List.not_mem_nil) (by decide +kernel)
def kq_999 : ek := (52, [.inl (8, 2147483647)], [], [], [(some (.inl (0, 0)), [])], 0, 0)
/-- LoadsAhead isCell -/
theorem qk_999 (l : Launch) : ek_ok l tQ iQ kq_999 := ek_good_ok (sp := sQ) (K := []) (SP := []) (HS := []) (N := 0) (fuel := 22) hIQ (fun _ h => absurd h List.not_mem_nil) (by decide +kernel)
def kq_1000 : ek := (108, [.inr 2, .inl (0, 2147483647), .inl ((-2147483648), 2147483647)], [], [], [(some (.inl ((-2), (-1))), []), (some (.inl (0, 19)), [((2, 4, 11), (1, 20), none)])], 1, 21)
/-- LoadsAhead source -/
theorem qk_1000 (l : Launch) : ek_ok l tQ iQ kq_1000 := ek_good_ok (sp := sQ) (K := [kq_132, kq_981, kq_983, kq_982, kq_999, kq_998]) (SP := [(2, [(0, [(-1), 19])]), (9, [(0, [(-1), 7])])]) (HS := []) (N := 0) (fuel := 70) hIQ (List.forall_mem_cons.mpr ⟨qk_132 l, List.forall_mem_cons.mpr ⟨qk_981 l, List.forall_mem_cons.mpr ⟨qk_983 l, List.forall_mem_cons.mpr ⟨qk_982 l, List.forall_mem_cons.mpr ⟨qk_999 l, List.forall_mem_cons.mpr ⟨qk_998 l, fun _ h => absurd h List.not_mem_nil⟩⟩⟩⟩⟩⟩) (by decide +kernel)
def kq_1001 : ek := (170, [.inr 86, .inl ((-2147483648), (-1)), .inl ((-2147483648), 2147483647)], [], [], [(some (.inl ((-1), (-1))), [])], 2, 43)
/-- LoadsAheadModel source -/
theorem qk_1001 (l : Launch) : ek_ok l tQ iQ kq_1001 := ek_good_ok (sp := sQ) (K := [kq_989]) (SP := [(2, [(0, [(-1), 19])])]) (HS := []) (N := 0) (fuel := 20) hIQ (List.forall_mem_cons.mpr ⟨qk_989 l, fun _ h => absurd h List.not_mem_nil⟩) (by decide +kernel)
def kq_1002 : ek := (170, [.inr 86, .inl (0, 2147483647), .inl ((-2147483648), 2147483647)], [], [], [(some (.inl ((-2), (-1))), []), (some (.inl (0, 18)), [])], 2, 45)
/-- LoadsAheadModel source -/
theorem qk_1002 (l : Launch) : ek_ok l tQ iQ kq_1002 := ek_good_ok (sp := sQ) (K := [kq_5, kq_992, kq_441, kq_428, kq_994, kq_7, kq_3]) (SP := [(2, [(0, [(-1), 19])]), (12, [(2, [(-1), 7])])]) (HS := []) (N := 0) (fuel := 60) hIQ (List.forall_mem_cons.mpr ⟨qk_5 l, List.forall_mem_cons.mpr ⟨qk_992 l, List.forall_mem_cons.mpr ⟨qk_441 l, List.forall_mem_cons.mpr ⟨qk_428 l, List.forall_mem_cons.mpr ⟨qk_994 l, List.forall_mem_cons.mpr ⟨qk_7 l, List.forall_mem_cons.mpr ⟨qk_3 l, fun _ h => absurd h List.not_mem_nil⟩⟩⟩⟩⟩⟩⟩) (by decide +kernel)
def kq_1003 : ek := (101, [.inl ((-2147483648), (-1))], [], [], [(some (.inl (0, 0)), [])], 0, 0)
/-- LoadsAhead isByte -/
theorem qk_1003 (l : Launch) : ek_ok l tQ iQ kq_1003 := ek_good_ok (sp := sQ) (K := []) (SP := []) (HS := []) (N := 0) (fuel := 18) hIQ (fun _ h => absurd h List.not_mem_nil) (by decide +kernel)
def kq_1004 : ek := (109, [.inr 2, .inl ((-2147483648), (-1))], [], [], [(some (.inl ((-100000), (-100000))), [])], 1, 20)
/-- LoadsAhead now -/
theorem qk_1004 (l : Launch) : ek_ok l tQ iQ kq_1004 := ek_good_ok (sp := sQ) (K := [kq_998, kq_1003]) (SP := [(1, [(0, [(-1), 7])]), (21, [(0, [99, 163])])]) (HS := []) (N := 0) (fuel := 24) hIQ (List.forall_mem_cons.mpr ⟨qk_998 l, List.forall_mem_cons.mpr ⟨qk_1003 l, fun _ h => absurd h List.not_mem_nil⟩⟩) (by decide +kernel)
def kq_1005 : ek := (109, [.inr 2, .inl (0, 7)], [], [], [(some (.inl ((-2147483648), 2147483647)), [])], 1, 20)
/-- LoadsAhead now -/
theorem qk_1005 (l : Launch) : ek_ok l tQ iQ kq_1005 := ek_good_ok (sp := sQ) (K := [kq_132]) (SP := [(1, [(0, [(-1), 7])])]) (HS := []) (N := 0) (fuel := 28) hIQ (List.forall_mem_cons.mpr ⟨qk_132 l, fun _ h => absurd h List.not_mem_nil⟩) (by decide +kernel)
def kq_1006 : ek := (101, [.inl (8, 99)], [], [], [(some (.inl (0, 0)), [])], 0, 0)
/-- LoadsAhead isByte -/
theorem qk_1006 (l : Launch) : ek_ok l tQ iQ kq_1006 := ek_good_ok (sp := sQ) (K := []) (SP := []) (HS := []) (N := 0) (fuel := 18) hIQ (fun _ h => absurd h List.not_mem_nil) (by decide +kernel)
def kq_1007 : ek := (52, [.inl (8, 99)], [], [], [(some (.inl (0, 0)), [])], 0, 0)
/-- LoadsAhead isCell -/
theorem qk_1007 (l : Launch) : ek_ok l tQ iQ kq_1007 := ek_good_ok (sp := sQ) (K := []) (SP := []) (HS := []) (N := 0) (fuel := 22) hIQ (fun _ h => absurd h List.not_mem_nil) (by decide +kernel)
def kq_1008 : ek := (109, [.inr 2, .inl (8, 99)], [], [], [(some (.inl ((-100000), (-100000))), [])], 1, 20)
/-- LoadsAhead now -/
theorem qk_1008 (l : Launch) : ek_ok l tQ iQ kq_1008 := ek_good_ok (sp := sQ) (K := [kq_1006, kq_1007]) (SP := [(1, [(0, [(-1), 7])]), (21, [(0, [99, 163])])]) (HS := []) (N := 0) (fuel := 24) hIQ (List.forall_mem_cons.mpr ⟨qk_1006 l, List.forall_mem_cons.mpr ⟨qk_1007 l, fun _ h => absurd h List.not_mem_nil⟩⟩) (by decide +kernel)
def kq_1009 : ek := (52, [.inl (100, 163)], [], [], [(some (.inl (0, 0)), [])], 0, 0)
/-- LoadsAhead isCell -/
theorem qk_1009 (l : Launch) : ek_ok l tQ iQ kq_1009 := ek_good_ok (sp := sQ) (K := []) (SP := []) (HS := []) (N := 0) (fuel := 22) hIQ (fun _ h => absurd h List.not_mem_nil) (by decide +kernel)
def kq_1010 : ek := (109, [.inr 2, .inl (100, 163)], [], [], [(some (.inl ((-2147483648), 2147483647)), [])], 1, 20)
/-- LoadsAhead now -/
theorem qk_1010 (l : Launch) : ek_ok l tQ iQ kq_1010 := ek_good_ok (sp := sQ) (K := [kq_1009, kq_908]) (SP := [(1, [(0, [(-1), 7])]), (21, [(0, [99, 163])])]) (HS := []) (N := 0) (fuel := 40) hIQ (List.forall_mem_cons.mpr ⟨qk_1009 l, List.forall_mem_cons.mpr ⟨qk_908 l, fun _ h => absurd h List.not_mem_nil⟩⟩) (by decide +kernel)
def kq_1011 : ek := (52, [.inl (164, 2147483647)], [], [], [(some (.inl (0, 0)), [])], 0, 0)
/-- LoadsAhead isCell -/
theorem qk_1011 (l : Launch) : ek_ok l tQ iQ kq_1011 := ek_good_ok (sp := sQ) (K := []) (SP := []) (HS := []) (N := 0) (fuel := 22) hIQ (fun _ h => absurd h List.not_mem_nil) (by decide +kernel)
end
section
def kq_1012 : ek := (109, [.inr 2, .inl (164, 2147483647)], [], [], [(some (.inl ((-100000), (-100000))), [])], 1, 20)
/-- LoadsAhead now -/
theorem qk_1012 (l : Launch) : ek_ok l tQ iQ kq_1012 := ek_good_ok (sp := sQ) (K := [kq_1011, kq_912]) (SP := [(1, [(0, [(-1), 7])]), (21, [(0, [99, 163])])]) (HS := []) (N := 0) (fuel := 24) hIQ (List.forall_mem_cons.mpr ⟨qk_1011 l, List.forall_mem_cons.mpr ⟨qk_912 l, fun _ h => absurd h List.not_mem_nil⟩⟩) (by decide +kernel)
def kq_1013 : ek := (137, [.inl ((-2147483648), (-1)), .inl (100, 100), .inl (163, 163)], [], [], [(some (.inl (0, 0)), [])], 0, 0)
/-- LoadsAheadModel in -/
theorem qk_1013 (l : Launch) : ek_ok l tQ iQ kq_1013 := ek_good_ok (sp := sQ) (K := []) (SP := []) (HS := []) (N := 0) (fuel := 18) hIQ (fun _ h => absurd h List.not_mem_nil) (by decide +kernel)
def kq_1014 : ek := (217, [.inr 86, .inl ((-2147483648), (-1))], [], [], [(some (.inl ((-100000), (-100000))), [])], 1, 22)
/-- LoadsAheadModel now -/
theorem qk_1014 (l : Launch) : ek_ok l tQ iQ kq_1014 := ek_good_ok (sp := sQ) (K := [kq_3, kq_1013]) (SP := [(4, [(2, [(-1), 7])]), (25, [(2, [99, 163])])]) (HS := []) (N := 0) (fuel := 32) hIQ (List.forall_mem_cons.mpr ⟨qk_3 l, List.forall_mem_cons.mpr ⟨qk_1013 l, fun _ h => absurd h List.not_mem_nil⟩⟩) (by decide +kernel)
def kq_1015 : ek := (217, [.inr 86, .inl (0, 7)], [], [], [(some (.inl ((-2147483648), 2147483647)), [])], 1, 22)
/-- LoadsAheadModel now -/
theorem qk_1015 (l : Launch) : ek_ok l tQ iQ kq_1015 := ek_good_ok (sp := sQ) (K := [kq_5]) (SP := [(4, [(2, [(-1), 7])])]) (HS := []) (N := 0) (fuel := 30) hIQ (List.forall_mem_cons.mpr ⟨qk_5 l, fun _ h => absurd h List.not_mem_nil⟩) (by decide +kernel)
def kq_1016 : ek := (137, [.inl (8, 99), .inl (0, 0), .inl (7, 7)], [], [], [(some (.inl (0, 0)), [])], 0, 0)
/-- LoadsAheadModel in -/
theorem qk_1016 (l : Launch) : ek_ok l tQ iQ kq_1016 := ek_good_ok (sp := sQ) (K := []) (SP := []) (HS := []) (N := 0) (fuel := 24) hIQ (fun _ h => absurd h List.not_mem_nil) (by decide +kernel)
def kq_1017 : ek := (137, [.inl (8, 99), .inl (100, 100), .inl (163, 163)], [], [], [(some (.inl (0, 0)), [])], 0, 0)
/-- LoadsAheadModel in -/
theorem qk_1017 (l : Launch) : ek_ok l tQ iQ kq_1017 := ek_good_ok (sp := sQ) (K := []) (SP := []) (HS := []) (N := 0) (fuel := 18) hIQ (fun _ h => absurd h List.not_mem_nil) (by decide +kernel)
def kq_1018 : ek := (217, [.inr 86, .inl (8, 99)], [], [], [(some (.inl ((-100000), (-100000))), [])], 1, 22)
/-- LoadsAheadModel now -/
theorem qk_1018 (l : Launch) : ek_ok l tQ iQ kq_1018 := ek_good_ok (sp := sQ) (K := [kq_1017, kq_1016]) (SP := [(4, [(2, [(-1), 7])]), (25, [(2, [99, 163])])]) (HS := []) (N := 0) (fuel := 32) hIQ (List.forall_mem_cons.mpr ⟨qk_1017 l, List.forall_mem_cons.mpr ⟨qk_1016 l, fun _ h => absurd h List.not_mem_nil⟩⟩) (by decide +kernel)
def kq_1019 : ek := (137, [.inl (100, 163), .inl (0, 0), .inl (7, 7)], [], [], [(some (.inl (0, 0)), [])], 0, 0)
/-- LoadsAheadModel in -/
theorem qk_1019 (l : Launch) : ek_ok l tQ iQ kq_1019 := ek_good_ok (sp := sQ) (K := []) (SP := []) (HS := []) (N := 0) (fuel := 24) hIQ (fun _ h => absurd h List.not_mem_nil) (by decide +kernel)
def kq_1020 : ek := (217, [.inr 86, .inl (100, 163)], [], [], [(some (.inl ((-2147483648), 2147483647)), [])], 1, 22)
/-- LoadsAheadModel now -/
theorem qk_1020 (l : Launch) : ek_ok l tQ iQ kq_1020 := ek_good_ok (sp := sQ) (K := [kq_946, kq_1019]) (SP := [(4, [(2, [(-1), 7])]), (25, [(2, [99, 163])])]) (HS := []) (N := 0) (fuel := 44) hIQ (List.forall_mem_cons.mpr ⟨qk_946 l, List.forall_mem_cons.mpr ⟨qk_1019 l, fun _ h => absurd h List.not_mem_nil⟩⟩) (by decide +kernel)
def kq_1021 : ek := (137, [.inl (164, 2147483647), .inl (0, 0), .inl (7, 7)], [], [], [(some (.inl (0, 0)), [])], 0, 0)
/-- LoadsAheadModel in -/
theorem qk_1021 (l : Launch) : ek_ok l tQ iQ kq_1021 := ek_good_ok (sp := sQ) (K := []) (SP := []) (HS := []) (N := 0) (fuel := 24) hIQ (fun _ h => absurd h List.not_mem_nil) (by decide +kernel)
def kq_1022 : ek := (217, [.inr 86, .inl (164, 2147483647)], [], [], [(some (.inl ((-100000), (-100000))), [])], 1, 22)
/-- LoadsAheadModel now -/
theorem qk_1022 (l : Launch) : ek_ok l tQ iQ kq_1022 := ek_good_ok (sp := sQ) (K := [kq_1021, kq_950]) (SP := [(4, [(2, [(-1), 7])]), (25, [(2, [99, 163])])]) (HS := []) (N := 0) (fuel := 32) hIQ (List.forall_mem_cons.mpr ⟨qk_1021 l, List.forall_mem_cons.mpr ⟨qk_950 l, fun _ h => absurd h List.not_mem_nil⟩⟩) (by decide +kernel)
def kq_1023 : ek := (110, [.inr 2, .inl ((-2147483648), (-1))], [], [], [(some (.inl ((-100000), (-100000))), [])], 1, 20)
/-- LoadsAhead plain -/
theorem qk_1023 (l : Launch) : ek_ok l tQ iQ kq_1023 := ek_good_ok (sp := sQ) (K := [kq_998, kq_1003]) (SP := [(1, [(0, [(-1), 7])]), (8, [(0, [99, 163])])]) (HS := []) (N := 0) (fuel := 24) hIQ (List.forall_mem_cons.mpr ⟨qk_998 l, List.forall_mem_cons.mpr ⟨qk_1003 l, fun _ h => absurd h List.not_mem_nil⟩⟩) (by decide +kernel)
def kq_1024 : ek := (112, [.inr 67, .inl ((-1), 7)], [], [], [(some (.inl ((-2147483648), 2147483647)), []), (some (.inl (0, 0)), [])], 1, 20)
/-- LoadsAhead.Plain valueIn -/
theorem qk_1024 (l : Launch) : ek_ok l tQ iQ kq_1024 := ek_good_ok (sp := sQ) (K := [kq_131, kq_132]) (SP := [(1, [(0, [(-1), 7])])]) (HS := []) (N := 0) (fuel := 28) hIQ (List.forall_mem_cons.mpr ⟨qk_131 l, List.forall_mem_cons.mpr ⟨qk_132 l, fun _ h => absurd h List.not_mem_nil⟩⟩) (by decide +kernel)
def kq_1025 : ek := (113, [.inr 67, .inl (0, 63), .inl (0, 7)], [], [], [(some (.inl ((-2147483648), 2147483647)), []), (some (.inl (0, 0)), [])], 0, 0)
/-- LoadsAhead.Plain loaded -/
theorem qk_1025 (l : Launch) : ek_ok l tQ iQ kq_1025 := ek_good_ok (sp := sQ) (K := []) (SP := []) (HS := [((5, [some (.inr 67, none), some (.inl (0, 63), none), some (.inl (0, 7), none), some (.inl ((-2147483648), 2147483647), none), some (.inl (0, 7), none)], [], [], []), [(0, (0, 0, 0), 0), (1, (1, 4, 0), 7), (0, (0, 0, 0), 0)])]) (N := 3) (fuel := 52) hIQ (fun _ h => absurd h List.not_mem_nil) (by decide +kernel)
def kq_1026 : ek := (62, [.inr 68, .inr 26], [], [(66, 4), (66, 5), (67, 999), (68, 999)], [(none, [])], 1, 65)
/-- LoadsAhead.State copyCellsFrom -/
theorem qk_1026 (l : Launch) : ek_ok l tQ iQ kq_1026 := ek_good_ok (sp := sQ) (K := []) (SP := []) (HS := []) (N := 0) (fuel := 58) hIQ (fun _ h => absurd h List.not_mem_nil) (by decide +kernel)
def kq_1027 : ek := (63, [.inr 68, .inr 26], [], [(66, 3), (69, 999)], [(none, [])], 1, 65)
/-- LoadsAhead.State copySetsFrom -/
theorem qk_1027 (l : Launch) : ek_ok l tQ iQ kq_1027 := ek_good_ok (sp := sQ) (K := []) (SP := []) (HS := []) (N := 0) (fuel := 34) hIQ (fun _ h => absurd h List.not_mem_nil) (by decide +kernel)
def kq_1028 : ek := (61, [.inr 68, .inr 26], [], [(66, 3), (66, 4), (66, 5), (67, 999), (68, 999), (69, 999)], [(none, [])], 2, 86)
/-- LoadsAhead.State copyFrom -/
theorem qk_1028 (l : Launch) : ek_ok l tQ iQ kq_1028 := ek_good_ok (sp := sQ) (K := [kq_1026, kq_1027]) (SP := []) (HS := []) (N := 0) (fuel := 22) hIQ (List.forall_mem_cons.mpr ⟨qk_1026 l, List.forall_mem_cons.mpr ⟨qk_1027 l, fun _ h => absurd h List.not_mem_nil⟩⟩) (by decide +kernel)
def kq_1029 : ek := (95, [.inr 68, .inl (0, 63), .inl (0, 7), .inl ((-2147483648), 2147483647)], [], [(68, 999)], [(none, [])], 0, 0)
/-- LoadsAhead.State putBytes -/
theorem qk_1029 (l : Launch) : ek_ok l tQ iQ kq_1029 := ek_good_ok (sp := sQ) (K := []) (SP := []) (HS := [((3, [some (.inr 68, none), some (.inl (0, 63), none), some (.inl (0, 7), none), some (.inl ((-2147483648), 2147483647), none), some (.inl (0, 7), none)], [], [], []), [(0, (0, 0, 0), 0), (1, (1, 4, 0), 7), (0, (0, 0, 0), 0)])]) (N := 3) (fuel := 50) hIQ (fun _ h => absurd h List.not_mem_nil) (by decide +kernel)
def kq_1030 : ek := (95, [.inr 68, .inl (0, 63), .inl (0, 7), .inl (0, 0)], [], [(68, 999)], [(none, [])], 0, 0)
/-- LoadsAhead.State putBytes -/
theorem qk_1030 (l : Launch) : ek_ok l tQ iQ kq_1030 := ek_good_ok (sp := sQ) (K := []) (SP := []) (HS := [((3, [some (.inr 68, none), some (.inl (0, 63), none), some (.inl (0, 7), none), some (.inl (0, 0), none), some (.inl (0, 7), none)], [], [], []), [(0, (0, 0, 0), 0), (1, (1, 4, 0), 7), (0, (0, 0, 0), 0)])]) (N := 3) (fuel := 50) hIQ (fun _ h => absurd h List.not_mem_nil) (by decide +kernel)
def kq_1031 : ek := (111, [.inr 67, .inr 6, .inr 26], [], [(66, 3), (66, 4), (66, 5), (67, 999), (68, 999), (69, 999), (70, 999)], [(none, [])], 3, 107)
/-- LoadsAhead.Plain go -/
theorem qk_1031 (l : Launch) : ek_ok l tQ iQ kq_1031 := ek_good_ok (sp := sQ) (K := [kq_1028, kq_131, kq_132, kq_1024, kq_275, kq_258, kq_1030, kq_1025, kq_273, kq_274, kq_257, kq_1029, kq_272]) (SP := [(95, [(0, [(-1), 7])])]) (HS := [((10, [some (.inr 67, none), some (.inr 6, none), some (.inr 26, none), some (.inl (0, 20), none), none, none], [], [], []), [(0, (0, 0, 0), 0), (1, (1, 3, 0), 20), (0, (0, 0, 0), 0)])]) (N := 3) (fuel := 140) hIQ (List.forall_mem_cons.mpr ⟨qk_1028 l, List.forall_mem_cons.mpr ⟨qk_131 l, List.forall_mem_cons.mpr ⟨qk_132 l, List.forall_mem_cons.mpr ⟨qk_1024 l, List.forall_mem_cons.mpr ⟨qk_275 l, List.forall_mem_cons.mpr ⟨qk_258 l, List.forall_mem_cons.mpr ⟨qk_1030 l, List.forall_mem_cons.mpr ⟨qk_1025 l, List.forall_mem_cons.mpr ⟨qk_273 l, List.forall_mem_cons.mpr ⟨qk_274 l, List.forall_mem_cons.mpr ⟨qk_257 l, List.forall_mem_cons.mpr ⟨qk_1029 l, List.forall_mem_cons.mpr ⟨qk_272 l, fun _ h => absurd h List.not_mem_nil⟩⟩⟩⟩⟩⟩⟩⟩⟩⟩⟩⟩⟩) (by decide +kernel)
def kq_1032 : ek := (110, [.inr 2, .inl (0, 7)], [], [(66, 3), (66, 4), (66, 5), (67, 999), (68, 999), (69, 999), (70, 999)], [(some (.inl ((-2147483648), 2147483647)), [])], 4, 132)
/-- LoadsAhead plain -/
theorem qk_1032 (l : Launch) : ek_ok l tQ iQ kq_1032 := ek_good_ok (sp := sQ) (K := [kq_1031, kq_132]) (SP := [(1, [(0, [(-1), 7])]), (39, [(0, [(-1), 7])])]) (HS := []) (N := 0) (fuel := 54) hIQ (List.forall_mem_cons.mpr ⟨qk_1031 l, List.forall_mem_cons.mpr ⟨qk_132 l, fun _ h => absurd h List.not_mem_nil⟩⟩) (by decide +kernel)
def kq_1033 : ek := (110, [.inr 2, .inl (8, 99)], [], [], [(some (.inl ((-100000), (-100000))), [])], 1, 20)
/-- LoadsAhead plain -/
theorem qk_1033 (l : Launch) : ek_ok l tQ iQ kq_1033 := ek_good_ok (sp := sQ) (K := [kq_1006, kq_1007]) (SP := [(1, [(0, [(-1), 7])]), (8, [(0, [99, 163])])]) (HS := []) (N := 0) (fuel := 24) hIQ (List.forall_mem_cons.mpr ⟨qk_1006 l, List.forall_mem_cons.mpr ⟨qk_1007 l, fun _ h => absurd h List.not_mem_nil⟩⟩) (by decide +kernel)
def kq_1034 : ek := (110, [.inr 2, .inl (100, 163)], [], [(66, 3), (66, 4), (66, 5), (67, 999), (68, 999), (69, 999), (70, 999)], [(some (.inl ((-2147483648), 2147483647)), [])], 4, 132)
/-- LoadsAhead plain -/
theorem qk_1034 (l : Launch) : ek_ok l tQ iQ kq_1034 := ek_good_ok (sp := sQ) (K := [kq_1031, kq_1009, kq_908]) (SP := [(1, [(0, [(-1), 7])]), (8, [(0, [99, 163])]), (39, [(0, [(-1), 7])])]) (HS := []) (N := 0) (fuel := 62) hIQ (List.forall_mem_cons.mpr ⟨qk_1031 l, List.forall_mem_cons.mpr ⟨qk_1009 l, List.forall_mem_cons.mpr ⟨qk_908 l, fun _ h => absurd h List.not_mem_nil⟩⟩⟩) (by decide +kernel)
def kq_1035 : ek := (110, [.inr 2, .inl (164, 2147483647)], [], [], [(some (.inl ((-100000), (-100000))), [])], 1, 20)
/-- LoadsAhead plain -/
theorem qk_1035 (l : Launch) : ek_ok l tQ iQ kq_1035 := ek_good_ok (sp := sQ) (K := [kq_1011, kq_912]) (SP := [(1, [(0, [(-1), 7])]), (8, [(0, [99, 163])])]) (HS := []) (N := 0) (fuel := 24) hIQ (List.forall_mem_cons.mpr ⟨qk_1011 l, List.forall_mem_cons.mpr ⟨qk_912 l, fun _ h => absurd h List.not_mem_nil⟩⟩) (by decide +kernel)
def kq_1036 : ek := (220, [.inr 86, .inl (0, 19)], [], [(140, 999), (141, 999), (142, 999)], [(none, [])], 1, 22)
/-- LoadsAheadModel doesPlain -/
theorem qk_1036 (l : Launch) : ek_ok l tQ iQ kq_1036 := ek_good_ok (sp := sQ) (K := [kq_448, kq_430]) (SP := []) (HS := [((128, [some (.inr 86, none), some (.inl (0, 19), none), some (.inl ((-2147483648), 2147483647), none), some (.inl ((-2147483648), 2147483647), none), some (.inl (0, 4), none), none], [], [], []), [(0, (0, 0, 0), 0), (1, (1, 4, 0), 4), (0, (0, 0, 0), 0)])]) (N := 3) (fuel := 92) hIQ (List.forall_mem_cons.mpr ⟨qk_448 l, List.forall_mem_cons.mpr ⟨qk_430 l, fun _ h => absurd h List.not_mem_nil⟩⟩) (by decide +kernel)
def kq_1037 : ek := (219, [.inr 86], [], [(140, 999), (141, 999), (142, 999)], [(none, [])], 2, 47)
/-- LoadsAheadModel goesPlain -/
theorem qk_1037 (l : Launch) : ek_ok l tQ iQ kq_1037 := ek_good_ok (sp := sQ) (K := [kq_1036]) (SP := []) (HS := [((2, [some (.inr 86, none), some (.inl (0, 8), none)], [], [], []), [(0, (0, 0, 0), 2), (1, (1, 1, 0), 8), (0, (0, 0, 0), 0)]), ((28, [some (.inr 86, none), some (.inl (0, 64), none)], [], [], []), [(0, (0, 0, 0), 1), (1, (1, 1, 0), 64), (0, (0, 0, 0), 0)]), ((54, [some (.inr 86, none), some (.inl (0, 20), none)], [], [], []), [(0, (0, 0, 0), 0), (1, (1, 1, 0), 20), (0, (0, 0, 0), 0)])]) (N := 3) (fuel := 36) hIQ (List.forall_mem_cons.mpr ⟨qk_1036 l, fun _ h => absurd h List.not_mem_nil⟩) (by decide +kernel)
def kq_1038 : ek := (218, [.inr 86, .inl ((-2147483648), (-1))], [], [(140, 999), (141, 999), (142, 999)], [(some (.inl ((-100000), (-100000))), [])], 3, 68)
/-- LoadsAheadModel plain -/
theorem qk_1038 (l : Launch) : ek_ok l tQ iQ kq_1038 := ek_good_ok (sp := sQ) (K := [kq_1037, kq_1013, kq_3]) (SP := [(8, [(2, [(-1), 7])]), (29, [(2, [99, 163])])]) (HS := []) (N := 0) (fuel := 36) hIQ (List.forall_mem_cons.mpr ⟨qk_1037 l, List.forall_mem_cons.mpr ⟨qk_1013 l, List.forall_mem_cons.mpr ⟨qk_3 l, fun _ h => absurd h List.not_mem_nil⟩⟩⟩) (by decide +kernel)
def kq_1039 : ek := (220, [.inr 86, .inl (0, 0)], [], [(140, 999), (141, 999), (142, 999)], [(none, [])], 1, 22)
/-- LoadsAheadModel doesPlain -/
theorem qk_1039 (l : Launch) : ek_ok l tQ iQ kq_1039 := ek_good_ok (sp := sQ) (K := [kq_448, kq_430]) (SP := []) (HS := [((128, [some (.inr 86, none), some (.inl (0, 0), none), some (.inl ((-2147483648), 2147483647), none), some (.inl ((-2147483648), 2147483647), none), some (.inl (0, 4), none), none], [], [], []), [(0, (0, 0, 0), 0), (1, (1, 4, 0), 4), (0, (0, 0, 0), 0)])]) (N := 3) (fuel := 92) hIQ (List.forall_mem_cons.mpr ⟨qk_448 l, List.forall_mem_cons.mpr ⟨qk_430 l, fun _ h => absurd h List.not_mem_nil⟩⟩) (by decide +kernel)
def kq_1040 : ek := (220, [.inr 86, .inl (0, 1)], [], [(140, 999), (141, 999), (142, 999)], [(none, [])], 1, 22)
/-- LoadsAheadModel doesPlain -/
theorem qk_1040 (l : Launch) : ek_ok l tQ iQ kq_1040 := ek_good_ok (sp := sQ) (K := [kq_448, kq_430]) (SP := []) (HS := [((128, [some (.inr 86, none), some (.inl (0, 1), none), some (.inl ((-2147483648), 2147483647), none), some (.inl ((-2147483648), 2147483647), none), some (.inl (0, 4), none), none], [], [], []), [(0, (0, 0, 0), 0), (1, (1, 4, 0), 4), (0, (0, 0, 0), 0)])]) (N := 3) (fuel := 92) hIQ (List.forall_mem_cons.mpr ⟨qk_448 l, List.forall_mem_cons.mpr ⟨qk_430 l, fun _ h => absurd h List.not_mem_nil⟩⟩) (by decide +kernel)
def kq_1041 : ek := (220, [.inr 86, .inl (0, 3)], [], [(140, 999), (141, 999), (142, 999)], [(none, [])], 1, 22)
/-- LoadsAheadModel doesPlain -/
theorem qk_1041 (l : Launch) : ek_ok l tQ iQ kq_1041 := ek_good_ok (sp := sQ) (K := [kq_448, kq_430]) (SP := []) (HS := [((128, [some (.inr 86, none), some (.inl (0, 3), none), some (.inl ((-2147483648), 2147483647), none), some (.inl ((-2147483648), 2147483647), none), some (.inl (0, 4), none), none], [], [], []), [(0, (0, 0, 0), 0), (1, (1, 4, 0), 4), (0, (0, 0, 0), 0)])]) (N := 3) (fuel := 92) hIQ (List.forall_mem_cons.mpr ⟨qk_448 l, List.forall_mem_cons.mpr ⟨qk_430 l, fun _ h => absurd h List.not_mem_nil⟩⟩) (by decide +kernel)
def kq_1042 : ek := (220, [.inr 86, .inl (0, 7)], [], [(140, 999), (141, 999), (142, 999)], [(none, [])], 1, 22)
/-- LoadsAheadModel doesPlain -/
theorem qk_1042 (l : Launch) : ek_ok l tQ iQ kq_1042 := ek_good_ok (sp := sQ) (K := [kq_448, kq_430]) (SP := []) (HS := [((128, [some (.inr 86, none), some (.inl (0, 7), none), some (.inl ((-2147483648), 2147483647), none), some (.inl ((-2147483648), 2147483647), none), some (.inl (0, 4), none), none], [], [], []), [(0, (0, 0, 0), 0), (1, (1, 4, 0), 4), (0, (0, 0, 0), 0)])]) (N := 3) (fuel := 92) hIQ (List.forall_mem_cons.mpr ⟨qk_448 l, List.forall_mem_cons.mpr ⟨qk_430 l, fun _ h => absurd h List.not_mem_nil⟩⟩) (by decide +kernel)
def kq_1043 : ek := (220, [.inr 86, .inl (0, 15)], [], [(140, 999), (141, 999), (142, 999)], [(none, [])], 1, 22)
/-- LoadsAheadModel doesPlain -/
theorem qk_1043 (l : Launch) : ek_ok l tQ iQ kq_1043 := ek_good_ok (sp := sQ) (K := [kq_448, kq_430]) (SP := []) (HS := [((128, [some (.inr 86, none), some (.inl (0, 15), none), some (.inl ((-2147483648), 2147483647), none), some (.inl ((-2147483648), 2147483647), none), some (.inl (0, 4), none), none], [], [], []), [(0, (0, 0, 0), 0), (1, (1, 4, 0), 4), (0, (0, 0, 0), 0)])]) (N := 3) (fuel := 92) hIQ (List.forall_mem_cons.mpr ⟨qk_448 l, List.forall_mem_cons.mpr ⟨qk_430 l, fun _ h => absurd h List.not_mem_nil⟩⟩) (by decide +kernel)
def kq_1044 : ek := (218, [.inr 86, .inl (0, 7)], [], [(140, 999), (141, 999), (142, 999)], [(some (.inl ((-2147483648), 2147483647)), [])], 3, 68)
/-- LoadsAheadModel plain -/
theorem qk_1044 (l : Launch) : ek_ok l tQ iQ kq_1044 := ek_good_ok (sp := sQ) (K := [kq_1037, kq_5]) (SP := [(8, [(2, [(-1), 7])])]) (HS := []) (N := 0) (fuel := 34) hIQ (List.forall_mem_cons.mpr ⟨qk_1037 l, List.forall_mem_cons.mpr ⟨qk_5 l, fun _ h => absurd h List.not_mem_nil⟩⟩) (by decide +kernel)
def kq_1045 : ek := (218, [.inr 86, .inl (8, 99)], [], [(140, 999), (141, 999), (142, 999)], [(some (.inl ((-100000), (-100000))), [])], 3, 68)
/-- LoadsAheadModel plain -/
theorem qk_1045 (l : Launch) : ek_ok l tQ iQ kq_1045 := ek_good_ok (sp := sQ) (K := [kq_1037, kq_1017, kq_1016]) (SP := [(8, [(2, [(-1), 7])]), (29, [(2, [99, 163])])]) (HS := []) (N := 0) (fuel := 36) hIQ (List.forall_mem_cons.mpr ⟨qk_1037 l, List.forall_mem_cons.mpr ⟨qk_1017 l, List.forall_mem_cons.mpr ⟨qk_1016 l, fun _ h => absurd h List.not_mem_nil⟩⟩⟩) (by decide +kernel)
def kq_1046 : ek := (218, [.inr 86, .inl (100, 163)], [], [(140, 999), (141, 999), (142, 999)], [(some (.inl ((-2147483648), 2147483647)), [])], 3, 68)
/-- LoadsAheadModel plain -/
theorem qk_1046 (l : Launch) : ek_ok l tQ iQ kq_1046 := ek_good_ok (sp := sQ) (K := [kq_1037, kq_946, kq_1019]) (SP := [(8, [(2, [(-1), 7])]), (29, [(2, [99, 163])])]) (HS := []) (N := 0) (fuel := 48) hIQ (List.forall_mem_cons.mpr ⟨qk_1037 l, List.forall_mem_cons.mpr ⟨qk_946 l, List.forall_mem_cons.mpr ⟨qk_1019 l, fun _ h => absurd h List.not_mem_nil⟩⟩⟩) (by decide +kernel)
def kq_1047 : ek := (218, [.inr 86, .inl (164, 2147483647)], [], [(140, 999), (141, 999), (142, 999)], [(some (.inl ((-100000), (-100000))), [])], 3, 68)
/-- LoadsAheadModel plain -/
theorem qk_1047 (l : Launch) : ek_ok l tQ iQ kq_1047 := ek_good_ok (sp := sQ) (K := [kq_1037, kq_950, kq_1021]) (SP := [(8, [(2, [(-1), 7])]), (29, [(2, [99, 163])])]) (HS := []) (N := 0) (fuel := 36) hIQ (List.forall_mem_cons.mpr ⟨qk_1037 l, List.forall_mem_cons.mpr ⟨qk_950 l, List.forall_mem_cons.mpr ⟨qk_1021 l, fun _ h => absurd h List.not_mem_nil⟩⟩⟩) (by decide +kernel)
def kq_1048 : ek := (114, [.inr 2, .inl ((-2147483648), 0)], [], [], [(some (.inl ((-1), (-1))), [])], 1, 21)
/-- LoadsAhead unlike -/
theorem qk_1048 (l : Launch) : ek_ok l tQ iQ kq_1048 := ek_good_ok (sp := sQ) (K := [kq_241]) (SP := [(2, [(0, [0, 4])])]) (HS := []) (N := 0) (fuel := 20) hIQ (List.forall_mem_cons.mpr ⟨qk_241 l, fun _ h => absurd h List.not_mem_nil⟩) (by decide +kernel)
def kq_1049 : ek := (115, [.inr 31, .inr 69], [], [], [(some (.inl ((-2147483648), 2147483647)), []), (some (.inl (0, 2147483647)), [])], 0, 0)
/-- LoadsAhead differing -/
theorem qk_1049 (l : Launch) : ek_ok l tQ iQ kq_1049 := ek_good_ok (sp := sQ) (K := []) (SP := []) (HS := [((4, [some (.inr 31, none), some (.inr 69, none), some (.inl ((-2147483648), 2147483647), none), some (.inl (0, 8), none)], [], [], []), [(0, (0, 0, 0), 0), (1, (1, 3, 0), 8), (0, (0, 0, 0), 0)])]) (N := 3) (fuel := 46) hIQ (fun _ h => absurd h List.not_mem_nil) (by decide +kernel)
def kq_1050 : ek := (115, [.inr 32, .inr 70], [], [], [(some (.inl ((-2147483648), 2147483647)), []), (some (.inl (0, 2147483647)), [])], 0, 0)
/-- LoadsAhead differing -/
theorem qk_1050 (l : Launch) : ek_ok l tQ iQ kq_1050 := ek_good_ok (sp := sQ) (K := []) (SP := []) (HS := [((4, [some (.inr 32, none), some (.inr 70, none), some (.inl ((-2147483648), 2147483647), none), some (.inl (0, 64), none)], [], [], []), [(0, (0, 0, 0), 0), (1, (1, 3, 0), 64), (0, (0, 0, 0), 0)])]) (N := 3) (fuel := 46) hIQ (fun _ h => absurd h List.not_mem_nil) (by decide +kernel)
def kq_1052 : ek := (114, [.inr 2, .inl (5, 2147483647)], [], [], [(some (.inl ((-1), (-1))), [])], 1, 21)
/-- LoadsAhead unlike -/
theorem qk_1052 (l : Launch) : ek_ok l tQ iQ kq_1052 := ek_good_ok (sp := sQ) (K := [kq_420]) (SP := [(2, [(0, [0, 4])])]) (HS := []) (N := 0) (fuel := 20) hIQ (List.forall_mem_cons.mpr ⟨qk_420 l, fun _ h => absurd h List.not_mem_nil⟩) (by decide +kernel)
def kq_1053 : ek := (221, [.inr 86, .inl ((-2147483648), 0)], [], [], [(some (.inl ((-1), (-1))), [])], 2, 43)
/-- LoadsAheadModel unlike -/
theorem qk_1053 (l : Launch) : ek_ok l tQ iQ kq_1053 := ek_good_ok (sp := sQ) (K := [kq_423]) (SP := [(2, [(0, [0, 4])])]) (HS := []) (N := 0) (fuel := 20) hIQ (List.forall_mem_cons.mpr ⟨qk_423 l, fun _ h => absurd h List.not_mem_nil⟩) (by decide +kernel)
def kq_1055 : ek := (221, [.inr 86, .inl (5, 2147483647)], [], [], [(some (.inl ((-1), (-1))), [])], 2, 43)
/-- LoadsAheadModel unlike -/
theorem qk_1055 (l : Launch) : ek_ok l tQ iQ kq_1055 := ek_good_ok (sp := sQ) (K := [kq_874]) (SP := [(2, [(0, [0, 4])])]) (HS := []) (N := 0) (fuel := 20) hIQ (List.forall_mem_cons.mpr ⟨qk_874 l, fun _ h => absurd h List.not_mem_nil⟩) (by decide +kernel)
def kq_1056 : ek := (116, [.inr 2, .inl ((-2147483648), (-1))], [], [], [(some (.inl ((-1), (-1))), [])], 0, 0)
/-- LoadsAhead fastest -/
theorem qk_1056 (l : Launch) : ek_ok l tQ iQ kq_1056 := ek_good_ok (sp := sQ) (K := []) (SP := []) (HS := []) (N := 0) (fuel := 16) hIQ (fun _ h => absurd h List.not_mem_nil) (by decide +kernel)
def kq_1062 : ek := (116, [.inr 2, .inl (2, 2147483647)], [], [], [(some (.inl ((-1), (-1))), [])], 0, 0)
/-- LoadsAhead fastest -/
theorem qk_1062 (l : Launch) : ek_ok l tQ iQ kq_1062 := ek_good_ok (sp := sQ) (K := []) (SP := []) (HS := []) (N := 0) (fuel := 22) hIQ (fun _ h => absurd h List.not_mem_nil) (by decide +kernel)
def kq_1063 : ek := (137, [.inl ((-2147483648), (-1)), .inl (0, 0), .inl (1, 1)], [], [], [(some (.inl (0, 0)), [])], 0, 0)
/-- LoadsAheadModel in -/
theorem qk_1063 (l : Launch) : ek_ok l tQ iQ kq_1063 := ek_good_ok (sp := sQ) (K := []) (SP := []) (HS := []) (N := 0) (fuel := 18) hIQ (fun _ h => absurd h List.not_mem_nil) (by decide +kernel)
def kq_1064 : ek := (215, [.inr 86, .inl ((-2147483648), (-1))], [], [], [(some (.inl ((-1), (-1))), [])], 1, 22)
/-- LoadsAheadModel fastest -/
theorem qk_1064 (l : Launch) : ek_ok l tQ iQ kq_1064 := ek_good_ok (sp := sQ) (K := [kq_1063]) (SP := [(3, [(2, [(-1), 1])])]) (HS := []) (N := 0) (fuel := 22) hIQ (List.forall_mem_cons.mpr ⟨qk_1063 l, fun _ h => absurd h List.not_mem_nil⟩) (by decide +kernel)
def kq_1065 : ek := (137, [.inl (0, 1), .inl (0, 0), .inl (1, 1)], [], [], [(some (.inl (1, 1)), [])], 0, 0)
/-- LoadsAheadModel in -/
theorem qk_1065 (l : Launch) : ek_ok l tQ iQ kq_1065 := ek_good_ok (sp := sQ) (K := []) (SP := []) (HS := []) (N := 0) (fuel := 26) hIQ (fun _ h => absurd h List.not_mem_nil) (by decide +kernel)
def kq_1082 : ek := (137, [.inl (2, 2147483647), .inl (0, 0), .inl (1, 1)], [], [], [(some (.inl (0, 0)), [])], 0, 0)
/-- LoadsAheadModel in -/
theorem qk_1082 (l : Launch) : ek_ok l tQ iQ kq_1082 := ek_good_ok (sp := sQ) (K := []) (SP := []) (HS := []) (N := 0) (fuel := 24) hIQ (fun _ h => absurd h List.not_mem_nil) (by decide +kernel)
def kq_1083 : ek := (215, [.inr 86, .inl (2, 2147483647)], [], [], [(some (.inl ((-1), (-1))), [])], 1, 22)
/-- LoadsAheadModel fastest -/
theorem qk_1083 (l : Launch) : ek_ok l tQ iQ kq_1083 := ek_good_ok (sp := sQ) (K := [kq_1082]) (SP := [(3, [(2, [(-1), 1])])]) (HS := []) (N := 0) (fuel := 22) hIQ (List.forall_mem_cons.mpr ⟨qk_1082 l, fun _ h => absurd h List.not_mem_nil⟩) (by decide +kernel)
def kq_1084 : ek := (117, [.inr 2, .inl ((-2147483648), 0), .inl ((-2147483648), 2147483647)], [], [], [(some (.inl ((-1), (-1))), [])], 1, 21)
/-- LoadsAhead cautious -/
theorem qk_1084 (l : Launch) : ek_ok l tQ iQ kq_1084 := ek_good_ok (sp := sQ) (K := [kq_241]) (SP := [(2, [(0, [0, 4])])]) (HS := []) (N := 0) (fuel := 20) hIQ (List.forall_mem_cons.mpr ⟨qk_241 l, fun _ h => absurd h List.not_mem_nil⟩) (by decide +kernel)
def kq_1085 : ek := (83, [.inr 5, .inl (0, 19), .inl (1, 1)], [], [], [(some (.inl (1, 1)), []), (some (.inl (0, 0)), [])], 0, 0)
/-- LoadsAhead.Machine mustWait -/
theorem qk_1085 (l : Launch) : ek_ok l tQ iQ kq_1085 := ek_good_ok (sp := sQ) (K := []) (SP := []) (HS := [((51, [some (.inr 5, none), some (.inl (0, 19), none), some (.inl (1, 1), none), some (.inl (0, 1), none), some (.inl ((-1), 15), none), some (.inl ((-1), 18), none)], [], [], []), [(0, (0, 0, 0), 0), (2, (1, 5, 0), (-1)), (0, (0, 0, 0), 0)])]) (N := 3) (fuel := 66) hIQ (fun _ h => absurd h List.not_mem_nil) (by decide +kernel)
end
section
def kq_1089 : ek := (83, [.inr 5, .inl (0, 15), .inl (1, 1)], [], [], [(some (.inl (1, 1)), []), (some (.inl (0, 0)), [])], 0, 0)
/-- LoadsAhead.Machine mustWait -/
theorem qk_1089 (l : Launch) : ek_ok l tQ iQ kq_1089 := ek_good_ok (sp := sQ) (K := []) (SP := []) (HS := [((51, [some (.inr 5, none), some (.inl (0, 15), none), some (.inl (1, 1), none), some (.inl (0, 1), none), some (.inl ((-1), 15), none), some (.inl ((-1), 14), none)], [], [], []), [(0, (0, 0, 0), 0), (2, (1, 5, 0), (-1)), (0, (0, 0, 0), 0)])]) (N := 3) (fuel := 66) hIQ (fun _ h => absurd h List.not_mem_nil) (by decide +kernel)
def kq_1090 : ek := (83, [.inr 5, .inl (0, 7), .inl (1, 1)], [], [], [(some (.inl (1, 1)), []), (some (.inl (0, 0)), [])], 0, 0)
/-- LoadsAhead.Machine mustWait -/
theorem qk_1090 (l : Launch) : ek_ok l tQ iQ kq_1090 := ek_good_ok (sp := sQ) (K := []) (SP := []) (HS := [((51, [some (.inr 5, none), some (.inl (0, 7), none), some (.inl (1, 1), none), some (.inl (0, 1), none), some (.inl ((-1), 15), none), some (.inl ((-1), 6), none)], [], [], []), [(0, (0, 0, 0), 0), (2, (1, 5, 0), (-1)), (0, (0, 0, 0), 0)])]) (N := 3) (fuel := 66) hIQ (fun _ h => absurd h List.not_mem_nil) (by decide +kernel)
def kq_1091 : ek := (83, [.inr 5, .inl (0, 3), .inl (1, 1)], [], [], [(some (.inl (1, 1)), []), (some (.inl (0, 0)), [])], 0, 0)
/-- LoadsAhead.Machine mustWait -/
theorem qk_1091 (l : Launch) : ek_ok l tQ iQ kq_1091 := ek_good_ok (sp := sQ) (K := []) (SP := []) (HS := [((51, [some (.inr 5, none), some (.inl (0, 3), none), some (.inl (1, 1), none), some (.inl (0, 1), none), some (.inl ((-1), 15), none), some (.inl ((-1), 2), none)], [], [], []), [(0, (0, 0, 0), 0), (2, (1, 5, 0), (-1)), (0, (0, 0, 0), 0)])]) (N := 3) (fuel := 66) hIQ (fun _ h => absurd h List.not_mem_nil) (by decide +kernel)
def kq_1092 : ek := (83, [.inr 5, .inl (0, 1), .inl (1, 1)], [], [], [(some (.inl (1, 1)), []), (some (.inl (0, 0)), [])], 0, 0)
/-- LoadsAhead.Machine mustWait -/
theorem qk_1092 (l : Launch) : ek_ok l tQ iQ kq_1092 := ek_good_ok (sp := sQ) (K := []) (SP := []) (HS := [((51, [some (.inr 5, none), some (.inl (0, 1), none), some (.inl (1, 1), none), some (.inl (0, 1), none), some (.inl ((-1), 15), none), some (.inl ((-1), 0), none)], [], [], []), [(0, (0, 0, 0), 0), (2, (1, 5, 0), (-1)), (0, (0, 0, 0), 0)])]) (N := 3) (fuel := 66) hIQ (fun _ h => absurd h List.not_mem_nil) (by decide +kernel)
def kq_1093 : ek := (83, [.inr 5, .inl (0, 0), .inl (1, 1)], [], [], [(some (.inl (0, 0)), [])], 0, 0)
/-- LoadsAhead.Machine mustWait -/
theorem qk_1093 (l : Launch) : ek_ok l tQ iQ kq_1093 := ek_good_ok (sp := sQ) (K := []) (SP := []) (HS := [((51, [some (.inr 5, none), some (.inl (0, 0), none), some (.inl (1, 1), none), some (.inl (0, 1), none), some (.inl ((-1), 15), none), some (.inl ((-1), (-1)), none)], [], [], []), [(0, (0, 0, 0), 0)])]) (N := 1) (fuel := 62) hIQ (fun _ h => absurd h List.not_mem_nil) (by decide +kernel)
def kq_1094 : ek := (117, [.inr 2, .inl (5, 2147483647), .inl ((-2147483648), 2147483647)], [], [], [(some (.inl ((-1), (-1))), [])], 1, 21)
/-- LoadsAhead cautious -/
theorem qk_1094 (l : Launch) : ek_ok l tQ iQ kq_1094 := ek_good_ok (sp := sQ) (K := [kq_420]) (SP := [(2, [(0, [0, 4])])]) (HS := []) (N := 0) (fuel := 20) hIQ (List.forall_mem_cons.mpr ⟨qk_420 l, fun _ h => absurd h List.not_mem_nil⟩) (by decide +kernel)
def kq_1095 : ek := (214, [.inr 86, .inl ((-2147483648), 0), .inl ((-2147483648), 2147483647)], [], [], [(some (.inl ((-1), (-1))), [])], 2, 43)
/-- LoadsAheadModel cautious -/
theorem qk_1095 (l : Launch) : ek_ok l tQ iQ kq_1095 := ek_good_ok (sp := sQ) (K := [kq_423]) (SP := [(2, [(0, [0, 4])])]) (HS := []) (N := 0) (fuel := 20) hIQ (List.forall_mem_cons.mpr ⟨qk_423 l, fun _ h => absurd h List.not_mem_nil⟩) (by decide +kernel)
def kq_1099 : ek := (214, [.inr 86, .inl (5, 2147483647), .inl ((-2147483648), 2147483647)], [], [], [(some (.inl ((-1), (-1))), [])], 2, 43)
/-- LoadsAheadModel cautious -/
theorem qk_1099 (l : Launch) : ek_ok l tQ iQ kq_1099 := ek_good_ok (sp := sQ) (K := [kq_874]) (SP := [(2, [(0, [0, 4])])]) (HS := []) (N := 0) (fuel := 20) hIQ (List.forall_mem_cons.mpr ⟨qk_874 l, fun _ h => absurd h List.not_mem_nil⟩) (by decide +kernel)
def kq_1100 : ek := (118, [.inr 2, .inl ((-2147483648), (-1))], [], [], [(some (.inl ((-1), (-1))), [])], 0, 0)
/-- LoadsAhead worst -/
theorem qk_1100 (l : Launch) : ek_ok l tQ iQ kq_1100 := ek_good_ok (sp := sQ) (K := []) (SP := []) (HS := []) (N := 0) (fuel := 16) hIQ (fun _ h => absurd h List.not_mem_nil) (by decide +kernel)
def kq_1101 : ek := (118, [.inr 2, .inl (0, 1)], [], [], [(some (.inl ((-2), (-2))), [((2, 0, 8), (0, 0), none)]), (some (.inl (0, 19)), []), (some (.inl ((-2147483648), 2147483647)), [])], 0, 0)
/-- LoadsAhead worst -/
theorem qk_1101 (l : Launch) : ek_ok l tQ iQ kq_1101 := ek_good_ok (sp := sQ) (K := []) (SP := []) (HS := [((25, [some (.inr 2, none), some (.inl (0, 1), none), some (.inl (0, 19), none), some (.inl (1, 20), none)], [], [], []), [(0, (0, 0, 0), 0), (1, (1, 3, 0), 20), (0, (0, 0, 0), 0)])]) (N := 3) (fuel := 52) hIQ (fun _ h => absurd h List.not_mem_nil) (by decide +kernel)
def kq_1102 : ek := (118, [.inr 2, .inl (2, 2147483647)], [], [], [(some (.inl ((-1), (-1))), [])], 0, 0)
/-- LoadsAhead worst -/
theorem qk_1102 (l : Launch) : ek_ok l tQ iQ kq_1102 := ek_good_ok (sp := sQ) (K := []) (SP := []) (HS := []) (N := 0) (fuel := 22) hIQ (fun _ h => absurd h List.not_mem_nil) (by decide +kernel)
def kq_1103 : ek := (228, [.inr 86, .inl ((-2147483648), (-1))], [], [], [(some (.inl ((-1), (-1))), [])], 1, 22)
/-- LoadsAheadModel worst -/
theorem qk_1103 (l : Launch) : ek_ok l tQ iQ kq_1103 := ek_good_ok (sp := sQ) (K := [kq_1063]) (SP := [(3, [(2, [(-1), 1])])]) (HS := []) (N := 0) (fuel := 22) hIQ (List.forall_mem_cons.mpr ⟨qk_1063 l, fun _ h => absurd h List.not_mem_nil⟩) (by decide +kernel)
def kq_1104 : ek := (229, [.inr 86], [], [], [(some (.inl (0, 19)), [])], 0, 0)
/-- LoadsAheadModel worstOp -/
theorem qk_1104 (l : Launch) : ek_ok l tQ iQ kq_1104 := ek_good_ok (sp := sQ) (K := []) (SP := []) (HS := [((4, [some (.inr 86, none), some (.inl (0, 19), none), some (.inl (1, 20), none)], [], [], []), [(0, (0, 0, 0), 0), (1, (1, 2, 0), 20), (0, (0, 0, 0), 0)])]) (N := 3) (fuel := 44) hIQ (fun _ h => absurd h List.not_mem_nil) (by decide +kernel)
def kq_1105 : ek := (228, [.inr 86, .inl (0, 1)], [], [], [(some (.inl ((-2), (-2))), [((2, 84, 75), (0, 0), none)]), (some (.inl (0, 19)), [((2, 84, 75), (1, 1), none)]), (some (.inl ((-2147483648), 2147483647)), [((2, 84, 75), (1, 1), none)])], 1, 22)
/-- LoadsAheadModel worst -/
theorem qk_1105 (l : Launch) : ek_ok l tQ iQ kq_1105 := ek_good_ok (sp := sQ) (K := [kq_1104, kq_1065]) (SP := [(3, [(2, [(-1), 1])])]) (HS := []) (N := 0) (fuel := 40) hIQ (List.forall_mem_cons.mpr ⟨qk_1104 l, List.forall_mem_cons.mpr ⟨qk_1065 l, fun _ h => absurd h List.not_mem_nil⟩⟩) (by decide +kernel)
def kq_1106 : ek := (228, [.inr 86, .inl (2, 2147483647)], [], [], [(some (.inl ((-1), (-1))), [])], 1, 22)
/-- LoadsAheadModel worst -/
theorem qk_1106 (l : Launch) : ek_ok l tQ iQ kq_1106 := ek_good_ok (sp := sQ) (K := [kq_1082]) (SP := [(3, [(2, [(-1), 1])])]) (HS := []) (N := 0) (fuel := 22) hIQ (List.forall_mem_cons.mpr ⟨qk_1082 l, fun _ h => absurd h List.not_mem_nil⟩) (by decide +kernel)
def kq_1107 : ek := (119, [.inr 2], [], [], [(some (.inl ((-2147483648), 2147483647)), [])], 0, 0)
/-- LoadsAhead deep -/
theorem qk_1107 (l : Launch) : ek_ok l tQ iQ kq_1107 := ek_good_ok (sp := sQ) (K := []) (SP := []) (HS := []) (N := 0) (fuel := 18) hIQ (fun _ h => absurd h List.not_mem_nil) (by decide +kernel)
def kq_1108 : ek := (195, [.inr 86, .inl (0, 19), .inl (0, 19)], [], [], [(some (.inl (1, 1)), []), (some (.inl (0, 0)), [])], 2, 45)
/-- LoadsAheadModel hasSource -/
theorem qk_1108 (l : Launch) : ek_ok l tQ iQ kq_1108 := ek_good_ok (sp := sQ) (K := [kq_441, kq_428]) (SP := []) (HS := [((2, [some (.inr 86, none), some (.inl (0, 19), none), some (.inl (0, 19), none), some (.inl (0, 8), none)], [], [], []), [(0, (0, 0, 0), 0), (1, (1, 3, 0), 8), (0, (0, 0, 0), 0)])]) (N := 3) (fuel := 42) hIQ (List.forall_mem_cons.mpr ⟨qk_441 l, List.forall_mem_cons.mpr ⟨qk_428 l, fun _ h => absurd h List.not_mem_nil⟩⟩) (by decide +kernel)
def kq_1109 : ek := (225, [.inl ((-2147483648), 2147483647), .inl ((-2147483648), 2147483647)], [], [], [(some (.inl ((-2147483648), 2147483647)), [])], 0, 0)
/-- LoadsAheadModel max -/
theorem qk_1109 (l : Launch) : ek_ok l tQ iQ kq_1109 := ek_good_ok (sp := sQ) (K := []) (SP := []) (HS := []) (N := 0) (fuel := 20) hIQ (fun _ h => absurd h List.not_mem_nil) (by decide +kernel)
def kq_1110 : ek := (225, [.inl (0, 2147483647), .inl ((-2147483648), 2147483647)], [], [], [(some (.inl (0, 2147483647)), [])], 0, 0)
/-- LoadsAheadModel max -/
theorem qk_1110 (l : Launch) : ek_ok l tQ iQ kq_1110 := ek_good_ok (sp := sQ) (K := []) (SP := []) (HS := []) (N := 0) (fuel := 20) hIQ (fun _ h => absurd h List.not_mem_nil) (by decide +kernel)
def kq_1111 : ek := (224, [.inr 86], [], [(143, 999)], [(some (.inl (0, 2147483647)), [])], 3, 68)
/-- LoadsAheadModel deep -/
theorem qk_1111 (l : Launch) : ek_ok l tQ iQ kq_1111 := ek_good_ok (sp := sQ) (K := [kq_1108, kq_1110, kq_1109]) (SP := []) (HS := [((4, [some (.inr 86, none), some (.inl (0, 2147483647), none), some (.inl (0, 20), none), none], [], [], []), [(0, (0, 0, 0), 0), (1, (1, 2, 0), 20), (0, (0, 0, 0), 1), (0, (0, 0, 0), 0), (0, (0, 0, 0), 0)]), ((21, [some (.inr 86, none), some (.inl (0, 2147483647), none), some (.inl (0, 19), none), some (.inl (0, 19), none)], [], [], []), [(0, (0, 0, 0), 0), (1, (1, 2, 0), 20), (0, (0, 0, 0), 0), (1, (1, 3, 0), 19), (0, (0, 0, 0), 0)])]) (N := 5) (fuel := 60) hIQ (List.forall_mem_cons.mpr ⟨qk_1108 l, List.forall_mem_cons.mpr ⟨qk_1110 l, List.forall_mem_cons.mpr ⟨qk_1109 l, fun _ h => absurd h List.not_mem_nil⟩⟩⟩) (by decide +kernel)
def kq_1112 : ek := (225, [.inl (0, 0), .inl ((-2147483648), 2147483647)], [], [], [(some (.inl (0, 2147483647)), [])], 0, 0)
/-- LoadsAheadModel max -/
theorem qk_1112 (l : Launch) : ek_ok l tQ iQ kq_1112 := ek_good_ok (sp := sQ) (K := []) (SP := []) (HS := []) (N := 0) (fuel := 20) hIQ (fun _ h => absurd h List.not_mem_nil) (by decide +kernel)
def kq_1113 : ek := (172, [.inr 86, .inl (1, 1), .inl (0, 7)], [], [], [(some (.inl (1, 1)), []), (some (.inl (0, 0)), [])], 0, 0)
/-- LoadsAheadModel doesRead -/
theorem qk_1113 (l : Launch) : ek_ok l tQ iQ kq_1113 := ek_good_ok (sp := sQ) (K := []) (SP := []) (HS := []) (N := 0) (fuel := 48) hIQ (fun _ h => absurd h List.not_mem_nil) (by decide +kernel)
def kq_1114 : ek := (173, [.inr 86, .inl (1, 1), .inl (0, 7)], [], [], [(some (.inl (0, 0)), []), (some (.inl ((-1), (-1))), [])], 1, 22)
/-- LoadsAheadModel giverOf -/
theorem qk_1114 (l : Launch) : ek_ok l tQ iQ kq_1114 := ek_good_ok (sp := sQ) (K := [kq_483]) (SP := []) (HS := [((4, [some (.inr 86, none), some (.inl (1, 1), none), some (.inl (0, 7), none), some (.inl ((-1), 0), none)], [], [], []), [(0, (0, 0, 0), 0), (2, (1, 3, 0), (-1)), (0, (0, 0, 0), 0)])]) (N := 3) (fuel := 28) hIQ (List.forall_mem_cons.mpr ⟨qk_483 l, fun _ h => absurd h List.not_mem_nil⟩) (by decide +kernel)
def kq_1115 : ek := (195, [.inr 86, .inl (1, 1), .inl (0, 0)], [], [], [(some (.inl (1, 1)), []), (some (.inl (0, 0)), [])], 2, 45)
/-- LoadsAheadModel hasSource -/
theorem qk_1115 (l : Launch) : ek_ok l tQ iQ kq_1115 := ek_good_ok (sp := sQ) (K := [kq_1113, kq_1114]) (SP := []) (HS := [((2, [some (.inr 86, none), some (.inl (1, 1), none), some (.inl (0, 0), none), some (.inl (0, 8), none)], [], [], []), [(0, (0, 0, 0), 0), (1, (1, 3, 0), 8), (0, (0, 0, 0), 0)])]) (N := 3) (fuel := 42) hIQ (List.forall_mem_cons.mpr ⟨qk_1113 l, List.forall_mem_cons.mpr ⟨qk_1114 l, fun _ h => absurd h List.not_mem_nil⟩⟩) (by decide +kernel)
def kq_1116 : ek := (172, [.inr 86, .inl (1, 1), .inl (0, 0)], [], [], [(some (.inl (1, 1)), []), (some (.inl (0, 0)), [])], 0, 0)
/-- LoadsAheadModel doesRead -/
theorem qk_1116 (l : Launch) : ek_ok l tQ iQ kq_1116 := ek_good_ok (sp := sQ) (K := []) (SP := []) (HS := []) (N := 0) (fuel := 48) hIQ (fun _ h => absurd h List.not_mem_nil) (by decide +kernel)
def kq_1117 : ek := (172, [.inr 86, .inl (1, 1), .inl (0, 1)], [], [], [(some (.inl (1, 1)), []), (some (.inl (0, 0)), [])], 0, 0)
/-- LoadsAheadModel doesRead -/
theorem qk_1117 (l : Launch) : ek_ok l tQ iQ kq_1117 := ek_good_ok (sp := sQ) (K := []) (SP := []) (HS := []) (N := 0) (fuel := 48) hIQ (fun _ h => absurd h List.not_mem_nil) (by decide +kernel)
def kq_1118 : ek := (172, [.inr 86, .inl (1, 1), .inl (0, 3)], [], [], [(some (.inl (1, 1)), []), (some (.inl (0, 0)), [])], 0, 0)
/-- LoadsAheadModel doesRead -/
theorem qk_1118 (l : Launch) : ek_ok l tQ iQ kq_1118 := ek_good_ok (sp := sQ) (K := []) (SP := []) (HS := []) (N := 0) (fuel := 48) hIQ (fun _ h => absurd h List.not_mem_nil) (by decide +kernel)
def kq_1119 : ek := (173, [.inr 86, .inl (1, 1), .inl (0, 3)], [], [], [(some (.inl (0, 0)), []), (some (.inl ((-1), (-1))), [])], 1, 22)
/-- LoadsAheadModel giverOf -/
theorem qk_1119 (l : Launch) : ek_ok l tQ iQ kq_1119 := ek_good_ok (sp := sQ) (K := [kq_547]) (SP := []) (HS := [((4, [some (.inr 86, none), some (.inl (1, 1), none), some (.inl (0, 3), none), some (.inl ((-1), 0), none)], [], [], []), [(0, (0, 0, 0), 0), (2, (1, 3, 0), (-1)), (0, (0, 0, 0), 0)])]) (N := 3) (fuel := 28) hIQ (List.forall_mem_cons.mpr ⟨qk_547 l, fun _ h => absurd h List.not_mem_nil⟩) (by decide +kernel)
def kq_1120 : ek := (173, [.inr 86, .inl (1, 1), .inl (0, 1)], [], [], [(some (.inl (0, 0)), []), (some (.inl ((-1), (-1))), [])], 1, 22)
/-- LoadsAheadModel giverOf -/
theorem qk_1120 (l : Launch) : ek_ok l tQ iQ kq_1120 := ek_good_ok (sp := sQ) (K := [kq_549]) (SP := []) (HS := [((4, [some (.inr 86, none), some (.inl (1, 1), none), some (.inl (0, 1), none), some (.inl ((-1), 0), none)], [], [], []), [(0, (0, 0, 0), 0), (2, (1, 3, 0), (-1)), (0, (0, 0, 0), 0)])]) (N := 3) (fuel := 28) hIQ (List.forall_mem_cons.mpr ⟨qk_549 l, fun _ h => absurd h List.not_mem_nil⟩) (by decide +kernel)
def kq_1121 : ek := (173, [.inr 86, .inl (1, 1), .inl (0, 0)], [], [], [(some (.inl (0, 0)), []), (some (.inl ((-1), (-1))), [])], 1, 22)
/-- LoadsAheadModel giverOf -/
theorem qk_1121 (l : Launch) : ek_ok l tQ iQ kq_1121 := ek_good_ok (sp := sQ) (K := [kq_551]) (SP := []) (HS := [((4, [some (.inr 86, none), some (.inl (1, 1), none), some (.inl (0, 0), none), some (.inl ((-1), 0), none)], [], [], []), [(0, (0, 0, 0), 0), (2, (1, 3, 0), (-1)), (0, (0, 0, 0), 0)])]) (N := 3) (fuel := 28) hIQ (List.forall_mem_cons.mpr ⟨qk_551 l, fun _ h => absurd h List.not_mem_nil⟩) (by decide +kernel)
def kq_1122 : ek := (195, [.inr 86, .inl (0, 3), .inl (0, 1)], [], [], [(some (.inl (1, 1)), []), (some (.inl (0, 0)), [])], 2, 45)
/-- LoadsAheadModel hasSource -/
theorem qk_1122 (l : Launch) : ek_ok l tQ iQ kq_1122 := ek_good_ok (sp := sQ) (K := [kq_555, kq_497]) (SP := []) (HS := [((2, [some (.inr 86, none), some (.inl (0, 3), none), some (.inl (0, 1), none), some (.inl (0, 8), none)], [], [], []), [(0, (0, 0, 0), 0), (1, (1, 3, 0), 8), (0, (0, 0, 0), 0)])]) (N := 3) (fuel := 42) hIQ (List.forall_mem_cons.mpr ⟨qk_555 l, List.forall_mem_cons.mpr ⟨qk_497 l, fun _ h => absurd h List.not_mem_nil⟩⟩) (by decide +kernel)
def kq_1123 : ek := (195, [.inr 86, .inl (0, 3), .inl (0, 3)], [], [], [(some (.inl (1, 1)), []), (some (.inl (0, 0)), [])], 2, 45)
/-- LoadsAheadModel hasSource -/
theorem qk_1123 (l : Launch) : ek_ok l tQ iQ kq_1123 := ek_good_ok (sp := sQ) (K := [kq_555, kq_497]) (SP := []) (HS := [((2, [some (.inr 86, none), some (.inl (0, 3), none), some (.inl (0, 3), none), some (.inl (0, 8), none)], [], [], []), [(0, (0, 0, 0), 0), (1, (1, 3, 0), 8), (0, (0, 0, 0), 0)])]) (N := 3) (fuel := 42) hIQ (List.forall_mem_cons.mpr ⟨qk_555 l, List.forall_mem_cons.mpr ⟨qk_497 l, fun _ h => absurd h List.not_mem_nil⟩⟩) (by decide +kernel)
def kq_1124 : ek := (195, [.inr 86, .inl (0, 7), .inl (0, 3)], [], [], [(some (.inl (1, 1)), []), (some (.inl (0, 0)), [])], 2, 45)
/-- LoadsAheadModel hasSource -/
theorem qk_1124 (l : Launch) : ek_ok l tQ iQ kq_1124 := ek_good_ok (sp := sQ) (K := [kq_509, kq_568]) (SP := []) (HS := [((2, [some (.inr 86, none), some (.inl (0, 7), none), some (.inl (0, 3), none), some (.inl (0, 8), none)], [], [], []), [(0, (0, 0, 0), 0), (1, (1, 3, 0), 8), (0, (0, 0, 0), 0)])]) (N := 3) (fuel := 42) hIQ (List.forall_mem_cons.mpr ⟨qk_509 l, List.forall_mem_cons.mpr ⟨qk_568 l, fun _ h => absurd h List.not_mem_nil⟩⟩) (by decide +kernel)
def kq_1125 : ek := (195, [.inr 86, .inl (0, 7), .inl (0, 7)], [], [], [(some (.inl (1, 1)), []), (some (.inl (0, 0)), [])], 2, 45)
/-- LoadsAheadModel hasSource -/
theorem qk_1125 (l : Launch) : ek_ok l tQ iQ kq_1125 := ek_good_ok (sp := sQ) (K := [kq_509, kq_568]) (SP := []) (HS := [((2, [some (.inr 86, none), some (.inl (0, 7), none), some (.inl (0, 7), none), some (.inl (0, 8), none)], [], [], []), [(0, (0, 0, 0), 0), (1, (1, 3, 0), 8), (0, (0, 0, 0), 0)])]) (N := 3) (fuel := 42) hIQ (List.forall_mem_cons.mpr ⟨qk_509 l, List.forall_mem_cons.mpr ⟨qk_568 l, fun _ h => absurd h List.not_mem_nil⟩⟩) (by decide +kernel)
def kq_1126 : ek := (195, [.inr 86, .inl (0, 15), .inl (0, 7)], [], [], [(some (.inl (1, 1)), []), (some (.inl (0, 0)), [])], 2, 45)
/-- LoadsAheadModel hasSource -/
theorem qk_1126 (l : Launch) : ek_ok l tQ iQ kq_1126 := ek_good_ok (sp := sQ) (K := [kq_581, kq_520]) (SP := []) (HS := [((2, [some (.inr 86, none), some (.inl (0, 15), none), some (.inl (0, 7), none), some (.inl (0, 8), none)], [], [], []), [(0, (0, 0, 0), 0), (1, (1, 3, 0), 8), (0, (0, 0, 0), 0)])]) (N := 3) (fuel := 42) hIQ (List.forall_mem_cons.mpr ⟨qk_581 l, List.forall_mem_cons.mpr ⟨qk_520 l, fun _ h => absurd h List.not_mem_nil⟩⟩) (by decide +kernel)
def kq_1127 : ek := (195, [.inr 86, .inl (0, 15), .inl (0, 15)], [], [], [(some (.inl (1, 1)), []), (some (.inl (0, 0)), [])], 2, 45)
/-- LoadsAheadModel hasSource -/
theorem qk_1127 (l : Launch) : ek_ok l tQ iQ kq_1127 := ek_good_ok (sp := sQ) (K := [kq_581, kq_520]) (SP := []) (HS := [((2, [some (.inr 86, none), some (.inl (0, 15), none), some (.inl (0, 15), none), some (.inl (0, 8), none)], [], [], []), [(0, (0, 0, 0), 0), (1, (1, 3, 0), 8), (0, (0, 0, 0), 0)])]) (N := 3) (fuel := 42) hIQ (List.forall_mem_cons.mpr ⟨qk_581 l, List.forall_mem_cons.mpr ⟨qk_520 l, fun _ h => absurd h List.not_mem_nil⟩⟩) (by decide +kernel)
def kq_1128 : ek := (195, [.inr 86, .inl (0, 19), .inl (0, 15)], [], [], [(some (.inl (1, 1)), []), (some (.inl (0, 0)), [])], 2, 45)
/-- LoadsAheadModel hasSource -/
theorem qk_1128 (l : Launch) : ek_ok l tQ iQ kq_1128 := ek_good_ok (sp := sQ) (K := [kq_441, kq_428]) (SP := []) (HS := [((2, [some (.inr 86, none), some (.inl (0, 19), none), some (.inl (0, 15), none), some (.inl (0, 8), none)], [], [], []), [(0, (0, 0, 0), 0), (1, (1, 3, 0), 8), (0, (0, 0, 0), 0)])]) (N := 3) (fuel := 42) hIQ (List.forall_mem_cons.mpr ⟨qk_441 l, List.forall_mem_cons.mpr ⟨qk_428 l, fun _ h => absurd h List.not_mem_nil⟩⟩) (by decide +kernel)
def kq_1129 : ek := (70, [.inl ((-2147483648), 2147483647), .inl (0, 4), .inl ((-2147483648), 2147483647)], [], [], [(some (.inl (1, 1)), []), (some (.inl (0, 0)), [])], 0, 0)
/-- LoadsAhead covers -/
theorem qk_1129 (l : Launch) : ek_ok l tQ iQ kq_1129 := ek_good_ok (sp := sQ) (K := []) (SP := []) (HS := []) (N := 0) (fuel := 28) hIQ (fun _ h => absurd h List.not_mem_nil) (by decide +kernel)
def kq_1130 : ek := (122, [.inr 67, .inr 6, .inl (0, 19), .inl (0, 19)], [], [], [(some (.inl (0, 0)), []), (some (.inl (1, 1)), [])], 1, 22)
/-- LoadsAhead.Plain meet -/
theorem qk_1130 (l : Launch) : ek_ok l tQ iQ kq_1130 := ek_good_ok (sp := sQ) (K := [kq_1129]) (SP := []) (HS := []) (N := 0) (fuel := 70) hIQ (List.forall_mem_cons.mpr ⟨qk_1129 l, fun _ h => absurd h List.not_mem_nil⟩) (by decide +kernel)
def kq_1131 : ek := (121, [.inr 67, .inr 6], [], [], [(some (.inl ((-2147483648), 2147483647)), []), (some (.inl (0, 0)), [((2, 4, 11), (0, 1), none)])], 2, 45)
/-- LoadsAhead.Plain sharedBytes -/
theorem qk_1131 (l : Launch) : ek_ok l tQ iQ kq_1131 := ek_good_ok (sp := sQ) (K := [kq_1130]) (SP := []) (HS := [((4, [some (.inr 67, none), some (.inr 6, none), some (.inl ((-2147483648), 2147483647), none), some (.inl (0, 20), none), none], [], [], []), [(0, (0, 0, 0), 0), (1, (1, 3, 0), 20), (0, (0, 0, 0), 1), (0, (0, 0, 0), 0), (0, (0, 0, 0), 0)]), ((15, [some (.inr 67, none), some (.inr 6, none), some (.inl ((-2147483648), 2147483647), none), some (.inl (0, 19), none), some (.inl (0, 19), none)], [], [], []), [(0, (0, 0, 0), 0), (1, (1, 3, 0), 20), (0, (0, 0, 0), 0), (1, (1, 4, 0), 19), (0, (0, 0, 0), 0)])]) (N := 5) (fuel := 58) hIQ (List.forall_mem_cons.mpr ⟨qk_1130 l, fun _ h => absurd h List.not_mem_nil⟩) (by decide +kernel)
def kq_1132 : ek := (120, [.inr 2], [], [(66, 3), (66, 4), (66, 5), (67, 999), (68, 999), (69, 999), (70, 999)], [(some (.inl (0, 0)), [((2, 4, 11), (0, 1), none)]), (some (.inl ((-2147483648), 2147483647)), [])], 4, 132)
/-- LoadsAhead mix -/
theorem qk_1132 (l : Launch) : ek_ok l tQ iQ kq_1132 := ek_good_ok (sp := sQ) (K := [kq_1031, kq_1131]) (SP := []) (HS := []) (N := 0) (fuel := 40) hIQ (List.forall_mem_cons.mpr ⟨qk_1031 l, List.forall_mem_cons.mpr ⟨qk_1131 l, fun _ h => absurd h List.not_mem_nil⟩⟩) (by decide +kernel)
def kq_1133 : ek := (122, [.inr 67, .inr 6, .inl (1, 1), .inl (0, 0)], [], [], [(some (.inl (0, 0)), []), (some (.inl (1, 1)), [])], 1, 22)
/-- LoadsAhead.Plain meet -/
theorem qk_1133 (l : Launch) : ek_ok l tQ iQ kq_1133 := ek_good_ok (sp := sQ) (K := [kq_1129]) (SP := []) (HS := []) (N := 0) (fuel := 70) hIQ (List.forall_mem_cons.mpr ⟨qk_1129 l, fun _ h => absurd h List.not_mem_nil⟩) (by decide +kernel)
def kq_1134 : ek := (122, [.inr 67, .inr 6, .inl (0, 3), .inl (0, 1)], [], [], [(some (.inl (0, 0)), []), (some (.inl (1, 1)), [])], 1, 22)
/-- LoadsAhead.Plain meet -/
theorem qk_1134 (l : Launch) : ek_ok l tQ iQ kq_1134 := ek_good_ok (sp := sQ) (K := [kq_1129]) (SP := []) (HS := []) (N := 0) (fuel := 70) hIQ (List.forall_mem_cons.mpr ⟨qk_1129 l, fun _ h => absurd h List.not_mem_nil⟩) (by decide +kernel)
def kq_1135 : ek := (122, [.inr 67, .inr 6, .inl (0, 3), .inl (0, 3)], [], [], [(some (.inl (0, 0)), []), (some (.inl (1, 1)), [])], 1, 22)
/-- LoadsAhead.Plain meet -/
theorem qk_1135 (l : Launch) : ek_ok l tQ iQ kq_1135 := ek_good_ok (sp := sQ) (K := [kq_1129]) (SP := []) (HS := []) (N := 0) (fuel := 70) hIQ (List.forall_mem_cons.mpr ⟨qk_1129 l, fun _ h => absurd h List.not_mem_nil⟩) (by decide +kernel)
def kq_1136 : ek := (122, [.inr 67, .inr 6, .inl (0, 7), .inl (0, 3)], [], [], [(some (.inl (0, 0)), []), (some (.inl (1, 1)), [])], 1, 22)
/-- LoadsAhead.Plain meet -/
theorem qk_1136 (l : Launch) : ek_ok l tQ iQ kq_1136 := ek_good_ok (sp := sQ) (K := [kq_1129]) (SP := []) (HS := []) (N := 0) (fuel := 70) hIQ (List.forall_mem_cons.mpr ⟨qk_1129 l, fun _ h => absurd h List.not_mem_nil⟩) (by decide +kernel)
def kq_1137 : ek := (122, [.inr 67, .inr 6, .inl (0, 7), .inl (0, 7)], [], [], [(some (.inl (0, 0)), []), (some (.inl (1, 1)), [])], 1, 22)
/-- LoadsAhead.Plain meet -/
theorem qk_1137 (l : Launch) : ek_ok l tQ iQ kq_1137 := ek_good_ok (sp := sQ) (K := [kq_1129]) (SP := []) (HS := []) (N := 0) (fuel := 70) hIQ (List.forall_mem_cons.mpr ⟨qk_1129 l, fun _ h => absurd h List.not_mem_nil⟩) (by decide +kernel)
def kq_1138 : ek := (122, [.inr 67, .inr 6, .inl (0, 15), .inl (0, 7)], [], [], [(some (.inl (0, 0)), []), (some (.inl (1, 1)), [])], 1, 22)
/-- LoadsAhead.Plain meet -/
theorem qk_1138 (l : Launch) : ek_ok l tQ iQ kq_1138 := ek_good_ok (sp := sQ) (K := [kq_1129]) (SP := []) (HS := []) (N := 0) (fuel := 70) hIQ (List.forall_mem_cons.mpr ⟨qk_1129 l, fun _ h => absurd h List.not_mem_nil⟩) (by decide +kernel)
def kq_1139 : ek := (122, [.inr 67, .inr 6, .inl (0, 15), .inl (0, 15)], [], [], [(some (.inl (0, 0)), []), (some (.inl (1, 1)), [])], 1, 22)
/-- LoadsAhead.Plain meet -/
theorem qk_1139 (l : Launch) : ek_ok l tQ iQ kq_1139 := ek_good_ok (sp := sQ) (K := [kq_1129]) (SP := []) (HS := []) (N := 0) (fuel := 70) hIQ (List.forall_mem_cons.mpr ⟨qk_1129 l, fun _ h => absurd h List.not_mem_nil⟩) (by decide +kernel)
def kq_1140 : ek := (122, [.inr 67, .inr 6, .inl (0, 19), .inl (0, 15)], [], [], [(some (.inl (0, 0)), []), (some (.inl (1, 1)), [])], 1, 22)
/-- LoadsAhead.Plain meet -/
theorem qk_1140 (l : Launch) : ek_ok l tQ iQ kq_1140 := ek_good_ok (sp := sQ) (K := [kq_1129]) (SP := []) (HS := []) (N := 0) (fuel := 70) hIQ (List.forall_mem_cons.mpr ⟨qk_1129 l, fun _ h => absurd h List.not_mem_nil⟩) (by decide +kernel)
def kq_1141 : ek := (223, [.inr 86, .inl (0, 19), .inl (0, 19)], [], [], [(some (.inl (1, 1)), []), (some (.inl (0, 0)), [])], 0, 0)
/-- LoadsAheadModel haveByte -/
theorem qk_1141 (l : Launch) : ek_ok l tQ iQ kq_1141 := ek_good_ok (sp := sQ) (K := []) (SP := []) (HS := [((2, [some (.inr 86, none), some (.inl (0, 19), none), some (.inl (0, 19), none), some (.inl (0, 4), none)], [], [], []), [(0, (0, 0, 0), 0), (1, (1, 3, 0), 4), (0, (0, 0, 0), 0)])]) (N := 3) (fuel := 62) hIQ (fun _ h => absurd h List.not_mem_nil) (by decide +kernel)
def kq_1142 : ek := (222, [.inr 86], [], [(140, 999), (141, 999), (142, 999)], [(some (.inl ((-2147483648), 2147483647)), []), (some (.inl (0, 0)), [((2, 84, 2), (0, 1), none)])], 3, 68)
/-- LoadsAheadModel mix -/
theorem qk_1142 (l : Launch) : ek_ok l tQ iQ kq_1142 := ek_good_ok (sp := sQ) (K := [kq_1037, kq_1141]) (SP := []) (HS := [((8, [some (.inr 86, none), some (.inl ((-2147483648), 2147483647), none), some (.inl (0, 20), none), none], [], [], []), [(0, (0, 0, 0), 0), (1, (1, 2, 0), 20), (0, (0, 0, 0), 1), (0, (0, 0, 0), 0), (0, (0, 0, 0), 0)]), ((18, [some (.inr 86, none), some (.inl ((-2147483648), 2147483647), none), some (.inl (0, 19), none), some (.inl (0, 19), none)], [], [], []), [(0, (0, 0, 0), 0), (1, (1, 2, 0), 20), (0, (0, 0, 0), 0), (1, (1, 3, 0), 19), (0, (0, 0, 0), 0)])]) (N := 5) (fuel := 62) hIQ (List.forall_mem_cons.mpr ⟨qk_1037 l, List.forall_mem_cons.mpr ⟨qk_1141 l, fun _ h => absurd h List.not_mem_nil⟩⟩) (by decide +kernel)
def kq_1143 : ek := (223, [.inr 86, .inl (1, 1), .inl (0, 0)], [], [], [(some (.inl (1, 1)), []), (some (.inl (0, 0)), [])], 0, 0)
/-- LoadsAheadModel haveByte -/
theorem qk_1143 (l : Launch) : ek_ok l tQ iQ kq_1143 := ek_good_ok (sp := sQ) (K := []) (SP := []) (HS := [((2, [some (.inr 86, none), some (.inl (1, 1), none), some (.inl (0, 0), none), some (.inl (0, 4), none)], [], [], []), [(0, (0, 0, 0), 0), (1, (1, 3, 0), 4), (0, (0, 0, 0), 0)])]) (N := 3) (fuel := 62) hIQ (fun _ h => absurd h List.not_mem_nil) (by decide +kernel)
def kq_1144 : ek := (223, [.inr 86, .inl (0, 3), .inl (0, 1)], [], [], [(some (.inl (1, 1)), []), (some (.inl (0, 0)), [])], 0, 0)
/-- LoadsAheadModel haveByte -/
theorem qk_1144 (l : Launch) : ek_ok l tQ iQ kq_1144 := ek_good_ok (sp := sQ) (K := []) (SP := []) (HS := [((2, [some (.inr 86, none), some (.inl (0, 3), none), some (.inl (0, 1), none), some (.inl (0, 4), none)], [], [], []), [(0, (0, 0, 0), 0), (1, (1, 3, 0), 4), (0, (0, 0, 0), 0)])]) (N := 3) (fuel := 62) hIQ (fun _ h => absurd h List.not_mem_nil) (by decide +kernel)
def kq_1145 : ek := (223, [.inr 86, .inl (0, 3), .inl (0, 3)], [], [], [(some (.inl (1, 1)), []), (some (.inl (0, 0)), [])], 0, 0)
/-- LoadsAheadModel haveByte -/
theorem qk_1145 (l : Launch) : ek_ok l tQ iQ kq_1145 := ek_good_ok (sp := sQ) (K := []) (SP := []) (HS := [((2, [some (.inr 86, none), some (.inl (0, 3), none), some (.inl (0, 3), none), some (.inl (0, 4), none)], [], [], []), [(0, (0, 0, 0), 0), (1, (1, 3, 0), 4), (0, (0, 0, 0), 0)])]) (N := 3) (fuel := 62) hIQ (fun _ h => absurd h List.not_mem_nil) (by decide +kernel)
def kq_1146 : ek := (223, [.inr 86, .inl (0, 7), .inl (0, 3)], [], [], [(some (.inl (1, 1)), []), (some (.inl (0, 0)), [])], 0, 0)
/-- LoadsAheadModel haveByte -/
theorem qk_1146 (l : Launch) : ek_ok l tQ iQ kq_1146 := ek_good_ok (sp := sQ) (K := []) (SP := []) (HS := [((2, [some (.inr 86, none), some (.inl (0, 7), none), some (.inl (0, 3), none), some (.inl (0, 4), none)], [], [], []), [(0, (0, 0, 0), 0), (1, (1, 3, 0), 4), (0, (0, 0, 0), 0)])]) (N := 3) (fuel := 62) hIQ (fun _ h => absurd h List.not_mem_nil) (by decide +kernel)
end
section
def kq_1147 : ek := (223, [.inr 86, .inl (0, 7), .inl (0, 7)], [], [], [(some (.inl (1, 1)), []), (some (.inl (0, 0)), [])], 0, 0)
/-- LoadsAheadModel haveByte -/
theorem qk_1147 (l : Launch) : ek_ok l tQ iQ kq_1147 := ek_good_ok (sp := sQ) (K := []) (SP := []) (HS := [((2, [some (.inr 86, none), some (.inl (0, 7), none), some (.inl (0, 7), none), some (.inl (0, 4), none)], [], [], []), [(0, (0, 0, 0), 0), (1, (1, 3, 0), 4), (0, (0, 0, 0), 0)])]) (N := 3) (fuel := 62) hIQ (fun _ h => absurd h List.not_mem_nil) (by decide +kernel)
def kq_1148 : ek := (223, [.inr 86, .inl (0, 15), .inl (0, 7)], [], [], [(some (.inl (1, 1)), []), (some (.inl (0, 0)), [])], 0, 0)
/-- LoadsAheadModel haveByte -/
theorem qk_1148 (l : Launch) : ek_ok l tQ iQ kq_1148 := ek_good_ok (sp := sQ) (K := []) (SP := []) (HS := [((2, [some (.inr 86, none), some (.inl (0, 15), none), some (.inl (0, 7), none), some (.inl (0, 4), none)], [], [], []), [(0, (0, 0, 0), 0), (1, (1, 3, 0), 4), (0, (0, 0, 0), 0)])]) (N := 3) (fuel := 62) hIQ (fun _ h => absurd h List.not_mem_nil) (by decide +kernel)
def kq_1149 : ek := (223, [.inr 86, .inl (0, 15), .inl (0, 15)], [], [], [(some (.inl (1, 1)), []), (some (.inl (0, 0)), [])], 0, 0)
/-- LoadsAheadModel haveByte -/
theorem qk_1149 (l : Launch) : ek_ok l tQ iQ kq_1149 := ek_good_ok (sp := sQ) (K := []) (SP := []) (HS := [((2, [some (.inr 86, none), some (.inl (0, 15), none), some (.inl (0, 15), none), some (.inl (0, 4), none)], [], [], []), [(0, (0, 0, 0), 0), (1, (1, 3, 0), 4), (0, (0, 0, 0), 0)])]) (N := 3) (fuel := 62) hIQ (fun _ h => absurd h List.not_mem_nil) (by decide +kernel)
def kq_1150 : ek := (223, [.inr 86, .inl (0, 19), .inl (0, 15)], [], [], [(some (.inl (1, 1)), []), (some (.inl (0, 0)), [])], 0, 0)
/-- LoadsAheadModel haveByte -/
theorem qk_1150 (l : Launch) : ek_ok l tQ iQ kq_1150 := ek_good_ok (sp := sQ) (K := []) (SP := []) (HS := [((2, [some (.inr 86, none), some (.inl (0, 19), none), some (.inl (0, 15), none), some (.inl (0, 4), none)], [], [], []), [(0, (0, 0, 0), 0), (1, (1, 3, 0), 4), (0, (0, 0, 0), 0)])]) (N := 3) (fuel := 62) hIQ (fun _ h => absurd h List.not_mem_nil) (by decide +kernel)
def kq_1151 : ek := (123, [.inr 2, .inl ((-2147483648), (-1)), .inl ((-2147483648), 2147483647)], [], [], [(some (.inl ((-1), (-1))), [])], 0, 0)
/-- LoadsAhead watch -/
theorem qk_1151 (l : Launch) : ek_ok l tQ iQ kq_1151 := ek_good_ok (sp := sQ) (K := []) (SP := []) (HS := []) (N := 0) (fuel := 16) hIQ (fun _ h => absurd h List.not_mem_nil) (by decide +kernel)
def kq_1152 : ek := (123, [.inr 2, .inl (2, 2147483647), .inl ((-2147483648), 2147483647)], [], [], [(some (.inl ((-1), (-1))), [])], 0, 0)
/-- LoadsAhead watch -/
theorem qk_1152 (l : Launch) : ek_ok l tQ iQ kq_1152 := ek_good_ok (sp := sQ) (K := []) (SP := []) (HS := []) (N := 0) (fuel := 22) hIQ (fun _ h => absurd h List.not_mem_nil) (by decide +kernel)
def kq_1153 : ek := (123, [.inr 2, .inl (0, 1), .inl ((-2147483648), (-1))], [], [], [(some (.inl ((-3), (-1))), [])], 1, 21)
/-- LoadsAhead watch -/
theorem qk_1153 (l : Launch) : ek_ok l tQ iQ kq_1153 := ek_good_ok (sp := sQ) (K := [kq_979]) (SP := [(30, [(0, [(-1), 19])])]) (HS := []) (N := 0) (fuel := 44) hIQ (List.forall_mem_cons.mpr ⟨qk_979 l, fun _ h => absurd h List.not_mem_nil⟩) (by decide +kernel)
def kq_1154 : ek := (124, [.inr 84, .inl (0, 0), .inl (0, 19)], [], [(83, 999), (150, 999)], [(some (.inl (1, 8)), [])], 0, 0)
/-- LoadsAhead.Rows put -/
theorem qk_1154 (l : Launch) : ek_ok l tQ iQ kq_1154 := ek_good_ok (sp := sQ) (K := []) (SP := [(16, [(0, [0])])]) (HS := []) (N := 0) (fuel := 66) hIQ (fun _ h => absurd h List.not_mem_nil) (by decide +kernel)
def kq_1155 : ek := (124, [.inr 84, .inl (1, 1), .inl (0, 19)], [], [(83, 999), (151, 999)], [(some (.inl (1, 8)), [])], 0, 0)
/-- LoadsAhead.Rows put -/
theorem qk_1155 (l : Launch) : ek_ok l tQ iQ kq_1155 := ek_good_ok (sp := sQ) (K := []) (SP := [(16, [(0, [0])])]) (HS := []) (N := 0) (fuel := 66) hIQ (fun _ h => absurd h List.not_mem_nil) (by decide +kernel)
def kq_1156 : ek := (123, [.inr 2, .inl (0, 1), .inl (0, 2147483647)], [], [(82, 2), (83, 999), (150, 999), (151, 999)], [(some (.inl ((-7), (-1))), []), (some (.inl (1, 8)), [((2, 4, 11), (1, 20), none)])], 1, 22)
/-- LoadsAhead watch -/
theorem qk_1156 (l : Launch) : ek_ok l tQ iQ kq_1156 := ek_good_ok (sp := sQ) (K := [kq_1155, kq_1154, kq_981, kq_982]) (SP := [(30, [(0, [(-1), 19])])]) (HS := []) (N := 0) (fuel := 86) hIQ (List.forall_mem_cons.mpr ⟨qk_1155 l, List.forall_mem_cons.mpr ⟨qk_1154 l, List.forall_mem_cons.mpr ⟨qk_981 l, List.forall_mem_cons.mpr ⟨qk_982 l, fun _ h => absurd h List.not_mem_nil⟩⟩⟩⟩) (by decide +kernel)
def kq_1157 : ek := (230, [.inr 86, .inl ((-2147483648), (-1)), .inl ((-2147483648), 2147483647)], [], [], [(some (.inl ((-1), (-1))), [])], 1, 22)
/-- LoadsAheadModel watch -/
theorem qk_1157 (l : Launch) : ek_ok l tQ iQ kq_1157 := ek_good_ok (sp := sQ) (K := [kq_1063]) (SP := [(3, [(2, [(-1), 1])])]) (HS := []) (N := 0) (fuel := 22) hIQ (List.forall_mem_cons.mpr ⟨qk_1063 l, fun _ h => absurd h List.not_mem_nil⟩) (by decide +kernel)
def kq_1158 : ek := (230, [.inr 86, .inl (2, 2147483647), .inl ((-2147483648), 2147483647)], [], [], [(some (.inl ((-1), (-1))), [])], 1, 22)
/-- LoadsAheadModel watch -/
theorem qk_1158 (l : Launch) : ek_ok l tQ iQ kq_1158 := ek_good_ok (sp := sQ) (K := [kq_1082]) (SP := [(3, [(2, [(-1), 1])])]) (HS := []) (N := 0) (fuel := 22) hIQ (List.forall_mem_cons.mpr ⟨qk_1082 l, fun _ h => absurd h List.not_mem_nil⟩) (by decide +kernel)
def kq_1159 : ek := (230, [.inr 86, .inl (0, 1), .inl ((-2147483648), (-1))], [], [], [(some (.inl ((-1), (-1))), [])], 2, 43)
/-- LoadsAheadModel watch -/
theorem qk_1159 (l : Launch) : ek_ok l tQ iQ kq_1159 := ek_good_ok (sp := sQ) (K := [kq_1065, kq_989]) (SP := [(3, [(2, [(-1), 1])]), (11, [(0, [(-1), 19])])]) (HS := []) (N := 0) (fuel := 30) hIQ (List.forall_mem_cons.mpr ⟨qk_1065 l, List.forall_mem_cons.mpr ⟨qk_989 l, fun _ h => absurd h List.not_mem_nil⟩⟩) (by decide +kernel)
def kq_1160 : ek := (230, [.inr 86, .inl (0, 1), .inl (0, 2147483647)], [], [(84, 4), (144, 999), (145, 999)], [(some (.inl ((-7), (-1))), []), (some (.inl (1, 8)), [])], 2, 43)
/-- LoadsAheadModel watch -/
theorem qk_1160 (l : Launch) : ek_ok l tQ iQ kq_1160 := ek_good_ok (sp := sQ) (K := [kq_1065, kq_992, kq_460, kq_994]) (SP := [(3, [(2, [(-1), 1])]), (11, [(0, [(-1), 19])])]) (HS := []) (N := 0) (fuel := 98) hIQ (List.forall_mem_cons.mpr ⟨qk_1065 l, List.forall_mem_cons.mpr ⟨qk_992 l, List.forall_mem_cons.mpr ⟨qk_460 l, List.forall_mem_cons.mpr ⟨qk_994 l, fun _ h => absurd h List.not_mem_nil⟩⟩⟩⟩) (by decide +kernel)
def kq_1161 : ek := (125, [.inr 2, .inl ((-2147483648), (-1)), .inl ((-2147483648), 2147483647), .inl ((-2147483648), 2147483647)], [], [], [(some (.inl ((-100000), (-100000))), [])], 0, 0)
/-- LoadsAhead watched -/
theorem qk_1161 (l : Launch) : ek_ok l tQ iQ kq_1161 := ek_good_ok (sp := sQ) (K := []) (SP := []) (HS := []) (N := 0) (fuel := 16) hIQ (fun _ h => absurd h List.not_mem_nil) (by decide +kernel)
def kq_1162 : ek := (125, [.inr 2, .inl (2, 2147483647), .inl ((-2147483648), 2147483647), .inl ((-2147483648), 2147483647)], [], [], [(some (.inl ((-100000), (-100000))), [])], 0, 0)
/-- LoadsAhead watched -/
theorem qk_1162 (l : Launch) : ek_ok l tQ iQ kq_1162 := ek_good_ok (sp := sQ) (K := []) (SP := []) (HS := []) (N := 0) (fuel := 22) hIQ (fun _ h => absurd h List.not_mem_nil) (by decide +kernel)
def kq_1163 : ek := (125, [.inr 2, .inl (0, 1), .inl ((-2147483648), (-1)), .inl ((-2147483648), 2147483647)], [], [], [(some (.inl ((-100000), (-100000))), [])], 0, 0)
/-- LoadsAhead watched -/
theorem qk_1163 (l : Launch) : ek_ok l tQ iQ kq_1163 := ek_good_ok (sp := sQ) (K := []) (SP := []) (HS := []) (N := 0) (fuel := 26) hIQ (fun _ h => absurd h List.not_mem_nil) (by decide +kernel)
def kq_1164 : ek := (125, [.inr 2, .inl (0, 1), .inl (0, 2147483647), .inl ((-2147483648), (-1))], [], [], [(some (.inl ((-100000), (-100000))), [])], 0, 0)
/-- LoadsAhead watched -/
theorem qk_1164 (l : Launch) : ek_ok l tQ iQ kq_1164 := ek_good_ok (sp := sQ) (K := []) (SP := []) (HS := []) (N := 0) (fuel := 30) hIQ (fun _ h => absurd h List.not_mem_nil) (by decide +kernel)
def kq_1165 : ek := (103, [.inr 2, .inl (0, 19), .inl (0, 7)], [], [], [(some (.inl ((-100000), (-2))), []), (some (.inl (0, 15)), [((2, 4, 11), (1, 20), none)]), (some (.inl ((-2147483648), 2147483647)), [((2, 0, 8), (1, 1), none), ((2, 4, 11), (1, 20), none)])], 1, 21)
/-- LoadsAhead opIs -/
theorem qk_1165 (l : Launch) : ek_ok l tQ iQ kq_1165 := ek_good_ok (sp := sQ) (K := [kq_985, kq_981, kq_986]) (SP := [(2, [(0, [(-1), 19])])]) (HS := []) (N := 0) (fuel := 78) hIQ (List.forall_mem_cons.mpr ⟨qk_985 l, List.forall_mem_cons.mpr ⟨qk_981 l, List.forall_mem_cons.mpr ⟨qk_986 l, fun _ h => absurd h List.not_mem_nil⟩⟩⟩) (by decide +kernel)
def kq_1166 : ek := (125, [.inr 2, .inl (0, 1), .inl (0, 2147483647), .inl (0, 6)], [], [], [(some (.inl (0, 19)), []), (some (.inl ((-2147483648), 2147483647)), [((2, 0, 8), (1, 1), none), ((2, 4, 11), (1, 20), none)]), (some (.inl ((-100000), (-2))), [])], 2, 43)
/-- LoadsAhead watched -/
theorem qk_1166 (l : Launch) : ek_ok l tQ iQ kq_1166 := ek_good_ok (sp := sQ) (K := [kq_1165]) (SP := [(56, [(0, [0])])]) (HS := []) (N := 0) (fuel := 84) hIQ (List.forall_mem_cons.mpr ⟨qk_1165 l, fun _ h => absurd h List.not_mem_nil⟩) (by decide +kernel)
def kq_1167 : ek := (125, [.inr 2, .inl (0, 1), .inl (0, 2147483647), .inl (7, 2147483647)], [], [], [(some (.inl ((-100000), (-100000))), [])], 0, 0)
/-- LoadsAhead watched -/
theorem qk_1167 (l : Launch) : ek_ok l tQ iQ kq_1167 := ek_good_ok (sp := sQ) (K := []) (SP := []) (HS := []) (N := 0) (fuel := 36) hIQ (fun _ h => absurd h List.not_mem_nil) (by decide +kernel)
def kq_1168 : ek := (231, [.inr 86, .inl ((-2147483648), (-1)), .inl ((-2147483648), 2147483647), .inl ((-2147483648), 2147483647)], [], [], [(some (.inl ((-100000), (-100000))), [])], 1, 22)
/-- LoadsAheadModel watched -/
theorem qk_1168 (l : Launch) : ek_ok l tQ iQ kq_1168 := ek_good_ok (sp := sQ) (K := [kq_1063]) (SP := [(3, [(2, [(-1), 1])])]) (HS := []) (N := 0) (fuel := 22) hIQ (List.forall_mem_cons.mpr ⟨qk_1063 l, fun _ h => absurd h List.not_mem_nil⟩) (by decide +kernel)
def kq_1169 : ek := (231, [.inr 86, .inl (2, 2147483647), .inl ((-2147483648), 2147483647), .inl ((-2147483648), 2147483647)], [], [], [(some (.inl ((-100000), (-100000))), [])], 1, 22)
/-- LoadsAheadModel watched -/
theorem qk_1169 (l : Launch) : ek_ok l tQ iQ kq_1169 := ek_good_ok (sp := sQ) (K := [kq_1082]) (SP := [(3, [(2, [(-1), 1])])]) (HS := []) (N := 0) (fuel := 22) hIQ (List.forall_mem_cons.mpr ⟨qk_1082 l, fun _ h => absurd h List.not_mem_nil⟩) (by decide +kernel)
def kq_1170 : ek := (231, [.inr 86, .inl (0, 1), .inl ((-2147483648), (-1)), .inl ((-2147483648), 2147483647)], [], [], [(some (.inl ((-100000), (-100000))), [])], 1, 22)
/-- LoadsAheadModel watched -/
theorem qk_1170 (l : Launch) : ek_ok l tQ iQ kq_1170 := ek_good_ok (sp := sQ) (K := [kq_1065]) (SP := [(3, [(2, [(-1), 1])])]) (HS := []) (N := 0) (fuel := 26) hIQ (List.forall_mem_cons.mpr ⟨qk_1065 l, fun _ h => absurd h List.not_mem_nil⟩) (by decide +kernel)
def kq_1171 : ek := (137, [.inl ((-2147483648), (-1)), .inl (0, 0), .inl (6, 6)], [], [], [(some (.inl (0, 0)), [])], 0, 0)
/-- LoadsAheadModel in -/
theorem qk_1171 (l : Launch) : ek_ok l tQ iQ kq_1171 := ek_good_ok (sp := sQ) (K := []) (SP := []) (HS := []) (N := 0) (fuel := 18) hIQ (fun _ h => absurd h List.not_mem_nil) (by decide +kernel)
def kq_1172 : ek := (231, [.inr 86, .inl (0, 1), .inl (0, 2147483647), .inl ((-2147483648), (-1))], [], [], [(some (.inl ((-100000), (-100000))), [])], 1, 22)
/-- LoadsAheadModel watched -/
theorem qk_1172 (l : Launch) : ek_ok l tQ iQ kq_1172 := ek_good_ok (sp := sQ) (K := [kq_1065, kq_1171]) (SP := [(3, [(2, [(-1), 1])]), (17, [(2, [(-1), 6])])]) (HS := []) (N := 0) (fuel := 36) hIQ (List.forall_mem_cons.mpr ⟨qk_1065 l, List.forall_mem_cons.mpr ⟨qk_1171 l, fun _ h => absurd h List.not_mem_nil⟩⟩) (by decide +kernel)
def kq_1173 : ek := (137, [.inl (0, 6), .inl (0, 0), .inl (6, 6)], [], [], [(some (.inl (1, 1)), [])], 0, 0)
/-- LoadsAheadModel in -/
theorem qk_1173 (l : Launch) : ek_ok l tQ iQ kq_1173 := ek_good_ok (sp := sQ) (K := []) (SP := []) (HS := []) (N := 0) (fuel := 26) hIQ (fun _ h => absurd h List.not_mem_nil) (by decide +kernel)
def kq_1174 : ek := (231, [.inr 86, .inl (0, 1), .inl (0, 2147483647), .inl (0, 6)], [], [], [(some (.inl ((-4), (-2))), []), (some (.inl (0, 19)), []), (some (.inl ((-2147483648), 2147483647)), [((2, 84, 75), (1, 1), none)])], 1, 22)
/-- LoadsAheadModel watched -/
theorem qk_1174 (l : Launch) : ek_ok l tQ iQ kq_1174 := ek_good_ok (sp := sQ) (K := [kq_1065, kq_1173, kq_995]) (SP := [(3, [(2, [(-1), 1])]), (17, [(2, [(-1), 6])])]) (HS := []) (N := 0) (fuel := 78) hIQ (List.forall_mem_cons.mpr ⟨qk_1065 l, List.forall_mem_cons.mpr ⟨qk_1173 l, List.forall_mem_cons.mpr ⟨qk_995 l, fun _ h => absurd h List.not_mem_nil⟩⟩⟩) (by decide +kernel)
def kq_1175 : ek := (137, [.inl (7, 2147483647), .inl (0, 0), .inl (6, 6)], [], [], [(some (.inl (0, 0)), [])], 0, 0)
/-- LoadsAheadModel in -/
theorem qk_1175 (l : Launch) : ek_ok l tQ iQ kq_1175 := ek_good_ok (sp := sQ) (K := []) (SP := []) (HS := []) (N := 0) (fuel := 24) hIQ (fun _ h => absurd h List.not_mem_nil) (by decide +kernel)
def kq_1176 : ek := (231, [.inr 86, .inl (0, 1), .inl (0, 2147483647), .inl (7, 2147483647)], [], [], [(some (.inl ((-100000), (-100000))), [])], 1, 22)
/-- LoadsAheadModel watched -/
theorem qk_1176 (l : Launch) : ek_ok l tQ iQ kq_1176 := ek_good_ok (sp := sQ) (K := [kq_1065, kq_1175]) (SP := [(3, [(2, [(-1), 1])]), (17, [(2, [(-1), 6])])]) (HS := []) (N := 0) (fuel := 36) hIQ (List.forall_mem_cons.mpr ⟨qk_1065 l, List.forall_mem_cons.mpr ⟨qk_1175 l, fun _ h => absurd h List.not_mem_nil⟩⟩) (by decide +kernel)
def kq_1177 : ek := (127, [.inr 26], [], [], [(some (.inl ((-2147483648), 2147483647)), []), (some (.inl (0, 2147483647)), [])], 0, 0)
/-- LoadsAhead.State withSet -/
theorem qk_1177 (l : Launch) : ek_ok l tQ iQ kq_1177 := ek_good_ok (sp := sQ) (K := []) (SP := []) (HS := [((4, [some (.inr 26, none), some (.inl ((-2147483648), 2147483647), none), some (.inl (0, 20), none)], [], [], []), [(0, (0, 0, 0), 0), (1, (1, 2, 0), 20), (0, (0, 0, 0), 0)])]) (N := 3) (fuel := 34) hIQ (fun _ h => absurd h List.not_mem_nil) (by decide +kernel)
def kq_1178 : ek := (126, [.inr 2], [], [(27, 999)], [(some (.inl (0, 2147483647)), []), (some (.inl ((-2147483648), 2147483647)), [])], 2, 43)
/-- LoadsAhead forget -/
theorem qk_1178 (l : Launch) : ek_ok l tQ iQ kq_1178 := ek_good_ok (sp := sQ) (K := [kq_1177, kq_141]) (SP := []) (HS := []) (N := 0) (fuel := 30) hIQ (List.forall_mem_cons.mpr ⟨qk_1177 l, List.forall_mem_cons.mpr ⟨qk_141 l, fun _ h => absurd h List.not_mem_nil⟩⟩) (by decide +kernel)
def kq_1179 : ek := (233, [.inr 86], [], [], [(some (.inl ((-2147483648), 2147483647)), []), (some (.inl (0, 2147483647)), [])], 0, 0)
/-- LoadsAheadModel withSet -/
theorem qk_1179 (l : Launch) : ek_ok l tQ iQ kq_1179 := ek_good_ok (sp := sQ) (K := []) (SP := []) (HS := [((4, [some (.inr 86, none), some (.inl ((-2147483648), 2147483647), none), some (.inl (0, 20), none)], [], [], []), [(0, (0, 0, 0), 0), (1, (1, 2, 0), 20), (0, (0, 0, 0), 0)])]) (N := 3) (fuel := 42) hIQ (fun _ h => absurd h List.not_mem_nil) (by decide +kernel)
def kq_1180 : ek := (232, [.inr 86], [], [(87, 999)], [(some (.inl (0, 2147483647)), []), (some (.inl ((-2147483648), 2147483647)), [])], 1, 22)
/-- LoadsAheadModel forget -/
theorem qk_1180 (l : Launch) : ek_ok l tQ iQ kq_1180 := ek_good_ok (sp := sQ) (K := [kq_1179]) (SP := []) (HS := [((7, [some (.inr 86, none), some (.inl ((-2147483648), 2147483647), none), some (.inl (0, 20), none)], [], [], []), [(0, (0, 0, 0), 0), (1, (1, 2, 0), 20), (0, (0, 0, 0), 0)])]) (N := 3) (fuel := 32) hIQ (List.forall_mem_cons.mpr ⟨qk_1179 l, fun _ h => absurd h List.not_mem_nil⟩) (by decide +kernel)
def kq_1181 : ek := (128, [.inr 2, .inl ((-2147483648), (-1))], [], [], [(some (.inl (0, 0)), [])], 0, 0)
/-- LoadsAhead seed -/
theorem qk_1181 (l : Launch) : ek_ok l tQ iQ kq_1181 := ek_good_ok (sp := sQ) (K := []) (SP := []) (HS := []) (N := 0) (fuel := 16) hIQ (fun _ h => absurd h List.not_mem_nil) (by decide +kernel)
def kq_1182 : ek := (128, [.inr 2, .inl (0, 65535)], [], [(24, 5)], [(some (.inl (1, 1)), [])], 0, 0)
/-- LoadsAhead seed -/
theorem qk_1182 (l : Launch) : ek_ok l tQ iQ kq_1182 := ek_good_ok (sp := sQ) (K := []) (SP := []) (HS := []) (N := 0) (fuel := 32) hIQ (fun _ h => absurd h List.not_mem_nil) (by decide +kernel)
def kq_1183 : ek := (128, [.inr 2, .inl (65536, 2147483647)], [], [], [(some (.inl (0, 0)), [])], 0, 0)
/-- LoadsAhead seed -/
theorem qk_1183 (l : Launch) : ek_ok l tQ iQ kq_1183 := ek_good_ok (sp := sQ) (K := []) (SP := []) (HS := []) (N := 0) (fuel := 22) hIQ (fun _ h => absurd h List.not_mem_nil) (by decide +kernel)
def kq_1184 : ek := (137, [.inl ((-2147483648), (-1)), .inl (0, 0), .inl (65535, 65535)], [], [], [(some (.inl (0, 0)), [])], 0, 0)
/-- LoadsAheadModel in -/
theorem qk_1184 (l : Launch) : ek_ok l tQ iQ kq_1184 := ek_good_ok (sp := sQ) (K := []) (SP := []) (HS := []) (N := 0) (fuel := 18) hIQ (fun _ h => absurd h List.not_mem_nil) (by decide +kernel)
def kq_1185 : ek := (234, [.inr 86, .inl ((-2147483648), (-1))], [], [], [(some (.inl (0, 0)), [])], 1, 22)
/-- LoadsAheadModel seed -/
theorem qk_1185 (l : Launch) : ek_ok l tQ iQ kq_1185 := ek_good_ok (sp := sQ) (K := [kq_1184]) (SP := [(5, [(2, [(-1), 65535])])]) (HS := []) (N := 0) (fuel := 22) hIQ (List.forall_mem_cons.mpr ⟨qk_1184 l, fun _ h => absurd h List.not_mem_nil⟩) (by decide +kernel)
def kq_1186 : ek := (137, [.inl (0, 65535), .inl (0, 0), .inl (65535, 65535)], [], [], [(some (.inl (1, 1)), [])], 0, 0)
/-- LoadsAheadModel in -/
theorem qk_1186 (l : Launch) : ek_ok l tQ iQ kq_1186 := ek_good_ok (sp := sQ) (K := []) (SP := []) (HS := []) (N := 0) (fuel := 26) hIQ (fun _ h => absurd h List.not_mem_nil) (by decide +kernel)
def kq_1187 : ek := (234, [.inr 86, .inl (0, 65535)], [], [(84, 0)], [(some (.inl (1, 1)), [])], 1, 22)
/-- LoadsAheadModel seed -/
theorem qk_1187 (l : Launch) : ek_ok l tQ iQ kq_1187 := ek_good_ok (sp := sQ) (K := [kq_1186]) (SP := [(5, [(2, [(-1), 65535])])]) (HS := []) (N := 0) (fuel := 28) hIQ (List.forall_mem_cons.mpr ⟨qk_1186 l, fun _ h => absurd h List.not_mem_nil⟩) (by decide +kernel)
def kq_1188 : ek := (137, [.inl (65536, 2147483647), .inl (0, 0), .inl (65535, 65535)], [], [], [(some (.inl (0, 0)), [])], 0, 0)
/-- LoadsAheadModel in -/
theorem qk_1188 (l : Launch) : ek_ok l tQ iQ kq_1188 := ek_good_ok (sp := sQ) (K := []) (SP := []) (HS := []) (N := 0) (fuel := 24) hIQ (fun _ h => absurd h List.not_mem_nil) (by decide +kernel)
def kq_1189 : ek := (234, [.inr 86, .inl (65536, 2147483647)], [], [], [(some (.inl (0, 0)), [])], 1, 22)
/-- LoadsAheadModel seed -/
theorem qk_1189 (l : Launch) : ek_ok l tQ iQ kq_1189 := ek_good_ok (sp := sQ) (K := [kq_1188]) (SP := [(5, [(2, [(-1), 65535])])]) (HS := []) (N := 0) (fuel := 22) hIQ (List.forall_mem_cons.mpr ⟨qk_1188 l, fun _ h => absurd h List.not_mem_nil⟩) (by decide +kernel)
def kq_1190 : ek := (62, [.inr 80, .inr 26], [], [(78, 4), (78, 5), (79, 999), (80, 999)], [(none, [])], 1, 65)
/-- LoadsAhead.State copyCellsFrom -/
theorem qk_1190 (l : Launch) : ek_ok l tQ iQ kq_1190 := ek_good_ok (sp := sQ) (K := []) (SP := []) (HS := []) (N := 0) (fuel := 58) hIQ (fun _ h => absurd h List.not_mem_nil) (by decide +kernel)
def kq_1191 : ek := (63, [.inr 80, .inr 26], [], [(78, 3), (81, 999)], [(none, [])], 1, 65)
/-- LoadsAhead.State copySetsFrom -/
theorem qk_1191 (l : Launch) : ek_ok l tQ iQ kq_1191 := ek_good_ok (sp := sQ) (K := []) (SP := []) (HS := []) (N := 0) (fuel := 34) hIQ (fun _ h => absurd h List.not_mem_nil) (by decide +kernel)
def kq_1192 : ek := (61, [.inr 80, .inr 26], [], [(78, 3), (78, 4), (78, 5), (79, 999), (80, 999), (81, 999)], [(none, [])], 2, 86)
/-- LoadsAhead.State copyFrom -/
theorem qk_1192 (l : Launch) : ek_ok l tQ iQ kq_1192 := ek_good_ok (sp := sQ) (K := [kq_1191, kq_1190]) (SP := []) (HS := []) (N := 0) (fuel := 22) hIQ (List.forall_mem_cons.mpr ⟨qk_1191 l, List.forall_mem_cons.mpr ⟨qk_1190 l, fun _ h => absurd h List.not_mem_nil⟩⟩) (by decide +kernel)
def kq_1193 : ek := (129, [.inr 2], [], [(0, 9), (0, 10), (78, 3), (78, 4), (78, 5), (79, 999), (80, 999), (81, 999)], [(some (.inl (0, 9999)), [((2, 0, 9), (1, 1), none), ((2, 0, 10), (0, 0), none)])], 3, 107)
/-- LoadsAhead keep -/
theorem qk_1193 (l : Launch) : ek_ok l tQ iQ kq_1193 := ek_good_ok (sp := sQ) (K := [kq_1192]) (SP := []) (HS := []) (N := 0) (fuel := 42) hIQ (List.forall_mem_cons.mpr ⟨qk_1192 l, fun _ h => absurd h List.not_mem_nil⟩) (by decide +kernel)
def kq_1194 : ek := (235, [.inr 86], [], [(84, 88), (84, 89), (84, 90), (84, 91), (84, 92), (146, 999), (147, 999), (148, 999)], [(some (.inl (0, 9999)), [])], 0, 0)
/-- LoadsAheadModel keep -/
theorem qk_1194 (l : Launch) : ek_ok l tQ iQ kq_1194 := ek_good_ok (sp := sQ) (K := []) (SP := []) (HS := [((39, [some (.inr 86, none), some (.inl (0, 8), none)], [], [], []), [(0, (0, 0, 0), 2), (1, (1, 1, 0), 8), (0, (0, 0, 0), 0)]), ((65, [some (.inr 86, none), some (.inl (0, 64), none)], [], [], []), [(0, (0, 0, 0), 1), (1, (1, 1, 0), 64), (0, (0, 0, 0), 0)]), ((91, [some (.inr 86, none), some (.inl (0, 20), none)], [], [], []), [(0, (0, 0, 0), 0), (1, (1, 1, 0), 20), (0, (0, 0, 0), 0)])]) (N := 3) (fuel := 52) hIQ (fun _ h => absurd h List.not_mem_nil) (by decide +kernel)
def kq_1195 : ek := (62, [.inr 26, .inr 80], [], [(24, 4), (24, 5), (25, 999), (26, 999)], [(none, [])], 1, 65)
/-- LoadsAhead.State copyCellsFrom -/
theorem qk_1195 (l : Launch) : ek_ok l tQ iQ kq_1195 := ek_good_ok (sp := sQ) (K := []) (SP := []) (HS := []) (N := 0) (fuel := 58) hIQ (fun _ h => absurd h List.not_mem_nil) (by decide +kernel)
def kq_1196 : ek := (63, [.inr 26, .inr 80], [], [(24, 3), (27, 999)], [(none, [])], 1, 65)
/-- LoadsAhead.State copySetsFrom -/
theorem qk_1196 (l : Launch) : ek_ok l tQ iQ kq_1196 := ek_good_ok (sp := sQ) (K := []) (SP := []) (HS := []) (N := 0) (fuel := 34) hIQ (fun _ h => absurd h List.not_mem_nil) (by decide +kernel)
def kq_1197 : ek := (130, [.inr 2], [], [(24, 3), (24, 4), (24, 5), (25, 999), (26, 999), (27, 999)], [(some (.inl (0, 0)), [((2, 0, 9), (0, 0), none)]), (some (.inl (1, 1)), [((2, 0, 9), (1, 1), none)])], 2, 86)
/-- LoadsAhead undo -/
theorem qk_1197 (l : Launch) : ek_ok l tQ iQ kq_1197 := ek_good_ok (sp := sQ) (K := [kq_1196, kq_1195]) (SP := []) (HS := []) (N := 0) (fuel := 48) hIQ (List.forall_mem_cons.mpr ⟨qk_1196 l, List.forall_mem_cons.mpr ⟨qk_1195 l, fun _ h => absurd h List.not_mem_nil⟩⟩) (by decide +kernel)
def kq_1198 : ek := (236, [.inr 86], [], [(84, 0), (84, 1), (84, 3), (85, 999), (86, 999), (87, 999)], [(some (.inl (0, 0)), [((2, 84, 88), (0, 0), none)]), (some (.inl (1, 1)), [])], 0, 0)
/-- LoadsAheadModel undo -/
theorem qk_1198 (l : Launch) : ek_ok l tQ iQ kq_1198 := ek_good_ok (sp := sQ) (K := []) (SP := []) (HS := [((27, [some (.inr 86, none), some (.inl (0, 8), none)], [], [], []), [(0, (0, 0, 0), 2), (1, (1, 1, 0), 8), (0, (0, 0, 0), 0)]), ((53, [some (.inr 86, none), some (.inl (0, 64), none)], [], [], []), [(0, (0, 0, 0), 1), (1, (1, 1, 0), 64), (0, (0, 0, 0), 0)]), ((100, [some (.inr 86, none), some (.inl (0, 20), none)], [], [], []), [(0, (0, 0, 0), 0), (1, (1, 1, 0), 20), (0, (0, 0, 0), 0)])]) (N := 3) (fuel := 38) hIQ (fun _ h => absurd h List.not_mem_nil) (by decide +kernel)
def kq_1199 : ek := (131, [.inr 2, .inl ((-2147483648), (-1))], [], [], [(some (.inl ((-2), (-2))), [])], 0, 0)
/-- LoadsAhead check -/
theorem qk_1199 (l : Launch) : ek_ok l tQ iQ kq_1199 := ek_good_ok (sp := sQ) (K := []) (SP := []) (HS := []) (N := 0) (fuel := 16) hIQ (fun _ h => absurd h List.not_mem_nil) (by decide +kernel)
def kq_1200 : ek := (131, [.inr 2, .inl (0, 0)], [], [(1, 1)], [(some (.inl ((-1), (-1))), [((2, 1, 1), (0, 0), none)])], 1, 20)
/-- LoadsAhead check -/
theorem qk_1200 (l : Launch) : ek_ok l tQ iQ kq_1200 := ek_good_ok (sp := sQ) (K := [kq_103]) (SP := []) (HS := [((28, [some (.inr 2, none), some (.inl (0, 0), none), some (.inl ((-1), (-1)), none), some (.inl (0, 0), none)], [], [], []), [(0, (0, 0, 0), 0)])]) (N := 1) (fuel := 38) hIQ (List.forall_mem_cons.mpr ⟨qk_103 l, fun _ h => absurd h List.not_mem_nil⟩) (by decide +kernel)
def kq_1201 : ek := (131, [.inr 2, .inl (1, 64)], [], [(1, 1)], [(some (.inl ((-2), (-2))), [((2, 1, 1), (0, 63), none)]), (some (.inl (0, 63)), [((2, 1, 1), (0, 0), none)]), (some (.inl ((-1), 63)), [((2, 1, 1), (0, 0), none)])], 1, 20)
/-- LoadsAhead check -/
theorem qk_1201 (l : Launch) : ek_ok l tQ iQ kq_1201 := ek_good_ok (sp := sQ) (K := [kq_103]) (SP := []) (HS := [((28, [some (.inr 2, none), some (.inl (1, 64), none), some (.inl ((-1), 63), none), some (.inl (0, 64), none)], [], [], []), [(0, (0, 0, 0), 0), (1, (1, 3, 0), 64), (0, (0, 0, 0), 0)])]) (N := 3) (fuel := 54) hIQ (List.forall_mem_cons.mpr ⟨qk_103 l, fun _ h => absurd h List.not_mem_nil⟩) (by decide +kernel)
def kq_1202 : ek := (131, [.inr 2, .inl (65, 2147483647)], [], [], [(some (.inl ((-2), (-2))), [])], 0, 0)
/-- LoadsAhead check -/
theorem qk_1202 (l : Launch) : ek_ok l tQ iQ kq_1202 := ek_good_ok (sp := sQ) (K := []) (SP := []) (HS := []) (N := 0) (fuel := 22) hIQ (fun _ h => absurd h List.not_mem_nil) (by decide +kernel)
def kq_1203 : ek := (137, [.inl ((-2147483648), (-1)), .inl (0, 0), .inl (64, 64)], [], [], [(some (.inl (0, 0)), [])], 0, 0)
/-- LoadsAheadModel in -/
theorem qk_1203 (l : Launch) : ek_ok l tQ iQ kq_1203 := ek_good_ok (sp := sQ) (K := []) (SP := []) (HS := []) (N := 0) (fuel := 18) hIQ (fun _ h => absurd h List.not_mem_nil) (by decide +kernel)
def kq_1204 : ek := (237, [.inr 86, .inl ((-2147483648), (-1))], [], [], [(some (.inl ((-2), (-2))), [])], 1, 22)
/-- LoadsAheadModel check -/
theorem qk_1204 (l : Launch) : ek_ok l tQ iQ kq_1204 := ek_good_ok (sp := sQ) (K := [kq_1203]) (SP := [(4, [(2, [(-1), 64])])]) (HS := []) (N := 0) (fuel := 22) hIQ (List.forall_mem_cons.mpr ⟨qk_1203 l, fun _ h => absurd h List.not_mem_nil⟩) (by decide +kernel)
def kq_1205 : ek := (137, [.inl (0, 0), .inl (0, 0), .inl (64, 64)], [], [], [(some (.inl (1, 1)), [])], 0, 0)
/-- LoadsAheadModel in -/
theorem qk_1205 (l : Launch) : ek_ok l tQ iQ kq_1205 := ek_good_ok (sp := sQ) (K := []) (SP := []) (HS := []) (N := 0) (fuel := 26) hIQ (fun _ h => absurd h List.not_mem_nil) (by decide +kernel)
def kq_1206 : ek := (237, [.inr 86, .inl (0, 0)], [], [(84, 18)], [(some (.inl ((-1), (-1))), [])], 1, 22)
/-- LoadsAheadModel check -/
theorem qk_1206 (l : Launch) : ek_ok l tQ iQ kq_1206 := ek_good_ok (sp := sQ) (K := [kq_1205]) (SP := [(4, [(2, [(-1), 64])])]) (HS := [((28, [some (.inr 86, none), some (.inl (0, 0), none), some (.inl (0, 0), none)], [], [], []), [(0, (0, 0, 0), 0)])]) (N := 1) (fuel := 38) hIQ (List.forall_mem_cons.mpr ⟨qk_1205 l, fun _ h => absurd h List.not_mem_nil⟩) (by decide +kernel)
def kq_1207 : ek := (137, [.inl (1, 64), .inl (0, 0), .inl (64, 64)], [], [], [(some (.inl (1, 1)), [])], 0, 0)
/-- LoadsAheadModel in -/
theorem qk_1207 (l : Launch) : ek_ok l tQ iQ kq_1207 := ek_good_ok (sp := sQ) (K := []) (SP := []) (HS := []) (N := 0) (fuel := 26) hIQ (fun _ h => absurd h List.not_mem_nil) (by decide +kernel)
def kq_1208 : ek := (238, [.inr 86, .inl (0, 63)], [], [], [(some (.inl (0, 255)), [])], 0, 0)
/-- LoadsAheadModel octet -/
theorem qk_1208 (l : Launch) : ek_ok l tQ iQ kq_1208 := ek_good_ok (sp := sQ) (K := []) (SP := []) (HS := []) (N := 0) (fuel := 22) hIQ (fun _ h => absurd h List.not_mem_nil) (by decide +kernel)
def kq_1209 : ek := (237, [.inr 86, .inl (1, 64)], [], [(84, 18)], [(some (.inl ((-2), (-1))), []), (some (.inl (0, 63)), [])], 1, 22)
/-- LoadsAheadModel check -/
theorem qk_1209 (l : Launch) : ek_ok l tQ iQ kq_1209 := ek_good_ok (sp := sQ) (K := [kq_1207, kq_1208]) (SP := [(4, [(2, [(-1), 64])])]) (HS := [((28, [some (.inr 86, none), some (.inl (1, 64), none), some (.inl (0, 64), none)], [], [], []), [(0, (0, 0, 0), 0), (1, (1, 2, 0), 64), (0, (0, 0, 0), 0)])]) (N := 3) (fuel := 38) hIQ (List.forall_mem_cons.mpr ⟨qk_1207 l, List.forall_mem_cons.mpr ⟨qk_1208 l, fun _ h => absurd h List.not_mem_nil⟩⟩) (by decide +kernel)
def kq_1210 : ek := (238, [.inr 86, .inl (0, 0)], [], [], [(some (.inl (0, 255)), [])], 0, 0)
/-- LoadsAheadModel octet -/
theorem qk_1210 (l : Launch) : ek_ok l tQ iQ kq_1210 := ek_good_ok (sp := sQ) (K := []) (SP := []) (HS := []) (N := 0) (fuel := 22) hIQ (fun _ h => absurd h List.not_mem_nil) (by decide +kernel)
def kq_1211 : ek := (238, [.inr 86, .inl (0, 1)], [], [], [(some (.inl (0, 255)), [])], 0, 0)
/-- LoadsAheadModel octet -/
theorem qk_1211 (l : Launch) : ek_ok l tQ iQ kq_1211 := ek_good_ok (sp := sQ) (K := []) (SP := []) (HS := []) (N := 0) (fuel := 22) hIQ (fun _ h => absurd h List.not_mem_nil) (by decide +kernel)
def kq_1212 : ek := (238, [.inr 86, .inl (0, 3)], [], [], [(some (.inl (0, 255)), [])], 0, 0)
/-- LoadsAheadModel octet -/
theorem qk_1212 (l : Launch) : ek_ok l tQ iQ kq_1212 := ek_good_ok (sp := sQ) (K := []) (SP := []) (HS := []) (N := 0) (fuel := 22) hIQ (fun _ h => absurd h List.not_mem_nil) (by decide +kernel)
def kq_1213 : ek := (238, [.inr 86, .inl (0, 7)], [], [], [(some (.inl (0, 255)), [])], 0, 0)
/-- LoadsAheadModel octet -/
theorem qk_1213 (l : Launch) : ek_ok l tQ iQ kq_1213 := ek_good_ok (sp := sQ) (K := []) (SP := []) (HS := []) (N := 0) (fuel := 22) hIQ (fun _ h => absurd h List.not_mem_nil) (by decide +kernel)
def kq_1214 : ek := (238, [.inr 86, .inl (0, 15)], [], [], [(some (.inl (0, 255)), [])], 0, 0)
/-- LoadsAheadModel octet -/
theorem qk_1214 (l : Launch) : ek_ok l tQ iQ kq_1214 := ek_good_ok (sp := sQ) (K := []) (SP := []) (HS := []) (N := 0) (fuel := 22) hIQ (fun _ h => absurd h List.not_mem_nil) (by decide +kernel)
end
section
def kq_1215 : ek := (238, [.inr 86, .inl (0, 19)], [], [], [(some (.inl (0, 255)), [])], 0, 0)
/-- LoadsAheadModel octet -/
theorem qk_1215 (l : Launch) : ek_ok l tQ iQ kq_1215 := ek_good_ok (sp := sQ) (K := []) (SP := []) (HS := []) (N := 0) (fuel := 22) hIQ (fun _ h => absurd h List.not_mem_nil) (by decide +kernel)
def kq_1216 : ek := (238, [.inr 86, .inl (0, 20)], [], [], [(some (.inl (0, 255)), [])], 0, 0)
/-- LoadsAheadModel octet -/
theorem qk_1216 (l : Launch) : ek_ok l tQ iQ kq_1216 := ek_good_ok (sp := sQ) (K := []) (SP := []) (HS := []) (N := 0) (fuel := 22) hIQ (fun _ h => absurd h List.not_mem_nil) (by decide +kernel)
def kq_1217 : ek := (137, [.inl (65, 2147483647), .inl (0, 0), .inl (64, 64)], [], [], [(some (.inl (0, 0)), [])], 0, 0)
/-- LoadsAheadModel in -/
theorem qk_1217 (l : Launch) : ek_ok l tQ iQ kq_1217 := ek_good_ok (sp := sQ) (K := []) (SP := []) (HS := []) (N := 0) (fuel := 24) hIQ (fun _ h => absurd h List.not_mem_nil) (by decide +kernel)
def kq_1218 : ek := (237, [.inr 86, .inl (65, 2147483647)], [], [], [(some (.inl ((-2), (-2))), [])], 1, 22)
/-- LoadsAheadModel check -/
theorem qk_1218 (l : Launch) : ek_ok l tQ iQ kq_1218 := ek_good_ok (sp := sQ) (K := [kq_1217]) (SP := [(4, [(2, [(-1), 64])])]) (HS := []) (N := 0) (fuel := 22) hIQ (List.forall_mem_cons.mpr ⟨qk_1217 l, fun _ h => absurd h List.not_mem_nil⟩) (by decide +kernel)
def kq_1219 : ek := (132, [.inr 2, .inl ((-2147483648), (-1))], [], [], [(some (.inl ((-1), (-1))), [])], 0, 0)
/-- LoadsAhead count -/
theorem qk_1219 (l : Launch) : ek_ok l tQ iQ kq_1219 := ek_good_ok (sp := sQ) (K := []) (SP := []) (HS := []) (N := 0) (fuel := 16) hIQ (fun _ h => absurd h List.not_mem_nil) (by decide +kernel)
def kq_1220 : ek := (132, [.inr 2, .inl (0, 0)], [], [], [(some (.inl (0, 9999)), [])], 0, 0)
/-- LoadsAhead count -/
theorem qk_1220 (l : Launch) : ek_ok l tQ iQ kq_1220 := ek_good_ok (sp := sQ) (K := []) (SP := []) (HS := []) (N := 0) (fuel := 22) hIQ (fun _ h => absurd h List.not_mem_nil) (by decide +kernel)
def kq_1221 : ek := (132, [.inr 2, .inl (1, 1)], [], [], [(some (.inl (0, 20)), [])], 0, 0)
/-- LoadsAhead count -/
theorem qk_1221 (l : Launch) : ek_ok l tQ iQ kq_1221 := ek_good_ok (sp := sQ) (K := []) (SP := []) (HS := []) (N := 0) (fuel := 22) hIQ (fun _ h => absurd h List.not_mem_nil) (by decide +kernel)
def kq_1222 : ek := (133, [.inr 6, .inl (2, 2)], [], [], [(some (.inl ((-2147483648), 2147483647)), []), (some (.inl (0, 2147483647)), [])], 0, 0)
/-- LoadsAhead.Program ofKind -/
theorem qk_1222 (l : Launch) : ek_ok l tQ iQ kq_1222 := ek_good_ok (sp := sQ) (K := []) (SP := []) (HS := [((4, [some (.inr 6, none), some (.inl (2, 2), none), some (.inl ((-2147483648), 2147483647), none), some (.inl (0, 20), none)], [], [], []), [(0, (0, 0, 0), 0), (1, (1, 3, 0), 20), (0, (0, 0, 0), 0)])]) (N := 3) (fuel := 36) hIQ (fun _ h => absurd h List.not_mem_nil) (by decide +kernel)
def kq_1223 : ek := (132, [.inr 2, .inl (2, 2)], [], [], [(some (.inl (0, 2147483647)), []), (some (.inl ((-2147483648), 2147483647)), [])], 1, 23)
/-- LoadsAhead count -/
theorem qk_1223 (l : Launch) : ek_ok l tQ iQ kq_1223 := ek_good_ok (sp := sQ) (K := [kq_1222]) (SP := []) (HS := []) (N := 0) (fuel := 24) hIQ (List.forall_mem_cons.mpr ⟨qk_1222 l, fun _ h => absurd h List.not_mem_nil⟩) (by decide +kernel)
def kq_1224 : ek := (133, [.inr 6, .inl (3, 3)], [], [], [(some (.inl ((-2147483648), 2147483647)), []), (some (.inl (0, 2147483647)), [])], 0, 0)
/-- LoadsAhead.Program ofKind -/
theorem qk_1224 (l : Launch) : ek_ok l tQ iQ kq_1224 := ek_good_ok (sp := sQ) (K := []) (SP := []) (HS := [((4, [some (.inr 6, none), some (.inl (3, 3), none), some (.inl ((-2147483648), 2147483647), none), some (.inl (0, 20), none)], [], [], []), [(0, (0, 0, 0), 0), (1, (1, 3, 0), 20), (0, (0, 0, 0), 0)])]) (N := 3) (fuel := 36) hIQ (fun _ h => absurd h List.not_mem_nil) (by decide +kernel)
def kq_1225 : ek := (132, [.inr 2, .inl (3, 3)], [], [], [(some (.inl (0, 2147483647)), []), (some (.inl ((-2147483648), 2147483647)), [])], 1, 23)
/-- LoadsAhead count -/
theorem qk_1225 (l : Launch) : ek_ok l tQ iQ kq_1225 := ek_good_ok (sp := sQ) (K := [kq_1224]) (SP := []) (HS := []) (N := 0) (fuel := 24) hIQ (List.forall_mem_cons.mpr ⟨qk_1224 l, fun _ h => absurd h List.not_mem_nil⟩) (by decide +kernel)
def kq_1226 : ek := (132, [.inr 2, .inl (4, 4)], [], [], [(some (.inl (0, 16)), [])], 0, 0)
/-- LoadsAhead count -/
theorem qk_1226 (l : Launch) : ek_ok l tQ iQ kq_1226 := ek_good_ok (sp := sQ) (K := []) (SP := []) (HS := []) (N := 0) (fuel := 22) hIQ (fun _ h => absurd h List.not_mem_nil) (by decide +kernel)
def kq_1227 : ek := (132, [.inr 2, .inl (5, 5)], [], [], [(some (.inl (0, 260)), [])], 0, 0)
/-- LoadsAhead count -/
theorem qk_1227 (l : Launch) : ek_ok l tQ iQ kq_1227 := ek_good_ok (sp := sQ) (K := []) (SP := []) (HS := []) (N := 0) (fuel := 20) hIQ (fun _ h => absurd h List.not_mem_nil) (by decide +kernel)
def kq_1228 : ek := (132, [.inr 2, .inl (6, 6)], [], [], [(some (.inl (0, 65535)), [])], 0, 0)
/-- LoadsAhead count -/
theorem qk_1228 (l : Launch) : ek_ok l tQ iQ kq_1228 := ek_good_ok (sp := sQ) (K := []) (SP := []) (HS := []) (N := 0) (fuel := 22) hIQ (fun _ h => absurd h List.not_mem_nil) (by decide +kernel)
def kq_1229 : ek := (132, [.inr 2, .inl (7, 7)], [], [], [(some (.inl (0, 9999)), [])], 0, 0)
/-- LoadsAhead count -/
theorem qk_1229 (l : Launch) : ek_ok l tQ iQ kq_1229 := ek_good_ok (sp := sQ) (K := []) (SP := []) (HS := []) (N := 0) (fuel := 20) hIQ (fun _ h => absurd h List.not_mem_nil) (by decide +kernel)
def kq_1230 : ek := (132, [.inr 2, .inl (8, 8)], [], [], [(some (.inl (0, 2147483647)), []), (some (.inl ((-2147483648), 2147483647)), [])], 1, 22)
/-- LoadsAhead count -/
theorem qk_1230 (l : Launch) : ek_ok l tQ iQ kq_1230 := ek_good_ok (sp := sQ) (K := [kq_1177]) (SP := []) (HS := []) (N := 0) (fuel := 22) hIQ (List.forall_mem_cons.mpr ⟨qk_1177 l, fun _ h => absurd h List.not_mem_nil⟩) (by decide +kernel)
def kq_1231 : ek := (132, [.inr 2, .inl (9, 9)], [], [], [(some (.inl (0, 15)), [])], 0, 0)
/-- LoadsAhead count -/
theorem qk_1231 (l : Launch) : ek_ok l tQ iQ kq_1231 := ek_good_ok (sp := sQ) (K := []) (SP := []) (HS := []) (N := 0) (fuel := 22) hIQ (fun _ h => absurd h List.not_mem_nil) (by decide +kernel)
def kq_1232 : ek := (132, [.inr 2, .inl (10, 10)], [], [], [(some (.inl (0, 16)), [])], 0, 0)
/-- LoadsAhead count -/
theorem qk_1232 (l : Launch) : ek_ok l tQ iQ kq_1232 := ek_good_ok (sp := sQ) (K := []) (SP := []) (HS := []) (N := 0) (fuel := 36) hIQ (fun _ h => absurd h List.not_mem_nil) (by decide +kernel)
def kq_1233 : ek := (134, [.inr 26], [], [], [(some (.inl ((-2147483648), 2147483647)), []), (some (.inl (0, 2147483647)), [])], 0, 0)
/-- LoadsAhead.State bytesNotZero -/
theorem qk_1233 (l : Launch) : ek_ok l tQ iQ kq_1233 := ek_good_ok (sp := sQ) (K := []) (SP := []) (HS := [((4, [some (.inr 26, none), some (.inl ((-2147483648), 2147483647), none), some (.inl (0, 64), none)], [], [], []), [(0, (0, 0, 0), 0), (1, (1, 2, 0), 64), (0, (0, 0, 0), 0)])]) (N := 3) (fuel := 32) hIQ (fun _ h => absurd h List.not_mem_nil) (by decide +kernel)
def kq_1234 : ek := (132, [.inr 2, .inl (11, 11)], [], [], [(some (.inl (0, 2147483647)), []), (some (.inl ((-2147483648), 2147483647)), [])], 1, 22)
/-- LoadsAhead count -/
theorem qk_1234 (l : Launch) : ek_ok l tQ iQ kq_1234 := ek_good_ok (sp := sQ) (K := [kq_1233]) (SP := []) (HS := []) (N := 0) (fuel := 22) hIQ (List.forall_mem_cons.mpr ⟨qk_1233 l, fun _ h => absurd h List.not_mem_nil⟩) (by decide +kernel)
def kq_1235 : ek := (132, [.inr 2, .inl (12, 2147483647)], [], [], [(some (.inl ((-1), (-1))), [])], 0, 0)
/-- LoadsAhead count -/
theorem qk_1235 (l : Launch) : ek_ok l tQ iQ kq_1235 := ek_good_ok (sp := sQ) (K := []) (SP := []) (HS := []) (N := 0) (fuel := 16) hIQ (fun _ h => absurd h List.not_mem_nil) (by decide +kernel)
def kq_1236 : ek := (239, [.inr 86, .inl ((-2147483648), (-1))], [], [], [(some (.inl ((-1), (-1))), [])], 0, 0)
/-- LoadsAheadModel count -/
theorem qk_1236 (l : Launch) : ek_ok l tQ iQ kq_1236 := ek_good_ok (sp := sQ) (K := []) (SP := []) (HS := []) (N := 0) (fuel := 16) hIQ (fun _ h => absurd h List.not_mem_nil) (by decide +kernel)
def kq_1237 : ek := (239, [.inr 86, .inl (0, 0)], [], [], [(some (.inl (0, 9999)), [])], 0, 0)
/-- LoadsAheadModel count -/
theorem qk_1237 (l : Launch) : ek_ok l tQ iQ kq_1237 := ek_good_ok (sp := sQ) (K := []) (SP := []) (HS := []) (N := 0) (fuel := 18) hIQ (fun _ h => absurd h List.not_mem_nil) (by decide +kernel)
def kq_1238 : ek := (239, [.inr 86, .inl (1, 1)], [], [], [(some (.inl (0, 20)), [])], 0, 0)
/-- LoadsAheadModel count -/
theorem qk_1238 (l : Launch) : ek_ok l tQ iQ kq_1238 := ek_good_ok (sp := sQ) (K := []) (SP := []) (HS := []) (N := 0) (fuel := 18) hIQ (fun _ h => absurd h List.not_mem_nil) (by decide +kernel)
def kq_1239 : ek := (240, [.inr 86, .inl (2, 2)], [], [], [(some (.inl ((-2147483648), 2147483647)), []), (some (.inl (0, 2147483647)), [])], 0, 0)
/-- LoadsAheadModel ofKind -/
theorem qk_1239 (l : Launch) : ek_ok l tQ iQ kq_1239 := ek_good_ok (sp := sQ) (K := []) (SP := []) (HS := [((4, [some (.inr 86, none), some (.inl (2, 2), none), some (.inl ((-2147483648), 2147483647), none), some (.inl (0, 20), none)], [], [], []), [(0, (0, 0, 0), 0), (1, (1, 3, 0), 20), (0, (0, 0, 0), 0)])]) (N := 3) (fuel := 42) hIQ (fun _ h => absurd h List.not_mem_nil) (by decide +kernel)
def kq_1240 : ek := (239, [.inr 86, .inl (2, 2)], [], [], [(some (.inl (0, 2147483647)), []), (some (.inl ((-2147483648), 2147483647)), [])], 1, 23)
/-- LoadsAheadModel count -/
theorem qk_1240 (l : Launch) : ek_ok l tQ iQ kq_1240 := ek_good_ok (sp := sQ) (K := [kq_1239]) (SP := []) (HS := []) (N := 0) (fuel := 20) hIQ (List.forall_mem_cons.mpr ⟨qk_1239 l, fun _ h => absurd h List.not_mem_nil⟩) (by decide +kernel)
def kq_1241 : ek := (240, [.inr 86, .inl (3, 3)], [], [], [(some (.inl ((-2147483648), 2147483647)), []), (some (.inl (0, 2147483647)), [])], 0, 0)
/-- LoadsAheadModel ofKind -/
theorem qk_1241 (l : Launch) : ek_ok l tQ iQ kq_1241 := ek_good_ok (sp := sQ) (K := []) (SP := []) (HS := [((4, [some (.inr 86, none), some (.inl (3, 3), none), some (.inl ((-2147483648), 2147483647), none), some (.inl (0, 20), none)], [], [], []), [(0, (0, 0, 0), 0), (1, (1, 3, 0), 20), (0, (0, 0, 0), 0)])]) (N := 3) (fuel := 42) hIQ (fun _ h => absurd h List.not_mem_nil) (by decide +kernel)
def kq_1242 : ek := (239, [.inr 86, .inl (3, 3)], [], [], [(some (.inl (0, 2147483647)), []), (some (.inl ((-2147483648), 2147483647)), [])], 1, 23)
/-- LoadsAheadModel count -/
theorem qk_1242 (l : Launch) : ek_ok l tQ iQ kq_1242 := ek_good_ok (sp := sQ) (K := [kq_1241]) (SP := []) (HS := []) (N := 0) (fuel := 20) hIQ (List.forall_mem_cons.mpr ⟨qk_1241 l, fun _ h => absurd h List.not_mem_nil⟩) (by decide +kernel)
def kq_1243 : ek := (239, [.inr 86, .inl (4, 4)], [], [], [(some (.inl (0, 16)), [])], 0, 0)
/-- LoadsAheadModel count -/
theorem qk_1243 (l : Launch) : ek_ok l tQ iQ kq_1243 := ek_good_ok (sp := sQ) (K := []) (SP := []) (HS := []) (N := 0) (fuel := 18) hIQ (fun _ h => absurd h List.not_mem_nil) (by decide +kernel)
def kq_1244 : ek := (239, [.inr 86, .inl (5, 5)], [], [], [(some (.inl (0, 260)), [])], 0, 0)
/-- LoadsAheadModel count -/
theorem qk_1244 (l : Launch) : ek_ok l tQ iQ kq_1244 := ek_good_ok (sp := sQ) (K := []) (SP := []) (HS := []) (N := 0) (fuel := 18) hIQ (fun _ h => absurd h List.not_mem_nil) (by decide +kernel)
def kq_1245 : ek := (239, [.inr 86, .inl (6, 6)], [], [], [(some (.inl (0, 65535)), [])], 0, 0)
/-- LoadsAheadModel count -/
theorem qk_1245 (l : Launch) : ek_ok l tQ iQ kq_1245 := ek_good_ok (sp := sQ) (K := []) (SP := []) (HS := []) (N := 0) (fuel := 18) hIQ (fun _ h => absurd h List.not_mem_nil) (by decide +kernel)
def kq_1246 : ek := (239, [.inr 86, .inl (7, 7)], [], [], [(some (.inl (0, 9999)), [])], 0, 0)
/-- LoadsAheadModel count -/
theorem qk_1246 (l : Launch) : ek_ok l tQ iQ kq_1246 := ek_good_ok (sp := sQ) (K := []) (SP := []) (HS := []) (N := 0) (fuel := 18) hIQ (fun _ h => absurd h List.not_mem_nil) (by decide +kernel)
def kq_1247 : ek := (239, [.inr 86, .inl (8, 8)], [], [], [(some (.inl (0, 2147483647)), []), (some (.inl ((-2147483648), 2147483647)), [])], 1, 22)
/-- LoadsAheadModel count -/
theorem qk_1247 (l : Launch) : ek_ok l tQ iQ kq_1247 := ek_good_ok (sp := sQ) (K := [kq_1179]) (SP := []) (HS := []) (N := 0) (fuel := 18) hIQ (List.forall_mem_cons.mpr ⟨qk_1179 l, fun _ h => absurd h List.not_mem_nil⟩) (by decide +kernel)
def kq_1248 : ek := (239, [.inr 86, .inl (9, 9)], [], [], [(some (.inl (0, 15)), [])], 0, 0)
/-- LoadsAheadModel count -/
theorem qk_1248 (l : Launch) : ek_ok l tQ iQ kq_1248 := ek_good_ok (sp := sQ) (K := []) (SP := []) (HS := []) (N := 0) (fuel := 18) hIQ (fun _ h => absurd h List.not_mem_nil) (by decide +kernel)
def kq_1249 : ek := (239, [.inr 86, .inl (10, 10)], [], [], [(some (.inl (0, 16)), [])], 0, 0)
/-- LoadsAheadModel count -/
theorem qk_1249 (l : Launch) : ek_ok l tQ iQ kq_1249 := ek_good_ok (sp := sQ) (K := []) (SP := []) (HS := []) (N := 0) (fuel := 32) hIQ (fun _ h => absurd h List.not_mem_nil) (by decide +kernel)
def kq_1250 : ek := (241, [.inr 86], [], [], [(some (.inl ((-2147483648), 2147483647)), []), (some (.inl (0, 2147483647)), [])], 0, 0)
/-- LoadsAheadModel bytesThere -/
theorem qk_1250 (l : Launch) : ek_ok l tQ iQ kq_1250 := ek_good_ok (sp := sQ) (K := []) (SP := []) (HS := [((4, [some (.inr 86, none), some (.inl ((-2147483648), 2147483647), none), some (.inl (0, 64), none)], [], [], []), [(0, (0, 0, 0), 0), (1, (1, 2, 0), 64), (0, (0, 0, 0), 0)])]) (N := 3) (fuel := 38) hIQ (fun _ h => absurd h List.not_mem_nil) (by decide +kernel)
def kq_1251 : ek := (239, [.inr 86, .inl (11, 11)], [], [], [(some (.inl (0, 2147483647)), []), (some (.inl ((-2147483648), 2147483647)), [])], 1, 22)
/-- LoadsAheadModel count -/
theorem qk_1251 (l : Launch) : ek_ok l tQ iQ kq_1251 := ek_good_ok (sp := sQ) (K := [kq_1250]) (SP := []) (HS := []) (N := 0) (fuel := 18) hIQ (List.forall_mem_cons.mpr ⟨qk_1250 l, fun _ h => absurd h List.not_mem_nil⟩) (by decide +kernel)
def kq_1252 : ek := (239, [.inr 86, .inl (12, 2147483647)], [], [], [(some (.inl ((-1), (-1))), [])], 0, 0)
/-- LoadsAheadModel count -/
theorem qk_1252 (l : Launch) : ek_ok l tQ iQ kq_1252 := ek_good_ok (sp := sQ) (K := []) (SP := []) (HS := []) (N := 0) (fuel := 16) hIQ (fun _ h => absurd h List.not_mem_nil) (by decide +kernel)
end
section
theorem met_post {l : Launch} {y : MethodName} {ws : List Cond} {rm : Room} {Pc : Array Value → State → Prop} {Qc Qc' : Array Value → State → Outcome → State → Prop} {mc ms : Nat} {free : Addr → Prop} (h : Met l y ws rm Pc Qc mc ms free) (hq : ∀ a st o t, Qc a st o t → Qc' a st o t) : Met l y ws rm Pc Qc' mc ms free := by
  intro p e h1 h2 h3 s m args below h4 h5 h6 h7
  obtain ⟨n, o, a1, a2, a3, a4, a5⟩ := h p e h1 h2 h3 s m args below h4 h5 h6 h7
  exact ⟨n, o, a1, a2, a3, hq _ _ _ _ a4, a5⟩
/-- a field's number, a row's numbers -/
def gI (w : va_W) (j f : Nat) : Int := match w[j]? with
  | some (_, .inr (_, vs)) => match vs[f]? with
    | some (.int x) => x.toInt
    | _ => 0
  | _ => 0
def gA (w : va_W) (j : Nat) : Nat → Int := match w[j]? with
  | some (_, .inl (_, _, .inl f)) => fun k => (f k).toInt
  | _ => fun _ => 0
theorem gI_eq {w : va_W} {j f a ci : Nat} {vs : List Value} {x : Int32} (h : w[j]? = some (a, .inr (ci, vs))) (hv : vs[f]? = some (.int x)) : gI w j f = x.toInt := by
  unfold gI
  rw [h]
  dsimp only
  rw [hv]
theorem gA_eq {w : va_W} {j a : Nat} {cA : ClassId} {n : Nat} {f : Nat → Int32} (h : w[j]? = some (a, .inl (cA, n, .inl f))) : gA w j = fun k => (f k).toInt := by
  unfold gA
  rw [h]
theorem gI_loc {ls : Array Slot} {w : va_W} {j f : Nat} {x : Int32} (h : ev_loc ls w (2, j, f) x) : x.toInt = gI w j f := by
  obtain ⟨a, ci, vs, h1, h2⟩ := h
  exact (gI_eq h1 h2).symm
theorem gA_loc {ls : Array Slot} {w : va_W} {j i : Nat} {x : Int32} (h : ev_loc ls w (3, j, i) x) : ∃ y : Int32, ls[i]? = some (.val (.int y)) ∧ 0 ≤ y.toInt ∧ x.toInt = gA w j y.toInt.toNat := by
  obtain ⟨a, cA, n, f, y, h1, h2, h3, h4, h5⟩ := h
  refine ⟨y, h2, h3, ?_⟩
  rw [gA_eq h1, ← h5]
  rfl
theorem gI_fr {W1 : List (Nat × Nat)} {w w' : va_W} {j f : Nat} (h : ev_fr W1 w w') (hq : (j, f) ∉ W1) : gI w' j f = gI w j f := by
  unfold gI
  cases h0 : w[j]? with
  | none =>
    have : w'[j]? = none := by
      rw [List.getElem?_eq_none_iff] at h0 ⊢
      have := h.1
      omega
    rw [this]
  | some q0 =>
    have hk : j < w'.length := by
      have := (List.getElem?_eq_some_iff.mp h0).1
      have := h.1
      omega
    have h1 : w'[j]? = some w'[j] := List.getElem?_eq_getElem hk
    obtain ⟨e1, e2⟩ := h.2 j q0 w'[j] h0 h1
    rw [h1]
    cases hc : w'[j] with
    | mk a1 e =>
      rw [hc] at e1 e2
      obtain ⟨a0, e0⟩ := q0
      cases e0 with
      | inl x => cases e with
        | inl y => rfl
        | inr y => exact e2.elim
      | inr x => cases e with
        | inl y => exact e2.elim
        | inr y =>
          obtain ⟨e3, e4, e5⟩ := e2
          have e6 := e5 f hq
          dsimp only at e6 ⊢
          rw [e6]
theorem gA_fr {W1 : List (Nat × Nat)} {w w' : va_W} {j : Nat} (h : ev_fr W1 w w') (hq : (j, 999) ∉ W1) : gA w' j = gA w j := by
  unfold gA
  cases h0 : w[j]? with
  | none =>
    have : w'[j]? = none := by
      rw [List.getElem?_eq_none_iff] at h0 ⊢
      have := h.1
      omega
    rw [this]
  | some q0 =>
    have hk : j < w'.length := by
      have := (List.getElem?_eq_some_iff.mp h0).1
      have := h.1
      omega
    have h1 : w'[j]? = some w'[j] := List.getElem?_eq_getElem hk
    obtain ⟨e1, e2⟩ := h.2 j q0 w'[j] h0 h1
    rw [h1]
    cases hc : w'[j] with
    | mk a1 e =>
      rw [hc] at e1 e2
      obtain ⟨a0, e0⟩ := q0
      cases e0 with
      | inl x => cases e with
        | inl y =>
          rcases e2 with e2 | e2
          · exact absurd e2 hq
          · have e3 : a0 = a1 := e1
            rw [e2, e3]
        | inr y => exact e2.elim
      | inr x => cases e with
        | inl y => exact e2.elim
        | inr y => rfl
/-- one field, one row's element written: all else as it was -/
def gP (j f : Nat) (x : Int) (w w' : va_W) : Prop := gI w' j f = x ∧ (∀ j' f', ¬ (j' = j ∧ f' = f) → gI w' j' f' = gI w j' f') ∧ ∀ j', gA w' j' = gA w j'
def gS (j i : Nat) (x : Int) (w w' : va_W) : Prop := gA w' j = (fun k => if k = i then x else gA w j k) ∧ (∀ j', j' ≠ j → gA w' j' = gA w j') ∧ ∀ j' f', gI w' j' f' = gI w j' f'
theorem gP_set {w : va_W} {j f a ci : Nat} {vs : List Value} {x : Int32} (h : w[j]? = some (a, .inr (ci, vs))) (hf : f < vs.length) : gP j f x.toInt w (w.set j (a, .inr (ci, vs.set f (.int x)))) := by
  have hj := (List.getElem?_eq_some_iff.mp h).1
  refine ⟨gI_eq (List.getElem?_set_self hj) (List.getElem?_set_self hf), fun j' f' hn => ?_, fun j' => ?_⟩
  · by_cases hjj : j' = j
    · subst hjj
      have hff : f ≠ f' := fun e => hn ⟨rfl, e.symm⟩
      unfold gI
      rw [List.getElem?_set_self hj, h]
      dsimp only
      rw [List.getElem?_set_ne hff]
    · unfold gI
      rw [List.getElem?_set_ne (Ne.symm hjj)]
  · by_cases hjj : j' = j
    · subst hjj
      unfold gA
      rw [List.getElem?_set_self hj, h]
    · unfold gA
      rw [List.getElem?_set_ne (Ne.symm hjj)]
theorem gS_set {w : va_W} {j a : Nat} {cA : ClassId} {n : Nat} {f : Nat → Int32} {i x : Int32} (h : w[j]? = some (a, .inl (cA, n, .inl f))) : gS j i.toInt.toNat x.toInt w (w.set j (a, .inl (cA, n, .inl (upd f i.toNatClampNeg x)))) := by
  have hj := (List.getElem?_eq_some_iff.mp h).1
  refine ⟨?_, fun j' hn => ?_, fun j' f' => ?_⟩
  · rw [gA_eq (List.getElem?_set_self hj), gA_eq h]
    funext k
    show (upd f i.toInt.toNat x k).toInt = _
    unfold upd
    split <;> rfl
  · unfold gA
    rw [List.getElem?_set_ne (Ne.symm hn)]
  · by_cases hjj : j' = j
    · subst hjj
      unfold gI
      rw [List.getElem?_set_self hj, h]
    · unfold gI
      rw [List.getElem?_set_ne (Ne.symm hjj)]
/-- contracts by hand: what is asked; what holds at each end -/
def hk_qc (D : va_G) (tys : List (ClassId × FieldType)) (T : en_T) (J : Nat → Int → va_W → Prop) (b0 : Nat) (ad : Nat → Nat) (w0 : va_W) (κ : ek) (v : Bool) : Array Value → State → Outcome → State → Prop := match v with
  | true => va_Qi (S := va_W) (fun x w => ev_w tys T ad w ∧ ev_fr (ek_wr κ) w0 w ∧ ∃ i u, (ek_out κ)[i]? = some u ∧ J i x.toInt w ∧ (∃ a, u.1 = some a ∧ en_v T.length ad a (.int x)) ∧ ∀ f ∈ u.2, ev_ff w f) (fun w t => va_P D vwCl w t.heap ∧ va_D (fun q => b0 ≤ q) w) (fun q => b0 ≤ q)
  | false => va_Qv (S := va_W) (fun w => ev_w tys T ad w ∧ ev_fr (ek_wr κ) w0 w ∧ ∃ i u, (ek_out κ)[i]? = some u ∧ J i 0 w ∧ u.1 = none ∧ ∀ f ∈ u.2, ev_ff w f) (fun w t => va_P D vwCl w t.heap ∧ va_D (fun q => b0 ≤ q) w) (fun q => b0 ≤ q)
def hk_ok (l : Launch) (T : en_T) (I : va_W → Prop) (J : Nat → Int → va_W → Prop) (κ : ek) : Prop := ∀ r, en_ms[κ.1]? = some r → ∀ (D : va_G) (tys : List (ClassId × FieldType)) (aK aV b0 : Nat) (ad : Nat → Nat) (w0 : va_W) (as : List Value), en_vs T.length ad κ.2.1 as → ev_w tys T ad w0 → I w0 → (∀ f ∈ ek_pre κ, ev_ff w0 f) →
  Met l r.1 (Cond.code r.1 r.2.1 r.2.2.1 r.2.2.2 :: en_ws) (ek_rm κ) (ek_pc D tys aK aV b0 w0 as) (hk_qc D tys T J b0 ad w0 κ r.2.2.2.isSome) 0 0 (fun q => b0 ≤ q)
/-- a contract that asks nothing of the world keeps whatever its writes leave alone -/
theorem ek_up {l : Launch} {T : en_T} {I I0 : va_W → Prop} {κ : ek} (h : ek_ok l T I0 κ) (h0 : ∀ w, I w → I0 w) (hI : ∀ w w', ev_fr (ek_wr κ) w w' → I w → I w') : ek_ok l T I κ := by
  intro r hr D tys aK aV b0 ad w0 as h1 h2 h3 h4
  refine met_post (h r hr D tys aK aV b0 ad w0 as h1 h2 (h0 _ h3) h4) (fun a st o t hq => ?_)
  cases hv : r.2.2.2.isSome with
  | true =>
    rw [hv] at hq
    obtain ⟨⟨x, u, e1, ⟨p1, p2, p3, p4⟩, e3⟩, e4⟩ := hq
    exact ⟨⟨x, u, e1, ⟨p1, hI _ _ p3 h3, p3, p4⟩, e3⟩, e4⟩
  | false =>
    rw [hv] at hq
    obtain ⟨⟨u, e1, ⟨p1, p2, p3, p4⟩, e3⟩, e4⟩ := hq
    exact ⟨⟨u, e1, ⟨p1, hI _ _ p3 h3, p3, p4⟩, e3⟩, e4⟩
theorem hk_ek {l : Launch} {T : en_T} {I I' : va_W → Prop} {J : Nat → Int → va_W → Prop} {κ : ek} (h : hk_ok l T I' J κ) (h0 : ∀ w, I w → I' w) (hJ : ∀ i x w w', I w → ev_fr (ek_wr κ) w w' → J i x w' → I w') : ek_ok l T I κ := by
  intro r hr D tys aK aV b0 ad w0 as h1 h2 h3 h4
  refine met_post (h r hr D tys aK aV b0 ad w0 as h1 h2 (h0 _ h3) h4) (fun a st o t hq => ?_)
  cases hv : r.2.2.2.isSome with
  | true =>
    rw [hv] at hq
    obtain ⟨⟨x, u, e1, ⟨p1, p2, i, v, p3, p4, p5, p6⟩, e3⟩, e4⟩ := hq
    exact ⟨⟨x, u, e1, ⟨p1, hJ i _ _ _ h3 p2 p4, p2, v, List.mem_of_getElem? p3, p5, p6⟩, e3⟩, e4⟩
  | false =>
    rw [hv] at hq
    obtain ⟨⟨u, e1, ⟨p1, p2, i, v, p3, p4, p5, p6⟩, e3⟩, e4⟩ := hq
    exact ⟨⟨u, e1, ⟨p1, hJ i _ _ _ h3 p2 p4, p2, v, List.mem_of_getElem? p3, p5, p6⟩, e3⟩, e4⟩
theorem ek_hk {l : Launch} {T : en_T} {I : va_W → Prop} {κ : ek} (h : ek_ok l T I κ) : hk_ok l T I (fun _ _ => I) κ := by
  intro r hr D tys aK aV b0 ad w0 as h1 h2 h3 h4
  refine met_post (h r hr D tys aK aV b0 ad w0 as h1 h2 h3 h4) (fun a st o t hq => ?_)
  cases hv : r.2.2.2.isSome with
  | true =>
    rw [hv] at hq
    obtain ⟨⟨x, u, e1, ⟨p1, p2, p3, v, p4, p5, p6⟩, e3⟩, e4⟩ := hq
    obtain ⟨i, hi⟩ := List.mem_iff_getElem?.mp p4
    exact ⟨⟨x, u, e1, ⟨p1, p3, i, v, hi, p2, p5, p6⟩, e3⟩, e4⟩
  | false =>
    rw [hv] at hq
    obtain ⟨⟨u, e1, ⟨p1, p2, p3, v, p4, p5, p6⟩, e3⟩, e4⟩ := hq
    obtain ⟨i, hi⟩ := List.mem_iff_getElem?.mp p4
    exact ⟨⟨u, e1, ⟨p1, p3, i, v, hi, p2, p5, p6⟩, e3⟩, e4⟩
section HVC
variable {p : Program} {l : Launch} {e : Env} {R : Room} {s : State} {m : MethodId} {args : Array Value} {below : List Frame} {meth : Method} {c : Code} {Q : State → Prop} {cc : ByteArray} {D : va_G} {tys : List (ClassId × FieldType)} {T : en_T} {I I' I0 E : va_W → Prop} {J : Nat → Int → va_W → Prop} {sp : List (Nat × Nat)} {aK aV b0 nL o : Nat} {ad : Nat → Nat} {w0 : va_W} {Wr : List (Nat × Nat)} {γ γ' : Nat → Int}
variable {pc : Nat} {L : List ev_l} {S : List ev_s} {FS : List ev_f} {RS : List ev_r} {κ : ek} {st : ev_S}
theorem ev_go_mono (h : ∀ w, I w → I' w) (k : ev_go p l e R s m args below meth c Q D tys T I' b0 nL ad w0 Wr γ st) : ev_go p l e R s m args below meth c Q D tys T I b0 nL ad w0 Wr γ st := by
  intro H locs ls stk ws ha
  obtain ⟨hz, hl, hs, hF, hR, hw, hI, hr⟩ := ha
  exact k H locs ls stk ws ⟨hz, hl, hs, hF, hR, hw, h _ hI, hr⟩
theorem ev_go_ex {α : Type} {A : α → va_W → Prop} (k : ∀ v, ev_go p l e R s m args below meth c Q D tys T (A v) b0 nL ad w0 Wr γ st) : ev_go p l e R s m args below meth c Q D tys T (fun w => ∃ v, A v w) b0 nL ad w0 Wr γ st := by
  intro H locs ls stk ws ha
  obtain ⟨hz, hl, hs, hF, hR, hw, ⟨v, hI⟩, hr⟩ := ha
  exact k v H locs ls stk ws ⟨hz, hl, hs, hF, hR, hw, hI, hr⟩
theorem ev_go_pure {P : Prop} (h : ∀ w, I w → P) (k : P → ev_go p l e R s m args below meth c Q D tys T I b0 nL ad w0 Wr γ st) : ev_go p l e R s m args below meth c Q D tys T I b0 nL ad w0 Wr γ st := by
  intro H locs ls stk ws ha
  exact k (h _ ha.2.2.2.2.2.2.1) H locs ls stk ws ha
/-- what is known of the world's numbers may be used -/
theorem ev_go_w {P : Prop} (h : ∀ w, ev_w tys T ad w → I w → P) (k : P → ev_go p l e R s m args below meth c Q D tys T I b0 nL ad w0 Wr γ st) : ev_go p l e R s m args below meth c Q D tys T I b0 nL ad w0 Wr γ st := by
  intro H locs ls stk ws ha
  exact k (h _ ha.2.2.2.2.2.1 ha.2.2.2.2.2.2.1) H locs ls stk ws ha
def hk_nx (κ : ek) (pc : Nat) (L : List ev_l) (S : List ev_s) (FS : List ev_f) (RS : List ev_r) (u : Option en_V × List ev_f) (x : Int) : ev_S := (pc, L, (match u.1 with
  | some _ => [(.inl (x, x), ev_nt)]
  | none => []) ++ S.map (ev_hs (ek_wr κ)), ev_add (ev_hf (ek_wr κ) FS) u.2, RS)
def hk_in (T : en_T) (u : Option en_V) (x : Int) : Prop := match u with
  | some (.inl b) => b.1 ≤ x ∧ x ≤ b.2
  | some _ => True
  | none => x = 0
theorem hs_after {H : Heap} {locs : List Loc} {ls : Array Slot} {stk rest : List Value} {ws : va_W} {av : Array Value} {v : Bool} (hE : ∀ w w', ev_fr (ek_wr κ) w w' → E w → E w') (h : ev_at s D tys T E b0 nL ad w0 Wr γ L S FS RS H locs ls rest ws) (hwr : ∀ q ∈ ek_wr κ, q ∈ Wr)
    (hrun : va_Run p l e R s m args below meth c H locs 0 0 0 0 (F0 m pc ls stk) rest (hk_qc D tys T J b0 ad ws κ v av) (fun q => b0 ≤ q))
    (k : ∀ i u x, (ek_out κ)[i]? = some u → hk_in T u.1 x → ev_go p l e R s m args below meth c Q D tys T (fun w => J i x w ∧ E w) b0 nL ad w0 Wr γ (hk_nx κ (pc + 3) L S FS RS u x)) : W p l e R s m args below meth c H locs 0 0 Q (F0 m pc ls stk) := by
  obtain ⟨hz, hl, hs, hF, hR, hw, hI, hP, hD, hS, hfr⟩ := h
  cases v with
  | false =>
    refine va_callv (a := av) hrun hS (fun q _ h => h) (fun q h => h) (fun w t H1 locs1 ht _ hpost hB _ _ hS1 => ?_)
    obtain ⟨p1, p3, i, u, hu, hJ, hu1, hu2⟩ := hpost
    subst ht
    refine k i u 0 hu (by rw [hu1]; rfl) t.heap locs1 ls rest w ⟨hz, hl, ?_, ev_add_ok (ev_hf_ok p3 hF) hu2, hR, p1, ⟨hJ, hE _ _ p3 hI⟩, hB.1, hB.2, hS1, hfr.tr p3 hwr⟩
    unfold hk_nx
    dsimp only
    rw [hu1]
    exact ev_hs_ok p3 hs
  | true =>
    refine va_calli (a := av) hrun hS (fun q _ h => h) (fun q h => h) (fun x w t H1 locs1 ht _ hpost hB _ _ hS1 => ?_)
    obtain ⟨p1, p3, i, u, hu, hJ, ⟨a, hu1, hu3⟩, hu2⟩ := hpost
    subst ht
    refine k i u x.toInt hu ?_ t.heap locs1 ls (.int x :: rest) w ⟨hz, hl, ?_, ev_add_ok (ev_hf_ok p3 hF) hu2, hR, p1, ⟨hJ, hE _ _ p3 hI⟩, hB.1, hB.2, hS1, hfr.tr p3 hwr⟩
    · rw [hu1]
      cases a with
      | inr n => trivial
      | inl b =>
        obtain ⟨z, e9, h9⟩ := hu3
        cases e9
        exact h9
    · unfold hk_nx
      dsimp only
      rw [hu1]
      exact ⟨⟨⟨x, rfl, en_in_self x⟩, ev_tag0⟩, ev_hs_ok p3 hs⟩
/-- the top of the stack: known to be just that; known less well -/
theorem ev_go_top {q q' : Int × Int} {t t' : ev_t} (h : ∀ (ls : Array Slot) (w : va_W) (x : Int32), ev_w tys T ad w → ev_lo T.length ad γ L ls → (∀ f ∈ FS, ev_fact γ ls w f) → I w → en_in q x → ev_tag ls w t (.int x) → en_in q' x ∧ ev_tag ls w t' (.int x)) (k : ev_go p l e R s m args below meth c Q D tys T I b0 nL ad w0 Wr γ (pc, L, (.inl q', t') :: S, FS, RS)) : ev_go p l e R s m args below meth c Q D tys T I b0 nL ad w0 Wr γ (pc, L, (.inl q, t) :: S, FS, RS) := by
  intro H locs ls stk ws ha
  dsimp only at ha
  obtain ⟨hz, hl, hs, hF, hR, hw, hI, hr⟩ := ha
  obtain ⟨x0, ys, rfl, ⟨x, rfl, hx⟩, ht, hs1⟩ := ev_stk_cons hs
  obtain ⟨a1, a2⟩ := h ls ws x hw hl hF hI hx ht
  exact k H locs ls (.int x :: ys) ws ⟨hz, hl, ⟨⟨⟨x, rfl, a1⟩, a2⟩, hs1⟩, hF, hR, hw, hI, hr⟩
/-- a local known to be just v: within bounds, with a mark -/
theorem ev_go_mark {i n : Nat} {v : Int} {q' : Int × Int} (hi : L[i]? = some (some (.inl (v, v), none))) (hq : q'.1 ≤ v ∧ v ≤ q'.2) (hγ : γ n = v) (k : ev_go p l e R s m args below meth c Q D tys T I b0 nL ad w0 Wr γ (pc, L.set i (some (.inl q', some (n, 0))), S, FS, RS)) : ev_go p l e R s m args below meth c Q D tys T I b0 nL ad w0 Wr γ (pc, L, S, FS, RS) := by
  intro H locs ls stk ws ha
  dsimp only at ha
  obtain ⟨⟨z1, z2, z3⟩, hl, hs, hF, hR, hw, hI, hr⟩ := ha
  refine k H locs ls stk ws ⟨⟨z1, z2, by dsimp only; rw [List.length_set]; exact z3⟩, fun j u hj => ?_, hs, hF, hR, hw, hI, hr⟩
  by_cases hji : j = i
  · subst hji
    dsimp only at hj
    rw [List.getElem?_set_self (List.getElem?_eq_some_iff.mp hi).1] at hj
    cases hj
    obtain ⟨x, g1, ⟨z, rfl, g2⟩, g3⟩ := hl j _ hi
    have e1 : v ≤ z.toInt := g2.1
    have e2 : z.toInt ≤ v := g2.2
    exact ⟨_, g1, ⟨z, rfl, by omega, by omega⟩, z, rfl, by dsimp only; omega⟩
  · dsimp only at hj
    rw [List.getElem?_set_ne (Ne.symm hji)] at hj
    exact hl j u hj
/-- where nothing is marked the marks may be chosen anew -/
theorem ev_go_gam (h : ev_ng L FS = true) (k : ev_go p l e R s m args below meth c Q D tys T I b0 nL ad w0 Wr γ' (pc, L, S, FS, RS)) : ev_go p l e R s m args below meth c Q D tys T I b0 nL ad w0 Wr γ (pc, L, S, FS, RS) := by
  intro H locs ls stk ws ha
  dsimp only at ha
  obtain ⟨hz, hl, hs, hF, hr⟩ := ha
  exact k H locs ls stk ws ⟨hz, ev_ng_lo h hl, hs, ev_ng_f h hF, hr⟩
theorem hs_callV (C : ev_cx p s m args meth c cc nL o D tys aK aV b0) {i mi n j ci : Nat} {r : MethodName × ByteArray × Nat × Option FieldType} {A : List ev_s} {fs : List en_V} {rc : vw_C} {tj : ev_t} (hκ : hk_ok l T I0 J κ) (hI : ∀ w, I w → I0 w ∧ E w) (hE : ∀ w w', ev_fr (ek_wr κ) w w' → E w → E w') (hf : en_find o i en_cl = some (0, mi, n)) (hr : en_ms[mi]? = some r) (hm : κ.1 = mi) (hA : A.length = n) (hav : en_all2 en_le (.inr (j + 2) :: (A.map (fun a => a.1)).reverse) κ.2.1 = true) (hpre : (ek_pre κ).all (ev_has T FS) = true) (hwr : ∀ q ∈ ek_wr κ, q ∈ Wr)
    (hj : T[j]? = some (.inr (ci, fs))) (hrc : vwCl[ci]? = some rc) (hmo : en_mo[mi]? = some ci) (hfr : ek_fr κ + 1 ≤ R.frames) (hlo : 8 + (r.2.2.1 + 11) + ek_lo κ ≤ R.locals) (hS8 : S.length ≤ 8) (hd : decode cc pc = .ok (.invokevirtual i, 3))
    (k : ∀ i u x, (ek_out κ)[i]? = some u → hk_in T u.1 x → ev_go p l e R s m args below meth c Q D tys T (fun w => J i x w ∧ E w) b0 nL ad w0 Wr γ (hk_nx κ (pc + 3) L S FS RS u x)) : ev_go p l e R s m args below meth c Q D tys T I b0 nL ad w0 Wr γ (pc, L, A ++ (.inr (j + 2), tj) :: S, FS, RS) := by
  intro H locs ls stk ws h
  dsimp only at h
  obtain ⟨hz, hl, hs, hF, hR, hw, hI9, hP, hD, hS, hfr0⟩ := h
  obtain ⟨xs, us, rfl, hs1, hs2⟩ := ev_stk_app hs
  obtain ⟨x, ys, rfl, hx, -, hs3⟩ := ev_stk_cons hs2
  have hx0 := hx
  obtain ⟨rfl, hjl⟩ : x = .ref (ad j) ∧ j < T.length := hx
  subst hm
  obtain ⟨e0, g1, vs, rfl, g2⟩ := hw.2 j _ hj
  have hM := hκ r hr D tys aK aV b0 ad ws (Value.ref (ad j) :: xs.reverse) (en_all2_vs hav ⟨hx0, en_vs_rev hs1⟩) hw (hI _ hI9).1 (fun f hf => ev_has_ok hF hw (List.all_eq_true.mp hpre f hf))
  have hDd := (en_clD hf hr).1
  have hww := en_clW hf hr
  have hts := C.2.2.2.2.1
  have hB := callB_of (own := en_nm o) (index := i) (R := R) (rm := ek_rm κ) (mc := 0) (ms := 0) n hts (en_codeG hr) rfl rfl rfl (hts _ (en_ws_in (hww (.initialized r.1.cls) (by simp)) rfl)) (hts _ (en_ws_in (hww (.methodLink (en_nm o) i r.1) (by simp)) rfl)) hDd ⟨hfr, hlo⟩
  have hrecv := va_recv C.2.2.2.2.2.1 hP hrc g1
  rw [(en_nm_cl hrc).trans (en_mo_ok hr hmo)] at hrecv
  exact hs_after hE ⟨hz, hl, hs3, hF, hR, hw, (hI _ hI9).2, hP, hD, hS, hfr0⟩ hwr (va_runV (C := r.1.cls) (As := xs.reverse) (rest := ys) ⟨C.1, C.2.1, C.2.2.1, C.2.2.2.1, hts⟩ hM ⟨hB, hts _ (en_ws_in (hww (.instanceMethod r.1) (by simp)) rfl), hts _ (en_ws_in (hww (.selects r.1.cls r.1 r.1) (by simp)) rfl)⟩ ⟨ek_pc_blind, hrecv, ek_pre_at C hP hD hS⟩ rfl (by rw [List.length_reverse, ← en_vs_len hs1, List.length_map]; exact hA) hz.1 (by rw [List.reverse_reverse]) (lv_room (by rw [ev_stk_len hs3]; exact hS8)) hd ⟨Nat.zero_le _, Nat.zero_le _⟩) k
/-- a write to a field, with what is written -/
theorem hs_put (C : ev_cx p s m args meth c cc nL o D tys aK aV b0) {i ci f j : Nat} {fs : List en_V} {b v : Int × Int} {r : vw_C} {t tv : ev_t} (hstep : ∀ (ls : Array Slot) (w w' : va_W) (x : Int32), ev_w tys T ad w → ev_lo T.length ad γ L ls → (∀ f ∈ FS, ev_fact γ ls w f) → I w → en_in v x → ev_tag ls w tv (.int x) → gP j f x.toInt w w' → ev_fr [(j, f)] w w' → I' w') (hf : en_find o i en_fl = some (ci, f)) (hr0 : vwCl[ci]? = some r) (hfN : f < r.2.2) (ht : T[j]? = some (.inr (ci, fs))) (ha : fs[f]? = some (.inl b)) (hle : en_le (.inl v) (.inl b) = true) (hput : en_put (en_tyX ci f) (.inl v) = true) (hfin : (r.2.1 f).2.2.2 = false) (hwr : (j, f) ∈ Wr) (hd : decode cc pc = .ok (.putfield i, 3))
    (k : ev_go p l e R s m args below meth c Q D tys T I' b0 nL ad w0 Wr γ (pc + 3, L, S.map (ev_hs [(j, f)]), ((2, j, f), v, none) :: ev_hf [(j, f)] FS, RS)) : ev_go p l e R s m args below meth c Q D tys T I b0 nL ad w0 Wr γ (pc, L, (.inl v, tv) :: (.inr (j + 2), t) :: S, FS, RS) := by
  intro H locs ls stk ws h
  dsimp only at h
  obtain ⟨h0, hl, hs, hF, hR, hw, hI, hP, hD, hS, hfr⟩ := h
  obtain ⟨v0, us, rfl, hv, htv, hs0⟩ := ev_stk_cons hs
  obtain ⟨x, ys, rfl, hx, -, hs1⟩ := ev_stk_cons hs0
  obtain ⟨rfl, hj⟩ : x = .ref (ad j) ∧ j < T.length := hx
  obtain ⟨e0, g1, vs, rfl, g2⟩ := hw.2 j _ ht
  obtain ⟨old, g3, zo, rfl, g4⟩ := en_vs_get g2 ha
  obtain ⟨q1, q2⟩ := en_put_ok hput hv
  have hc := en_cls ci r hr0
  have hlen : f < vs.length := (List.getElem?_eq_some_iff.mp g3).1
  have hvb := en_le_ok hle hv
  obtain ⟨z, rfl, hz⟩ := hv
  refine va_put (C := r.1) (T := r.2.1) (N := r.2.2) C.1 C.2.1 C.2.2.2.2.1 (en_cls_ws hr0) (en_tyX ci) hc.2.1 hc.2.2 C.2.2.2.1 C.2.2.2.2.2.1 hP hD hS j g1 hr0 f hfN (C.2.2.2.2.1 _ (en_fl_w hf hr0)) (fun x h => h) hfin (hc.2.1 f hfN) q1 q2 hlen hd (fun H1 locs1 hP1 hD1 hS1 => ?_)
  have hfe : ev_fe [(j, f)] j (.inr (ci, vs)) (.inr (ci, vs.set f (.int z))) := ⟨rfl, by dsimp only; rw [List.length_set], fun f' hf' => by
    have hne : f' ≠ f := fun e => hf' (by rw [e]; exact List.mem_cons_self)
    dsimp only
    rw [List.getElem?_set_ne (Ne.symm hne)]⟩
  have hf1 := ev_fr_set g1 hfe
  refine k H1 locs1 ls ys _ ⟨h0, hl, ev_hs_ok hf1 hs1, fun g hg => ?_, hR, ev_w_set hw ht ⟨_, rfl, ev_vs_fe g2 ha hvb⟩, hstep ls ws _ z hw hl hF hI hz htv (gP_set g1 hlen) hf1, hP1, hD1, hS1, hfr.tr hf1 (fun q hq => by rw [List.mem_singleton.mp hq]; exact hwr)⟩
  rcases List.mem_cons.mp hg with rfl | hg
  · exact ⟨z, ⟨_, _, _, List.getElem?_set_self (List.getElem?_eq_some_iff.mp g1).1, List.getElem?_set_self hlen⟩, hz, trivial⟩
  · exact ev_hf_ok hf1 hF g hg
/-- a write to a row of ints, with what is written -/
theorem hs_ast (C : ev_cx p s m args meth c cc nL o D tys aK aV b0) {j : Nat} {t : Nat × Nat × Int × Int} {q v : Int × Int} {tv tq ta : ev_t} (hstep : ∀ (ls : Array Slot) (w w' : va_W) (i x : Int32), ev_w tys T ad w → ev_lo T.length ad γ L ls → (∀ f ∈ FS, ev_fact γ ls w f) → I w → en_in q i → ev_tag ls w tq (.int i) → en_in v x → ev_tag ls w tv (.int x) → 0 ≤ i.toInt → i.toInt < t.2.1 → gS j i.toInt.toNat x.toInt w w' → ev_fr [(j, 999)] w w' → I' w') (ht : T[j]? = some (.inl t)) (h3 : t.1 = 0)
    (hq : ∀ (ls : Array Slot) (w : va_W) (i : Int32), ev_w tys T ad w → ev_lo T.length ad γ L ls → (∀ f ∈ FS, ev_fact γ ls w f) → I w → en_in q i → ev_tag ls w tq (.int i) → 0 ≤ i.toInt ∧ i.toInt < t.2.1) (hv0 : t.2.2.1 ≤ v.1) (hv1 : v.2 ≤ t.2.2.2) (hwr : (j, 999) ∈ Wr) (hd : decode cc pc = .ok (.iastore, 1))
    (k : ev_go p l e R s m args below meth c Q D tys T I' b0 nL ad w0 Wr γ (pc + 1, L, S.map (ev_hs [(j, 999)]), ev_hf [(j, 999)] FS, RS)) : ev_go p l e R s m args below meth c Q D tys T I b0 nL ad w0 Wr γ (pc, L, (.inl v, tv) :: (.inl q, tq) :: (.inr (j + 2), ta) :: S, FS, RS) := by
  intro H locs ls stk ws h
  dsimp only at h
  obtain ⟨hz, hl, hs, hF, hR, hw, hI, hP, hD, hS, hfr⟩ := h
  obtain ⟨x9, us, rfl, ⟨x, rfl, hx⟩, htx, hs0⟩ := ev_stk_cons hs
  obtain ⟨x0, ys, rfl, ⟨i, rfl, hi⟩, hti, hs1⟩ := ev_stk_cons hs0
  obtain ⟨xa, zs, rfl, hxa, -, hs2⟩ := ev_stk_cons hs1
  obtain ⟨rfl, hj⟩ : xa = .ref (ad j) ∧ j < T.length := hxa
  obtain ⟨e0, g1, ge⟩ := hw.2 j _ ht
  unfold ev_c at ge
  dsimp only at ge
  rw [if_neg (by rw [h3]; decide)] at ge
  obtain ⟨cA, f, rfl, g2, g3⟩ := ge
  obtain ⟨i0, i1⟩ := hq ls ws i hw hl hF hI hi hti
  refine va_iast C.1 C.2.1 C.2.2.2.2.2.1 hP hD hS j t.1 g1 (by rw [g2, h3]; rfl) (vp_in_iff.mpr ⟨i0, i1⟩) hd (fun H1 locs1 hP1 hD1 hS1 => ?_)
  have hf1 : ev_fr [(j, 999)] ws (ws.set j (ad j, .inl (cA, t.2.1, .inl (upd f i.toNatClampNeg x)))) := ev_fr_set g1 (Or.inl List.mem_cons_self)
  have hc : ev_c tys T.length ad (.inl t) (.inl (cA, t.2.1, .inl (upd f i.toNatClampNeg x))) := by
    unfold ev_c
    dsimp only
    rw [if_neg (by rw [h3]; decide)]
    refine ⟨cA, _, rfl, g2, fun k hk => ?_⟩
    unfold upd
    split
    · exact ⟨by have := hx.1; omega, by have := hx.2; omega⟩
    · exact g3 k hk
  exact k H1 locs1 ls zs _ ⟨hz, hl, ev_hs_ok hf1 hs2, ev_hf_ok hf1 hF, hR, ev_w_set hw ht hc, hstep ls ws _ i x hw hl hF hI hi hti hx htx i0 i1 (gS_set g1) hf1, hP1, hD1, hS1, hfr.tr hf1 (fun q hq => by rw [List.mem_singleton.mp hq]; exact hwr)⟩
/-- a read of a row of ints, with what is read -/
theorem hs_ald (C : ev_cx p s m args meth c cc nL o D tys aK aV b0) {j : Nat} {t : Nat × Nat × Int × Int} {q b : Int × Int} {tq ta : ev_t} (hstep : ∀ (ls : Array Slot) (w : va_W) (i x : Int32), ev_w tys T ad w → ev_lo T.length ad γ L ls → (∀ f ∈ FS, ev_fact γ ls w f) → I w → en_in q i → ev_tag ls w tq (.int i) → 0 ≤ i.toInt → i.toInt < t.2.1 → x.toInt = gA w j i.toInt.toNat → en_in t.2.2 x → I' w ∧ en_in b x) (ht : T[j]? = some (.inl t)) (h3 : t.1 = 0)
    (hq : ∀ (ls : Array Slot) (w : va_W) (i : Int32), ev_w tys T ad w → ev_lo T.length ad γ L ls → (∀ f ∈ FS, ev_fact γ ls w f) → I w → en_in q i → ev_tag ls w tq (.int i) → 0 ≤ i.toInt ∧ i.toInt < t.2.1) (hd : decode cc pc = .ok (.iaload, 1))
    (k : ev_go p l e R s m args below meth c Q D tys T I' b0 nL ad w0 Wr γ (pc + 1, L, (.inl b, ev_nt) :: S, FS, RS)) : ev_go p l e R s m args below meth c Q D tys T I b0 nL ad w0 Wr γ (pc, L, (.inl q, tq) :: (.inr (j + 2), ta) :: S, FS, RS) := by
  intro H locs ls stk ws h
  dsimp only at h
  obtain ⟨hz, hl, hs, hF, hR, hw, hI, hP, hD, hS, hfr⟩ := h
  obtain ⟨x0, ys, rfl, ⟨i, rfl, hi⟩, hti, hs1⟩ := ev_stk_cons hs
  obtain ⟨x, zs, rfl, hx, -, hs2⟩ := ev_stk_cons hs1
  obtain ⟨rfl, hj⟩ : x = .ref (ad j) ∧ j < T.length := hx
  obtain ⟨e0, g1, ge⟩ := hw.2 j _ ht
  unfold ev_c at ge
  dsimp only at ge
  rw [if_neg (by rw [h3]; decide)] at ge
  obtain ⟨cA, f, rfl, g2, g3⟩ := ge
  obtain ⟨i0, i1⟩ := hq ls ws i hw hl hF hI hi hti
  obtain ⟨a1, a2⟩ := hstep ls ws i (f i.toNatClampNeg) hw hl hF hI hi hti i0 i1 (by rw [gA_eq g1]; rfl) (g3 _ (en_clamp i0 i1))
  exact va_iald C.1 C.2.1 C.2.2.2.2.2.1 hP j t.1 g1 (by rw [g2, h3]; rfl) (vp_in_iff.mpr ⟨i0, i1⟩) hd (k H locs ls (.int (f i.toNatClampNeg) :: zs) ws ⟨hz, hl, ⟨⟨⟨_, rfl, a2⟩, ev_tag0⟩, hs2⟩, hF, hR, hw, a1, hP, hD, hS, hfr⟩)
/-- ends -/
theorem hs_iret (C : ev_cx p s m args meth c cc nL o D tys aK aV b0) {ret : Option FieldType} {q : Int × Int} {t : ev_t} {i : Nat} {a : en_V} {fs : List ev_f} (hJ : ∀ (ls : Array Slot) (w : va_W) (x : Int32), ev_w tys T ad w → ev_lo T.length ad γ L ls → (∀ f ∈ FS, ev_fact γ ls w f) → I w → en_in q x → ev_tag ls w t (.int x) → J i x.toInt w) (hret : meth.sig.returnType = ret) (hsome : ret.isSome = true) (hrt : en_rt ret q = true) (hi : (ek_out κ)[i]? = some (some a, fs)) (hle : en_le (.inl q) a = true) (hfs : fs.all (ev_has T FS) = true) (hWr : Wr = ek_wr κ) (hQ : Q = MQ below (hk_qc D tys T J b0 ad w0 κ ret.isSome) args s 0 0 (fun q => b0 ≤ q)) (hd : decode cc pc = .ok (.ireturn, 1)) : ev_go p l e R s m args below meth c Q D tys T I b0 nL ad w0 Wr γ (pc, L, [(.inl q, t)], FS, RS) := by
  intro H locs ls stk ws ha
  dsimp only at ha
  obtain ⟨hz, hl, hs, hf, hRr, hw, hI, hP, hD, hS, hfr⟩ := ha
  obtain ⟨x0, ys, rfl, hv0, htg, hs1⟩ := ev_stk_cons hs
  have hv1 := hv0
  obtain ⟨v, rfl, hv⟩ := hv0
  cases ys with
  | cons a b => exact hs1.elim
  | nil =>
    subst hQ
    subst hWr
    have hq : ∀ t : State, t.heap = H → s.WarmedH t.vm → hk_qc D tys T J b0 ad w0 κ ret.isSome args s (.returned (some (.int v))) t := fun t ht _ => by
      rw [hsome]
      exact ⟨⟨v, ws, rfl, ⟨hw, hfr, i, _, hi, hJ ls ws v hw hl hf hI hv htg, ⟨a, rfl, en_le_ok hle hv1⟩, fun f hf1 => ev_has_ok hf hw (List.all_eq_true.mp hfs f hf1)⟩, by show va_P D vwCl ws t.heap ∧ va_D (fun q => b0 ≤ q) ws; rw [ht]; exact ⟨hP, hD⟩⟩, hS.F ht⟩
    have hlocks := C.2.2.2.2.2.2.2.2
    unfold en_rt at hrt
    split at hrt
    · exact W.iret C.1 C.2.1 hret hq hS.2.2 hd
    · simp only [Bool.and_eq_true, decide_eq_true_eq] at hrt
      obtain ⟨hv2, hv3⟩ := hv
      exact W.zret C.1 C.2.1 hret (en_nar_z (by omega) (by omega)) hq hS.2.2 hd
    · cases hrt
theorem hs_vret (C : ev_cx p s m args meth c cc nL o D tys aK aV b0) {i : Nat} {fs : List ev_f} (hJ : ∀ (ls : Array Slot) (w : va_W), ev_w tys T ad w → ev_lo T.length ad γ L ls → (∀ f ∈ FS, ev_fact γ ls w f) → I w → J i 0 w) (hret : meth.sig.returnType = none) (hi : (ek_out κ)[i]? = some (none, fs)) (hfs : fs.all (ev_has T FS) = true) (hWr : Wr = ek_wr κ) (hQ : Q = MQ below (hk_qc D tys T J b0 ad w0 κ false) args s 0 0 (fun q => b0 ≤ q)) (hd : decode cc pc = .ok (.return_, 1)) : ev_go p l e R s m args below meth c Q D tys T I b0 nL ad w0 Wr γ (pc, L, [], FS, RS) := by
  intro H locs ls stk ws ha
  dsimp only at ha
  obtain ⟨hz, hl, hs, hf, hRr, hw, hI, hP, hD, hS, hfr⟩ := ha
  cases stk with
  | cons a b => exact hs.elim
  | nil =>
    subst hQ
    subst hWr
    have hlocks := C.2.2.2.2.2.2.2.2
    refine W.vret C.1 C.2.1 hret (fun t ht _ => ?_) hS.2.2 hd
    exact ⟨⟨ws, rfl, ⟨hw, hfr, i, _, hi, hJ ls ws hw hl hf hI, rfl, fun f hf1 => ev_has_ok hf hw (List.all_eq_true.mp hfs f hf1)⟩, by show va_P D vwCl ws t.heap ∧ va_D (fun q => b0 ≤ q) ws; rw [ht]; exact ⟨hP, hD⟩⟩, hS.F ht⟩
/-- exits keep tags and marks -/
def hv_lle (a b : ev_l) : Bool := match b with
  | none => true
  | some y => match a with
    | some x => (y.2.isNone || x.2 == y.2) && en_le x.1 y.1
    | none => false
def hv_sle (a b : ev_s) : Bool := en_le a.1 b.1 && (b.2.1 == 0 || a.2 == b.2)
def hv_sub (T : en_T) (st x : ev_S) : Bool := st.1 == x.1 && (en_all2 hv_lle st.2.1 x.2.1 && (en_all2 hv_sle st.2.2.1 x.2.2.1 && (x.2.2.2.1.all (fun f => ev_has T st.2.2.2.1 f || st.2.2.2.1.contains f) && x.2.2.2.2.all (ev_rle st.2.1 st.2.2.2.2))))
theorem hv_sle_ok {N : Nat} {ls : Array Slot} {ws : va_W} : ∀ {as bs : List ev_s} {xs : List Value}, en_all2 hv_sle as bs = true → ev_stk N ad ls ws as xs → ev_stk N ad ls ws bs xs
  | [], [], [], _, _ => trivial
  | a :: as, b :: bs, x :: xs, h, hs => by
    simp only [en_all2, hv_sle, Bool.and_eq_true, Bool.or_eq_true, beq_iff_eq] at h
    refine ⟨⟨en_le_ok h.1.1 hs.1.1, ?_⟩, hv_sle_ok h.2 hs.2⟩
    rcases h.1.2 with h0 | h0
    · exact Or.inl h0
    · rw [← h0]; exact hs.1.2
  | [], [], _ :: _, _, hs => hs.elim
  | _ :: _, _, [], _, hs => hs.elim
  | [], _ :: _, _, h, _ => by cases h
  | _ :: _, [], _, h, _ => by cases h
theorem hv_sub_at {x : ev_S} {H : Heap} {locs : List Loc} {ls : Array Slot} {stk : List Value} {ws : va_W} (h : hv_sub T st x = true) (ha : ev_at s D tys T I b0 nL ad w0 Wr γ st.2.1 st.2.2.1 st.2.2.2.1 st.2.2.2.2 H locs ls stk ws) : st.1 = x.1 ∧ ev_at s D tys T I b0 nL ad w0 Wr γ x.2.1 x.2.2.1 x.2.2.2.1 x.2.2.2.2 H locs ls stk ws := by
  unfold hv_sub at h
  simp only [Bool.and_eq_true, beq_iff_eq] at h
  obtain ⟨h1, h2, h3, h4, h5⟩ := h
  obtain ⟨⟨z1, z2, z3⟩, hl, hs, hf, hR, hr⟩ := ha
  refine ⟨h1, ⟨z1, z2, (en_all2_len h2).symm.trans z3⟩, fun i q hi => ?_, hv_sle_ok h3 hs, fun f hf1 => ?_, fun r hr1 => ev_rle_ok hl hR (List.all_eq_true.mp h5 r hr1), hr⟩
  · obtain ⟨b, g1, g2⟩ := en_all2_get h2 hi
    unfold hv_lle at g2
    cases b with
    | none => cases g2
    | some y =>
      obtain ⟨v, g3, g4, g5⟩ := hl i y g1
      simp only [Bool.and_eq_true, Bool.or_eq_true, Option.isNone_iff_eq_none, beq_iff_eq] at g2
      refine ⟨v, g3, en_le_ok g2.2 g4, ?_⟩
      rcases g2.1 with g6 | g6
      · rw [g6]; trivial
      · rw [← g6]; exact g5
  · have h6 := List.all_eq_true.mp h4 f hf1
    rw [Bool.or_eq_true] at h6
    rcases h6 with h6 | h6
    · have h7 := ev_has_ok hf hr.1 h6
      obtain ⟨y, h8, h9⟩ := ev_ff_use (γ := γ) (ls := ls) h7
      unfold ev_has at h6
      simp only [Bool.and_eq_true, Option.isNone_iff_eq_none] at h6
      exact ⟨y, h8, h9, by rw [h6.2.1]; trivial⟩
    · exact hf f (List.contains_iff_mem.mp h6)
/-- walks to the exits: no ends, no heads -/
def hv_run (o : Nat) (cc : ByteArray) (T : en_T) (sp Wr : List (Nat × Nat)) (K : List ek) (rm : Nat × Nat) (SP : List (Nat × List (Nat × List Int))) (xs : List ev_S) : Nat → ev_S → Bool
  | 0, _ => false
  | n + 1, (pc, L, S, FS, RS) => xs.any (fun x => hv_sub T (pc, L, S, FS, RS) x) || (match decode cc pc with
    | .ok (op, len) => (ev_spl (ev_hn SP pc) (pc, L, S, FS, RS)).all (fun st => match ev_op o T sp Wr K rm op len pc st.2.1 st.2.2.1 st.2.2.2.1 st.2.2.2.2 with
      | some ss => ss.all (hv_run o cc T sp Wr K rm SP xs n)
      | none => false)
    | .error _ => false)
theorem hv_run_ok (C : ev_cx p s m args meth c cc nL o D tys aK aV b0) {K : List ek} {rm : Nat × Nat} {SP : List (Nat × List (Nat × List Int))} {xs : List ev_S} (hI0 : ev_hI I sp) (hK : ∀ κ ∈ K, ek_ok l T I κ) (hR : R.frames = rm.1 ∧ R.locals = rm.2) (hX : ∀ x ∈ xs, ev_go p l e R s m args below meth c Q D tys T I b0 nL ad w0 Wr γ x) :
    ∀ (n : Nat) (st : ev_S), hv_run o cc T sp Wr K rm SP xs n st = true → ev_go p l e R s m args below meth c Q D tys T I b0 nL ad w0 Wr γ st := by
  intro n
  induction n with
  | zero => intro st h; cases h
  | succ n ih =>
    intro st h
    obtain ⟨pc, L, S, FS, RS⟩ := st
    unfold hv_run at h
    rw [Bool.or_eq_true] at h
    rcases h with h | h
    · obtain ⟨x, h1, h2⟩ := List.any_eq_true.mp h
      intro H locs ls stk ws ha
      obtain ⟨h4, h5⟩ := hv_sub_at h2 ha
      have h6 := hX x h1 H locs ls stk ws h5
      rw [← h4] at h6
      exact h6
    · split at h
      · rename_i op len hd
        refine ev_spl_ok (hs := ev_hn SP pc) (fun u hu he => ?_)
        have h1 := List.all_eq_true.mp h u hu
        obtain ⟨pu, Lu, Su, Fu, Ru⟩ := u
        dsimp only at he h1
        subst he
        split at h1
        · rename_i ss hss
          exact ev_op_ok C hI0 hK hR hd hss (fun st hst => ih st (List.all_eq_true.mp h1 st hst))
        · cases h1
      · cases h
end HVC
/-- a contract by hand out of a walk of its body -/
theorem hk_ok_of {l : Launch} {T : en_T} {I : va_W → Prop} {J : Nat → Int → va_W → Prop} {κ : ek} {r : MethodName × ByteArray × Nat × Option FieldType} {o : Nat} (hr : en_ms[κ.1]? = some r) (ho : en_mo[κ.1]? = some o) (hp : Jvm.plainName r.1.cls = true) (hm : κ.2.1.length ≤ r.2.2.1) (hg : (ek_pre κ).all (fun f => f.2.2.isNone) = true)
    (body : ∀ (p : Program) (e : Env) (s : State) (m : MethodId) (args : Array Value) (below : List Frame) (meth : Method) (c : Code) (D : va_G) (tys : List (ClassId × FieldType)) (aK aV b0 : Nat) (ad : Nat → Nat) (w0 : va_W), ev_cx p s m args meth c r.2.1 r.2.2.1 o D tys aK aV b0 → meth.sig.returnType = r.2.2.2 →
      ev_go p l e (ek_rm κ) s m args below meth c (MQ below (hk_qc D tys T J b0 ad w0 κ r.2.2.2.isSome) args s 0 0 (fun q => b0 ≤ q)) D tys T I b0 r.2.2.1 ad w0 (ek_wr κ) (fun _ => 0) (ek_start κ r.2.2.1)) : hk_ok l T I J κ := by
  intro r' hr' D tys aK aV b0 ad w0 as hargs hw hI hpre
  rw [hr] at hr'
  cases hr'
  refine Met.ofW (cc := r.2.1) (maxL := r.2.2.1) (ret := r.2.2.2) hp rfl ?_
  intro p e s m args below meth c s₁ B hml hv
  obtain ⟨rfl, hsz, hP, hD, hKs, hX⟩ := hv
  have hts := atoms_spec (ws := Cond.code r.1 r.2.1 r.2.2.1 r.2.2.2 :: en_ws) B.pre
  have hown : s.vm.findClass (en_nm o) = some m.cls := by rw [en_mo_ok hr ho]; exact findClass_of_methodNamed B.named
  have C : ev_cx p s m as.toArray meth c r.2.1 r.2.2.1 o D tys aK aV b0 := ⟨B.exec, B.bytes, hml, hown, fun w hw => hts w (List.mem_cons_of_mem _ hw), hKs, hsz, hX, B.notSynchronized⟩
  rw [lg_entry_eq]
  obtain ⟨h1, h2⟩ := ev_L0_ok (γ := fun _ => 0) hargs hm
  refine body p e s m as.toArray below meth c D tys aK aV b0 ad w0 C B.returns s.heap [] _ [] w0 ⟨h1, h2, trivial, fun f hf => ?_, fun r hr => absurd hr List.not_mem_nil, hw, hI, hP, hD, va_S.rf, ev_fr.rf _ _⟩
  obtain ⟨x, h3, h4⟩ := ev_ff_use (γ := fun _ => 0) (hpre f hf)
  have h5 := List.all_eq_true.mp hg f hf
  simp only [Option.isNone_iff_eq_none] at h5
  exact ⟨x, h3, h4, by rw [h5]; trivial⟩
def ev_all {α : Type} (f : α → Prop) : List α → Prop
  | [] => True
  | a :: as => f a ∧ ev_all f as
theorem ev_all_mem {α : Type} {f : α → Prop} : ∀ {as : List α}, ev_all f as → ∀ a ∈ as, f a
  | [], _, a, h => absurd h List.not_mem_nil
  | b :: as, h, a, ha => by
    rcases List.mem_cons.mp ha with rfl | ha
    · exact h.1
    · exact ev_all_mem h.2 a ha
section HVG
variable {p : Program} {l : Launch} {e : Env} {R : Room} {s : State} {m : MethodId} {args : Array Value} {below : List Frame} {meth : Method} {c : Code} {Q : State → Prop} {cc : ByteArray} {D : va_G} {tys : List (ClassId × FieldType)} {T : en_T} {I : va_W → Prop} {aK aV b0 nL o : Nat} {ad : Nat → Nat} {w0 : va_W} {γ γ' : Nat → Int} {pc : Nat} {L : List ev_l} {S : List ev_s} {FS : List ev_f} {RS : List ev_r}
theorem hv_go (C : ev_cx p s m args meth c cc nL o D tys aK aV b0) {sp : List (Nat × Nat)} (hI0 : ev_hI I sp) (Wr : List (Nat × Nat)) (K : List ek) (rm : Nat × Nat) (SP : List (Nat × List (Nat × List Int))) (xs : List ev_S) (n : Nat) {st : ev_S} (hR : R.frames = rm.1 ∧ R.locals = rm.2) (h : hv_run o cc T sp Wr K rm SP xs n st = true) (hK : ev_all (ek_ok l T I) K) (hX : ev_all (ev_go p l e R s m args below meth c Q D tys T I b0 nL ad w0 Wr γ) xs) : ev_go p l e R s m args below meth c Q D tys T I b0 nL ad w0 Wr γ st :=
  hv_run_ok C hI0 (fun κ hκ => ev_all_mem hK κ hκ) hR (fun x hx => ev_all_mem hX x hx) n st h
/-- a mark moved on -/
theorem ev_go_re {Wr : List (Nat × Nat)} {i n : Nat} {d : Int} {q : Int × Int} (hi : L[i]? = some (some (.inl q, some (n, d)))) (hg : ev_ng (L.set i none) FS = true) (hγ : γ' n = γ n + d) (k : ev_go p l e R s m args below meth c Q D tys T I b0 nL ad w0 Wr γ' (pc, L.set i (some (.inl q, some (n, 0))), S, FS, RS)) : ev_go p l e R s m args below meth c Q D tys T I b0 nL ad w0 Wr γ (pc, L, S, FS, RS) := by
  intro H locs ls stk ws ha
  dsimp only at ha
  obtain ⟨⟨z1, z2, z3⟩, hl, hs, hF, hR, hw, hI, hr⟩ := ha
  have hl0 : ev_lo T.length ad γ (L.set i none) ls := fun j u hj => by
    by_cases hji : j = i
    · subst hji
      rw [List.getElem?_set_self (List.getElem?_eq_some_iff.mp hi).1] at hj
      cases hj
    · rw [List.getElem?_set_ne (Ne.symm hji)] at hj
      exact hl j u hj
  have hl1 := ev_ng_lo (γ' := γ') hg hl0
  refine k H locs ls stk ws ⟨⟨z1, z2, by dsimp only; rw [List.length_set]; exact z3⟩, fun j u hj => ?_, hs, ev_ng_f hg hF, hR, hw, hI, hr⟩
  by_cases hji : j = i
  · subst hji
    dsimp only at hj
    rw [List.getElem?_set_self (List.getElem?_eq_some_iff.mp hi).1] at hj
    cases hj
    obtain ⟨x, g1, g2, z, rfl, g3⟩ := hl j _ hi
    exact ⟨_, g1, g2, z, rfl, by dsimp only at g3 ⊢; omega⟩
  · refine hl1 j u ?_
    rw [List.getElem?_set_ne (Ne.symm hji)]
    dsimp only at hj
    rw [List.getElem?_set_ne (Ne.symm hji)] at hj
    exact hj
end HVG
theorem tag_f {ls : Array Slot} {w : va_W} {j f : Nat} {d : Int} {x : Int32} (h : ev_tag ls w (2, j, f, d) (.int x)) : x.toInt = gI w j f + d := by
  rcases h with h | ⟨i, y, e1, e2, e3⟩
  · cases h
  · cases e1
    rw [e3, gI_loc e2]
theorem tag_l {ls : Array Slot} {w : va_W} {i b : Nat} {d : Int} {x : Int32} (h : ev_tag ls w (1, i, b, d) (.int x)) : ∃ y : Int32, ls[i]? = some (.val (.int y)) ∧ x.toInt = y.toInt + d := by
  rcases h with h | ⟨j, y, e1, e2, e3⟩
  · cases h
  · cases e1
    exact ⟨y, e2, e3⟩
theorem lo_mark {N : Nat} {ad : Nat → Nat} {γ : Nat → Int} {L : List ev_l} {ls : Array Slot} {i n : Nat} {d : Int} {q : Int × Int} {y : Int32} (h : ev_lo N ad γ L ls) (hi : L[i]? = some (some (.inl q, some (n, d)))) (hy : ls[i]? = some (.val (.int y))) : y.toInt = γ n + d := by
  obtain ⟨x, h1, -, z, rfl, h3⟩ := h i _ hi
  rw [h1] at hy
  cases hy
  exact h3
theorem hk_ex {α : Type} {l : Launch} {T : en_T} {A : α → va_W → Prop} {J : Nat → Int → va_W → Prop} {κ : ek} (h : ∀ v, hk_ok l T (A v) J κ) : hk_ok l T (fun w => ∃ v, A v w) J κ := by
  intro r hr D tys aK aV b0 ad w0 as h1 h2 h3 h4
  obtain ⟨v, h3⟩ := h3
  exact h v r hr D tys aK aV b0 ad w0 as h1 h2 h3 h4
theorem hk_mono {l : Launch} {T : en_T} {I I' : va_W → Prop} {J J' : Nat → Int → va_W → Prop} {κ : ek} (h : hk_ok l T I' J κ) (h0 : ∀ w, I w → I' w) (hJ : ∀ i x w, J i x w → J' i x w) : hk_ok l T I J' κ := by
  intro r hr D tys aK aV b0 ad w0 as h1 h2 h3 h4
  refine met_post (h r hr D tys aK aV b0 ad w0 as h1 h2 (h0 _ h3) h4) (fun a st o t hq => ?_)
  cases hv : r.2.2.2.isSome with
  | true =>
    rw [hv] at hq
    obtain ⟨⟨x, u, e1, ⟨p1, p2, i, v, p3, p4, p5, p6⟩, e3⟩, e4⟩ := hq
    exact ⟨⟨x, u, e1, ⟨p1, p2, i, v, p3, hJ _ _ _ p4, p5, p6⟩, e3⟩, e4⟩
  | false =>
    rw [hv] at hq
    obtain ⟨⟨u, e1, ⟨p1, p2, i, v, p3, p4, p5, p6⟩, e3⟩, e4⟩ := hq
    exact ⟨⟨u, e1, ⟨p1, p2, i, v, p3, hJ _ _ _ p4, p5, p6⟩, e3⟩, e4⟩
section HVX
variable {p : Program} {l : Launch} {e : Env} {R : Room} {s : State} {m : MethodId} {args : Array Value} {below : List Frame} {meth : Method} {c : Code} {Q : State → Prop} {D : va_G} {tys : List (ClassId × FieldType)} {T : en_T} {b0 nL : Nat} {ad : Nat → Nat} {w0 : va_W} {Wr : List (Nat × Nat)} {γ : Nat → Int} {st : ev_S}
theorem ev_go_exP {α : Type} {A : α → Prop} {B : α → va_W → Prop} (k : ∀ v, A v → ev_go p l e R s m args below meth c Q D tys T (B v) b0 nL ad w0 Wr γ st) : ev_go p l e R s m args below meth c Q D tys T (fun w => ∃ v, A v ∧ B v w) b0 nL ad w0 Wr γ st := by
  intro H locs ls stk ws ha
  obtain ⟨hz, hl, hs, hF, hR, hw, ⟨v, hA, hI⟩, hr⟩ := ha
  exact k v hA H locs ls stk ws ⟨hz, hl, hs, hF, hR, hw, hI, hr⟩
theorem ev_go_or {A B : va_W → Prop} (k1 : ev_go p l e R s m args below meth c Q D tys T A b0 nL ad w0 Wr γ st) (k2 : ev_go p l e R s m args below meth c Q D tys T B b0 nL ad w0 Wr γ st) : ev_go p l e R s m args below meth c Q D tys T (fun w => A w ∨ B w) b0 nL ad w0 Wr γ st := by
  intro H locs ls stk ws ha
  obtain ⟨hz, hl, hs, hF, hR, hw, hI, hr⟩ := ha
  rcases hI with hI | hI
  · exact k1 H locs ls stk ws ⟨hz, hl, hs, hF, hR, hw, hI, hr⟩
  · exact k2 H locs ls stk ws ⟨hz, hl, hs, hF, hR, hw, hI, hr⟩
end HVX
theorem ev_hI_and {I E : va_W → Prop} {sp : List (Nat × Nat)} (h1 : ev_hI I sp) (h2 : ev_hI E sp) : ev_hI (fun w => I w ∧ E w) sp := fun W1 w w' h3 h4 h5 => ⟨h1 W1 w w' h3 h4 h5.1, h2 W1 w w' h3 h4 h5.2⟩
theorem ek_upS {l : Launch} {T : en_T} {I I0 : va_W → Prop} {κ : ek} {sp : List (Nat × Nat)} (hI : ev_hI I sp) (h0 : ∀ w, I w → I0 w) (hd : (ek_wr κ).all (fun q => !sp.contains q) = true) (h : ek_ok l T I0 κ) : ek_ok l T I κ := by
  refine ek_up h h0 (fun w w' hf hi => hI (ek_wr κ) w w' (fun q hq hm => ?_) hf hi)
  have h1 := List.all_eq_true.mp hd q hq
  rw [List.contains_iff_mem.mpr hm] at h1
  cases h1
theorem lo_rng {N : Nat} {ad : Nat → Nat} {γ : Nat → Int} {L : List ev_l} {ls : Array Slot} {i n : Nat} {d : Int} {q : Int × Int} (h : ev_lo N ad γ L ls) (hi : L[i]? = some (some (.inl q, some (n, d)))) : q.1 ≤ γ n + d ∧ γ n + d ≤ q.2 := by
  obtain ⟨x, h1, ⟨y, rfl, h2⟩, z, e, h3⟩ := h i _ hi
  cases e
  rw [← h3]
  exact h2
def ev_nk (k : Nat) (L : List ev_l) (FS : List ev_f) : Bool := L.all (fun q => match q with
  | some (_, some (n, _)) => n != k
  | _ => true) && FS.all (fun f => match f.2.2 with
  | some (n, _) => n != k
  | none => true)
def ev_gu (k : Nat) (v : Int) (γ : Nat → Int) : Nat → Int := fun n => if n = k then v else γ n
section HVY
variable {p : Program} {l : Launch} {e : Env} {R : Room} {s : State} {m : MethodId} {args : Array Value} {below : List Frame} {meth : Method} {c : Code} {Q : State → Prop} {D : va_G} {tys : List (ClassId × FieldType)} {T : en_T} {I : va_W → Prop} {b0 nL : Nat} {ad : Nat → Nat} {w0 : va_W} {Wr : List (Nat × Nat)} {γ : Nat → Int} {pc : Nat} {L : List ev_l} {S : List ev_s} {FS : List ev_f} {RS : List ev_r}
/-- a mark that is not in use may be given -/
theorem ev_go_gv (k : Nat) (v : Int) (h : ev_nk k L FS = true) (go : ev_go p l e R s m args below meth c Q D tys T I b0 nL ad w0 Wr (ev_gu k v γ) (pc, L, S, FS, RS)) : ev_go p l e R s m args below meth c Q D tys T I b0 nL ad w0 Wr γ (pc, L, S, FS, RS) := by
  intro H locs ls stk ws ha
  dsimp only at ha
  obtain ⟨hz, hl, hs, hF, hr⟩ := ha
  unfold ev_nk at h
  rw [Bool.and_eq_true] at h
  refine go H locs ls stk ws ⟨hz, fun i q hi => ?_, hs, fun f hf => ?_, hr⟩
  · obtain ⟨x, h1, h2, h3⟩ := hl i q hi
    refine ⟨x, h1, h2, ?_⟩
    have h4 := List.all_eq_true.mp h.1 _ (List.mem_of_getElem? hi)
    obtain ⟨a, g⟩ := q
    cases g with
    | none => trivial
    | some u =>
      obtain ⟨n, d⟩ := u
      simp only [bne_iff_ne, ne_eq] at h4
      obtain ⟨y, e1, e2⟩ := h3
      refine ⟨y, e1, ?_⟩
      unfold ev_gu
      dsimp only
      rw [if_neg h4]
      exact e2
  · obtain ⟨x, h1, h2, h3⟩ := hF f hf
    refine ⟨x, h1, h2, ?_⟩
    have h4 := List.all_eq_true.mp h.2 f hf
    obtain ⟨a, b, g⟩ := f
    cases g with
    | none => trivial
    | some u =>
      obtain ⟨n, d⟩ := u
      simp only [bne_iff_ne, ne_eq] at h4
      obtain ⟨y, e1, e2⟩ := h3
      refine ⟨y, e1, ?_⟩
      unfold ev_gu
      dsimp only
      rw [if_neg h4]
      exact e2
theorem ev_go_lo {i n : Nat} {d : Int} {q : Int × Int} (hi : L[i]? = some (some (.inl q, some (n, d)))) (go : q.1 ≤ γ n + d → γ n + d ≤ q.2 → ev_go p l e R s m args below meth c Q D tys T I b0 nL ad w0 Wr γ (pc, L, S, FS, RS)) : ev_go p l e R s m args below meth c Q D tys T I b0 nL ad w0 Wr γ (pc, L, S, FS, RS) := by
  intro H locs ls stk ws ha
  have h := lo_rng ha.2.1 hi
  exact go h.1 h.2 H locs ls stk ws ha
end HVY
theorem hk_exP {α : Type} {l : Launch} {T : en_T} {A : α → Prop} {B : α → va_W → Prop} {J : Nat → Int → va_W → Prop} {κ : ek} (h : ∀ v, A v → hk_ok l T (B v) J κ) : hk_ok l T (fun w => ∃ v, A v ∧ B v w) J κ := by
  intro r hr D tys aK aV b0 ad w0 as h1 h2 h3 h4
  obtain ⟨v, h5, h3⟩ := h3
  exact h v h5 r hr D tys aK aV b0 ad w0 as h1 h2 h3 h4
theorem ek_and {l : Launch} {T : en_T} {A E : va_W → Prop} {κ : ek} (h : ek_ok l T A κ) (hE : ∀ w w', ev_fr (ek_wr κ) w w' → E w → E w') : ek_ok l T (fun w => A w ∧ E w) κ := by
  intro r hr D tys aK aV b0 ad w0 as h1 h2 h3 h4
  refine met_post (h r hr D tys aK aV b0 ad w0 as h1 h2 h3.1 h4) (fun a st o t hq => ?_)
  cases hv : r.2.2.2.isSome with
  | true =>
    rw [hv] at hq
    obtain ⟨⟨x, u, e1, ⟨p1, p2, p3, p4⟩, e3⟩, e4⟩ := hq
    exact ⟨⟨x, u, e1, ⟨p1, ⟨p2, hE _ _ p3 h3.2⟩, p3, p4⟩, e3⟩, e4⟩
  | false =>
    rw [hv] at hq
    obtain ⟨⟨u, e1, ⟨p1, p2, p3, p4⟩, e3⟩, e4⟩ := hq
    exact ⟨⟨u, e1, ⟨p1, ⟨p2, hE _ _ p3 h3.2⟩, p3, p4⟩, e3⟩, e4⟩
end
section
/-- the rows of the law that is being read: steps, operands, how many -/
def sC : List (Nat × Nat) := [(61, 999), (62, 999), (57, 8)]
def cV (S O : Nat → Int) (n : Int) (w : va_W) : Prop := gA w 61 = S ∧ gA w 62 = O ∧ gI w 57 8 = n
theorem cV_hI {S O : Nat → Int} {n : Int} : ev_hI (cV S O n) sC := by
  intro W1 w w' h1 h2 h
  obtain ⟨h3, h4, h5⟩ := h
  exact ⟨(gA_fr h2 (fun h => h1 _ h (by simp [sC]))).trans h3, (gA_fr h2 (fun h => h1 _ h (by simp [sC]))).trans h4, (gI_fr h2 (fun h => h1 _ h (by simp [sC]))).trans h5⟩
def kA (xs ys : Int × Int) : ek := (29, [.inr 59, .inl xs, .inl ys], [], [(57, 8), (61, 999), (62, 999)], [(some (.inl (-1, 239)), [])], 0, 0)
def uA (n : Int) (x : Int) (f : Nat → Int) : Nat → Int := fun k => if k = n.toNat then x else f k
theorem aS_0 (l : Launch) (S O : Nat → Int) (n : Int) : hk_ok l tQ (cV S O n) (fun _ v w => (v = -1 ∧ cV S O n w) ∨ (∃ q : Int × Int, (v = n ∧ 0 ≤ n ∧ n < 240 ∧ (48 ≤ q.1 ∧ q.1 ≤ 48) ∧ ((-2147483648) ≤ q.2 ∧ q.2 ≤ 2147483647)) ∧ cV (uA n q.1 S) (uA n q.2 O) (n + 1) w)) (kA (48, 48) ((-2147483648), 2147483647)) := by
  refine hk_ok_of (o := 0) (r := (yX0_addStep, prog_2_method_13_code, 3, some .int)) rfl rfl (by decide +kernel) (by decide) rfl (fun p e s m args below meth c D tys aK aV b0 ad w0 C hret => ?_)
  refine hv_go C cV_hI [(57, 8), (61, 999), (62, 999)] [] (0, 0) [] [(11, [none, none, none], [(.inl (-1, -1), ev_nt)], [], []), (21, [some (.inr 59, none), some (.inl (48, 48), none), some (.inl ((-2147483648), 2147483647), none)], [(.inl (48, 48), (1, 1, 0, 0)), (.inl (0, 239), (2, 57, 8, 0)), (.inr 63, ev_nt)], [((2, 57, 8), (0, 239), none)], [])] 40 ⟨rfl, rfl⟩ (by decide +kernel) trivial ⟨?_, ?_, trivial⟩
  · refine hs_iret C (i := 0) (fun ls w x _ _ _ hI hx _ => Or.inl ⟨?_, hI⟩) hret rfl rfl rfl (by decide) rfl rfl rfl (by decide +kernel)
    obtain ⟨h1, h2⟩ := hx
    dsimp only at h1 h2
    omega
  · refine hs_ast C (I' := fun w => ∃ x : Int, ((0 ≤ n ∧ n < 240) ∧ (48 ≤ x ∧ x ≤ 48)) ∧ cV (uA n x S) O n w) (t := (0, 240, -2147483648, 2147483647)) ?_ rfl rfl ?_ (by decide) (by decide) (by decide) (by decide +kernel) ?_
    · intro ls w w' i x hw hl hF hI hi ti hx tx i0 i1 hs hf
      obtain ⟨h1, h2, h3⟩ := hI
      have e := tag_f ti
      have e2 : i.toInt = n := by rw [e, h3]; omega
      have i2 : i.toInt < 240 := i1
      refine ⟨x.toInt, ⟨⟨by omega, by omega⟩, hx⟩, ?_, ?_, ?_⟩
      · rw [hs.1, h1, e2]
        rfl
      · rw [hs.2.1 62 (by decide), h2]
      · rw [hs.2.2, h3]
    · intro ls w i hw hl hF hI hi ti
      obtain ⟨h1, h2⟩ := hi
      dsimp only at h1 h2
      exact ⟨by omega, by show i.toInt < 240; omega⟩
    · refine ev_go_exP (fun x hx => ?_)
      refine hv_go C cV_hI [(57, 8), (61, 999), (62, 999)] [] (0, 0) [] [(31, [some (.inr 59, none), some (.inl (48, 48), none), some (.inl ((-2147483648), 2147483647), none)], [(.inl ((-2147483648), 2147483647), (1, 2, 0, 0)), (.inl (0, 239), (2, 57, 8, 0)), (.inr 64, ev_nt)], [((2, 57, 8), (0, 239), none)], [])] 40 ⟨rfl, rfl⟩ (by decide +kernel) trivial ⟨?_, trivial⟩
      refine hs_ast C (I' := fun w => ∃ y : Int, ((-2147483648) ≤ y ∧ y ≤ 2147483647) ∧ cV (uA n x S) (uA n y O) n w) (t := (0, 240, -2147483648, 2147483647)) ?_ rfl rfl ?_ (by decide) (by decide) (by decide) (by decide +kernel) ?_
      · intro ls w w' i y hw hl hF hI hi ti hx tx i0 i1 hs hf
        obtain ⟨h1, h2, h3⟩ := hI
        have e := tag_f ti
        have e2 : i.toInt = n := by rw [e, h3]; omega
        refine ⟨y.toInt, hx, ?_, ?_, ?_⟩
        · rw [hs.2.1 61 (by decide), h1]
        · rw [hs.1, h2, e2]
          rfl
        · rw [hs.2.2, h3]
      · intro ls w i hw hl hF hI hi ti
        obtain ⟨h1, h2⟩ := hi
        dsimp only at h1 h2
        exact ⟨by omega, by show i.toInt < 240; omega⟩
      · refine ev_go_exP (fun y hy => ?_)
        refine hv_go C cV_hI [(57, 8), (61, 999), (62, 999)] [] (0, 0) [] [(39, [some (.inr 59, none), none, none], [(.inl (1, 240), (2, 57, 8, 1)), (.inr 59, ev_nt)], [], [])] 40 ⟨rfl, rfl⟩ (by decide +kernel) trivial ⟨?_, trivial⟩
        refine hs_put C (I' := cV (uA n x S) (uA n y O) (n + 1)) (i := 50) (ci := 0) (f := 8) (j := 57) (b := (0, 240)) ?_ (by decide +kernel) rfl (by decide) rfl rfl (by decide) (by decide) (by decide) (by decide) (by decide +kernel) ?_
        · intro ls w w' z hw hl hF hI hz tz hp hf
          obtain ⟨h1, h2, h3⟩ := hI
          exact ⟨by rw [hp.2.2, h1], by rw [hp.2.2, h2], by rw [hp.1, tag_f tz, h3]⟩
        · refine hv_go C cV_hI [(57, 8), (61, 999), (62, 999)] [] (0, 0) [] [(48, [none, none, none], [(.inl (0, 239), (2, 57, 8, -1))], [], [])] 40 ⟨rfl, rfl⟩ (by decide +kernel) trivial ⟨?_, trivial⟩
          refine hs_iret C (i := 0) (fun ls w v _ _ _ hI hv tv => Or.inr ⟨(x, y), ⟨?_, hx.1.1, hx.1.2, hx.2, hy⟩, hI⟩) hret rfl rfl rfl (by decide) rfl rfl rfl (by decide +kernel)
          rw [tag_f tv, hI.2.2]
          omega
theorem aS_1 (l : Launch) (S O : Nat → Int) (n : Int) : hk_ok l tQ (cV S O n) (fun _ v w => (v = -1 ∧ cV S O n w) ∨ (∃ q : Int × Int, (v = n ∧ 0 ≤ n ∧ n < 240 ∧ ((-1) ≤ q.1 ∧ q.1 ≤ 255) ∧ (0 ≤ q.2 ∧ q.2 ≤ 6)) ∧ cV (uA n q.1 S) (uA n q.2 O) (n + 1) w)) (kA ((-1), 255) (0, 6)) := by
  refine hk_ok_of (o := 0) (r := (yX0_addStep, prog_2_method_13_code, 3, some .int)) rfl rfl (by decide +kernel) (by decide) rfl (fun p e s m args below meth c D tys aK aV b0 ad w0 C hret => ?_)
  refine hv_go C cV_hI [(57, 8), (61, 999), (62, 999)] [] (0, 0) [] [(11, [none, none, none], [(.inl (-1, -1), ev_nt)], [], []), (21, [some (.inr 59, none), some (.inl ((-1), 255), none), some (.inl (0, 6), none)], [(.inl ((-1), 255), (1, 1, 0, 0)), (.inl (0, 239), (2, 57, 8, 0)), (.inr 63, ev_nt)], [((2, 57, 8), (0, 239), none)], [])] 40 ⟨rfl, rfl⟩ (by decide +kernel) trivial ⟨?_, ?_, trivial⟩
  · refine hs_iret C (i := 0) (fun ls w x _ _ _ hI hx _ => Or.inl ⟨?_, hI⟩) hret rfl rfl rfl (by decide) rfl rfl rfl (by decide +kernel)
    obtain ⟨h1, h2⟩ := hx
    dsimp only at h1 h2
    omega
  · refine hs_ast C (I' := fun w => ∃ x : Int, ((0 ≤ n ∧ n < 240) ∧ ((-1) ≤ x ∧ x ≤ 255)) ∧ cV (uA n x S) O n w) (t := (0, 240, -2147483648, 2147483647)) ?_ rfl rfl ?_ (by decide) (by decide) (by decide) (by decide +kernel) ?_
    · intro ls w w' i x hw hl hF hI hi ti hx tx i0 i1 hs hf
      obtain ⟨h1, h2, h3⟩ := hI
      have e := tag_f ti
      have e2 : i.toInt = n := by rw [e, h3]; omega
      have i2 : i.toInt < 240 := i1
      refine ⟨x.toInt, ⟨⟨by omega, by omega⟩, hx⟩, ?_, ?_, ?_⟩
      · rw [hs.1, h1, e2]
        rfl
      · rw [hs.2.1 62 (by decide), h2]
      · rw [hs.2.2, h3]
    · intro ls w i hw hl hF hI hi ti
      obtain ⟨h1, h2⟩ := hi
      dsimp only at h1 h2
      exact ⟨by omega, by show i.toInt < 240; omega⟩
    · refine ev_go_exP (fun x hx => ?_)
      refine hv_go C cV_hI [(57, 8), (61, 999), (62, 999)] [] (0, 0) [] [(31, [some (.inr 59, none), some (.inl ((-1), 255), none), some (.inl (0, 6), none)], [(.inl (0, 6), (1, 2, 0, 0)), (.inl (0, 239), (2, 57, 8, 0)), (.inr 64, ev_nt)], [((2, 57, 8), (0, 239), none)], [])] 40 ⟨rfl, rfl⟩ (by decide +kernel) trivial ⟨?_, trivial⟩
      refine hs_ast C (I' := fun w => ∃ y : Int, (0 ≤ y ∧ y ≤ 6) ∧ cV (uA n x S) (uA n y O) n w) (t := (0, 240, -2147483648, 2147483647)) ?_ rfl rfl ?_ (by decide) (by decide) (by decide) (by decide +kernel) ?_
      · intro ls w w' i y hw hl hF hI hi ti hx tx i0 i1 hs hf
        obtain ⟨h1, h2, h3⟩ := hI
        have e := tag_f ti
        have e2 : i.toInt = n := by rw [e, h3]; omega
        refine ⟨y.toInt, hx, ?_, ?_, ?_⟩
        · rw [hs.2.1 61 (by decide), h1]
        · rw [hs.1, h2, e2]
          rfl
        · rw [hs.2.2, h3]
      · intro ls w i hw hl hF hI hi ti
        obtain ⟨h1, h2⟩ := hi
        dsimp only at h1 h2
        exact ⟨by omega, by show i.toInt < 240; omega⟩
      · refine ev_go_exP (fun y hy => ?_)
        refine hv_go C cV_hI [(57, 8), (61, 999), (62, 999)] [] (0, 0) [] [(39, [some (.inr 59, none), none, none], [(.inl (1, 240), (2, 57, 8, 1)), (.inr 59, ev_nt)], [], [])] 40 ⟨rfl, rfl⟩ (by decide +kernel) trivial ⟨?_, trivial⟩
        refine hs_put C (I' := cV (uA n x S) (uA n y O) (n + 1)) (i := 50) (ci := 0) (f := 8) (j := 57) (b := (0, 240)) ?_ (by decide +kernel) rfl (by decide) rfl rfl (by decide) (by decide) (by decide) (by decide) (by decide +kernel) ?_
        · intro ls w w' z hw hl hF hI hz tz hp hf
          obtain ⟨h1, h2, h3⟩ := hI
          exact ⟨by rw [hp.2.2, h1], by rw [hp.2.2, h2], by rw [hp.1, tag_f tz, h3]⟩
        · refine hv_go C cV_hI [(57, 8), (61, 999), (62, 999)] [] (0, 0) [] [(48, [none, none, none], [(.inl (0, 239), (2, 57, 8, -1))], [], [])] 40 ⟨rfl, rfl⟩ (by decide +kernel) trivial ⟨?_, trivial⟩
          refine hs_iret C (i := 0) (fun ls w v _ _ _ hI hv tv => Or.inr ⟨(x, y), ⟨?_, hx.1.1, hx.1.2, hx.2, hy⟩, hI⟩) hret rfl rfl rfl (by decide) rfl rfl rfl (by decide +kernel)
          rw [tag_f tv, hI.2.2]
          omega
theorem aS_2 (l : Launch) (S O : Nat → Int) (n : Int) : hk_ok l tQ (cV S O n) (fun _ v w => (v = -1 ∧ cV S O n w) ∨ (∃ q : Int × Int, (v = n ∧ 0 ≤ n ∧ n < 240 ∧ (124 ≤ q.1 ∧ q.1 ≤ 124) ∧ (0 ≤ q.2 ∧ q.2 ≤ 0)) ∧ cV (uA n q.1 S) (uA n q.2 O) (n + 1) w)) (kA (124, 124) (0, 0)) := by
  refine hk_ok_of (o := 0) (r := (yX0_addStep, prog_2_method_13_code, 3, some .int)) rfl rfl (by decide +kernel) (by decide) rfl (fun p e s m args below meth c D tys aK aV b0 ad w0 C hret => ?_)
  refine hv_go C cV_hI [(57, 8), (61, 999), (62, 999)] [] (0, 0) [] [(11, [none, none, none], [(.inl (-1, -1), ev_nt)], [], []), (21, [some (.inr 59, none), some (.inl (124, 124), none), some (.inl (0, 0), none)], [(.inl (124, 124), (1, 1, 0, 0)), (.inl (0, 239), (2, 57, 8, 0)), (.inr 63, ev_nt)], [((2, 57, 8), (0, 239), none)], [])] 40 ⟨rfl, rfl⟩ (by decide +kernel) trivial ⟨?_, ?_, trivial⟩
  · refine hs_iret C (i := 0) (fun ls w x _ _ _ hI hx _ => Or.inl ⟨?_, hI⟩) hret rfl rfl rfl (by decide) rfl rfl rfl (by decide +kernel)
    obtain ⟨h1, h2⟩ := hx
    dsimp only at h1 h2
    omega
  · refine hs_ast C (I' := fun w => ∃ x : Int, ((0 ≤ n ∧ n < 240) ∧ (124 ≤ x ∧ x ≤ 124)) ∧ cV (uA n x S) O n w) (t := (0, 240, -2147483648, 2147483647)) ?_ rfl rfl ?_ (by decide) (by decide) (by decide) (by decide +kernel) ?_
    · intro ls w w' i x hw hl hF hI hi ti hx tx i0 i1 hs hf
      obtain ⟨h1, h2, h3⟩ := hI
      have e := tag_f ti
      have e2 : i.toInt = n := by rw [e, h3]; omega
      have i2 : i.toInt < 240 := i1
      refine ⟨x.toInt, ⟨⟨by omega, by omega⟩, hx⟩, ?_, ?_, ?_⟩
      · rw [hs.1, h1, e2]
        rfl
      · rw [hs.2.1 62 (by decide), h2]
      · rw [hs.2.2, h3]
    · intro ls w i hw hl hF hI hi ti
      obtain ⟨h1, h2⟩ := hi
      dsimp only at h1 h2
      exact ⟨by omega, by show i.toInt < 240; omega⟩
    · refine ev_go_exP (fun x hx => ?_)
      refine hv_go C cV_hI [(57, 8), (61, 999), (62, 999)] [] (0, 0) [] [(31, [some (.inr 59, none), some (.inl (124, 124), none), some (.inl (0, 0), none)], [(.inl (0, 0), (1, 2, 0, 0)), (.inl (0, 239), (2, 57, 8, 0)), (.inr 64, ev_nt)], [((2, 57, 8), (0, 239), none)], [])] 40 ⟨rfl, rfl⟩ (by decide +kernel) trivial ⟨?_, trivial⟩
      refine hs_ast C (I' := fun w => ∃ y : Int, (0 ≤ y ∧ y ≤ 0) ∧ cV (uA n x S) (uA n y O) n w) (t := (0, 240, -2147483648, 2147483647)) ?_ rfl rfl ?_ (by decide) (by decide) (by decide) (by decide +kernel) ?_
      · intro ls w w' i y hw hl hF hI hi ti hx tx i0 i1 hs hf
        obtain ⟨h1, h2, h3⟩ := hI
        have e := tag_f ti
        have e2 : i.toInt = n := by rw [e, h3]; omega
        refine ⟨y.toInt, hx, ?_, ?_, ?_⟩
        · rw [hs.2.1 61 (by decide), h1]
        · rw [hs.1, h2, e2]
          rfl
        · rw [hs.2.2, h3]
      · intro ls w i hw hl hF hI hi ti
        obtain ⟨h1, h2⟩ := hi
        dsimp only at h1 h2
        exact ⟨by omega, by show i.toInt < 240; omega⟩
      · refine ev_go_exP (fun y hy => ?_)
        refine hv_go C cV_hI [(57, 8), (61, 999), (62, 999)] [] (0, 0) [] [(39, [some (.inr 59, none), none, none], [(.inl (1, 240), (2, 57, 8, 1)), (.inr 59, ev_nt)], [], [])] 40 ⟨rfl, rfl⟩ (by decide +kernel) trivial ⟨?_, trivial⟩
        refine hs_put C (I' := cV (uA n x S) (uA n y O) (n + 1)) (i := 50) (ci := 0) (f := 8) (j := 57) (b := (0, 240)) ?_ (by decide +kernel) rfl (by decide) rfl rfl (by decide) (by decide) (by decide) (by decide) (by decide +kernel) ?_
        · intro ls w w' z hw hl hF hI hz tz hp hf
          obtain ⟨h1, h2, h3⟩ := hI
          exact ⟨by rw [hp.2.2, h1], by rw [hp.2.2, h2], by rw [hp.1, tag_f tz, h3]⟩
        · refine hv_go C cV_hI [(57, 8), (61, 999), (62, 999)] [] (0, 0) [] [(48, [none, none, none], [(.inl (0, 239), (2, 57, 8, -1))], [], [])] 40 ⟨rfl, rfl⟩ (by decide +kernel) trivial ⟨?_, trivial⟩
          refine hs_iret C (i := 0) (fun ls w v _ _ _ hI hv tv => Or.inr ⟨(x, y), ⟨?_, hx.1.1, hx.1.2, hx.2, hy⟩, hI⟩) hret rfl rfl rfl (by decide) rfl rfl rfl (by decide +kernel)
          rw [tag_f tv, hI.2.2]
          omega
theorem aS_3 (l : Launch) (S O : Nat → Int) (n : Int) : hk_ok l tQ (cV S O n) (fun _ v w => (v = -1 ∧ cV S O n w) ∨ (∃ q : Int × Int, (v = n ∧ 0 ≤ n ∧ n < 240 ∧ (38 ≤ q.1 ∧ q.1 ≤ 38) ∧ (0 ≤ q.2 ∧ q.2 ≤ 0)) ∧ cV (uA n q.1 S) (uA n q.2 O) (n + 1) w)) (kA (38, 38) (0, 0)) := by
  refine hk_ok_of (o := 0) (r := (yX0_addStep, prog_2_method_13_code, 3, some .int)) rfl rfl (by decide +kernel) (by decide) rfl (fun p e s m args below meth c D tys aK aV b0 ad w0 C hret => ?_)
  refine hv_go C cV_hI [(57, 8), (61, 999), (62, 999)] [] (0, 0) [] [(11, [none, none, none], [(.inl (-1, -1), ev_nt)], [], []), (21, [some (.inr 59, none), some (.inl (38, 38), none), some (.inl (0, 0), none)], [(.inl (38, 38), (1, 1, 0, 0)), (.inl (0, 239), (2, 57, 8, 0)), (.inr 63, ev_nt)], [((2, 57, 8), (0, 239), none)], [])] 40 ⟨rfl, rfl⟩ (by decide +kernel) trivial ⟨?_, ?_, trivial⟩
  · refine hs_iret C (i := 0) (fun ls w x _ _ _ hI hx _ => Or.inl ⟨?_, hI⟩) hret rfl rfl rfl (by decide) rfl rfl rfl (by decide +kernel)
    obtain ⟨h1, h2⟩ := hx
    dsimp only at h1 h2
    omega
  · refine hs_ast C (I' := fun w => ∃ x : Int, ((0 ≤ n ∧ n < 240) ∧ (38 ≤ x ∧ x ≤ 38)) ∧ cV (uA n x S) O n w) (t := (0, 240, -2147483648, 2147483647)) ?_ rfl rfl ?_ (by decide) (by decide) (by decide) (by decide +kernel) ?_
    · intro ls w w' i x hw hl hF hI hi ti hx tx i0 i1 hs hf
      obtain ⟨h1, h2, h3⟩ := hI
      have e := tag_f ti
      have e2 : i.toInt = n := by rw [e, h3]; omega
      have i2 : i.toInt < 240 := i1
      refine ⟨x.toInt, ⟨⟨by omega, by omega⟩, hx⟩, ?_, ?_, ?_⟩
      · rw [hs.1, h1, e2]
        rfl
      · rw [hs.2.1 62 (by decide), h2]
      · rw [hs.2.2, h3]
    · intro ls w i hw hl hF hI hi ti
      obtain ⟨h1, h2⟩ := hi
      dsimp only at h1 h2
      exact ⟨by omega, by show i.toInt < 240; omega⟩
    · refine ev_go_exP (fun x hx => ?_)
      refine hv_go C cV_hI [(57, 8), (61, 999), (62, 999)] [] (0, 0) [] [(31, [some (.inr 59, none), some (.inl (38, 38), none), some (.inl (0, 0), none)], [(.inl (0, 0), (1, 2, 0, 0)), (.inl (0, 239), (2, 57, 8, 0)), (.inr 64, ev_nt)], [((2, 57, 8), (0, 239), none)], [])] 40 ⟨rfl, rfl⟩ (by decide +kernel) trivial ⟨?_, trivial⟩
      refine hs_ast C (I' := fun w => ∃ y : Int, (0 ≤ y ∧ y ≤ 0) ∧ cV (uA n x S) (uA n y O) n w) (t := (0, 240, -2147483648, 2147483647)) ?_ rfl rfl ?_ (by decide) (by decide) (by decide) (by decide +kernel) ?_
      · intro ls w w' i y hw hl hF hI hi ti hx tx i0 i1 hs hf
        obtain ⟨h1, h2, h3⟩ := hI
        have e := tag_f ti
        have e2 : i.toInt = n := by rw [e, h3]; omega
        refine ⟨y.toInt, hx, ?_, ?_, ?_⟩
        · rw [hs.2.1 61 (by decide), h1]
        · rw [hs.1, h2, e2]
          rfl
        · rw [hs.2.2, h3]
      · intro ls w i hw hl hF hI hi ti
        obtain ⟨h1, h2⟩ := hi
        dsimp only at h1 h2
        exact ⟨by omega, by show i.toInt < 240; omega⟩
      · refine ev_go_exP (fun y hy => ?_)
        refine hv_go C cV_hI [(57, 8), (61, 999), (62, 999)] [] (0, 0) [] [(39, [some (.inr 59, none), none, none], [(.inl (1, 240), (2, 57, 8, 1)), (.inr 59, ev_nt)], [], [])] 40 ⟨rfl, rfl⟩ (by decide +kernel) trivial ⟨?_, trivial⟩
        refine hs_put C (I' := cV (uA n x S) (uA n y O) (n + 1)) (i := 50) (ci := 0) (f := 8) (j := 57) (b := (0, 240)) ?_ (by decide +kernel) rfl (by decide) rfl rfl (by decide) (by decide) (by decide) (by decide) (by decide +kernel) ?_
        · intro ls w w' z hw hl hF hI hz tz hp hf
          obtain ⟨h1, h2, h3⟩ := hI
          exact ⟨by rw [hp.2.2, h1], by rw [hp.2.2, h2], by rw [hp.1, tag_f tz, h3]⟩
        · refine hv_go C cV_hI [(57, 8), (61, 999), (62, 999)] [] (0, 0) [] [(48, [none, none, none], [(.inl (0, 239), (2, 57, 8, -1))], [], [])] 40 ⟨rfl, rfl⟩ (by decide +kernel) trivial ⟨?_, trivial⟩
          refine hs_iret C (i := 0) (fun ls w v _ _ _ hI hv tv => Or.inr ⟨(x, y), ⟨?_, hx.1.1, hx.1.2, hx.2, hy⟩, hI⟩) hret rfl rfl rfl (by decide) rfl rfl rfl (by decide +kernel)
          rw [tag_f tv, hI.2.2]
          omega
def kS (k : Int) : ek := (35, [.inr 59, .inl (k, k)], [], [(62, 999)], [(none, [])], 0, 0)
theorem sT (l : Launch) (S O : Nat → Int) (n k : Int) (hk : -1 ≤ k ∧ k < 240) : hk_ok l tQ (cV S O n) (fun _ _ w => (k < 0 ∧ cV S O n w) ∨ (0 ≤ k ∧ cV S (uA k n O) n w)) (kS k) := by
  refine hk_ok_of (o := 0) (r := (yX0_skipToHere, prog_2_method_14_code, 2, none)) rfl rfl (by decide +kernel) (Nat.le_refl 2) rfl (fun p e s m args below meth c D tys aK aV b0 ad w0 C hret => ?_)
  refine ev_go_gam (γ' := fun _ => k) rfl ?_
  refine ev_go_mark (i := 1) (n := 0) (q' := (-1, 239)) rfl ⟨hk.1, by have := hk.2; dsimp only; omega⟩ rfl ?_
  refine hv_go C cV_hI [(62, 999)] [] (0, 0) [] [(21, [none, some (.inl (-1, -1), some (0, 0))], [], [], []), (20, [none, some (.inl (0, 239), some (0, 0))], [(.inl (0, 240), (2, 57, 8, 0)), (.inl (0, 239), (1, 1, 0, 0)), (.inr 64, ev_nt)], [], [])] 20 (st := (0, [some (.inr 59, none), some (.inl (-1, 239), some (0, 0))], [], [], [])) ⟨rfl, rfl⟩ (by decide +kernel) trivial ⟨?_, ?_, trivial⟩
  · refine hs_vret C (i := 0) (fun ls w _ hl _ hI => Or.inl ⟨?_, hI⟩) hret rfl rfl rfl rfl (by decide +kernel)
    have h := lo_rng (i := 1) hl rfl
    dsimp only at h
    omega
  · refine hs_ast C (I' := fun w => 0 ≤ k ∧ cV S (uA k n O) n w) (t := (0, 240, -2147483648, 2147483647)) ?_ rfl rfl ?_ (by decide) (by decide) (List.mem_cons_self) (by decide +kernel) ?_
    · intro ls w w' i y hw hl hF hI hi ti hx tx i0 i1 hs hf
      obtain ⟨h1, h2, h3⟩ := hI
      obtain ⟨u, g1, g2⟩ := tag_l ti
      have g3 : u.toInt = k + 0 := lo_mark (i := 1) hl rfl g1
      have e2 : i.toInt = k := by omega
      refine ⟨by omega, by rw [hs.2.1 61 (by decide), h1], ?_, by rw [hs.2.2, h3]⟩
      rw [hs.1, h2, e2, tag_f tx, h3]
      simp only [Int.add_zero]
      rfl
    · intro ls w i hw hl hF hI hi ti
      obtain ⟨h1, h2⟩ := hi
      dsimp only at h1 h2
      exact ⟨by omega, by show i.toInt < 240; omega⟩
    · refine hs_vret C (i := 0) (fun ls w _ hl _ hI => Or.inr hI) hret rfl rfl rfl rfl (by decide +kernel)
/-- what is kept while a law is read: any P that adding steps and setting skips keep -/
def cP (P : (Nat → Int) → (Nat → Int) → Int → Prop) (w : va_W) : Prop := P (gA w 61) (gA w 62) (gI w 57 8)
def pC (P : (Nat → Int) → (Nat → Int) → Int → Prop) : Prop := (∀ S O n x y, P S O n → 0 ≤ n → n < 240 → (x = 97 → 0 ≤ y ∧ y ≤ 6) → P (uA n x S) (uA n y O) (n + 1)) ∧ (∀ S O n k, P S O n → 0 ≤ k → k < 240 → S k.toNat ≠ 97 → P S (uA k n O) n)
def cX (P : (Nat → Int) → (Nat → Int) → Int → Prop) (v : Int) : (Nat → Int) → (Nat → Int) → Int → Prop := fun S O m => P S O m ∧ (0 ≤ v → S v.toNat ≠ 97 ∧ v < m)
theorem cX_ok {P : (Nat → Int) → (Nat → Int) → Int → Prop} (h : pC P) (v : Int) : pC (cX P v) := by
  refine ⟨fun S O n x y h1 h2 h3 h4 => ⟨h.1 S O n x y h1.1 h2 h3 h4, fun hv => ?_⟩, fun S O n k h1 h2 h3 h4 => ⟨h.2 S O n k h1.1 h2 h3 h4, h1.2⟩⟩
  obtain ⟨g1, g2⟩ := h1.2 hv
  refine ⟨?_, by omega⟩
  unfold uA
  rw [if_neg (by omega)]
  exact g1
theorem cP_hI {P : (Nat → Int) → (Nat → Int) → Int → Prop} : ev_hI (cP P) sC := by
  intro W1 w w' h1 h2 h
  unfold cP at *
  rw [gA_fr h2 (fun h => h1 _ h (by simp [sC])), gA_fr h2 (fun h => h1 _ h (by simp [sC])), gI_fr h2 (fun h => h1 _ h (by simp [sC]))]
  exact h
theorem cP_ex {P : (Nat → Int) → (Nat → Int) → Int → Prop} (w : va_W) (h : cP P w) : ∃ v : (Nat → Int) × (Nat → Int) × Int, P v.1 v.2.1 v.2.2 ∧ cV v.1 v.2.1 v.2.2 w := ⟨(gA w 61, gA w 62, gI w 57 8), h, rfl, rfl, rfl⟩
theorem cP_of {P : (Nat → Int) → (Nat → Int) → Int → Prop} {S O : Nat → Int} {n : Int} {w : va_W} (h : P S O n) (hv : cV S O n w) : cP P w := by
  obtain ⟨h1, h2, h3⟩ := hv
  unfold cP
  rw [h1, h2, h3]
  exact h
theorem aK_0 (l : Launch) {P : (Nat → Int) → (Nat → Int) → Int → Prop} (hP : pC P) : ek_ok l tQ (cP P) (kA (48, 48) (-2147483648, 2147483647)) := by
  refine hk_ek (J := fun _ _ w => cP P w) (hk_exP (A := fun v : (Nat → Int) × (Nat → Int) × Int => P v.1 v.2.1 v.2.2) (fun v hv => hk_mono (aS_0 l v.1 v.2.1 v.2.2) (fun w h => h) (fun i x w h => ?_))) cP_ex (fun i x w w' _ _ h => h)
  rcases h with ⟨-, h⟩ | ⟨q, ⟨h1, h2, h3, h4, h5⟩, h⟩
  · exact cP_of hv h
  · exact cP_of (hP.1 _ _ _ _ _ hv h2 h3 (fun e => by omega)) h
theorem aK_1 (l : Launch) {P : (Nat → Int) → (Nat → Int) → Int → Prop} (hP : pC P) : ek_ok l tQ (cP P) (kA (-1, 255) (0, 6)) := by
  refine hk_ek (J := fun _ _ w => cP P w) (hk_exP (A := fun v : (Nat → Int) × (Nat → Int) × Int => P v.1 v.2.1 v.2.2) (fun v hv => hk_mono (aS_1 l v.1 v.2.1 v.2.2) (fun w h => h) (fun i x w h => ?_))) cP_ex (fun i x w w' _ _ h => h)
  rcases h with ⟨-, h⟩ | ⟨q, ⟨h1, h2, h3, h4, h5⟩, h⟩
  · exact cP_of hv h
  · exact cP_of (hP.1 _ _ _ _ _ hv h2 h3 (fun e => h5)) h
theorem aX_124 (l : Launch) {P : (Nat → Int) → (Nat → Int) → Int → Prop} (hP : pC P) : hk_ok l tQ (cP P) (fun _ v w => cP (cX P v) w) (kA (124, 124) (0, 0)) := by
  refine hk_mono (hk_exP (A := fun v : (Nat → Int) × (Nat → Int) × Int => P v.1 v.2.1 v.2.2) (J := fun _ v w => cP (cX P v) w) (fun v hv => hk_mono (aS_2 l v.1 v.2.1 v.2.2) (fun w h => h) (fun i x w h => ?_))) cP_ex (fun i x w h => h)
  rcases h with ⟨h1, h⟩ | ⟨q, ⟨h1, h2, h3, h4, h5⟩, h⟩
  · exact cP_of (P := cX P x) ⟨hv, fun h => by omega⟩ h
  · refine cP_of (P := cX P x) ⟨hP.1 _ _ _ _ _ hv h2 h3 (fun e => by omega), fun _ => ⟨?_, by omega⟩⟩ h
    unfold uA
    rw [if_pos (by rw [h1])]
    omega
theorem aX_38 (l : Launch) {P : (Nat → Int) → (Nat → Int) → Int → Prop} (hP : pC P) : hk_ok l tQ (cP P) (fun _ v w => cP (cX P v) w) (kA (38, 38) (0, 0)) := by
  refine hk_mono (hk_exP (A := fun v : (Nat → Int) × (Nat → Int) × Int => P v.1 v.2.1 v.2.2) (J := fun _ v w => cP (cX P v) w) (fun v hv => hk_mono (aS_3 l v.1 v.2.1 v.2.2) (fun w h => h) (fun i x w h => ?_))) cP_ex (fun i x w h => h)
  rcases h with ⟨h1, h⟩ | ⟨q, ⟨h1, h2, h3, h4, h5⟩, h⟩
  · exact cP_of (P := cX P x) ⟨hv, fun h => by omega⟩ h
  · refine cP_of (P := cX P x) ⟨hP.1 _ _ _ _ _ hv h2 h3 (fun e => by omega), fun _ => ⟨?_, by omega⟩⟩ h
    unfold uA
    rw [if_pos (by rw [h1])]
    omega
theorem sX (l : Launch) {P : (Nat → Int) → (Nat → Int) → Int → Prop} (hP : pC P) (x : Int) (hx : -1 ≤ x ∧ x < 240) : hk_ok l tQ (cP (cX P x)) (fun _ _ w => cP P w) (kS x) := by
  refine hk_mono (hk_exP (A := fun v : (Nat → Int) × (Nat → Int) × Int => cX P x v.1 v.2.1 v.2.2) (J := fun _ _ w => cP P w) (fun v hv => hk_mono (sT l v.1 v.2.1 v.2.2 x hx) (fun w h => h) (fun i y w h => ?_))) cP_ex (fun i x w h => h)
  rcases h with ⟨h1, h⟩ | ⟨h1, h⟩
  · exact cP_of hv.1 h
  · exact cP_of (hP.2 _ _ _ _ hv.1 h1 hx.2 (hv.2 h1).1) h
end
section
/-! codes of the reference's laws: what its reader keeps while it builds them, what its reckoner needs of them -/
def uN (n : Nat) (x : Int) (f : Nat → Int) : Nat → Int := fun k => if k = n then x else f k
theorem uN_s (n : Nat) (x : Int) (f : Nat → Int) : uN n x f n = x := if_pos rfl
theorem uN_n {n k : Nat} (x : Int) (f : Nat → Int) (h : k ≠ n) : uN n x f k = f k := if_neg h
def jmp (x : Int) : Prop := x / 1048576 = 11 ∨ x / 1048576 = 12
def qS (x : Int) : Bool := decide (2 ≤ x) && decide (x ≤ 6)
def qN (x : Int) : Bool := !(decide (x = 11) || decide (x = 12))
def cnt (q : Int → Bool) (wt : Nat → Int) : Nat → Int
  | 0 => 0
  | n + 1 => cnt q wt n + (match q (wt n / 1048576) with
    | true => 1
    | false => 0)
theorem cnt_nn {q : Int → Bool} {wt : Nat → Int} : ∀ n : Nat, 0 ≤ cnt q wt n
  | 0 => Int.le_refl 0
  | n + 1 => by
    unfold cnt
    have := cnt_nn (q := q) (wt := wt) n
    split <;> omega
theorem cnt_upd {q : Int → Bool} {wt : Nat → Int} {w : Nat} {x : Int} : ∀ {n : Nat}, n ≤ w → cnt q (uN w x wt) n = cnt q wt n
  | 0, _ => rfl
  | n + 1, h => by
    unfold cnt
    rw [cnt_upd (by omega), uN_n _ _ (by omega)]
theorem cnt_t {q : Int → Bool} {wt : Nat → Int} {n : Nat} (h : q (wt n / 1048576) = true) : cnt q wt (n + 1) = cnt q wt n + 1 := by
  show cnt q wt n + _ = _
  rw [h]
theorem cnt_f {q : Int → Bool} {wt : Nat → Int} {n : Nat} (h : q (wt n / 1048576) = false) : cnt q wt (n + 1) = cnt q wt n := by
  show cnt q wt n + _ = _
  rw [h]
  exact Int.add_zero _
theorem qS_t {x : Int} (h1 : 2 ≤ x) (h2 : x ≤ 6) : qS x = true := by simp [qS, h1, h2]
theorem qS_f {x : Int} (h : x < 2 ∨ 6 < x) : qS x = false := by
  unfold qS
  rw [Bool.and_eq_false_iff]
  rcases h with h | h
  · exact Or.inl (decide_eq_false (by omega))
  · exact Or.inr (decide_eq_false (by omega))
theorem qN_t {x : Int} (h1 : x ≠ 11) (h2 : x ≠ 12) : qN x = true := by simp [qN, h1, h2]
theorem qN_f {x : Int} (h : x = 11 ∨ x = 12) : qN x = false := by
  unfold qN
  rcases h with h | h <;> simp [h]
/-- a code that is closed, with heights D -/
def mOk (f D : Nat → Int) (b k : Nat) : Prop := 0 ≤ f k ∧ ((f k < 1048576 ∧ D (k + 1) ≤ D k + 1) ∨ (1048576 ≤ f k ∧ f k ≤ 1048582 ∧ D (k + 1) ≤ D k + 1) ∨ (f k / 1048576 = 10 ∧ 1 ≤ D k ∧ D (k + 1) ≤ D k) ∨ (jmp (f k) ∧ 1 ≤ D k ∧ D (k + 1) ≤ D k - 1 ∧ (k : Int) < f k % 1048576 ∧ f k % 1048576 ≤ b ∧ D (f k % 1048576).toNat ≤ D k) ∨ (2 ≤ f k / 1048576 ∧ f k / 1048576 ≤ 9 ∧ 2 ≤ D k ∧ D (k + 1) ≤ D k - 1))
/-- a jump that has not landed -/
def mOp (f D : Nat → Int) (k : Nat) : Prop := 0 ≤ f k ∧ jmp (f k) ∧ 1 ≤ D k ∧ D (k + 1) ≤ D k - 1
theorem mOk_up {f f' D D' : Nat → Int} {b b' k : Nat} (h : mOk f D b k) (hf : f' k = f k) (hb : b ≤ b') (h0 : D' k = D k) (h1 : D' (k + 1) ≤ D (k + 1)) (hD : ∀ t, k < t → t ≤ b → D' t ≤ D t) : mOk f' D' b' k := by
  unfold mOk at *
  rw [hf, h0]
  obtain ⟨a, h⟩ := h
  refine ⟨a, ?_⟩
  rcases h with ⟨h, i⟩ | ⟨h, i, j⟩ | ⟨h, i, j⟩ | ⟨h, i, j, m, n, o⟩ | ⟨h, i, j, m⟩
  · exact Or.inl ⟨h, by omega⟩
  · exact Or.inr (Or.inl ⟨h, i, by omega⟩)
  · exact Or.inr (Or.inr (Or.inl ⟨h, i, by omega⟩))
  · have := hD (f k % 1048576).toNat (by omega) (by omega)
    exact Or.inr (Or.inr (Or.inr (Or.inl ⟨h, i, by omega, m, by omega, by omega⟩)))
  · exact Or.inr (Or.inr (Or.inr (Or.inr ⟨h, i, j, by omega⟩)))
theorem mOp_up {f f' D D' : Nat → Int} {k : Nat} (h : mOp f D k) (hf : f' k = f k) (h0 : D' k = D k) (h1 : D' (k + 1) ≤ D (k + 1)) : mOp f' D' k := by
  unfold mOp at *
  rw [hf, h0]
  exact ⟨h.1, h.2.1, h.2.2.1, by have := h.2.2.2; omega⟩
/-- a segment that is closed -/
def mSeg (f : Nat → Int) (a b : Nat) : Prop := a ≤ b ∧ b ≤ 240 ∧ ∃ D : Nat → Int, D a = 0 ∧ ∀ k, a ≤ k → k < b → mOk f D b k
theorem mSeg_same {f f' : Nat → Int} {a b : Nat} (h : mSeg f a b) (hf : ∀ k, k < b → f' k = f k) : mSeg f' a b := by
  obtain ⟨h1, h2, D, h3, h4⟩ := h
  exact ⟨h1, h2, D, h3, fun k hk hb => mOk_up (h4 k hk hb) (hf k hb) (Nat.le_refl _) rfl (Int.le_refl _) (fun _ _ _ => Int.le_refl _)⟩
/-- the heights, the codes, those that wait -/
def pD (s : Nat) (need : Int) (σ : Nat → Int) (c : Nat) (wt : Nat → Int) (w : Nat) (D : Nat → Int) : Prop :=
  D s = 0 ∧ cnt qS wt w + need ≤ D c ∧ (∀ k, s ≤ k → k < c → mOk σ D c k ∨ (mOp σ D k ∧ ∃ j, j < w ∧ jmp (wt j) ∧ wt j % 1048576 = k)) ∧ (∀ j, j < w → jmp (wt j) → (s : Int) ≤ wt j % 1048576 ∧ wt j % 1048576 < c ∧ jmp (σ (wt j % 1048576).toNat) ∧ cnt qS wt j + 1 ≤ D (wt j % 1048576).toNat)
def pZ (g : Nat → Int) (s : Nat) (need how : Int) (B N : Prop) (σ : Nat → Int) (c : Nat) (wt : Nat → Int) (w p : Nat) : Prop :=
  (∀ k, k < s → σ k = g k) ∧ s ≤ c ∧ w ≤ p ∧ (c : Int) + cnt qN wt w + how ≤ p ∧ (B → 1 ≤ w ∧ wt 0 / 1048576 = 13) ∧ (N → ∀ j, j < w → ¬ jmp (wt j)) ∧ (∀ j, j < w → 0 ≤ wt j ∧ ((2 ≤ wt j / 1048576 ∧ wt j / 1048576 ≤ 6) ∨ (10 ≤ wt j / 1048576 ∧ wt j / 1048576 ≤ 14))) ∧ ∃ D : Nat → Int, pD s need σ c wt w D
/-- a code is added -/
theorem pD_add {s : Nat} {need need' d y : Int} {σ : Nat → Int} {c : Nat} {wt : Nat → Int} {w : Nat} {D : Nat → Int} (h : pD s need σ c wt w D) (hs : s ≤ c) (hd : cnt qS wt w + need' ≤ d) (hy : mOk (uN c y σ) (uN (c + 1) d D) (c + 1) c ∨ (mOp (uN c y σ) (uN (c + 1) d D) c ∧ ∃ j, j < w ∧ jmp (wt j) ∧ wt j % 1048576 = c)) : pD s need' (uN c y σ) (c + 1) wt w (uN (c + 1) d D) := by
  obtain ⟨h1, h2, h3, h4⟩ := h
  refine ⟨by rw [uN_n _ _ (by omega)]; exact h1, by rw [uN_s]; exact hd, fun k hk hc => ?_, fun j hj hjm => ?_⟩
  · rcases Nat.lt_or_ge k c with hkc | hkc
    · rcases h3 k hk hkc with h5 | ⟨h5, h6⟩
      · exact Or.inl (mOk_up h5 (uN_n _ _ (by omega)) (by omega) (uN_n _ _ (by omega)) (by rw [uN_n _ _ (by omega)]; exact Int.le_refl _) (fun t _ ht => by rw [uN_n _ _ (by omega)]; exact Int.le_refl _))
      · exact Or.inr ⟨mOp_up h5 (uN_n _ _ (by omega)) (uN_n _ _ (by omega)) (by rw [uN_n _ _ (by omega)]; exact Int.le_refl _), h6⟩
    · have e : k = c := by omega
      subst e
      exact hy
  · obtain ⟨a1, a2, a3, a4⟩ := h4 j hj hjm
    refine ⟨a1, by omega, by rw [uN_n _ _ (by omega)]; exact a3, by rw [uN_n _ _ (by omega)]; exact a4⟩
theorem pZ_val {g : Nat → Int} {s : Nat} {need how y : Int} {B N : Prop} {σ : Nat → Int} {c : Nat} {wt : Nat → Int} {w p p' : Nat} (h : pZ g s need how B N σ c wt w p) (hy : (0 ≤ y ∧ y < 1048576) ∨ (1048576 ≤ y ∧ y ≤ 1048582)) (hp : p + 1 ≤ p') : pZ g s (need + 1) how B N (uN c y σ) (c + 1) wt w p' := by
  obtain ⟨h1, h2, h3, h4, h5, h6, h7, D, h8⟩ := h
  refine ⟨fun k hk => by rw [uN_n _ _ (by omega)]; exact h1 k hk, by omega, by omega, by omega, h5, h6, h7, uN (c + 1) (D c + 1) D, ?_⟩
  refine pD_add h8 h2 (by have := h8.2.1; omega) (Or.inl ?_)
  unfold mOk
  rw [uN_s, uN_s, uN_n _ _ (by omega)]
  refine ⟨by omega, ?_⟩
  rcases hy with hy | hy
  · exact Or.inl ⟨hy.2, Int.le_refl _⟩
  · exact Or.inr (Or.inl ⟨hy.1, hy.2, Int.le_refl _⟩)
/-- the topmost one that waits goes, and is no jump -/
theorem pD_pop {s : Nat} {need need' : Int} {σ : Nat → Int} {c : Nat} {wt : Nat → Int} {w : Nat} {D : Nat → Int} (h : pD s need σ c wt (w + 1) D) (hj : ¬ jmp (wt w)) (hn : cnt qS wt w + need' ≤ D c) : pD s need' σ c wt w D := by
  obtain ⟨h1, h2, h3, h4⟩ := h
  refine ⟨h1, hn, fun k hk hc => ?_, fun j hj1 hjm => h4 j (by omega) hjm⟩
  rcases h3 k hk hc with h5 | ⟨h5, j, h6, h7, h8⟩
  · exact Or.inl h5
  · refine Or.inr ⟨h5, j, ?_, h7, h8⟩
    rcases Nat.lt_or_ge j w with h9 | h9
    · exact h9
    · have e : j = w := by omega
      subst e
      exact absurd h7 hj
/-- a sign that waits is noted: two become one -/
theorem pZ_bin {g : Nat → Int} {s : Nat} {need how y : Int} {B N : Prop} {σ : Nat → Int} {c : Nat} {wt : Nat → Int} {w p : Nat} (h : pZ g s need how B N σ c wt (w + 1) p) (hn : 1 ≤ need) (ht : 2 ≤ wt w / 1048576 ∧ wt w / 1048576 ≤ 6) (hy : y = wt w / 1048576 * 1048576) : pZ g s need how B N (uN c y σ) (c + 1) wt w p := by
  obtain ⟨h1, h2, h3, h4, h5, h6, h7, D, h8⟩ := h
  have hnj : ¬ jmp (wt w) := by unfold jmp; omega
  rw [cnt_t (qN_t (by omega) (by omega))] at h4
  have h9 := h8.2.1
  have hnn := cnt_nn (q := qS) (wt := wt) w
  rw [cnt_t (qS_t ht.1 ht.2)] at h9
  refine ⟨fun k hk => by rw [uN_n _ _ (by omega)]; exact h1 k hk, by omega, by omega, by omega, fun hb => ?_, fun hN j hj => h6 hN j (by omega), fun j hj => h7 j (by omega), uN (c + 1) (D c - 1) D, ?_⟩
  · obtain ⟨a1, a2⟩ := h5 hb
    refine ⟨?_, a2⟩
    rcases Nat.eq_zero_or_pos w with e | e
    · subst e
      omega
    · exact e
  · refine pD_add (pD_pop (need' := need) h8 hnj (by omega)) h2 (by omega) (Or.inl ?_)
    unfold mOk
    rw [uN_s, uN_s, uN_n _ _ (by omega), hy]
    refine ⟨by omega, Or.inr (Or.inr (Or.inr (Or.inr ⟨by omega, by omega, by omega, Int.le_refl _⟩)))⟩
/-- not: noted and gone -/
theorem pZ_not {g : Nat → Int} {s : Nat} {need how : Int} {B N : Prop} {σ : Nat → Int} {c : Nat} {wt : Nat → Int} {w p : Nat} (h : pZ g s need how B N σ c wt (w + 1) p) (hn : 1 ≤ need) (ht : wt w / 1048576 = 10) : pZ g s need how B N (uN c 10485760 σ) (c + 1) wt w p := by
  obtain ⟨h1, h2, h3, h4, h5, h6, h7, D, h8⟩ := h
  have hnj : ¬ jmp (wt w) := by unfold jmp; omega
  rw [cnt_t (qN_t (by omega) (by omega))] at h4
  have h9 := h8.2.1
  have hnn := cnt_nn (q := qS) (wt := wt) w
  rw [cnt_f (qS_f (by omega))] at h9
  refine ⟨fun k hk => by rw [uN_n _ _ (by omega)]; exact h1 k hk, by omega, by omega, by omega, fun hb => ?_, fun hN j hj => h6 hN j (by omega), fun j hj => h7 j (by omega), uN (c + 1) (D c) D, ?_⟩
  · obtain ⟨a1, a2⟩ := h5 hb
    refine ⟨?_, a2⟩
    rcases Nat.eq_zero_or_pos w with e | e
    · subst e
      omega
    · exact e
  · refine pD_add (pD_pop (need' := need) h8 hnj (by omega)) h2 (by omega) (Or.inl ?_)
    unfold mOk
    rw [uN_s, uN_s, uN_n _ _ (by omega)]
    refine ⟨by omega, Or.inr (Or.inr (Or.inl ⟨by omega, by omega, Int.le_refl _⟩))⟩
/-- a comparison: two become one -/
theorem pZ_cmp {g : Nat → Int} {s : Nat} {y : Int} {B N : Prop} {σ : Nat → Int} {c : Nat} {wt : Nat → Int} {w p : Nat} (h : pZ g s 2 1 B N σ c wt w p) (hy : y = 7340032 ∨ y = 8388608 ∨ y = 9437184) : pZ g s 1 0 B N (uN c y σ) (c + 1) wt w p := by
  obtain ⟨h1, h2, h3, h4, h5, h6, h7, D, h8⟩ := h
  have h9 := h8.2.1
  have hnn := cnt_nn (q := qS) (wt := wt) w
  refine ⟨fun k hk => by rw [uN_n _ _ (by omega)]; exact h1 k hk, by omega, by omega, by omega, h5, h6, h7, uN (c + 1) (D c - 1) D, ?_⟩
  refine pD_add h8 h2 (by omega) (Or.inl ?_)
  unfold mOk
  rw [uN_s, uN_s, uN_n _ _ (by omega)]
  refine ⟨by omega, Or.inr (Or.inr (Or.inr (Or.inr ⟨by omega, by omega, by omega, Int.le_refl _⟩)))⟩
/-- one more waits: a sign (takes one away), or what opens -/
theorem pD_push {s : Nat} {need need' x : Int} {σ : Nat → Int} {c : Nat} {wt : Nat → Int} {w : Nat} {D : Nat → Int} (h : pD s need σ c wt w D) (hj : ¬ jmp x) (hn : cnt qS (uN w x wt) (w + 1) + need' ≤ D c) : pD s need' σ c (uN w x wt) (w + 1) D := by
  obtain ⟨h1, h2, h3, h4⟩ := h
  refine ⟨h1, hn, fun k hk hc => ?_, fun j hj1 hjm => ?_⟩
  · rcases h3 k hk hc with h5 | ⟨h5, j, h6, h7, h8⟩
    · exact Or.inl h5
    · exact Or.inr ⟨h5, j, by omega, by rw [uN_n _ _ (by omega)]; exact h7, by rw [uN_n _ _ (by omega)]; exact h8⟩
  · rcases Nat.lt_or_ge j w with h9 | h9
    · rw [uN_n _ _ (by omega)] at hjm ⊢
      rw [cnt_upd (by omega)]
      exact h4 j h9 hjm
    · have e : j = w := by omega
      subst e
      rw [uN_s] at hjm
      exact absurd hjm hj
theorem pZ_push {g : Nat → Int} {s : Nat} {need need' how x : Int} {B B' N : Prop} {σ : Nat → Int} {c : Nat} {wt : Nat → Int} {w p : Nat} (h : pZ g s need how B N σ c wt w p) (hx : 0 ≤ x ∧ (((2 ≤ x / 1048576 ∧ x / 1048576 ≤ 6) ∧ need' + 1 = need) ∨ ((x / 1048576 = 10 ∨ x / 1048576 = 13 ∨ x / 1048576 = 14) ∧ need' = need))) (hB : B' → B ∨ (w = 0 ∧ x / 1048576 = 13)) : pZ g s need' how B' N σ c (uN w x wt) (w + 1) (p + 1) := by
  obtain ⟨h1, h2, h3, h4, h5, h6, h7, D, h8⟩ := h
  have hnj : ¬ jmp x := by unfold jmp; omega
  have h9 := h8.2.1
  have e1 : cnt qN (uN w x wt) (w + 1) = cnt qN wt w + 1 := by
    rw [cnt_t (by rw [uN_s]; exact qN_t (by omega) (by omega)), cnt_upd (Nat.le_refl _)]
  refine ⟨h1, h2, by omega, by rw [e1]; omega, fun hb => ?_, fun hN j hj => ?_, fun j hj => ?_, D, pD_push h8 hnj ?_⟩
  · rcases hB hb with hb | ⟨rfl, hb⟩
    · obtain ⟨a1, a2⟩ := h5 hb
      exact ⟨by omega, by rw [uN_n _ _ (by omega)]; exact a2⟩
    · exact ⟨by omega, by rw [uN_s]; exact hb⟩
  · rcases Nat.lt_or_ge j w with h10 | h10
    · rw [uN_n _ _ (by omega)]
      exact h6 hN j h10
    · have e : j = w := by omega
      subst e
      rw [uN_s]
      exact hnj
  · rcases Nat.lt_or_ge j w with h10 | h10
    · rw [uN_n _ _ (by omega)]
      exact h7 j h10
    · have e : j = w := by omega
      subst e
      rw [uN_s]
      exact ⟨hx.1, by omega⟩
  · rcases hx.2 with ⟨hx1, hx2⟩ | ⟨hx1, hx2⟩
    · rw [cnt_t (by rw [uN_s]; exact qS_t hx1.1 hx1.2), cnt_upd (Nat.le_refl _)]
      omega
    · rw [cnt_f (by rw [uN_s]; exact qS_f (by omega)), cnt_upd (Nat.le_refl _)]
      omega
theorem pZ_pop {g : Nat → Int} {s : Nat} {need how : Int} {B B' N : Prop} {σ : Nat → Int} {c : Nat} {wt : Nat → Int} {w p : Nat} (h : pZ g s need how B N σ c wt (w + 1) p) (ht : ¬ jmp (wt w)) (hB : B' → B ∧ 1 ≤ w) : pZ g s need how B' N σ c wt w p := by
  obtain ⟨h1, h2, h3, h4, h5, h6, h7, D, h8⟩ := h
  have h9 := h8.2.1
  have hm : cnt qS wt w ≤ cnt qS wt (w + 1) := by
    show cnt qS wt w ≤ cnt qS wt w + _
    split <;> omega
  have hm2 : cnt qN wt w ≤ cnt qN wt (w + 1) := by
    show cnt qN wt w ≤ cnt qN wt w + _
    split <;> omega
  exact ⟨h1, h2, by omega, by omega, fun hb => ⟨(hB hb).2, (h5 (hB hb).1).2⟩, fun hN j hj => h6 hN j (by omega), fun j hj => h7 j (by omega), D, pD_pop h8 ht (by omega)⟩
/-- a place further -/
theorem pZ_on {g : Nat → Int} {s : Nat} {need how how' : Int} {B N : Prop} {σ : Nat → Int} {c : Nat} {wt : Nat → Int} {w p p' : Nat} (h : pZ g s need how B N σ c wt w p) (hp : p ≤ p') (hh : how' - how ≤ (p' : Int) - p) : pZ g s need how' B N σ c wt w p' := by
  obtain ⟨h1, h2, h3, h4, h⟩ := h
  exact ⟨h1, h2, by omega, by omega, h⟩
/-- a jump: noted, and waits for its landing -/
theorem pZ_jmp {g : Nat → Int} {s : Nat} {o : Int} {B N : Prop} {σ : Nat → Int} {c : Nat} {wt : Nat → Int} {w p : Nat} (h : pZ g s 1 0 B N σ c wt w p) (ho : o = 11534336 ∨ o = 12582912) (hc : (c : Int) < 1048576) : pZ g s 0 0 B False (uN c o σ) (c + 1) (uN w (o + c) wt) (w + 1) (p + 1) := by
  obtain ⟨h1, h2, h3, h4, h5, h6, h7, D, h8⟩ := h
  have hj : jmp (o + c) := by unfold jmp; omega
  have hjo : jmp o := by unfold jmp; omega
  have hm : (o + c) % 1048576 = c := by omega
  have h9 := h8.2.1
  have hnn := cnt_nn (q := qS) (wt := wt) w
  have e1 : cnt qN (uN w (o + c) wt) (w + 1) = cnt qN wt w := by
    rw [cnt_f (by rw [uN_s]; exact qN_f hj), cnt_upd (Nat.le_refl _)]
  have e2 : cnt qS (uN w (o + c) wt) (w + 1) = cnt qS wt w := by
    rw [cnt_f (by rw [uN_s]; exact qS_f (by unfold jmp at hj; omega)), cnt_upd (Nat.le_refl _)]
  refine ⟨fun k hk => by rw [uN_n _ _ (by omega)]; exact h1 k hk, by omega, by omega, by rw [e1]; omega, fun hb => ?_, fun hN => hN.elim, fun j hj1 => ?_, uN (c + 1) (D c - 1) D, ?_⟩
  · obtain ⟨a1, a2⟩ := h5 hb
    exact ⟨by omega, by rw [uN_n _ _ (by omega)]; exact a2⟩
  · rcases Nat.lt_or_ge j w with h10 | h10
    · rw [uN_n _ _ (by omega)]
      exact h7 j h10
    · have e : j = w := by omega
      subst e
      rw [uN_s]
      unfold jmp at hj
      exact ⟨by omega, by omega⟩
  · obtain ⟨d1, d2, d3, d4⟩ := h8
    refine ⟨by rw [uN_n _ _ (by omega)]; exact d1, by rw [uN_s, e2]; omega, fun k hk hkc => ?_, fun j hj1 hjm => ?_⟩
    · rcases Nat.lt_or_ge k c with hkc | hkc
      · rcases d3 k hk hkc with h5 | ⟨h5, j, h6, h7, h8⟩
        · exact Or.inl (mOk_up h5 (uN_n _ _ (by omega)) (by omega) (uN_n _ _ (by omega)) (by rw [uN_n _ _ (by omega)]; exact Int.le_refl _) (fun t _ ht => by rw [uN_n _ _ (by omega)]; exact Int.le_refl _))
        · exact Or.inr ⟨mOp_up h5 (uN_n _ _ (by omega)) (uN_n _ _ (by omega)) (by rw [uN_n _ _ (by omega)]; exact Int.le_refl _), j, by omega, by rw [uN_n _ _ (by omega)]; exact h7, by rw [uN_n _ _ (by omega)]; exact h8⟩
      · have e : k = c := by omega
        subst e
        refine Or.inr ⟨?_, w, by omega, by rw [uN_s]; exact hj, by rw [uN_s]; exact hm⟩
        unfold mOp
        rw [uN_s, uN_s, uN_n _ _ (by omega)]
        exact ⟨by omega, hjo, by omega, Int.le_refl _⟩
    · rcases Nat.lt_or_ge j w with h10 | h10
      · rw [uN_n _ _ (by omega)] at hjm ⊢
        rw [cnt_upd (by omega)]
        obtain ⟨a1, a2, a3, a4⟩ := d4 j h10 hjm
        exact ⟨a1, by omega, by rw [uN_n _ _ (by omega)]; exact a3, by rw [uN_n _ _ (by omega)]; exact a4⟩
      · have e : j = w := by omega
        subst e
        rw [uN_s, hm, cnt_upd (Nat.le_refl _)]
        refine ⟨by omega, by omega, ?_, ?_⟩
        · rw [show (c : Int).toNat = c from rfl, uN_s]
          exact hjo
        · rw [show (c : Int).toNat = c from rfl, uN_n _ _ (by omega)]
          omega
/-- a jump lands -/
theorem pZ_land {g : Nat → Int} {s : Nat} {B N : Prop} {σ : Nat → Int} {c : Nat} {wt : Nat → Int} {w p f : Nat} (h : pZ g s 1 0 B N σ c wt (w + 1) p) (ht : jmp (wt w)) (hf : wt w % 1048576 = f) (hc : (c : Int) < 1048576) : pZ g s 1 0 B N (uN f (1048576 * (σ f / 1048576) + c) σ) c wt w p := by
  obtain ⟨h1, h2, h3, h4, h5, h6, h7, D, h8⟩ := h
  obtain ⟨d1, d2, d3, d4⟩ := h8
  obtain ⟨a1, a2, a3, a4⟩ := d4 w (by omega) ht
  rw [hf] at a1 a2 a3 a4
  rw [show (f : Int).toNat = f from rfl] at a3 a4
  have e1 : cnt qN wt (w + 1) = cnt qN wt w := cnt_f (qN_f ht)
  have e2 : cnt qS wt (w + 1) = cnt qS wt w := cnt_f (qS_f (by unfold jmp at ht; omega))
  have hnn := cnt_nn (q := qS) (wt := wt) w
  rw [e1] at h4
  rw [e2] at d2
  have hcf : mOk σ D c f ∨ mOp σ D f := by
    rcases d3 f (by omega) (by omega) with h | h
    · exact Or.inl h
    · exact Or.inr h.1
  have hf0 : 0 ≤ σ f ∧ D (f + 1) ≤ D f - 1 := by
    rcases hcf with h | h
    · refine ⟨h.1, ?_⟩
      unfold jmp at a3
      rcases h.2 with h | h | h | h | h
      · omega
      · omega
      · omega
      · exact h.2.2.1
      · omega
    · exact ⟨h.1, h.2.2.2⟩
  have hv : (1048576 * (σ f / 1048576) + (c : Int)) / 1048576 = σ f / 1048576 := by omega
  have hv2 : (1048576 * (σ f / 1048576) + (c : Int)) % 1048576 = c := by omega
  refine ⟨fun k hk => by rw [uN_n _ _ (by omega)]; exact h1 k hk, h2, by omega, h4, fun hb => ?_, fun hN j hj => h6 hN j (by omega), fun j hj => h7 j (by omega), uN c (cnt qS wt w + 1) D, ?_, ?_, fun k hk hkc => ?_, fun j hj hjm => ?_⟩
  · obtain ⟨b1, b2⟩ := h5 hb
    refine ⟨?_, b2⟩
    rcases Nat.eq_zero_or_pos w with e | e
    · subst e
      unfold jmp at ht
      omega
    · exact e
  · rw [uN_n _ _ (by omega)]
    exact d1
  · rw [uN_s]
    exact Int.le_refl _
  · have hle : ∀ t, uN c (cnt qS wt w + 1) D t ≤ D t := fun t => by
      by_cases e : t = c
      · subst e
        rw [uN_s]
        omega
      · rw [uN_n _ _ e]
        exact Int.le_refl _
    by_cases hkf : k = f
    · subst hkf
      refine Or.inl ?_
      have e0 : uN c (cnt qS wt w + 1) D k = D k := uN_n _ _ (by omega)
      unfold mOk
      rw [uN_s, hv2, e0, show (c : Int).toNat = c from rfl, uN_s]
      have := hle (k + 1)
      unfold jmp at a3 ⊢
      refine ⟨by omega, Or.inr (Or.inr (Or.inr (Or.inl ⟨by rw [hv]; exact a3, by omega, by omega, by omega, Int.le_refl _, a4⟩)))⟩
    · rcases d3 k hk hkc with h | ⟨h, j, h6, h7, h8⟩
      · exact Or.inl (mOk_up h (uN_n _ _ hkf) (Nat.le_refl _) (uN_n _ _ (by omega)) (hle _) (fun t _ _ => hle t))
      · refine Or.inr ⟨mOp_up h (uN_n _ _ hkf) (uN_n _ _ (by omega)) (hle _), j, ?_, h7, h8⟩
        rcases Nat.lt_or_ge j w with h9 | h9
        · exact h9
        · have e : j = w := by omega
          subst e
          omega
  · obtain ⟨b1, b2, b3, b4⟩ := d4 j (by omega) hjm
    refine ⟨b1, b2, ?_, ?_⟩
    · by_cases e : (wt j % 1048576).toNat = f
      · rw [e, uN_s]
        unfold jmp at a3 ⊢
        rw [hv]
        exact a3
      · rw [uN_n _ _ e]
        exact b3
    · rw [uN_n _ _ (by omega)]
      exact b4
/-- a new segment begins -/
theorem pZ_new {g σ : Nat → Int} {c p : Nat} {wt : Nat → Int} (hg : ∀ k, k < c → σ k = g k) (hc : c ≤ p) : pZ g c 0 0 False True σ c wt 0 p := by
  refine ⟨hg, Nat.le_refl _, Nat.zero_le _, by show (c : Int) + 0 + 0 ≤ p; omega, fun h => h.elim, fun _ j hj => absurd hj (Nat.not_lt_zero _), fun j hj => absurd hj (Nat.not_lt_zero _), fun _ => 0, rfl, Int.le_refl _, fun k h1 h2 => by omega, fun j hj => absurd hj (Nat.not_lt_zero _)⟩
/-- a segment is closed: where no jump waits -/
theorem pZ_end {g : Nat → Int} {s : Nat} {need how : Int} {B N : Prop} {σ : Nat → Int} {c : Nat} {wt : Nat → Int} {w p : Nat} (h : pZ g s need how B N σ c wt w p) (hN : N ∨ w = 0) (hc : c ≤ 240) : mSeg σ s c := by
  obtain ⟨h1, h2, h3, h4, h5, h6, h7, D, d1, d2, d3, d4⟩ := h
  refine ⟨h2, hc, D, d1, fun k hk hkc => ?_⟩
  rcases d3 k hk hkc with h | ⟨h, j, h8, h9, h10⟩
  · exact h
  · rcases hN with hN | hN
    · exact absurd h9 (h6 hN j h8)
    · omega
end
section
theorem gI_rng {tys : List (ClassId × FieldType)} {T : en_T} {ad : Nat → Nat} {w : va_W} {j f ci : Nat} {fs : List en_V} {b : Int × Int} (hw : ev_w tys T ad w) (hj : T[j]? = some (.inr (ci, fs))) (hf : fs[f]? = some (.inl b)) : (b.1 ≤ gI w j f ∧ gI w j f ≤ b.2) ∧ ∀ ls : Array Slot, ∃ x : Int32, ev_loc ls w (2, j, f) x ∧ x.toInt = gI w j f := by
  obtain ⟨e0, g1, vs, rfl, g2⟩ := hw.2 j _ hj
  obtain ⟨v, g3, z, rfl, g4⟩ := en_vs_get g2 hf
  rw [gI_eq g1 g3]
  exact ⟨g4, fun ls => ⟨z, ⟨_, _, _, g1, g3⟩, rfl⟩⟩
theorem gA_rng {tys : List (ClassId × FieldType)} {T : en_T} {ad : Nat → Nat} {w : va_W} {j : Nat} {t : Nat × Nat × Int × Int} (hw : ev_w tys T ad w) (hj : T[j]? = some (.inl t)) (h3 : t.1 ≠ 3) : ∀ k, k < t.2.1 → t.2.2.1 ≤ gA w j k ∧ gA w j k ≤ t.2.2.2 := by
  obtain ⟨e0, g1, ge⟩ := hw.2 j _ hj
  unfold ev_c at ge
  dsimp only at ge
  rw [if_neg h3] at ge
  obtain ⟨cA, f, rfl, g2, g3⟩ := ge
  intro k hk
  rw [gA_eq g1]
  exact g3 k hk
section HVT
variable {p : Program} {l : Launch} {e : Env} {R : Room} {s : State} {m : MethodId} {args : Array Value} {below : List Frame} {meth : Method} {c : Code} {Q : State → Prop} {cc : ByteArray} {D : va_G} {tys : List (ClassId × FieldType)} {T : en_T} {I I' : va_W → Prop} {aK aV b0 nL o : Nat} {ad : Nat → Nat} {w0 : va_W} {Wr : List (Nat × Nat)} {γ : Nat → Int} {pc : Nat} {L : List ev_l} {S : List ev_s} {FS : List ev_f} {RS : List ev_r}
/-- what is known of a field, as a fact -/
theorem ev_go_fact (j f : Nat) (b : Int × Int) {ci : Nat} {fs : List en_V} {b9 : Int × Int} (hj : T[j]? = some (.inr (ci, fs))) (hf : fs[f]? = some (.inl b9)) (h : ∀ w, ev_w tys T ad w → I w → b.1 ≤ gI w j f ∧ gI w j f ≤ b.2) (k : ev_go p l e R s m args below meth c Q D tys T I b0 nL ad w0 Wr γ (pc, L, S, ((2, j, f), b, none) :: FS, RS)) : ev_go p l e R s m args below meth c Q D tys T I b0 nL ad w0 Wr γ (pc, L, S, FS, RS) := by
  intro H locs ls stk ws ha
  dsimp only at ha
  obtain ⟨hz, hl, hs, hF, hR, hw, hI, hr⟩ := ha
  refine k H locs ls stk ws ⟨hz, hl, hs, fun g hg => ?_, hR, hw, hI, hr⟩
  rcases List.mem_cons.mp hg with rfl | hg
  · obtain ⟨x, h1, h2⟩ := (gI_rng hw hj hf).2 ls
    have h3 := h ws hw hI
    exact ⟨x, h1, ⟨by rw [h2]; exact h3.1, by rw [h2]; exact h3.2⟩, trivial⟩
  · exact hF g hg
/-- a marked local, known better -/
theorem ev_go_lset {i n : Nat} {d : Int} {q q' : Int × Int} (hi : L[i]? = some (some (.inl q, some (n, d)))) (hq : q'.1 ≤ γ n + d ∧ γ n + d ≤ q'.2) (k : ev_go p l e R s m args below meth c Q D tys T I b0 nL ad w0 Wr γ (pc, L.set i (some (.inl q', some (n, d))), S, FS, RS)) : ev_go p l e R s m args below meth c Q D tys T I b0 nL ad w0 Wr γ (pc, L, S, FS, RS) := by
  intro H locs ls stk ws ha
  dsimp only at ha
  obtain ⟨⟨z1, z2, z3⟩, hl, hs, hF, hR, hw, hI, hr⟩ := ha
  refine k H locs ls stk ws ⟨⟨z1, z2, by dsimp only; rw [List.length_set]; exact z3⟩, fun j u hj => ?_, hs, hF, hR, hw, hI, hr⟩
  by_cases hji : j = i
  · subst hji
    dsimp only at hj
    rw [List.getElem?_set_self (List.getElem?_eq_some_iff.mp hi).1] at hj
    cases hj
    obtain ⟨x, g1, ⟨z, rfl, g2⟩, y, e1, g3⟩ := hl j _ hi
    cases e1
    exact ⟨_, g1, ⟨z, rfl, by rw [g3]; exact hq.1, by rw [g3]; exact hq.2⟩, z, rfl, g3⟩
  · dsimp only at hj
    rw [List.getElem?_set_ne (Ne.symm hji)] at hj
    exact hl j u hj
/-- branches whose outcome is known -/
theorem hs_icmp (C : ev_cx p s m args meth c cc nL o D tys aK aV b0) {cd : Jvm.ClassFile.Cond} {off : Int} {q r : Int × Int} {tq tr : ev_t} (a b : Int) (hv : ∀ (ls : Array Slot) (w : va_W) (x y : Int32), ev_w tys T ad w → ev_lo T.length ad γ L ls → (∀ f ∈ FS, ev_fact γ ls w f) → I w → en_in q x → ev_tag ls w tq (.int x) → en_in r y → ev_tag ls w tr (.int y) → x.toInt = a ∧ y.toInt = b) (ht : decide (0 ≤ (pc : Int) + off) = true) (hd : decode cc pc = .ok (.if_icmp cd off, 3))
    (kt : ev_cd cd a b → ev_go p l e R s m args below meth c Q D tys T I b0 nL ad w0 Wr γ (((pc : Int) + off).toNat, L, S, FS, RS)) (kf : ¬ ev_cd cd a b → ev_go p l e R s m args below meth c Q D tys T I b0 nL ad w0 Wr γ (pc + 3, L, S, FS, RS)) : ev_go p l e R s m args below meth c Q D tys T I b0 nL ad w0 Wr γ (pc, L, (.inl r, tr) :: (.inl q, tq) :: S, FS, RS) := by
  intro H locs ls stk ws h
  dsimp only at h
  obtain ⟨h0, hl, hs, hF, hR, hw, hI, hr⟩ := h
  obtain ⟨y0, ys, rfl, ⟨y, rfl, hy⟩, ty, hs1⟩ := ev_stk_cons hs
  obtain ⟨x0, zs, rfl, ⟨x, rfl, hx⟩, tx, hs2⟩ := ev_stk_cons hs1
  obtain ⟨ea, eb⟩ := hv ls ws x y hw hl hF hI hx tx hy ty
  subst ea
  subst eb
  have kt : ev_cd cd x.toInt y.toInt → W p l e R s m args below meth c H locs 0 0 Q (F0 m ((pc : Int) + off).toNat ls zs) := fun hc => kt hc H locs ls zs ws ⟨h0, hl, hs2, hF, hR, hw, hI, hr⟩
  have kf : ¬ ev_cd cd x.toInt y.toInt → W p l e R s m args below meth c H locs 0 0 Q (F0 m (pc + 3) ls zs) := fun hc => kf hc H locs ls zs ws ⟨h0, hl, hs2, hF, hR, hw, hI, hr⟩
  cases cd
  · exact lv_icmp_eq C.1 C.2.1 hd (en_tgt ht) (fun h => kt ((fa_eq _ _).mp h)) (fun h => kf (fun h2 => h ((fa_eq _ _).mpr h2)))
  · exact lv_icmp_ne C.1 C.2.1 hd (en_tgt ht) (fun h => kt (fun h2 => h ((fa_eq _ _).mpr h2))) (fun h => kf (fun h2 => h2 ((fa_eq _ _).mp h)))
  · exact lv_icmp_lt C.1 C.2.1 hd (en_tgt ht) (fun h => kt ((fa_lt _ _).mp h)) (fun h => kf (fun h2 => h ((fa_lt _ _).mpr h2)))
  · exact lv_icmp_ge C.1 C.2.1 hd (en_tgt ht) (fun h => kt ((fa_le _ _).mp h)) (fun h => kf (fun h2 => h ((fa_le _ _).mpr h2)))
  · exact lv_icmp_gt C.1 C.2.1 hd (en_tgt ht) (fun h => kt ((fa_lt _ _).mp h)) (fun h => kf (fun h2 => h ((fa_lt _ _).mpr h2)))
  · exact lv_icmp_le C.1 C.2.1 hd (en_tgt ht) (fun h => kt ((fa_le _ _).mp h)) (fun h => kf (fun h2 => h ((fa_le _ _).mpr h2)))
end HVT
theorem fact_f {γ : Nat → Int} {ls : Array Slot} {w : va_W} {j f : Nat} {b : Int × Int} {g : Option (Nat × Int)} (h : ev_fact γ ls w ((2, j, f), b, g)) : b.1 ≤ gI w j f ∧ gI w j f ≤ b.2 := by
  obtain ⟨x, h1, h2, -⟩ := h
  rw [← gI_loc h1]
  exact h2
section HVU
variable {p : Program} {l : Launch} {e : Env} {R : Room} {s : State} {m : MethodId} {args : Array Value} {below : List Frame} {meth : Method} {c : Code} {Q : State → Prop} {cc : ByteArray} {D : va_G} {tys : List (ClassId × FieldType)} {T : en_T} {I : va_W → Prop} {aK aV b0 nL o : Nat} {ad : Nat → Nat} {w0 : va_W} {Wr : List (Nat × Nat)} {γ : Nat → Int} {pc : Nat} {L : List ev_l} {S : List ev_s} {FS : List ev_f} {RS : List ev_r}
theorem ev_go_all {P : Prop} (h : ∀ (ls : Array Slot) (w : va_W), ev_w tys T ad w → ev_lo T.length ad γ L ls → (∀ f ∈ FS, ev_fact γ ls w f) → I w → P) (k : P → ev_go p l e R s m args below meth c Q D tys T I b0 nL ad w0 Wr γ (pc, L, S, FS, RS)) : ev_go p l e R s m args below meth c Q D tys T I b0 nL ad w0 Wr γ (pc, L, S, FS, RS) := by
  intro H locs ls stk ws ha
  exact k (h ls ws ha.2.2.2.2.2.1 ha.2.1 ha.2.2.2.1 ha.2.2.2.2.2.2.1) H locs ls stk ws ha
/-- the rest of a division, just so -/
theorem hs_rem (C : ev_cx p s m args meth c cc nL o D tys aK aV b0) {v d : Int} {tq tr : ev_t} (hd0 : 0 < d) (hd : decode cc pc = .ok (.irem, 1)) (k : ev_go p l e R s m args below meth c Q D tys T I b0 nL ad w0 Wr γ (pc + 1, L, (.inl (v.tmod d, v.tmod d), ev_nt) :: S, FS, RS)) : ev_go p l e R s m args below meth c Q D tys T I b0 nL ad w0 Wr γ (pc, L, (.inl (d, d), tr) :: (.inl (v, v), tq) :: S, FS, RS) := by
  intro H locs ls stk ws h
  dsimp only at h
  obtain ⟨h0, hl, hs, hr⟩ := h
  obtain ⟨y0, ys, rfl, ⟨y, rfl, hy⟩, ty, hs1⟩ := ev_stk_cons hs
  obtain ⟨x0, zs, rfl, ⟨x, rfl, hx⟩, tx, hs2⟩ := ev_stk_cons hs1
  have e1 : y.toInt = d := by have h1 := hy.1; have h2 := hy.2; dsimp only at h1 h2; omega
  have e2 : x.toInt = v := by have h1 := hx.1; have h2 := hx.2; dsimp only at h1 h2; omega
  have hn : ¬ y = 0 := fun h => by rw [h] at e1; have : (0 : Int32).toInt = 0 := rfl; omega
  refine lv_irem C.1 C.2.1 hd hn (k H locs ls (.int (x - x / y * y) :: zs) ws ⟨h0, hl, ⟨⟨⟨_, rfl, ?_⟩, ev_tag0⟩, hs2⟩, hr⟩)
  have e3 := fb_tm (x := x) (y := y) (by omega)
  rw [e1, e2] at e3
  exact ⟨by dsimp only; omega, by dsimp only; omega⟩
end HVU
/-- the reference's reader: the text, its length; codes, how many; those that wait, how many; the place -/
def sM : List (Nat × Nat) := [(97, 999), (84, 24), (98, 999), (84, 25), (84, 19), (96, 999), (84, 20)]
def mV (tp : Nat → Int) (ln : Nat) (σ : Nat → Int) (c : Nat) (wt : Nat → Int) (w p : Nat) (ws : va_W) : Prop := gA ws 97 = σ ∧ gI ws 84 24 = (c : Int) ∧ gA ws 98 = wt ∧ gI ws 84 25 = (w : Int) ∧ gI ws 84 19 = (p : Int) ∧ gA ws 96 = tp ∧ gI ws 84 20 = (ln : Int)
section MV
variable {tp : Nat → Int} {ln : Nat} {σ : Nat → Int} {c : Nat} {wt : Nat → Int} {w p : Nat} {ws ws' : va_W}
theorem mV_hI : ev_hI (mV tp ln σ c wt w p) sM := by
  intro W1 w w' h1 h2 h
  obtain ⟨h3, h4, h5, h6, h7, h8, h9⟩ := h
  exact ⟨(gA_fr h2 (fun h => h1 _ h (by simp [sM]))).trans h3, (gI_fr h2 (fun h => h1 _ h (by simp [sM]))).trans h4, (gA_fr h2 (fun h => h1 _ h (by simp [sM]))).trans h5, (gI_fr h2 (fun h => h1 _ h (by simp [sM]))).trans h6, (gI_fr h2 (fun h => h1 _ h (by simp [sM]))).trans h7, (gA_fr h2 (fun h => h1 _ h (by simp [sM]))).trans h8, (gI_fr h2 (fun h => h1 _ h (by simp [sM]))).trans h9⟩
theorem mV_s97 {i : Nat} {x : Int} (h : mV tp ln σ c wt w p ws) (hs : gS 97 i x ws ws') : mV tp ln (uN i x σ) c wt w p ws' := by
  obtain ⟨h1, h2, h3, h4, h5, h6, h7⟩ := h
  refine ⟨?_, by rw [hs.2.2, h2], by rw [hs.2.1 98 (by decide), h3], by rw [hs.2.2, h4], by rw [hs.2.2, h5], by rw [hs.2.1 96 (by decide), h6], by rw [hs.2.2, h7]⟩
  rw [hs.1, h1]
  rfl
theorem mV_s98 {i : Nat} {x : Int} (h : mV tp ln σ c wt w p ws) (hs : gS 98 i x ws ws') : mV tp ln σ c (uN i x wt) w p ws' := by
  obtain ⟨h1, h2, h3, h4, h5, h6, h7⟩ := h
  refine ⟨by rw [hs.2.1 97 (by decide), h1], by rw [hs.2.2, h2], ?_, by rw [hs.2.2, h4], by rw [hs.2.2, h5], by rw [hs.2.1 96 (by decide), h6], by rw [hs.2.2, h7]⟩
  rw [hs.1, h3]
  rfl
theorem mV_p24 {x : Int} {c' : Nat} (h : mV tp ln σ c wt w p ws) (hp : gP 84 24 x ws ws') (hx : x = c') : mV tp ln σ c' wt w p ws' := by
  obtain ⟨h1, h2, h3, h4, h5, h6, h7⟩ := h
  exact ⟨by rw [hp.2.2, h1], by rw [hp.1, hx], by rw [hp.2.2, h3], by rw [hp.2.1 84 25 (by decide), h4], by rw [hp.2.1 84 19 (by decide), h5], by rw [hp.2.2, h6], by rw [hp.2.1 84 20 (by decide), h7]⟩
theorem mV_p25 {x : Int} {w' : Nat} (h : mV tp ln σ c wt w p ws) (hp : gP 84 25 x ws ws') (hx : x = w') : mV tp ln σ c wt w' p ws' := by
  obtain ⟨h1, h2, h3, h4, h5, h6, h7⟩ := h
  exact ⟨by rw [hp.2.2, h1], by rw [hp.2.1 84 24 (by decide), h2], by rw [hp.2.2, h3], by rw [hp.1, hx], by rw [hp.2.1 84 19 (by decide), h5], by rw [hp.2.2, h6], by rw [hp.2.1 84 20 (by decide), h7]⟩
theorem mV_p19 {x : Int} {p' : Nat} (h : mV tp ln σ c wt w p ws) (hp : gP 84 19 x ws ws') (hx : x = p') : mV tp ln σ c wt w p' ws' := by
  obtain ⟨h1, h2, h3, h4, h5, h6, h7⟩ := h
  exact ⟨by rw [hp.2.2, h1], by rw [hp.2.1 84 24 (by decide), h2], by rw [hp.2.2, h3], by rw [hp.2.1 84 25 (by decide), h4], by rw [hp.1, hx], by rw [hp.2.2, h6], by rw [hp.2.1 84 20 (by decide), h7]⟩
theorem mV_240 {tys : List (ClassId × FieldType)} {ad : Nat → Nat} (hw : ev_w tys tQ ad ws) (h : mV tp ln σ c wt w p ws) : p ≤ 240 := by
  have h1 := (gI_rng (j := 84) (f := 19) hw rfl rfl).1.2
  rw [h.2.2.2.2.1] at h1
  dsimp only at h1
  omega
end MV
end
section
def kq_3000 : ek := (145, [.inr 86, .inl (5, 5), .inl (0, 240)], [], [(84, 21)], [(some (.inl (0, 0)), [])], 0, 0)
/-- LoadsAheadModel wrongAt -/
theorem qk_3000 (l : Launch) : ek_ok l tQ iQ kq_3000 := ek_good_ok (sp := sQ) (K := []) (SP := []) (HS := []) (N := 0) (fuel := 26) hIQ (fun _ h => absurd h List.not_mem_nil) (by decide +kernel)
def kq_3001 : ek := (152, [.inl ((-1), (-1))], [], [], [(some (.inl ((-1), (-1))), [])], 0, 0)
/-- LoadsAheadModel factOf -/
theorem qk_3001 (l : Launch) : ek_ok l tQ iQ kq_3001 := ek_good_ok (sp := sQ) (K := []) (SP := []) (HS := []) (N := 0) (fuel := 16) hIQ (fun _ h => absurd h List.not_mem_nil) (by decide +kernel)
def kq_3002 : ek := (152, [.inl (0, 255)], [], [], [(some (.inl ((-1), (-1))), []), (some (.inl (0, 6)), [])], 0, 0)
/-- LoadsAheadModel factOf -/
theorem qk_3002 (l : Launch) : ek_ok l tQ iQ kq_3002 := ek_good_ok (sp := sQ) (K := []) (SP := []) (HS := []) (N := 0) (fuel := 16) hIQ (fun _ h => absurd h List.not_mem_nil) (by decide +kernel)
def kq_3003 : ek := (153, [.inl ((-1), (-1))], [], [], [(some (.inl ((-1), (-1))), [])], 0, 0)
/-- LoadsAheadModel sumSign -/
theorem qk_3003 (l : Launch) : ek_ok l tQ iQ kq_3003 := ek_good_ok (sp := sQ) (K := []) (SP := []) (HS := []) (N := 0) (fuel := 42) hIQ (fun _ h => absurd h List.not_mem_nil) (by decide +kernel)
def kq_3004 : ek := (153, [.inl (0, 255)], [], [], [(some (.inl (2, 6)), []), (some (.inl ((-1), (-1))), [])], 0, 0)
/-- LoadsAheadModel sumSign -/
theorem qk_3004 (l : Launch) : ek_ok l tQ iQ kq_3004 := ek_good_ok (sp := sQ) (K := []) (SP := []) (HS := []) (N := 0) (fuel := 44) hIQ (fun _ h => absurd h List.not_mem_nil) (by decide +kernel)
end
section
def kN_0 : ek := (151, [.inr 86, .inl (0, 0), .inl (0, 99999)], [], [(84, 24), (97, 999)], [(none, [])], 0, 0)
theorem nt_0 (l : Launch) {tp : Nat → Int} {ln : Nat} {σ : Nat → Int} {cm : Nat} {wt : Nat → Int} {wn pl : Nat} (hc : cm < 260) : hk_ok l tQ (mV tp ln σ cm wt wn pl) (fun _ _ ws => ∃ y : Int, (0 ≤ y ∧ y ≤ 99999) ∧ mV tp ln (uN cm y σ) (cm + 1) wt wn pl ws) kN_0 := by
  refine hk_ok_of (o := 9) (r := (yX9_notes, prog_11_method_16_code, 3, none)) rfl rfl (by decide +kernel) (by decide) rfl (fun p e s m args below meth c D tys aK aV b0 ad w0 C hret => ?_)
  refine ev_go_fact 84 24 (0, 259) rfl rfl (fun w hw h => by rw [h.2.1]; exact ⟨by omega, by dsimp only; omega⟩) ?_
  refine hv_go C mV_hI [(84, 24), (97, 999)] [] (0, 0) [] [(14, [some (.inr 86, none), none, none], [(.inl (0, 99999), ev_nt), (.inl (0, 259), (2, 84, 24, 0)), (.inr 99, ev_nt)], [((2, 84, 24), (0, 259), none)], [])] 80 ⟨rfl, rfl⟩ (by decide +kernel) trivial ⟨?_, trivial⟩
  refine hs_ast C (I' := fun ws => ∃ y : Int, (0 ≤ y ∧ y ≤ 99999) ∧ mV tp ln (uN cm y σ) cm wt wn pl ws) (t := (0, 260, -2147483648, 2147483647)) ?_ rfl rfl ?_ (by decide) (by decide) (by decide) (by decide +kernel) ?_
  · intro ls w w' i x hw hl hF hI hi ti hx tx i0 i1 hs hf
    have e : i.toInt = cm := by rw [tag_f ti, hI.2.1]; omega
    refine ⟨x.toInt, hx, ?_⟩
    have h := mV_s97 hI hs
    rw [e] at h
    exact h
  · intro ls w i hw hl hF hI hi ti
    have e : i.toInt = cm := by rw [tag_f ti, hI.2.1]; omega
    exact ⟨by omega, by show i.toInt < 260; omega⟩
  · refine ev_go_exP (fun y hy => ?_)
    refine hv_go C mV_hI [(84, 24), (97, 999)] [] (0, 0) [] [(22, [none, none, none], [(.inl (1, 260), (2, 84, 24, 1)), (.inr 86, ev_nt)], [], [])] 80 ⟨rfl, rfl⟩ (by decide +kernel) trivial ⟨?_, trivial⟩
    refine hs_put C (I' := mV tp ln (uN cm y σ) (cm + 1) wt wn pl) (i := 246) (ci := 9) (f := 24) (j := 84) (b := (-2147483648, 2147483647)) ?_ (by decide +kernel) rfl (by decide) rfl rfl (by decide) (by decide) (by decide) (by decide) (by decide +kernel) ?_
    · intro ls w w' z hw hl hF hI hz tz hp hf
      exact mV_p24 hI hp (by rw [tag_f tz, hI.2.1]; omega)
    · exact hs_vret C (i := 0) (fun ls w _ _ _ hI => ⟨y, hy, hI⟩) hret rfl rfl rfl rfl (by decide +kernel)
def kN_1 : ek := (151, [.inr 86, .inl (1, 1), .inl (0, 6)], [], [(84, 24), (97, 999)], [(none, [])], 0, 0)
theorem nt_1 (l : Launch) {tp : Nat → Int} {ln : Nat} {σ : Nat → Int} {cm : Nat} {wt : Nat → Int} {wn pl : Nat} (hc : cm < 260) : hk_ok l tQ (mV tp ln σ cm wt wn pl) (fun _ _ ws => ∃ y : Int, (1048576 ≤ y ∧ y ≤ 1048582) ∧ mV tp ln (uN cm y σ) (cm + 1) wt wn pl ws) kN_1 := by
  refine hk_ok_of (o := 9) (r := (yX9_notes, prog_11_method_16_code, 3, none)) rfl rfl (by decide +kernel) (by decide) rfl (fun p e s m args below meth c D tys aK aV b0 ad w0 C hret => ?_)
  refine ev_go_fact 84 24 (0, 259) rfl rfl (fun w hw h => by rw [h.2.1]; exact ⟨by omega, by dsimp only; omega⟩) ?_
  refine hv_go C mV_hI [(84, 24), (97, 999)] [] (0, 0) [] [(14, [some (.inr 86, none), none, none], [(.inl (1048576, 1048582), ev_nt), (.inl (0, 259), (2, 84, 24, 0)), (.inr 99, ev_nt)], [((2, 84, 24), (0, 259), none)], [])] 80 ⟨rfl, rfl⟩ (by decide +kernel) trivial ⟨?_, trivial⟩
  refine hs_ast C (I' := fun ws => ∃ y : Int, (1048576 ≤ y ∧ y ≤ 1048582) ∧ mV tp ln (uN cm y σ) cm wt wn pl ws) (t := (0, 260, -2147483648, 2147483647)) ?_ rfl rfl ?_ (by decide) (by decide) (by decide) (by decide +kernel) ?_
  · intro ls w w' i x hw hl hF hI hi ti hx tx i0 i1 hs hf
    have e : i.toInt = cm := by rw [tag_f ti, hI.2.1]; omega
    refine ⟨x.toInt, hx, ?_⟩
    have h := mV_s97 hI hs
    rw [e] at h
    exact h
  · intro ls w i hw hl hF hI hi ti
    have e : i.toInt = cm := by rw [tag_f ti, hI.2.1]; omega
    exact ⟨by omega, by show i.toInt < 260; omega⟩
  · refine ev_go_exP (fun y hy => ?_)
    refine hv_go C mV_hI [(84, 24), (97, 999)] [] (0, 0) [] [(22, [none, none, none], [(.inl (1, 260), (2, 84, 24, 1)), (.inr 86, ev_nt)], [], [])] 80 ⟨rfl, rfl⟩ (by decide +kernel) trivial ⟨?_, trivial⟩
    refine hs_put C (I' := mV tp ln (uN cm y σ) (cm + 1) wt wn pl) (i := 246) (ci := 9) (f := 24) (j := 84) (b := (-2147483648, 2147483647)) ?_ (by decide +kernel) rfl (by decide) rfl rfl (by decide) (by decide) (by decide) (by decide) (by decide +kernel) ?_
    · intro ls w w' z hw hl hF hI hz tz hp hf
      exact mV_p24 hI hp (by rw [tag_f tz, hI.2.1]; omega)
    · exact hs_vret C (i := 0) (fun ls w _ _ _ hI => ⟨y, hy, hI⟩) hret rfl rfl rfl rfl (by decide +kernel)
def kN_2 : ek := (151, [.inr 86, .inl (2, 2), .inl (0, 0)], [], [(84, 24), (97, 999)], [(none, [])], 0, 0)
theorem nt_2 (l : Launch) {tp : Nat → Int} {ln : Nat} {σ : Nat → Int} {cm : Nat} {wt : Nat → Int} {wn pl : Nat} (hc : cm < 260) : hk_ok l tQ (mV tp ln σ cm wt wn pl) (fun _ _ ws => ∃ y : Int, (2097152 ≤ y ∧ y ≤ 2097152) ∧ mV tp ln (uN cm y σ) (cm + 1) wt wn pl ws) kN_2 := by
  refine hk_ok_of (o := 9) (r := (yX9_notes, prog_11_method_16_code, 3, none)) rfl rfl (by decide +kernel) (by decide) rfl (fun p e s m args below meth c D tys aK aV b0 ad w0 C hret => ?_)
  refine ev_go_fact 84 24 (0, 259) rfl rfl (fun w hw h => by rw [h.2.1]; exact ⟨by omega, by dsimp only; omega⟩) ?_
  refine hv_go C mV_hI [(84, 24), (97, 999)] [] (0, 0) [] [(14, [some (.inr 86, none), none, none], [(.inl (2097152, 2097152), ev_nt), (.inl (0, 259), (2, 84, 24, 0)), (.inr 99, ev_nt)], [((2, 84, 24), (0, 259), none)], [])] 80 ⟨rfl, rfl⟩ (by decide +kernel) trivial ⟨?_, trivial⟩
  refine hs_ast C (I' := fun ws => ∃ y : Int, (2097152 ≤ y ∧ y ≤ 2097152) ∧ mV tp ln (uN cm y σ) cm wt wn pl ws) (t := (0, 260, -2147483648, 2147483647)) ?_ rfl rfl ?_ (by decide) (by decide) (by decide) (by decide +kernel) ?_
  · intro ls w w' i x hw hl hF hI hi ti hx tx i0 i1 hs hf
    have e : i.toInt = cm := by rw [tag_f ti, hI.2.1]; omega
    refine ⟨x.toInt, hx, ?_⟩
    have h := mV_s97 hI hs
    rw [e] at h
    exact h
  · intro ls w i hw hl hF hI hi ti
    have e : i.toInt = cm := by rw [tag_f ti, hI.2.1]; omega
    exact ⟨by omega, by show i.toInt < 260; omega⟩
  · refine ev_go_exP (fun y hy => ?_)
    refine hv_go C mV_hI [(84, 24), (97, 999)] [] (0, 0) [] [(22, [none, none, none], [(.inl (1, 260), (2, 84, 24, 1)), (.inr 86, ev_nt)], [], [])] 80 ⟨rfl, rfl⟩ (by decide +kernel) trivial ⟨?_, trivial⟩
    refine hs_put C (I' := mV tp ln (uN cm y σ) (cm + 1) wt wn pl) (i := 246) (ci := 9) (f := 24) (j := 84) (b := (-2147483648, 2147483647)) ?_ (by decide +kernel) rfl (by decide) rfl rfl (by decide) (by decide) (by decide) (by decide) (by decide +kernel) ?_
    · intro ls w w' z hw hl hF hI hz tz hp hf
      exact mV_p24 hI hp (by rw [tag_f tz, hI.2.1]; omega)
    · exact hs_vret C (i := 0) (fun ls w _ _ _ hI => ⟨y, hy, hI⟩) hret rfl rfl rfl rfl (by decide +kernel)
def kN_3 : ek := (151, [.inr 86, .inl (3, 3), .inl (0, 0)], [], [(84, 24), (97, 999)], [(none, [])], 0, 0)
theorem nt_3 (l : Launch) {tp : Nat → Int} {ln : Nat} {σ : Nat → Int} {cm : Nat} {wt : Nat → Int} {wn pl : Nat} (hc : cm < 260) : hk_ok l tQ (mV tp ln σ cm wt wn pl) (fun _ _ ws => ∃ y : Int, (3145728 ≤ y ∧ y ≤ 3145728) ∧ mV tp ln (uN cm y σ) (cm + 1) wt wn pl ws) kN_3 := by
  refine hk_ok_of (o := 9) (r := (yX9_notes, prog_11_method_16_code, 3, none)) rfl rfl (by decide +kernel) (by decide) rfl (fun p e s m args below meth c D tys aK aV b0 ad w0 C hret => ?_)
  refine ev_go_fact 84 24 (0, 259) rfl rfl (fun w hw h => by rw [h.2.1]; exact ⟨by omega, by dsimp only; omega⟩) ?_
  refine hv_go C mV_hI [(84, 24), (97, 999)] [] (0, 0) [] [(14, [some (.inr 86, none), none, none], [(.inl (3145728, 3145728), ev_nt), (.inl (0, 259), (2, 84, 24, 0)), (.inr 99, ev_nt)], [((2, 84, 24), (0, 259), none)], [])] 80 ⟨rfl, rfl⟩ (by decide +kernel) trivial ⟨?_, trivial⟩
  refine hs_ast C (I' := fun ws => ∃ y : Int, (3145728 ≤ y ∧ y ≤ 3145728) ∧ mV tp ln (uN cm y σ) cm wt wn pl ws) (t := (0, 260, -2147483648, 2147483647)) ?_ rfl rfl ?_ (by decide) (by decide) (by decide) (by decide +kernel) ?_
  · intro ls w w' i x hw hl hF hI hi ti hx tx i0 i1 hs hf
    have e : i.toInt = cm := by rw [tag_f ti, hI.2.1]; omega
    refine ⟨x.toInt, hx, ?_⟩
    have h := mV_s97 hI hs
    rw [e] at h
    exact h
  · intro ls w i hw hl hF hI hi ti
    have e : i.toInt = cm := by rw [tag_f ti, hI.2.1]; omega
    exact ⟨by omega, by show i.toInt < 260; omega⟩
  · refine ev_go_exP (fun y hy => ?_)
    refine hv_go C mV_hI [(84, 24), (97, 999)] [] (0, 0) [] [(22, [none, none, none], [(.inl (1, 260), (2, 84, 24, 1)), (.inr 86, ev_nt)], [], [])] 80 ⟨rfl, rfl⟩ (by decide +kernel) trivial ⟨?_, trivial⟩
    refine hs_put C (I' := mV tp ln (uN cm y σ) (cm + 1) wt wn pl) (i := 246) (ci := 9) (f := 24) (j := 84) (b := (-2147483648, 2147483647)) ?_ (by decide +kernel) rfl (by decide) rfl rfl (by decide) (by decide) (by decide) (by decide) (by decide +kernel) ?_
    · intro ls w w' z hw hl hF hI hz tz hp hf
      exact mV_p24 hI hp (by rw [tag_f tz, hI.2.1]; omega)
    · exact hs_vret C (i := 0) (fun ls w _ _ _ hI => ⟨y, hy, hI⟩) hret rfl rfl rfl rfl (by decide +kernel)
def kN_4 : ek := (151, [.inr 86, .inl (4, 4), .inl (0, 0)], [], [(84, 24), (97, 999)], [(none, [])], 0, 0)
theorem nt_4 (l : Launch) {tp : Nat → Int} {ln : Nat} {σ : Nat → Int} {cm : Nat} {wt : Nat → Int} {wn pl : Nat} (hc : cm < 260) : hk_ok l tQ (mV tp ln σ cm wt wn pl) (fun _ _ ws => ∃ y : Int, (4194304 ≤ y ∧ y ≤ 4194304) ∧ mV tp ln (uN cm y σ) (cm + 1) wt wn pl ws) kN_4 := by
  refine hk_ok_of (o := 9) (r := (yX9_notes, prog_11_method_16_code, 3, none)) rfl rfl (by decide +kernel) (by decide) rfl (fun p e s m args below meth c D tys aK aV b0 ad w0 C hret => ?_)
  refine ev_go_fact 84 24 (0, 259) rfl rfl (fun w hw h => by rw [h.2.1]; exact ⟨by omega, by dsimp only; omega⟩) ?_
  refine hv_go C mV_hI [(84, 24), (97, 999)] [] (0, 0) [] [(14, [some (.inr 86, none), none, none], [(.inl (4194304, 4194304), ev_nt), (.inl (0, 259), (2, 84, 24, 0)), (.inr 99, ev_nt)], [((2, 84, 24), (0, 259), none)], [])] 80 ⟨rfl, rfl⟩ (by decide +kernel) trivial ⟨?_, trivial⟩
  refine hs_ast C (I' := fun ws => ∃ y : Int, (4194304 ≤ y ∧ y ≤ 4194304) ∧ mV tp ln (uN cm y σ) cm wt wn pl ws) (t := (0, 260, -2147483648, 2147483647)) ?_ rfl rfl ?_ (by decide) (by decide) (by decide) (by decide +kernel) ?_
  · intro ls w w' i x hw hl hF hI hi ti hx tx i0 i1 hs hf
    have e : i.toInt = cm := by rw [tag_f ti, hI.2.1]; omega
    refine ⟨x.toInt, hx, ?_⟩
    have h := mV_s97 hI hs
    rw [e] at h
    exact h
  · intro ls w i hw hl hF hI hi ti
    have e : i.toInt = cm := by rw [tag_f ti, hI.2.1]; omega
    exact ⟨by omega, by show i.toInt < 260; omega⟩
  · refine ev_go_exP (fun y hy => ?_)
    refine hv_go C mV_hI [(84, 24), (97, 999)] [] (0, 0) [] [(22, [none, none, none], [(.inl (1, 260), (2, 84, 24, 1)), (.inr 86, ev_nt)], [], [])] 80 ⟨rfl, rfl⟩ (by decide +kernel) trivial ⟨?_, trivial⟩
    refine hs_put C (I' := mV tp ln (uN cm y σ) (cm + 1) wt wn pl) (i := 246) (ci := 9) (f := 24) (j := 84) (b := (-2147483648, 2147483647)) ?_ (by decide +kernel) rfl (by decide) rfl rfl (by decide) (by decide) (by decide) (by decide) (by decide +kernel) ?_
    · intro ls w w' z hw hl hF hI hz tz hp hf
      exact mV_p24 hI hp (by rw [tag_f tz, hI.2.1]; omega)
    · exact hs_vret C (i := 0) (fun ls w _ _ _ hI => ⟨y, hy, hI⟩) hret rfl rfl rfl rfl (by decide +kernel)
def kN_5 : ek := (151, [.inr 86, .inl (5, 5), .inl (0, 0)], [], [(84, 24), (97, 999)], [(none, [])], 0, 0)
theorem nt_5 (l : Launch) {tp : Nat → Int} {ln : Nat} {σ : Nat → Int} {cm : Nat} {wt : Nat → Int} {wn pl : Nat} (hc : cm < 260) : hk_ok l tQ (mV tp ln σ cm wt wn pl) (fun _ _ ws => ∃ y : Int, (5242880 ≤ y ∧ y ≤ 5242880) ∧ mV tp ln (uN cm y σ) (cm + 1) wt wn pl ws) kN_5 := by
  refine hk_ok_of (o := 9) (r := (yX9_notes, prog_11_method_16_code, 3, none)) rfl rfl (by decide +kernel) (by decide) rfl (fun p e s m args below meth c D tys aK aV b0 ad w0 C hret => ?_)
  refine ev_go_fact 84 24 (0, 259) rfl rfl (fun w hw h => by rw [h.2.1]; exact ⟨by omega, by dsimp only; omega⟩) ?_
  refine hv_go C mV_hI [(84, 24), (97, 999)] [] (0, 0) [] [(14, [some (.inr 86, none), none, none], [(.inl (5242880, 5242880), ev_nt), (.inl (0, 259), (2, 84, 24, 0)), (.inr 99, ev_nt)], [((2, 84, 24), (0, 259), none)], [])] 80 ⟨rfl, rfl⟩ (by decide +kernel) trivial ⟨?_, trivial⟩
  refine hs_ast C (I' := fun ws => ∃ y : Int, (5242880 ≤ y ∧ y ≤ 5242880) ∧ mV tp ln (uN cm y σ) cm wt wn pl ws) (t := (0, 260, -2147483648, 2147483647)) ?_ rfl rfl ?_ (by decide) (by decide) (by decide) (by decide +kernel) ?_
  · intro ls w w' i x hw hl hF hI hi ti hx tx i0 i1 hs hf
    have e : i.toInt = cm := by rw [tag_f ti, hI.2.1]; omega
    refine ⟨x.toInt, hx, ?_⟩
    have h := mV_s97 hI hs
    rw [e] at h
    exact h
  · intro ls w i hw hl hF hI hi ti
    have e : i.toInt = cm := by rw [tag_f ti, hI.2.1]; omega
    exact ⟨by omega, by show i.toInt < 260; omega⟩
  · refine ev_go_exP (fun y hy => ?_)
    refine hv_go C mV_hI [(84, 24), (97, 999)] [] (0, 0) [] [(22, [none, none, none], [(.inl (1, 260), (2, 84, 24, 1)), (.inr 86, ev_nt)], [], [])] 80 ⟨rfl, rfl⟩ (by decide +kernel) trivial ⟨?_, trivial⟩
    refine hs_put C (I' := mV tp ln (uN cm y σ) (cm + 1) wt wn pl) (i := 246) (ci := 9) (f := 24) (j := 84) (b := (-2147483648, 2147483647)) ?_ (by decide +kernel) rfl (by decide) rfl rfl (by decide) (by decide) (by decide) (by decide) (by decide +kernel) ?_
    · intro ls w w' z hw hl hF hI hz tz hp hf
      exact mV_p24 hI hp (by rw [tag_f tz, hI.2.1]; omega)
    · exact hs_vret C (i := 0) (fun ls w _ _ _ hI => ⟨y, hy, hI⟩) hret rfl rfl rfl rfl (by decide +kernel)
def kN_6 : ek := (151, [.inr 86, .inl (6, 6), .inl (0, 0)], [], [(84, 24), (97, 999)], [(none, [])], 0, 0)
theorem nt_6 (l : Launch) {tp : Nat → Int} {ln : Nat} {σ : Nat → Int} {cm : Nat} {wt : Nat → Int} {wn pl : Nat} (hc : cm < 260) : hk_ok l tQ (mV tp ln σ cm wt wn pl) (fun _ _ ws => ∃ y : Int, (6291456 ≤ y ∧ y ≤ 6291456) ∧ mV tp ln (uN cm y σ) (cm + 1) wt wn pl ws) kN_6 := by
  refine hk_ok_of (o := 9) (r := (yX9_notes, prog_11_method_16_code, 3, none)) rfl rfl (by decide +kernel) (by decide) rfl (fun p e s m args below meth c D tys aK aV b0 ad w0 C hret => ?_)
  refine ev_go_fact 84 24 (0, 259) rfl rfl (fun w hw h => by rw [h.2.1]; exact ⟨by omega, by dsimp only; omega⟩) ?_
  refine hv_go C mV_hI [(84, 24), (97, 999)] [] (0, 0) [] [(14, [some (.inr 86, none), none, none], [(.inl (6291456, 6291456), ev_nt), (.inl (0, 259), (2, 84, 24, 0)), (.inr 99, ev_nt)], [((2, 84, 24), (0, 259), none)], [])] 80 ⟨rfl, rfl⟩ (by decide +kernel) trivial ⟨?_, trivial⟩
  refine hs_ast C (I' := fun ws => ∃ y : Int, (6291456 ≤ y ∧ y ≤ 6291456) ∧ mV tp ln (uN cm y σ) cm wt wn pl ws) (t := (0, 260, -2147483648, 2147483647)) ?_ rfl rfl ?_ (by decide) (by decide) (by decide) (by decide +kernel) ?_
  · intro ls w w' i x hw hl hF hI hi ti hx tx i0 i1 hs hf
    have e : i.toInt = cm := by rw [tag_f ti, hI.2.1]; omega
    refine ⟨x.toInt, hx, ?_⟩
    have h := mV_s97 hI hs
    rw [e] at h
    exact h
  · intro ls w i hw hl hF hI hi ti
    have e : i.toInt = cm := by rw [tag_f ti, hI.2.1]; omega
    exact ⟨by omega, by show i.toInt < 260; omega⟩
  · refine ev_go_exP (fun y hy => ?_)
    refine hv_go C mV_hI [(84, 24), (97, 999)] [] (0, 0) [] [(22, [none, none, none], [(.inl (1, 260), (2, 84, 24, 1)), (.inr 86, ev_nt)], [], [])] 80 ⟨rfl, rfl⟩ (by decide +kernel) trivial ⟨?_, trivial⟩
    refine hs_put C (I' := mV tp ln (uN cm y σ) (cm + 1) wt wn pl) (i := 246) (ci := 9) (f := 24) (j := 84) (b := (-2147483648, 2147483647)) ?_ (by decide +kernel) rfl (by decide) rfl rfl (by decide) (by decide) (by decide) (by decide) (by decide +kernel) ?_
    · intro ls w w' z hw hl hF hI hz tz hp hf
      exact mV_p24 hI hp (by rw [tag_f tz, hI.2.1]; omega)
    · exact hs_vret C (i := 0) (fun ls w _ _ _ hI => ⟨y, hy, hI⟩) hret rfl rfl rfl rfl (by decide +kernel)
def kN_7 : ek := (151, [.inr 86, .inl (7, 7), .inl (0, 0)], [], [(84, 24), (97, 999)], [(none, [])], 0, 0)
theorem nt_7 (l : Launch) {tp : Nat → Int} {ln : Nat} {σ : Nat → Int} {cm : Nat} {wt : Nat → Int} {wn pl : Nat} (hc : cm < 260) : hk_ok l tQ (mV tp ln σ cm wt wn pl) (fun _ _ ws => ∃ y : Int, (7340032 ≤ y ∧ y ≤ 7340032) ∧ mV tp ln (uN cm y σ) (cm + 1) wt wn pl ws) kN_7 := by
  refine hk_ok_of (o := 9) (r := (yX9_notes, prog_11_method_16_code, 3, none)) rfl rfl (by decide +kernel) (by decide) rfl (fun p e s m args below meth c D tys aK aV b0 ad w0 C hret => ?_)
  refine ev_go_fact 84 24 (0, 259) rfl rfl (fun w hw h => by rw [h.2.1]; exact ⟨by omega, by dsimp only; omega⟩) ?_
  refine hv_go C mV_hI [(84, 24), (97, 999)] [] (0, 0) [] [(14, [some (.inr 86, none), none, none], [(.inl (7340032, 7340032), ev_nt), (.inl (0, 259), (2, 84, 24, 0)), (.inr 99, ev_nt)], [((2, 84, 24), (0, 259), none)], [])] 80 ⟨rfl, rfl⟩ (by decide +kernel) trivial ⟨?_, trivial⟩
  refine hs_ast C (I' := fun ws => ∃ y : Int, (7340032 ≤ y ∧ y ≤ 7340032) ∧ mV tp ln (uN cm y σ) cm wt wn pl ws) (t := (0, 260, -2147483648, 2147483647)) ?_ rfl rfl ?_ (by decide) (by decide) (by decide) (by decide +kernel) ?_
  · intro ls w w' i x hw hl hF hI hi ti hx tx i0 i1 hs hf
    have e : i.toInt = cm := by rw [tag_f ti, hI.2.1]; omega
    refine ⟨x.toInt, hx, ?_⟩
    have h := mV_s97 hI hs
    rw [e] at h
    exact h
  · intro ls w i hw hl hF hI hi ti
    have e : i.toInt = cm := by rw [tag_f ti, hI.2.1]; omega
    exact ⟨by omega, by show i.toInt < 260; omega⟩
  · refine ev_go_exP (fun y hy => ?_)
    refine hv_go C mV_hI [(84, 24), (97, 999)] [] (0, 0) [] [(22, [none, none, none], [(.inl (1, 260), (2, 84, 24, 1)), (.inr 86, ev_nt)], [], [])] 80 ⟨rfl, rfl⟩ (by decide +kernel) trivial ⟨?_, trivial⟩
    refine hs_put C (I' := mV tp ln (uN cm y σ) (cm + 1) wt wn pl) (i := 246) (ci := 9) (f := 24) (j := 84) (b := (-2147483648, 2147483647)) ?_ (by decide +kernel) rfl (by decide) rfl rfl (by decide) (by decide) (by decide) (by decide) (by decide +kernel) ?_
    · intro ls w w' z hw hl hF hI hz tz hp hf
      exact mV_p24 hI hp (by rw [tag_f tz, hI.2.1]; omega)
    · exact hs_vret C (i := 0) (fun ls w _ _ _ hI => ⟨y, hy, hI⟩) hret rfl rfl rfl rfl (by decide +kernel)
def kN_8 : ek := (151, [.inr 86, .inl (8, 8), .inl (0, 0)], [], [(84, 24), (97, 999)], [(none, [])], 0, 0)
theorem nt_8 (l : Launch) {tp : Nat → Int} {ln : Nat} {σ : Nat → Int} {cm : Nat} {wt : Nat → Int} {wn pl : Nat} (hc : cm < 260) : hk_ok l tQ (mV tp ln σ cm wt wn pl) (fun _ _ ws => ∃ y : Int, (8388608 ≤ y ∧ y ≤ 8388608) ∧ mV tp ln (uN cm y σ) (cm + 1) wt wn pl ws) kN_8 := by
  refine hk_ok_of (o := 9) (r := (yX9_notes, prog_11_method_16_code, 3, none)) rfl rfl (by decide +kernel) (by decide) rfl (fun p e s m args below meth c D tys aK aV b0 ad w0 C hret => ?_)
  refine ev_go_fact 84 24 (0, 259) rfl rfl (fun w hw h => by rw [h.2.1]; exact ⟨by omega, by dsimp only; omega⟩) ?_
  refine hv_go C mV_hI [(84, 24), (97, 999)] [] (0, 0) [] [(14, [some (.inr 86, none), none, none], [(.inl (8388608, 8388608), ev_nt), (.inl (0, 259), (2, 84, 24, 0)), (.inr 99, ev_nt)], [((2, 84, 24), (0, 259), none)], [])] 80 ⟨rfl, rfl⟩ (by decide +kernel) trivial ⟨?_, trivial⟩
  refine hs_ast C (I' := fun ws => ∃ y : Int, (8388608 ≤ y ∧ y ≤ 8388608) ∧ mV tp ln (uN cm y σ) cm wt wn pl ws) (t := (0, 260, -2147483648, 2147483647)) ?_ rfl rfl ?_ (by decide) (by decide) (by decide) (by decide +kernel) ?_
  · intro ls w w' i x hw hl hF hI hi ti hx tx i0 i1 hs hf
    have e : i.toInt = cm := by rw [tag_f ti, hI.2.1]; omega
    refine ⟨x.toInt, hx, ?_⟩
    have h := mV_s97 hI hs
    rw [e] at h
    exact h
  · intro ls w i hw hl hF hI hi ti
    have e : i.toInt = cm := by rw [tag_f ti, hI.2.1]; omega
    exact ⟨by omega, by show i.toInt < 260; omega⟩
  · refine ev_go_exP (fun y hy => ?_)
    refine hv_go C mV_hI [(84, 24), (97, 999)] [] (0, 0) [] [(22, [none, none, none], [(.inl (1, 260), (2, 84, 24, 1)), (.inr 86, ev_nt)], [], [])] 80 ⟨rfl, rfl⟩ (by decide +kernel) trivial ⟨?_, trivial⟩
    refine hs_put C (I' := mV tp ln (uN cm y σ) (cm + 1) wt wn pl) (i := 246) (ci := 9) (f := 24) (j := 84) (b := (-2147483648, 2147483647)) ?_ (by decide +kernel) rfl (by decide) rfl rfl (by decide) (by decide) (by decide) (by decide) (by decide +kernel) ?_
    · intro ls w w' z hw hl hF hI hz tz hp hf
      exact mV_p24 hI hp (by rw [tag_f tz, hI.2.1]; omega)
    · exact hs_vret C (i := 0) (fun ls w _ _ _ hI => ⟨y, hy, hI⟩) hret rfl rfl rfl rfl (by decide +kernel)
def kN_9 : ek := (151, [.inr 86, .inl (9, 9), .inl (0, 0)], [], [(84, 24), (97, 999)], [(none, [])], 0, 0)
theorem nt_9 (l : Launch) {tp : Nat → Int} {ln : Nat} {σ : Nat → Int} {cm : Nat} {wt : Nat → Int} {wn pl : Nat} (hc : cm < 260) : hk_ok l tQ (mV tp ln σ cm wt wn pl) (fun _ _ ws => ∃ y : Int, (9437184 ≤ y ∧ y ≤ 9437184) ∧ mV tp ln (uN cm y σ) (cm + 1) wt wn pl ws) kN_9 := by
  refine hk_ok_of (o := 9) (r := (yX9_notes, prog_11_method_16_code, 3, none)) rfl rfl (by decide +kernel) (by decide) rfl (fun p e s m args below meth c D tys aK aV b0 ad w0 C hret => ?_)
  refine ev_go_fact 84 24 (0, 259) rfl rfl (fun w hw h => by rw [h.2.1]; exact ⟨by omega, by dsimp only; omega⟩) ?_
  refine hv_go C mV_hI [(84, 24), (97, 999)] [] (0, 0) [] [(14, [some (.inr 86, none), none, none], [(.inl (9437184, 9437184), ev_nt), (.inl (0, 259), (2, 84, 24, 0)), (.inr 99, ev_nt)], [((2, 84, 24), (0, 259), none)], [])] 80 ⟨rfl, rfl⟩ (by decide +kernel) trivial ⟨?_, trivial⟩
  refine hs_ast C (I' := fun ws => ∃ y : Int, (9437184 ≤ y ∧ y ≤ 9437184) ∧ mV tp ln (uN cm y σ) cm wt wn pl ws) (t := (0, 260, -2147483648, 2147483647)) ?_ rfl rfl ?_ (by decide) (by decide) (by decide) (by decide +kernel) ?_
  · intro ls w w' i x hw hl hF hI hi ti hx tx i0 i1 hs hf
    have e : i.toInt = cm := by rw [tag_f ti, hI.2.1]; omega
    refine ⟨x.toInt, hx, ?_⟩
    have h := mV_s97 hI hs
    rw [e] at h
    exact h
  · intro ls w i hw hl hF hI hi ti
    have e : i.toInt = cm := by rw [tag_f ti, hI.2.1]; omega
    exact ⟨by omega, by show i.toInt < 260; omega⟩
  · refine ev_go_exP (fun y hy => ?_)
    refine hv_go C mV_hI [(84, 24), (97, 999)] [] (0, 0) [] [(22, [none, none, none], [(.inl (1, 260), (2, 84, 24, 1)), (.inr 86, ev_nt)], [], [])] 80 ⟨rfl, rfl⟩ (by decide +kernel) trivial ⟨?_, trivial⟩
    refine hs_put C (I' := mV tp ln (uN cm y σ) (cm + 1) wt wn pl) (i := 246) (ci := 9) (f := 24) (j := 84) (b := (-2147483648, 2147483647)) ?_ (by decide +kernel) rfl (by decide) rfl rfl (by decide) (by decide) (by decide) (by decide) (by decide +kernel) ?_
    · intro ls w w' z hw hl hF hI hz tz hp hf
      exact mV_p24 hI hp (by rw [tag_f tz, hI.2.1]; omega)
    · exact hs_vret C (i := 0) (fun ls w _ _ _ hI => ⟨y, hy, hI⟩) hret rfl rfl rfl rfl (by decide +kernel)
def kN_10 : ek := (151, [.inr 86, .inl (10, 10), .inl (0, 0)], [], [(84, 24), (97, 999)], [(none, [])], 0, 0)
theorem nt_10 (l : Launch) {tp : Nat → Int} {ln : Nat} {σ : Nat → Int} {cm : Nat} {wt : Nat → Int} {wn pl : Nat} (hc : cm < 260) : hk_ok l tQ (mV tp ln σ cm wt wn pl) (fun _ _ ws => ∃ y : Int, (10485760 ≤ y ∧ y ≤ 10485760) ∧ mV tp ln (uN cm y σ) (cm + 1) wt wn pl ws) kN_10 := by
  refine hk_ok_of (o := 9) (r := (yX9_notes, prog_11_method_16_code, 3, none)) rfl rfl (by decide +kernel) (by decide) rfl (fun p e s m args below meth c D tys aK aV b0 ad w0 C hret => ?_)
  refine ev_go_fact 84 24 (0, 259) rfl rfl (fun w hw h => by rw [h.2.1]; exact ⟨by omega, by dsimp only; omega⟩) ?_
  refine hv_go C mV_hI [(84, 24), (97, 999)] [] (0, 0) [] [(14, [some (.inr 86, none), none, none], [(.inl (10485760, 10485760), ev_nt), (.inl (0, 259), (2, 84, 24, 0)), (.inr 99, ev_nt)], [((2, 84, 24), (0, 259), none)], [])] 80 ⟨rfl, rfl⟩ (by decide +kernel) trivial ⟨?_, trivial⟩
  refine hs_ast C (I' := fun ws => ∃ y : Int, (10485760 ≤ y ∧ y ≤ 10485760) ∧ mV tp ln (uN cm y σ) cm wt wn pl ws) (t := (0, 260, -2147483648, 2147483647)) ?_ rfl rfl ?_ (by decide) (by decide) (by decide) (by decide +kernel) ?_
  · intro ls w w' i x hw hl hF hI hi ti hx tx i0 i1 hs hf
    have e : i.toInt = cm := by rw [tag_f ti, hI.2.1]; omega
    refine ⟨x.toInt, hx, ?_⟩
    have h := mV_s97 hI hs
    rw [e] at h
    exact h
  · intro ls w i hw hl hF hI hi ti
    have e : i.toInt = cm := by rw [tag_f ti, hI.2.1]; omega
    exact ⟨by omega, by show i.toInt < 260; omega⟩
  · refine ev_go_exP (fun y hy => ?_)
    refine hv_go C mV_hI [(84, 24), (97, 999)] [] (0, 0) [] [(22, [none, none, none], [(.inl (1, 260), (2, 84, 24, 1)), (.inr 86, ev_nt)], [], [])] 80 ⟨rfl, rfl⟩ (by decide +kernel) trivial ⟨?_, trivial⟩
    refine hs_put C (I' := mV tp ln (uN cm y σ) (cm + 1) wt wn pl) (i := 246) (ci := 9) (f := 24) (j := 84) (b := (-2147483648, 2147483647)) ?_ (by decide +kernel) rfl (by decide) rfl rfl (by decide) (by decide) (by decide) (by decide) (by decide +kernel) ?_
    · intro ls w w' z hw hl hF hI hz tz hp hf
      exact mV_p24 hI hp (by rw [tag_f tz, hI.2.1]; omega)
    · exact hs_vret C (i := 0) (fun ls w _ _ _ hI => ⟨y, hy, hI⟩) hret rfl rfl rfl rfl (by decide +kernel)
def kN_11 : ek := (151, [.inr 86, .inl (11, 11), .inl (0, 0)], [], [(84, 24), (97, 999)], [(none, [])], 0, 0)
theorem nt_11 (l : Launch) {tp : Nat → Int} {ln : Nat} {σ : Nat → Int} {cm : Nat} {wt : Nat → Int} {wn pl : Nat} (hc : cm < 260) : hk_ok l tQ (mV tp ln σ cm wt wn pl) (fun _ _ ws => ∃ y : Int, (11534336 ≤ y ∧ y ≤ 11534336) ∧ mV tp ln (uN cm y σ) (cm + 1) wt wn pl ws) kN_11 := by
  refine hk_ok_of (o := 9) (r := (yX9_notes, prog_11_method_16_code, 3, none)) rfl rfl (by decide +kernel) (by decide) rfl (fun p e s m args below meth c D tys aK aV b0 ad w0 C hret => ?_)
  refine ev_go_fact 84 24 (0, 259) rfl rfl (fun w hw h => by rw [h.2.1]; exact ⟨by omega, by dsimp only; omega⟩) ?_
  refine hv_go C mV_hI [(84, 24), (97, 999)] [] (0, 0) [] [(14, [some (.inr 86, none), none, none], [(.inl (11534336, 11534336), ev_nt), (.inl (0, 259), (2, 84, 24, 0)), (.inr 99, ev_nt)], [((2, 84, 24), (0, 259), none)], [])] 80 ⟨rfl, rfl⟩ (by decide +kernel) trivial ⟨?_, trivial⟩
  refine hs_ast C (I' := fun ws => ∃ y : Int, (11534336 ≤ y ∧ y ≤ 11534336) ∧ mV tp ln (uN cm y σ) cm wt wn pl ws) (t := (0, 260, -2147483648, 2147483647)) ?_ rfl rfl ?_ (by decide) (by decide) (by decide) (by decide +kernel) ?_
  · intro ls w w' i x hw hl hF hI hi ti hx tx i0 i1 hs hf
    have e : i.toInt = cm := by rw [tag_f ti, hI.2.1]; omega
    refine ⟨x.toInt, hx, ?_⟩
    have h := mV_s97 hI hs
    rw [e] at h
    exact h
  · intro ls w i hw hl hF hI hi ti
    have e : i.toInt = cm := by rw [tag_f ti, hI.2.1]; omega
    exact ⟨by omega, by show i.toInt < 260; omega⟩
  · refine ev_go_exP (fun y hy => ?_)
    refine hv_go C mV_hI [(84, 24), (97, 999)] [] (0, 0) [] [(22, [none, none, none], [(.inl (1, 260), (2, 84, 24, 1)), (.inr 86, ev_nt)], [], [])] 80 ⟨rfl, rfl⟩ (by decide +kernel) trivial ⟨?_, trivial⟩
    refine hs_put C (I' := mV tp ln (uN cm y σ) (cm + 1) wt wn pl) (i := 246) (ci := 9) (f := 24) (j := 84) (b := (-2147483648, 2147483647)) ?_ (by decide +kernel) rfl (by decide) rfl rfl (by decide) (by decide) (by decide) (by decide) (by decide +kernel) ?_
    · intro ls w w' z hw hl hF hI hz tz hp hf
      exact mV_p24 hI hp (by rw [tag_f tz, hI.2.1]; omega)
    · exact hs_vret C (i := 0) (fun ls w _ _ _ hI => ⟨y, hy, hI⟩) hret rfl rfl rfl rfl (by decide +kernel)
def kN_12 : ek := (151, [.inr 86, .inl (12, 12), .inl (0, 0)], [], [(84, 24), (97, 999)], [(none, [])], 0, 0)
theorem nt_12 (l : Launch) {tp : Nat → Int} {ln : Nat} {σ : Nat → Int} {cm : Nat} {wt : Nat → Int} {wn pl : Nat} (hc : cm < 260) : hk_ok l tQ (mV tp ln σ cm wt wn pl) (fun _ _ ws => ∃ y : Int, (12582912 ≤ y ∧ y ≤ 12582912) ∧ mV tp ln (uN cm y σ) (cm + 1) wt wn pl ws) kN_12 := by
  refine hk_ok_of (o := 9) (r := (yX9_notes, prog_11_method_16_code, 3, none)) rfl rfl (by decide +kernel) (by decide) rfl (fun p e s m args below meth c D tys aK aV b0 ad w0 C hret => ?_)
  refine ev_go_fact 84 24 (0, 259) rfl rfl (fun w hw h => by rw [h.2.1]; exact ⟨by omega, by dsimp only; omega⟩) ?_
  refine hv_go C mV_hI [(84, 24), (97, 999)] [] (0, 0) [] [(14, [some (.inr 86, none), none, none], [(.inl (12582912, 12582912), ev_nt), (.inl (0, 259), (2, 84, 24, 0)), (.inr 99, ev_nt)], [((2, 84, 24), (0, 259), none)], [])] 80 ⟨rfl, rfl⟩ (by decide +kernel) trivial ⟨?_, trivial⟩
  refine hs_ast C (I' := fun ws => ∃ y : Int, (12582912 ≤ y ∧ y ≤ 12582912) ∧ mV tp ln (uN cm y σ) cm wt wn pl ws) (t := (0, 260, -2147483648, 2147483647)) ?_ rfl rfl ?_ (by decide) (by decide) (by decide) (by decide +kernel) ?_
  · intro ls w w' i x hw hl hF hI hi ti hx tx i0 i1 hs hf
    have e : i.toInt = cm := by rw [tag_f ti, hI.2.1]; omega
    refine ⟨x.toInt, hx, ?_⟩
    have h := mV_s97 hI hs
    rw [e] at h
    exact h
  · intro ls w i hw hl hF hI hi ti
    have e : i.toInt = cm := by rw [tag_f ti, hI.2.1]; omega
    exact ⟨by omega, by show i.toInt < 260; omega⟩
  · refine ev_go_exP (fun y hy => ?_)
    refine hv_go C mV_hI [(84, 24), (97, 999)] [] (0, 0) [] [(22, [none, none, none], [(.inl (1, 260), (2, 84, 24, 1)), (.inr 86, ev_nt)], [], [])] 80 ⟨rfl, rfl⟩ (by decide +kernel) trivial ⟨?_, trivial⟩
    refine hs_put C (I' := mV tp ln (uN cm y σ) (cm + 1) wt wn pl) (i := 246) (ci := 9) (f := 24) (j := 84) (b := (-2147483648, 2147483647)) ?_ (by decide +kernel) rfl (by decide) rfl rfl (by decide) (by decide) (by decide) (by decide) (by decide +kernel) ?_
    · intro ls w w' z hw hl hF hI hz tz hp hf
      exact mV_p24 hI hp (by rw [tag_f tz, hI.2.1]; omega)
    · exact hs_vret C (i := 0) (fun ls w _ _ _ hI => ⟨y, hy, hI⟩) hret rfl rfl rfl rfl (by decide +kernel)
def kW (t : Int) : ek := (155, [.inr 86], [], [], [(some (.inl (t, t)), [])], 0, 0)
theorem wT (l : Launch) {tp : Nat → Int} {ln : Nat} {σ : Nat → Int} {cm : Nat} {wt : Nat → Int} {wn pl : Nat} (t : Int) (ht : (wn = 0 ∧ t = -1) ∨ (1 ≤ wn ∧ wn ≤ 260 ∧ 0 ≤ wt (wn - 1) ∧ t = wt (wn - 1) / 1048576)) : ek_ok l tQ (mV tp ln σ cm wt wn pl) (kW t) := by
  refine hk_ek (J := fun _ _ ws => mV tp ln σ cm wt wn pl ws) (I' := mV tp ln σ cm wt wn pl) ?_ (fun w h => h) (fun i x w w' _ _ h => h)
  refine hk_ok_of (o := 9) (r := (yX9_waitTop, prog_11_method_18_code, 1, some .int)) rfl rfl (by decide +kernel) (Nat.le_refl 1) rfl (fun p e s m args below meth c D tys aK aV b0 ad w0 C hret => ?_)
  refine ev_go_fact 84 25 (0, 260) rfl rfl (fun w hw h => by rw [h.2.2.2.1]; exact ⟨by omega, by dsimp only; omega⟩) ?_
  refine hv_go C mV_hI [] [] (0, 0) [] [(25, [none], [(.inl ((-1), (-1)), ev_nt)], [((2, 84, 25), (0, 0), none)], []), (21, [none], [(.inl (0, 259), (2, 84, 25, -1)), (.inr 100, ev_nt)], [((2, 84, 25), (1, 260), none)], [])] 80 (st := (0, [some (.inr 86, none)], [], [((2, 84, 25), (0, 260), none)], [])) ⟨rfl, rfl⟩ (by decide +kernel) trivial ⟨?_, ?_, trivial⟩
  · refine ev_go_all (P := wn = 0) (fun ls w hw hl hF hI => ?_) (fun h0 => ?_)
    · have h := (fact_f (hF _ List.mem_cons_self)).2
      rw [hI.2.2.2.1] at h
      dsimp only at h
      omega
    · have e : t = -1 := by omega
      subst e
      exact hs_iret C (i := 0) (fun ls w x _ _ _ hI hx _ => hI) hret rfl rfl rfl (by decide) rfl rfl rfl (by decide +kernel)
  · refine ev_go_all (P := 1 ≤ wn) (fun ls w hw hl hF hI => ?_) (fun h0 => ?_)
    · have h := (fact_f (hF _ List.mem_cons_self)).1
      rw [hI.2.2.2.1] at h
      dsimp only at h
      omega
    · have h1 : wn ≤ 260 ∧ 0 ≤ wt (wn - 1) ∧ t = wt (wn - 1) / 1048576 := by
        rcases ht with ht | ht
        · omega
        · exact ht.2
      refine hs_ald C (I' := mV tp ln σ cm wt wn pl) (b := (wt (wn - 1), wt (wn - 1))) (t := (0, 260, -2147483648, 2147483647)) ?_ rfl rfl ?_ (by decide +kernel) ?_
      · intro ls w i x hw hl hF hI hi ti i0 i1 hx hb
        have e : i.toInt = (wn : Int) - 1 := by rw [tag_f ti, hI.2.2.2.1]; omega
        have e2 : i.toInt.toNat = wn - 1 := by omega
        rw [hI.2.2.1, e2] at hx
        exact ⟨hI, by show wt (wn - 1) ≤ x.toInt; omega, by show x.toInt ≤ wt (wn - 1); omega⟩
      · intro ls w i hw hl hF hI hi ti
        have e : i.toInt = (wn : Int) - 1 := by rw [tag_f ti, hI.2.2.2.1]; omega
        exact ⟨by omega, by show i.toInt < 260; omega⟩
      · refine ev_op_ok C mV_hI (K := []) (rm := (0, 0)) (fun _ h => absurd h List.not_mem_nil) ⟨rfl, rfl⟩ (op := .ldc 249) (len := 2) (by decide +kernel) rfl (fun st hst => ?_)
        rw [List.mem_singleton.mp hst]
        refine ev_op_ok C mV_hI (K := []) (rm := (0, 0)) (fun _ h => absurd h List.not_mem_nil) ⟨rfl, rfl⟩ (op := .idiv) (len := 1) (by decide +kernel) rfl (fun st hst => ?_)
        rw [List.mem_singleton.mp hst]
        have e : (wt (wn - 1)).tdiv 1048576 = t := by rw [h1.2.2]; exact Int.tdiv_eq_ediv_of_nonneg h1.2.1
        refine hs_iret C (i := 0) (fun ls w x _ _ _ hI hx _ => hI) hret rfl rfl rfl ?_ rfl rfl rfl (by decide +kernel)
        show (decide (t ≤ (wt (wn - 1)).tdiv 1048576) && decide ((wt (wn - 1)).tdiv 1048576 ≤ t)) = true
        rw [e]
        simp
def kO_10 : ek := (148, [.inr 86, .inl (10, 10)], [((2, 84, 19), (0, 239), none)], [(84, 19), (84, 21), (84, 23), (84, 25), (98, 999)], [(some (.inl (0, 0)), []), (some (.inl (1, 1)), [])], 1, 22)
theorem op_10 (l : Launch) {tp : Nat → Int} {ln : Nat} {σ : Nat → Int} {cm : Nat} {wt : Nat → Int} {wn pl : Nat} (hw : wn < 260) : hk_ok l tQ (mV tp ln σ cm wt wn pl) (fun i _ ws => i = 0 ∨ mV tp ln σ cm (uN wn 10485760 wt) (wn + 1) (pl + 1) ws) kO_10 := by
  refine hk_ok_of (o := 9) (r := (yX9_opens, prog_11_method_17_code, 2, some .boolean)) rfl rfl (by decide +kernel) (by decide) rfl (fun p e s m args below meth c D tys aK aV b0 ad w0 C hret => ?_)
  refine ev_go_fact 84 25 (0, 259) rfl rfl (fun w hw h => by rw [h.2.2.2.1]; exact ⟨by omega, by dsimp only; omega⟩) ?_
  refine hv_go C mV_hI [(84, 19), (84, 21), (84, 23), (84, 25), (98, 999)] [kq_3000] (1, 22) [] [(18, [none, none], [(.inl (0, 0), ev_nt)], [], []), (41, [some (.inr 86, none), none], [(.inl (10485760, 10485760), ev_nt), (.inl (0, 259), (2, 84, 25, 0)), (.inr 100, ev_nt)], [((2, 84, 19), (0, 239), none), ((2, 84, 25), (0, 259), none)], [])] 80 ⟨rfl, rfl⟩ (by decide +kernel) ⟨ek_upS mV_hI (fun _ _ => trivial) rfl (qk_3000 l), trivial⟩ ⟨?_, ?_, trivial⟩
  · exact hs_iret C (i := 0) (fun ls w x _ _ _ hI hx _ => Or.inl rfl) hret rfl rfl rfl (by decide) rfl rfl rfl (by decide +kernel)
  · refine hs_ast C (I' := mV tp ln σ cm (uN wn 10485760 wt) wn pl) (t := (0, 260, -2147483648, 2147483647)) ?_ rfl rfl ?_ (by decide) (by decide) (by decide) (by decide +kernel) ?_
    · intro ls w w' i x hw hl hF hI hi ti hx tx i0 i1 hs hf
      have e : i.toInt = wn := by rw [tag_f ti, hI.2.2.2.1]; omega
      have e2 : x.toInt = 10485760 := by have h1 := hx.1; have h2 := hx.2; dsimp only at h1 h2; omega
      have h := mV_s98 hI hs
      rw [e, e2] at h
      exact h
    · intro ls w i hw hl hF hI hi ti
      have e : i.toInt = wn := by rw [tag_f ti, hI.2.2.2.1]; omega
      exact ⟨by omega, by show i.toInt < 260; omega⟩
    · refine hv_go C mV_hI [(84, 19), (84, 21), (84, 23), (84, 25), (98, 999)] [] (1, 22) [] [(49, [some (.inr 86, none), none], [(.inl (1, 260), (2, 84, 25, 1)), (.inr 86, ev_nt)], [((2, 84, 19), (0, 239), none)], [])] 80 ⟨rfl, rfl⟩ (by decide +kernel) trivial ⟨?_, trivial⟩
      refine hs_put C (I' := mV tp ln σ cm (uN wn 10485760 wt) (wn + 1) pl) (i := 253) (ci := 9) (f := 25) (j := 84) (b := (-2147483648, 2147483647)) ?_ (by decide +kernel) rfl (by decide) rfl rfl (by decide) (by decide) (by decide) (by decide) (by decide +kernel) ?_
      · intro ls w w' z hw hl hF hI hz tz hp hf
        exact mV_p25 hI hp (by rw [tag_f tz, hI.2.2.2.1]; omega)
      · refine hv_go C mV_hI [(84, 19), (84, 21), (84, 23), (84, 25), (98, 999)] [] (1, 22) [] [(59, [none, none], [(.inl (1, 240), (2, 84, 19, 1)), (.inr 86, ev_nt)], [], [])] 80 ⟨rfl, rfl⟩ (by decide +kernel) trivial ⟨?_, trivial⟩
        refine hs_put C (I' := mV tp ln σ cm (uN wn 10485760 wt) (wn + 1) (pl + 1)) (i := 222) (ci := 9) (f := 19) (j := 84) (b := (0, 240)) ?_ (by decide +kernel) rfl (by decide) rfl rfl (by decide) (by decide) (by decide) (by decide) (by decide +kernel) ?_
        · intro ls w w' z hw hl hF hI hz tz hp hf
          exact mV_p19 hI hp (by rw [tag_f tz, hI.2.2.2.2.1]; omega)
        · refine hv_go C mV_hI [(84, 19), (84, 21), (84, 23), (84, 25), (98, 999)] [] (1, 22) [] [(63, [none, none], [(.inl (1, 1), ev_nt)], [], [])] 80 ⟨rfl, rfl⟩ (by decide +kernel) trivial ⟨?_, trivial⟩
          exact hs_iret C (i := 1) (fun ls w x _ _ _ hI hx _ => Or.inr hI) hret rfl rfl rfl (by decide) rfl rfl rfl (by decide +kernel)
def kO_13 : ek := (148, [.inr 86, .inl (13, 13)], [((2, 84, 19), (0, 239), none)], [(84, 19), (84, 21), (84, 23), (84, 25), (98, 999)], [(some (.inl (0, 0)), []), (some (.inl (1, 1)), [])], 1, 22)
theorem op_13 (l : Launch) {tp : Nat → Int} {ln : Nat} {σ : Nat → Int} {cm : Nat} {wt : Nat → Int} {wn pl : Nat} (hw : wn < 260) : hk_ok l tQ (mV tp ln σ cm wt wn pl) (fun i _ ws => i = 0 ∨ mV tp ln σ cm (uN wn 13631488 wt) (wn + 1) (pl + 1) ws) kO_13 := by
  refine hk_ok_of (o := 9) (r := (yX9_opens, prog_11_method_17_code, 2, some .boolean)) rfl rfl (by decide +kernel) (by decide) rfl (fun p e s m args below meth c D tys aK aV b0 ad w0 C hret => ?_)
  refine ev_go_fact 84 25 (0, 259) rfl rfl (fun w hw h => by rw [h.2.2.2.1]; exact ⟨by omega, by dsimp only; omega⟩) ?_
  refine hv_go C mV_hI [(84, 19), (84, 21), (84, 23), (84, 25), (98, 999)] [kq_3000] (1, 22) [] [(18, [none, none], [(.inl (0, 0), ev_nt)], [], []), (41, [some (.inr 86, none), none], [(.inl (13631488, 13631488), ev_nt), (.inl (0, 259), (2, 84, 25, 0)), (.inr 100, ev_nt)], [((2, 84, 19), (0, 239), none), ((2, 84, 25), (0, 259), none)], [])] 80 ⟨rfl, rfl⟩ (by decide +kernel) ⟨ek_upS mV_hI (fun _ _ => trivial) rfl (qk_3000 l), trivial⟩ ⟨?_, ?_, trivial⟩
  · exact hs_iret C (i := 0) (fun ls w x _ _ _ hI hx _ => Or.inl rfl) hret rfl rfl rfl (by decide) rfl rfl rfl (by decide +kernel)
  · refine hs_ast C (I' := mV tp ln σ cm (uN wn 13631488 wt) wn pl) (t := (0, 260, -2147483648, 2147483647)) ?_ rfl rfl ?_ (by decide) (by decide) (by decide) (by decide +kernel) ?_
    · intro ls w w' i x hw hl hF hI hi ti hx tx i0 i1 hs hf
      have e : i.toInt = wn := by rw [tag_f ti, hI.2.2.2.1]; omega
      have e2 : x.toInt = 13631488 := by have h1 := hx.1; have h2 := hx.2; dsimp only at h1 h2; omega
      have h := mV_s98 hI hs
      rw [e, e2] at h
      exact h
    · intro ls w i hw hl hF hI hi ti
      have e : i.toInt = wn := by rw [tag_f ti, hI.2.2.2.1]; omega
      exact ⟨by omega, by show i.toInt < 260; omega⟩
    · refine hv_go C mV_hI [(84, 19), (84, 21), (84, 23), (84, 25), (98, 999)] [] (1, 22) [] [(49, [some (.inr 86, none), none], [(.inl (1, 260), (2, 84, 25, 1)), (.inr 86, ev_nt)], [((2, 84, 19), (0, 239), none)], [])] 80 ⟨rfl, rfl⟩ (by decide +kernel) trivial ⟨?_, trivial⟩
      refine hs_put C (I' := mV tp ln σ cm (uN wn 13631488 wt) (wn + 1) pl) (i := 253) (ci := 9) (f := 25) (j := 84) (b := (-2147483648, 2147483647)) ?_ (by decide +kernel) rfl (by decide) rfl rfl (by decide) (by decide) (by decide) (by decide) (by decide +kernel) ?_
      · intro ls w w' z hw hl hF hI hz tz hp hf
        exact mV_p25 hI hp (by rw [tag_f tz, hI.2.2.2.1]; omega)
      · refine hv_go C mV_hI [(84, 19), (84, 21), (84, 23), (84, 25), (98, 999)] [] (1, 22) [] [(59, [none, none], [(.inl (1, 240), (2, 84, 19, 1)), (.inr 86, ev_nt)], [], [])] 80 ⟨rfl, rfl⟩ (by decide +kernel) trivial ⟨?_, trivial⟩
        refine hs_put C (I' := mV tp ln σ cm (uN wn 13631488 wt) (wn + 1) (pl + 1)) (i := 222) (ci := 9) (f := 19) (j := 84) (b := (0, 240)) ?_ (by decide +kernel) rfl (by decide) rfl rfl (by decide) (by decide) (by decide) (by decide) (by decide +kernel) ?_
        · intro ls w w' z hw hl hF hI hz tz hp hf
          exact mV_p19 hI hp (by rw [tag_f tz, hI.2.2.2.2.1]; omega)
        · refine hv_go C mV_hI [(84, 19), (84, 21), (84, 23), (84, 25), (98, 999)] [] (1, 22) [] [(63, [none, none], [(.inl (1, 1), ev_nt)], [], [])] 80 ⟨rfl, rfl⟩ (by decide +kernel) trivial ⟨?_, trivial⟩
          exact hs_iret C (i := 1) (fun ls w x _ _ _ hI hx _ => Or.inr hI) hret rfl rfl rfl (by decide) rfl rfl rfl (by decide +kernel)
def kO_14 : ek := (148, [.inr 86, .inl (14, 14)], [((2, 84, 19), (0, 239), none)], [(84, 19), (84, 21), (84, 23), (84, 25), (98, 999)], [(some (.inl (0, 0)), []), (some (.inl (1, 1)), [])], 1, 22)
theorem op_14 (l : Launch) {tp : Nat → Int} {ln : Nat} {σ : Nat → Int} {cm : Nat} {wt : Nat → Int} {wn pl : Nat} (hw : wn < 260) : hk_ok l tQ (mV tp ln σ cm wt wn pl) (fun i _ ws => i = 0 ∨ mV tp ln σ cm (uN wn 14680064 wt) (wn + 1) (pl + 1) ws) kO_14 := by
  refine hk_ok_of (o := 9) (r := (yX9_opens, prog_11_method_17_code, 2, some .boolean)) rfl rfl (by decide +kernel) (by decide) rfl (fun p e s m args below meth c D tys aK aV b0 ad w0 C hret => ?_)
  refine ev_go_fact 84 25 (0, 259) rfl rfl (fun w hw h => by rw [h.2.2.2.1]; exact ⟨by omega, by dsimp only; omega⟩) ?_
  refine hv_go C mV_hI [(84, 19), (84, 21), (84, 23), (84, 25), (98, 999)] [kq_3000] (1, 22) [] [(18, [none, none], [(.inl (0, 0), ev_nt)], [], []), (41, [some (.inr 86, none), none], [(.inl (14680064, 14680064), ev_nt), (.inl (0, 259), (2, 84, 25, 0)), (.inr 100, ev_nt)], [((2, 84, 19), (0, 239), none), ((2, 84, 25), (0, 259), none)], [])] 80 ⟨rfl, rfl⟩ (by decide +kernel) ⟨ek_upS mV_hI (fun _ _ => trivial) rfl (qk_3000 l), trivial⟩ ⟨?_, ?_, trivial⟩
  · exact hs_iret C (i := 0) (fun ls w x _ _ _ hI hx _ => Or.inl rfl) hret rfl rfl rfl (by decide) rfl rfl rfl (by decide +kernel)
  · refine hs_ast C (I' := mV tp ln σ cm (uN wn 14680064 wt) wn pl) (t := (0, 260, -2147483648, 2147483647)) ?_ rfl rfl ?_ (by decide) (by decide) (by decide) (by decide +kernel) ?_
    · intro ls w w' i x hw hl hF hI hi ti hx tx i0 i1 hs hf
      have e : i.toInt = wn := by rw [tag_f ti, hI.2.2.2.1]; omega
      have e2 : x.toInt = 14680064 := by have h1 := hx.1; have h2 := hx.2; dsimp only at h1 h2; omega
      have h := mV_s98 hI hs
      rw [e, e2] at h
      exact h
    · intro ls w i hw hl hF hI hi ti
      have e : i.toInt = wn := by rw [tag_f ti, hI.2.2.2.1]; omega
      exact ⟨by omega, by show i.toInt < 260; omega⟩
    · refine hv_go C mV_hI [(84, 19), (84, 21), (84, 23), (84, 25), (98, 999)] [] (1, 22) [] [(49, [some (.inr 86, none), none], [(.inl (1, 260), (2, 84, 25, 1)), (.inr 86, ev_nt)], [((2, 84, 19), (0, 239), none)], [])] 80 ⟨rfl, rfl⟩ (by decide +kernel) trivial ⟨?_, trivial⟩
      refine hs_put C (I' := mV tp ln σ cm (uN wn 14680064 wt) (wn + 1) pl) (i := 253) (ci := 9) (f := 25) (j := 84) (b := (-2147483648, 2147483647)) ?_ (by decide +kernel) rfl (by decide) rfl rfl (by decide) (by decide) (by decide) (by decide) (by decide +kernel) ?_
      · intro ls w w' z hw hl hF hI hz tz hp hf
        exact mV_p25 hI hp (by rw [tag_f tz, hI.2.2.2.1]; omega)
      · refine hv_go C mV_hI [(84, 19), (84, 21), (84, 23), (84, 25), (98, 999)] [] (1, 22) [] [(59, [none, none], [(.inl (1, 240), (2, 84, 19, 1)), (.inr 86, ev_nt)], [], [])] 80 ⟨rfl, rfl⟩ (by decide +kernel) trivial ⟨?_, trivial⟩
        refine hs_put C (I' := mV tp ln σ cm (uN wn 14680064 wt) (wn + 1) (pl + 1)) (i := 222) (ci := 9) (f := 19) (j := 84) (b := (0, 240)) ?_ (by decide +kernel) rfl (by decide) rfl rfl (by decide) (by decide) (by decide) (by decide) (by decide +kernel) ?_
        · intro ls w w' z hw hl hF hI hz tz hp hf
          exact mV_p19 hI hp (by rw [tag_f tz, hI.2.2.2.2.1]; omega)
        · refine hv_go C mV_hI [(84, 19), (84, 21), (84, 23), (84, 25), (98, 999)] [] (1, 22) [] [(63, [none, none], [(.inl (1, 1), ev_nt)], [], [])] 80 ⟨rfl, rfl⟩ (by decide +kernel) trivial ⟨?_, trivial⟩
          exact hs_iret C (i := 1) (fun ls w x _ _ _ hI hx _ => Or.inr hI) hret rfl rfl rfl (by decide) rfl rfl rfl (by decide +kernel)
end
