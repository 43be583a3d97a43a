section
-- ===== PART A: goes FIRST, ahead of the names: the tables' words, and 'selects' of the private methods out of them =====
/-- a private method of a class that the tables say can be made, by its rows of tables_1 -/
def lw_okq (q : MethodName × Nat) : Prop := (q.1.cls ≠ "java/lang/invoke/MethodHandle" ∧ q.1.cls ≠ "java/lang/invoke/VarHandle") ∧ Cond.instantiable q.1.cls q.2 ∈ tables_1 ∧ Cond.privateMethod q.1 ∈ tables_1 ∧ Cond.instanceMethod q.1 ∈ tables_1
theorem lw_p0 : lw_okq (⟨"RopeRace$Tape", "skipBlanks", "()V"⟩, 7) := ⟨⟨by decide +kernel, by decide +kernel⟩, List.mem_of_getElem? (i := 29) (by decide +kernel), List.mem_of_getElem? (i := 338) (by decide +kernel), List.mem_of_getElem? (i := 339) (by decide +kernel)⟩
theorem lw_p1 : lw_okq (⟨"RopeRace$Tape", "byteHere", "()I"⟩, 7) := ⟨⟨by decide +kernel, by decide +kernel⟩, List.mem_of_getElem? (i := 29) (by decide +kernel), List.mem_of_getElem? (i := 342) (by decide +kernel), List.mem_of_getElem? (i := 343) (by decide +kernel)⟩
theorem lw_p2 : lw_okq (⟨"RopeRace$Tape", "readLine", "()V"⟩, 7) := ⟨⟨by decide +kernel, by decide +kernel⟩, List.mem_of_getElem? (i := 29) (by decide +kernel), List.mem_of_getElem? (i := 346) (by decide +kernel), List.mem_of_getElem? (i := 347) (by decide +kernel)⟩
theorem lw_p3 : lw_okq (⟨"RopeRace$Tape", "takeWord", "()I"⟩, 7) := ⟨⟨by decide +kernel, by decide +kernel⟩, List.mem_of_getElem? (i := 29) (by decide +kernel), List.mem_of_getElem? (i := 350) (by decide +kernel), List.mem_of_getElem? (i := 351) (by decide +kernel)⟩
theorem lw_p4 : lw_okq (⟨"RopeRace$Tape", "spells", "(Ljava/lang/String;II)Z"⟩, 7) := ⟨⟨by decide +kernel, by decide +kernel⟩, List.mem_of_getElem? (i := 29) (by decide +kernel), List.mem_of_getElem? (i := 364) (by decide +kernel), List.mem_of_getElem? (i := 365) (by decide +kernel)⟩
theorem lw_p5 : lw_okq (⟨"RopeRace$Tape", "blame", "(II)V"⟩, 7) := ⟨⟨by decide +kernel, by decide +kernel⟩, List.mem_of_getElem? (i := 29) (by decide +kernel), List.mem_of_getElem? (i := 416) (by decide +kernel), List.mem_of_getElem? (i := 417) (by decide +kernel)⟩
theorem lw_p6 : lw_okq (⟨"RopeRace$Tape", "takeNumber", "()I"⟩, 7) := ⟨⟨by decide +kernel, by decide +kernel⟩, List.mem_of_getElem? (i := 29) (by decide +kernel), List.mem_of_getElem? (i := 420) (by decide +kernel), List.mem_of_getElem? (i := 421) (by decide +kernel)⟩
theorem lw_p7 : lw_okq (⟨"RopeRace$Tape", "takeLineEnd", "()V"⟩, 7) := ⟨⟨by decide +kernel, by decide +kernel⟩, List.mem_of_getElem? (i := 29) (by decide +kernel), List.mem_of_getElem? (i := 431) (by decide +kernel), List.mem_of_getElem? (i := 432) (by decide +kernel)⟩
theorem lw_p8 : lw_okq (⟨"RopeRace$Town", "longestAgo", "(I)I"⟩, 2) := ⟨⟨by decide +kernel, by decide +kernel⟩, List.mem_of_getElem? (i := 80) (by decide +kernel), List.mem_of_getElem? (i := 536) (by decide +kernel), List.mem_of_getElem? (i := 537) (by decide +kernel)⟩
theorem lw_p9 : lw_okq (⟨"RopeRace$Town", "freeAt", "(II)I"⟩, 2) := ⟨⟨by decide +kernel, by decide +kernel⟩, List.mem_of_getElem? (i := 80) (by decide +kernel), List.mem_of_getElem? (i := 545) (by decide +kernel), List.mem_of_getElem? (i := 546) (by decide +kernel)⟩
theorem lw_p10 : lw_okq (⟨"RopeRace$Stable", "fillTried", "(III)Z"⟩, 5) := ⟨⟨by decide +kernel, by decide +kernel⟩, List.mem_of_getElem? (i := 97) (by decide +kernel), List.mem_of_getElem? (i := 573) (by decide +kernel), List.mem_of_getElem? (i := 574) (by decide +kernel)⟩
theorem lw_p11 : lw_okq (⟨"RopeRace$Stable", "triedIsAhead", "(I)Z"⟩, 5) := ⟨⟨by decide +kernel, by decide +kernel⟩, List.mem_of_getElem? (i := 97) (by decide +kernel), List.mem_of_getElem? (i := 577) (by decide +kernel), List.mem_of_getElem? (i := 578) (by decide +kernel)⟩
theorem lw_p12 : lw_okq (⟨"RopeRace$Rope", "layOut", "([I)V"⟩, 5) := ⟨⟨by decide +kernel, by decide +kernel⟩, List.mem_of_getElem? (i := 123) (by decide +kernel), List.mem_of_getElem? (i := 590) (by decide +kernel), List.mem_of_getElem? (i := 591) (by decide +kernel)⟩
theorem lw_p13 : lw_okq (⟨"RopeRace$Rope", "takeLeft", "(I)I"⟩, 5) := ⟨⟨by decide +kernel, by decide +kernel⟩, List.mem_of_getElem? (i := 123) (by decide +kernel), List.mem_of_getElem? (i := 595) (by decide +kernel), List.mem_of_getElem? (i := 596) (by decide +kernel)⟩
theorem lw_p14 : lw_okq (⟨"RopeRace$Rope", "closeGap", "([II)V"⟩, 5) := ⟨⟨by decide +kernel, by decide +kernel⟩, List.mem_of_getElem? (i := 123) (by decide +kernel), List.mem_of_getElem? (i := 599) (by decide +kernel), List.mem_of_getElem? (i := 600) (by decide +kernel)⟩
theorem lw_p15 : lw_okq (⟨"RopeRace$Rope", "hasOther", "(I)Z"⟩, 5) := ⟨⟨by decide +kernel, by decide +kernel⟩, List.mem_of_getElem? (i := 123) (by decide +kernel), List.mem_of_getElem? (i := 652) (by decide +kernel), List.mem_of_getElem? (i := 653) (by decide +kernel)⟩
def lw_privs_1 : List (MethodName × Nat) := [(⟨"RopeRace$Tape", "skipBlanks", "()V"⟩, 7), (⟨"RopeRace$Tape", "byteHere", "()I"⟩, 7), (⟨"RopeRace$Tape", "readLine", "()V"⟩, 7), (⟨"RopeRace$Tape", "takeWord", "()I"⟩, 7), (⟨"RopeRace$Tape", "spells", "(Ljava/lang/String;II)Z"⟩, 7), (⟨"RopeRace$Tape", "blame", "(II)V"⟩, 7), (⟨"RopeRace$Tape", "takeNumber", "()I"⟩, 7), (⟨"RopeRace$Tape", "takeLineEnd", "()V"⟩, 7), (⟨"RopeRace$Town", "longestAgo", "(I)I"⟩, 2), (⟨"RopeRace$Town", "freeAt", "(II)I"⟩, 2), (⟨"RopeRace$Stable", "fillTried", "(III)Z"⟩, 5), (⟨"RopeRace$Stable", "triedIsAhead", "(I)Z"⟩, 5), (⟨"RopeRace$Rope", "layOut", "([I)V"⟩, 5), (⟨"RopeRace$Rope", "takeLeft", "(I)I"⟩, 5), (⟨"RopeRace$Rope", "closeGap", "([II)V"⟩, 5), (⟨"RopeRace$Rope", "hasOther", "(I)Z"⟩, 5)]
theorem lw_r1 : ∀ q ∈ lw_privs_1, lw_okq q := List.forall_mem_cons.mpr ⟨lw_p0, List.forall_mem_cons.mpr ⟨lw_p1, List.forall_mem_cons.mpr ⟨lw_p2, List.forall_mem_cons.mpr ⟨lw_p3, List.forall_mem_cons.mpr ⟨lw_p4, List.forall_mem_cons.mpr ⟨lw_p5, List.forall_mem_cons.mpr ⟨lw_p6, List.forall_mem_cons.mpr ⟨lw_p7, List.forall_mem_cons.mpr ⟨lw_p8, List.forall_mem_cons.mpr ⟨lw_p9, List.forall_mem_cons.mpr ⟨lw_p10, List.forall_mem_cons.mpr ⟨lw_p11, List.forall_mem_cons.mpr ⟨lw_p12, List.forall_mem_cons.mpr ⟨lw_p13, List.forall_mem_cons.mpr ⟨lw_p14, List.forall_mem_cons.mpr ⟨lw_p15, fun _ h => absurd h List.not_mem_nil⟩⟩⟩⟩⟩⟩⟩⟩⟩⟩⟩⟩⟩⟩⟩⟩
theorem lw_p16 : lw_okq (⟨"RopeRace$Rope", "moveToEnd", "(I)V"⟩, 5) := ⟨⟨by decide +kernel, by decide +kernel⟩, List.mem_of_getElem? (i := 123) (by decide +kernel), List.mem_of_getElem? (i := 665) (by decide +kernel), List.mem_of_getElem? (i := 666) (by decide +kernel)⟩
theorem lw_p17 : lw_okq (⟨"RopeRace", "startRace", "(I)V"⟩, 10) := ⟨⟨by decide +kernel, by decide +kernel⟩, List.mem_of_getElem? (i := 21) (by decide +kernel), List.mem_of_getElem? (i := 669) (by decide +kernel), List.mem_of_getElem? (i := 670) (by decide +kernel)⟩
theorem lw_p18 : lw_okq (⟨"RopeRace$Race", "lineUp", "()I"⟩, 14) := ⟨⟨by decide +kernel, by decide +kernel⟩, List.mem_of_getElem? (i := 149) (by decide +kernel), List.mem_of_getElem? (i := 707) (by decide +kernel), List.mem_of_getElem? (i := 708) (by decide +kernel)⟩
theorem lw_p19 : lw_okq (⟨"RopeRace$Race", "insertTurn", "(II)V"⟩, 14) := ⟨⟨by decide +kernel, by decide +kernel⟩, List.mem_of_getElem? (i := 149) (by decide +kernel), List.mem_of_getElem? (i := 715) (by decide +kernel), List.mem_of_getElem? (i := 716) (by decide +kernel)⟩
theorem lw_p20 : lw_okq (⟨"RopeRace$Race", "takeTurn", "(LRopeRace$Runner;)V"⟩, 14) := ⟨⟨by decide +kernel, by decide +kernel⟩, List.mem_of_getElem? (i := 149) (by decide +kernel), List.mem_of_getElem? (i := 723) (by decide +kernel), List.mem_of_getElem? (i := 724) (by decide +kernel)⟩
theorem lw_p21 : lw_okq (⟨"RopeRace$Race", "followOrders", "(LRopeRace$Runner;)V"⟩, 14) := ⟨⟨by decide +kernel, by decide +kernel⟩, List.mem_of_getElem? (i := 149) (by decide +kernel), List.mem_of_getElem? (i := 727) (by decide +kernel), List.mem_of_getElem? (i := 728) (by decide +kernel)⟩
theorem lw_p22 : lw_okq (⟨"RopeRace$Race", "isFree", "(II)Z"⟩, 14) := ⟨⟨by decide +kernel, by decide +kernel⟩, List.mem_of_getElem? (i := 149) (by decide +kernel), List.mem_of_getElem? (i := 742) (by decide +kernel), List.mem_of_getElem? (i := 743) (by decide +kernel)⟩
theorem lw_p23 : lw_okq (⟨"RopeRace$Race", "laneBeside", "(II)I"⟩, 14) := ⟨⟨by decide +kernel, by decide +kernel⟩, List.mem_of_getElem? (i := 149) (by decide +kernel), List.mem_of_getElem? (i := 746) (by decide +kernel), List.mem_of_getElem? (i := 747) (by decide +kernel)⟩
theorem lw_p24 : lw_okq (⟨"RopeRace$Race", "setPace", "(LRopeRace$Runner;)V"⟩, 14) := ⟨⟨by decide +kernel, by decide +kernel⟩, List.mem_of_getElem? (i := 149) (by decide +kernel), List.mem_of_getElem? (i := 750) (by decide +kernel), List.mem_of_getElem? (i := 751) (by decide +kernel)⟩
theorem lw_p25 : lw_okq (⟨"RopeRace$Race", "stepOn", "(LRopeRace$Runner;)Z"⟩, 14) := ⟨⟨by decide +kernel, by decide +kernel⟩, List.mem_of_getElem? (i := 149) (by decide +kernel), List.mem_of_getElem? (i := 757) (by decide +kernel), List.mem_of_getElem? (i := 758) (by decide +kernel)⟩
theorem lw_p26 : lw_okq (⟨"RopeRace$Race", "fallsHere", "(LRopeRace$Runner;)Z"⟩, 14) := ⟨⟨by decide +kernel, by decide +kernel⟩, List.mem_of_getElem? (i := 149) (by decide +kernel), List.mem_of_getElem? (i := 761) (by decide +kernel), List.mem_of_getElem? (i := 762) (by decide +kernel)⟩
theorem lw_p27 : lw_okq (⟨"RopeRace$Race", "isBend", "(I)Z"⟩, 14) := ⟨⟨by decide +kernel, by decide +kernel⟩, List.mem_of_getElem? (i := 149) (by decide +kernel), List.mem_of_getElem? (i := 765) (by decide +kernel), List.mem_of_getElem? (i := 766) (by decide +kernel)⟩
theorem lw_p28 : lw_okq (⟨"RopeRace$Race", "arrive", "(LRopeRace$Runner;)V"⟩, 14) := ⟨⟨by decide +kernel, by decide +kernel⟩, List.mem_of_getElem? (i := 149) (by decide +kernel), List.mem_of_getElem? (i := 772) (by decide +kernel), List.mem_of_getElem? (i := 773) (by decide +kernel)⟩
theorem lw_p29 : lw_okq (⟨"RopeRaceModel", "step", "()V"⟩, 54) := ⟨⟨by decide +kernel, by decide +kernel⟩, List.mem_of_getElem? (i := 815) (by decide +kernel), List.mem_of_getElem? (i := 992) (by decide +kernel), List.mem_of_getElem? (i := 993) (by decide +kernel)⟩
theorem lw_p30 : lw_okq (⟨"RopeRaceModel", "here", "()I"⟩, 54) := ⟨⟨by decide +kernel, by decide +kernel⟩, List.mem_of_getElem? (i := 815) (by decide +kernel), List.mem_of_getElem? (i := 996) (by decide +kernel), List.mem_of_getElem? (i := 997) (by decide +kernel)⟩
theorem lw_p31 : lw_okq (⟨"RopeRaceModel", "wordOf", "()I"⟩, 54) := ⟨⟨by decide +kernel, by decide +kernel⟩, List.mem_of_getElem? (i := 815) (by decide +kernel), List.mem_of_getElem? (i := 1003) (by decide +kernel), List.mem_of_getElem? (i := 1004) (by decide +kernel)⟩
def lw_privs_2 : List (MethodName × Nat) := [(⟨"RopeRace$Rope", "moveToEnd", "(I)V"⟩, 5), (⟨"RopeRace", "startRace", "(I)V"⟩, 10), (⟨"RopeRace$Race", "lineUp", "()I"⟩, 14), (⟨"RopeRace$Race", "insertTurn", "(II)V"⟩, 14), (⟨"RopeRace$Race", "takeTurn", "(LRopeRace$Runner;)V"⟩, 14), (⟨"RopeRace$Race", "followOrders", "(LRopeRace$Runner;)V"⟩, 14), (⟨"RopeRace$Race", "isFree", "(II)Z"⟩, 14), (⟨"RopeRace$Race", "laneBeside", "(II)I"⟩, 14), (⟨"RopeRace$Race", "setPace", "(LRopeRace$Runner;)V"⟩, 14), (⟨"RopeRace$Race", "stepOn", "(LRopeRace$Runner;)Z"⟩, 14), (⟨"RopeRace$Race", "fallsHere", "(LRopeRace$Runner;)Z"⟩, 14), (⟨"RopeRace$Race", "isBend", "(I)Z"⟩, 14), (⟨"RopeRace$Race", "arrive", "(LRopeRace$Runner;)V"⟩, 14), (⟨"RopeRaceModel", "step", "()V"⟩, 54), (⟨"RopeRaceModel", "here", "()I"⟩, 54), (⟨"RopeRaceModel", "wordOf", "()I"⟩, 54)]
theorem lw_r2 : ∀ q ∈ lw_privs_2, lw_okq q := List.forall_mem_cons.mpr ⟨lw_p16, List.forall_mem_cons.mpr ⟨lw_p17, List.forall_mem_cons.mpr ⟨lw_p18, List.forall_mem_cons.mpr ⟨lw_p19, List.forall_mem_cons.mpr ⟨lw_p20, List.forall_mem_cons.mpr ⟨lw_p21, List.forall_mem_cons.mpr ⟨lw_p22, List.forall_mem_cons.mpr ⟨lw_p23, List.forall_mem_cons.mpr ⟨lw_p24, List.forall_mem_cons.mpr ⟨lw_p25, List.forall_mem_cons.mpr ⟨lw_p26, List.forall_mem_cons.mpr ⟨lw_p27, List.forall_mem_cons.mpr ⟨lw_p28, List.forall_mem_cons.mpr ⟨lw_p29, List.forall_mem_cons.mpr ⟨lw_p30, List.forall_mem_cons.mpr ⟨lw_p31, fun _ h => absurd h List.not_mem_nil⟩⟩⟩⟩⟩⟩⟩⟩⟩⟩⟩⟩⟩⟩⟩⟩
theorem lw_p32 : lw_okq (⟨"RopeRaceModel", "line", "()V"⟩, 54) := ⟨⟨by decide +kernel, by decide +kernel⟩, List.mem_of_getElem? (i := 815) (by decide +kernel), List.mem_of_getElem? (i := 1013) (by decide +kernel), List.mem_of_getElem? (i := 1014) (by decide +kernel)⟩
theorem lw_p33 : lw_okq (⟨"RopeRaceModel", "wrong", "(II)V"⟩, 54) := ⟨⟨by decide +kernel, by decide +kernel⟩, List.mem_of_getElem? (i := 815) (by decide +kernel), List.mem_of_getElem? (i := 1017) (by decide +kernel), List.mem_of_getElem? (i := 1018) (by decide +kernel)⟩
theorem lw_p34 : lw_okq (⟨"RopeRaceModel", "lawOf", "(II)I"⟩, 54) := ⟨⟨by decide +kernel, by decide +kernel⟩, List.mem_of_getElem? (i := 815) (by decide +kernel), List.mem_of_getElem? (i := 1032) (by decide +kernel), List.mem_of_getElem? (i := 1033) (by decide +kernel)⟩
theorem lw_p35 : lw_okq (⟨"RopeRaceModel", "isBarred", "(I)Z"⟩, 54) := ⟨⟨by decide +kernel, by decide +kernel⟩, List.mem_of_getElem? (i := 815) (by decide +kernel), List.mem_of_getElem? (i := 1052) (by decide +kernel), List.mem_of_getElem? (i := 1053) (by decide +kernel)⟩
theorem lw_p36 : lw_okq (⟨"RopeRaceModel", "longest", "()I"⟩, 54) := ⟨⟨by decide +kernel, by decide +kernel⟩, List.mem_of_getElem? (i := 815) (by decide +kernel), List.mem_of_getElem? (i := 1057) (by decide +kernel), List.mem_of_getElem? (i := 1058) (by decide +kernel)⟩
theorem lw_p37 : lw_okq (⟨"RopeRaceModel", "drawnWard", "(I)I"⟩, 54) := ⟨⟨by decide +kernel, by decide +kernel⟩, List.mem_of_getElem? (i := 815) (by decide +kernel), List.mem_of_getElem? (i := 1061) (by decide +kernel), List.mem_of_getElem? (i := 1062) (by decide +kernel)⟩
theorem lw_p38 : lw_okq (⟨"RopeRaceModel", "draws", "(I)I"⟩, 54) := ⟨⟨by decide +kernel, by decide +kernel⟩, List.mem_of_getElem? (i := 815) (by decide +kernel), List.mem_of_getElem? (i := 1065) (by decide +kernel), List.mem_of_getElem? (i := 1066) (by decide +kernel)⟩
theorem lw_p39 : lw_okq (⟨"RopeRaceModel", "tries", "(I)V"⟩, 54) := ⟨⟨by decide +kernel, by decide +kernel⟩, List.mem_of_getElem? (i := 815) (by decide +kernel), List.mem_of_getElem? (i := 1074) (by decide +kernel), List.mem_of_getElem? (i := 1075) (by decide +kernel)⟩
theorem lw_p40 : lw_okq (⟨"RopeRaceModel", "isAhead", "(I)Z"⟩, 54) := ⟨⟨by decide +kernel, by decide +kernel⟩, List.mem_of_getElem? (i := 815) (by decide +kernel), List.mem_of_getElem? (i := 1079) (by decide +kernel), List.mem_of_getElem? (i := 1080) (by decide +kernel)⟩
theorem lw_p41 : lw_okq (⟨"RopeRaceModel", "isWard", "(I)Z"⟩, 54) := ⟨⟨by decide +kernel, by decide +kernel⟩, List.mem_of_getElem? (i := 815) (by decide +kernel), List.mem_of_getElem? (i := 1095) (by decide +kernel), List.mem_of_getElem? (i := 1096) (by decide +kernel)⟩
theorem lw_p42 : lw_okq (⟨"RopeRaceModel", "runs", "(I)Z"⟩, 54) := ⟨⟨by decide +kernel, by decide +kernel⟩, List.mem_of_getElem? (i := 815) (by decide +kernel), List.mem_of_getElem? (i := 1115) (by decide +kernel), List.mem_of_getElem? (i := 1116) (by decide +kernel)⟩
theorem lw_p43 : lw_okq (⟨"RopeRaceModel", "isFalse", "()V"⟩, 54) := ⟨⟨by decide +kernel, by decide +kernel⟩, List.mem_of_getElem? (i := 815) (by decide +kernel), List.mem_of_getElem? (i := 1123) (by decide +kernel), List.mem_of_getElem? (i := 1124) (by decide +kernel)⟩
theorem lw_p44 : lw_okq (⟨"RopeRaceModel", "tick", "()V"⟩, 54) := ⟨⟨by decide +kernel, by decide +kernel⟩, List.mem_of_getElem? (i := 815) (by decide +kernel), List.mem_of_getElem? (i := 1131) (by decide +kernel), List.mem_of_getElem? (i := 1132) (by decide +kernel)⟩
theorem lw_p45 : lw_okq (⟨"RopeRaceModel", "isOn", "(I)Z"⟩, 54) := ⟨⟨by decide +kernel, by decide +kernel⟩, List.mem_of_getElem? (i := 815) (by decide +kernel), List.mem_of_getElem? (i := 1135) (by decide +kernel), List.mem_of_getElem? (i := 1136) (by decide +kernel)⟩
theorem lw_p46 : lw_okq (⟨"RopeRaceModel", "isBehind", "(II)Z"⟩, 54) := ⟨⟨by decide +kernel, by decide +kernel⟩, List.mem_of_getElem? (i := 815) (by decide +kernel), List.mem_of_getElem? (i := 1139) (by decide +kernel), List.mem_of_getElem? (i := 1140) (by decide +kernel)⟩
theorem lw_p47 : lw_okq (⟨"RopeRaceModel", "turns", "(I)V"⟩, 54) := ⟨⟨by decide +kernel, by decide +kernel⟩, List.mem_of_getElem? (i := 815) (by decide +kernel), List.mem_of_getElem? (i := 1143) (by decide +kernel), List.mem_of_getElem? (i := 1144) (by decide +kernel)⟩
def lw_privs_3 : List (MethodName × Nat) := [(⟨"RopeRaceModel", "line", "()V"⟩, 54), (⟨"RopeRaceModel", "wrong", "(II)V"⟩, 54), (⟨"RopeRaceModel", "lawOf", "(II)I"⟩, 54), (⟨"RopeRaceModel", "isBarred", "(I)Z"⟩, 54), (⟨"RopeRaceModel", "longest", "()I"⟩, 54), (⟨"RopeRaceModel", "drawnWard", "(I)I"⟩, 54), (⟨"RopeRaceModel", "draws", "(I)I"⟩, 54), (⟨"RopeRaceModel", "tries", "(I)V"⟩, 54), (⟨"RopeRaceModel", "isAhead", "(I)Z"⟩, 54), (⟨"RopeRaceModel", "isWard", "(I)Z"⟩, 54), (⟨"RopeRaceModel", "runs", "(I)Z"⟩, 54), (⟨"RopeRaceModel", "isFalse", "()V"⟩, 54), (⟨"RopeRaceModel", "tick", "()V"⟩, 54), (⟨"RopeRaceModel", "isOn", "(I)Z"⟩, 54), (⟨"RopeRaceModel", "isBehind", "(II)Z"⟩, 54), (⟨"RopeRaceModel", "turns", "(I)V"⟩, 54)]
theorem lw_r3 : ∀ q ∈ lw_privs_3, lw_okq q := List.forall_mem_cons.mpr ⟨lw_p32, List.forall_mem_cons.mpr ⟨lw_p33, List.forall_mem_cons.mpr ⟨lw_p34, List.forall_mem_cons.mpr ⟨lw_p35, List.forall_mem_cons.mpr ⟨lw_p36, List.forall_mem_cons.mpr ⟨lw_p37, List.forall_mem_cons.mpr ⟨lw_p38, List.forall_mem_cons.mpr ⟨lw_p39, List.forall_mem_cons.mpr ⟨lw_p40, List.forall_mem_cons.mpr ⟨lw_p41, List.forall_mem_cons.mpr ⟨lw_p42, List.forall_mem_cons.mpr ⟨lw_p43, List.forall_mem_cons.mpr ⟨lw_p44, List.forall_mem_cons.mpr ⟨lw_p45, List.forall_mem_cons.mpr ⟨lw_p46, List.forall_mem_cons.mpr ⟨lw_p47, fun _ h => absurd h List.not_mem_nil⟩⟩⟩⟩⟩⟩⟩⟩⟩⟩⟩⟩⟩⟩⟩⟩
theorem lw_p48 : lw_okq (⟨"RopeRaceModel", "obeys", "(I)V"⟩, 54) := ⟨⟨by decide +kernel, by decide +kernel⟩, List.mem_of_getElem? (i := 815) (by decide +kernel), List.mem_of_getElem? (i := 1147) (by decide +kernel), List.mem_of_getElem? (i := 1148) (by decide +kernel)⟩
theorem lw_p49 : lw_okq (⟨"RopeRaceModel", "isFree", "(II)Z"⟩, 54) := ⟨⟨by decide +kernel, by decide +kernel⟩, List.mem_of_getElem? (i := 815) (by decide +kernel), List.mem_of_getElem? (i := 1151) (by decide +kernel), List.mem_of_getElem? (i := 1152) (by decide +kernel)⟩
theorem lw_p50 : lw_okq (⟨"RopeRaceModel", "cellOf", "(I)I"⟩, 54) := ⟨⟨by decide +kernel, by decide +kernel⟩, List.mem_of_getElem? (i := 815) (by decide +kernel), List.mem_of_getElem? (i := 1155) (by decide +kernel), List.mem_of_getElem? (i := 1156) (by decide +kernel)⟩
theorem lw_p51 : lw_okq (⟨"RopeRaceModel", "moves", "(I)Z"⟩, 54) := ⟨⟨by decide +kernel, by decide +kernel⟩, List.mem_of_getElem? (i := 815) (by decide +kernel), List.mem_of_getElem? (i := 1162) (by decide +kernel), List.mem_of_getElem? (i := 1163) (by decide +kernel)⟩
theorem lw_p52 : lw_okq (⟨"RopeRaceModel", "ends", "()V"⟩, 54) := ⟨⟨by decide +kernel, by decide +kernel⟩, List.mem_of_getElem? (i := 815) (by decide +kernel), List.mem_of_getElem? (i := 1166) (by decide +kernel), List.mem_of_getElem? (i := 1167) (by decide +kernel)⟩
def lw_privs_4 : List (MethodName × Nat) := [(⟨"RopeRaceModel", "obeys", "(I)V"⟩, 54), (⟨"RopeRaceModel", "isFree", "(II)Z"⟩, 54), (⟨"RopeRaceModel", "cellOf", "(I)I"⟩, 54), (⟨"RopeRaceModel", "moves", "(I)Z"⟩, 54), (⟨"RopeRaceModel", "ends", "()V"⟩, 54)]
theorem lw_r4 : ∀ q ∈ lw_privs_4, lw_okq q := List.forall_mem_cons.mpr ⟨lw_p48, List.forall_mem_cons.mpr ⟨lw_p49, List.forall_mem_cons.mpr ⟨lw_p50, List.forall_mem_cons.mpr ⟨lw_p51, List.forall_mem_cons.mpr ⟨lw_p52, fun _ h => absurd h List.not_mem_nil⟩⟩⟩⟩⟩
def lw_privs : List (MethodName × Nat) := lw_privs_1 ++ (lw_privs_2 ++ (lw_privs_3 ++ (lw_privs_4)))
def lw_tbl : List Cond := k2_sels lw_privs ++ tables_1
theorem lw_privs_ok : ∀ q ∈ lw_privs, lw_okq q := by
  show ∀ q ∈ lw_privs_1 ++ (lw_privs_2 ++ (lw_privs_3 ++ (lw_privs_4))), lw_okq q
  exact List.forall_mem_append.mpr ⟨lw_r1, List.forall_mem_append.mpr ⟨lw_r2, List.forall_mem_append.mpr ⟨lw_r3, lw_r4⟩⟩⟩
end
section
def RX0 : String := "RopeRace$Draws"
def TX0 : u_T := fun k => match k with
  | _ => ("RopeRace$Draws", "x", "I", false)
def tyX0 : Nat → FieldType := fun k => match k with
  | _ => .int
theorem nmX0 : ∀ a, a < 1 → ∀ b, b < 1 → a ≠ b → (TX0 a).2.1 ≠ (TX0 b).2.1 := by decide +kernel
theorem tyX0_ok : ∀ k, k < 1 → parseFieldDescriptor (TX0 k).2.2.1 = some (tyX0 k) := by decide +kernel
abbrev cX0_init : ByteArray := prog_2_method_1_code
def yX0_init : MethodName := ⟨RX0, "<init>", "()V"⟩
abbrev cX0_begin : ByteArray := prog_2_method_2_code
def yX0_begin : MethodName := ⟨RX0, "begin", "(I)V"⟩
abbrev cX0_below : ByteArray := prog_2_method_3_code
def yX0_below : MethodName := ⟨RX0, "below", "(I)I"⟩
def RX1 : String := "RopeRace$Pacts"
def TX1 : u_T := fun k => match k with
  | 0 => ("RopeRace$Pacts", "size", "I", false)
  | 1 => ("RopeRace$Pacts", "payers", "[I", true)
  | 2 => ("RopeRace$Pacts", "payees", "[I", true)
  | _ => ("RopeRace$Pacts", "sums", "[I", true)
def tyX1 : Nat → FieldType := fun k => match k with
  | 0 => .int
  | 1 => .array .int
  | 2 => .array .int
  | _ => .array .int
theorem nmX1 : ∀ a, a < 4 → ∀ b, b < 4 → a ≠ b → (TX1 a).2.1 ≠ (TX1 b).2.1 := by decide +kernel
theorem tyX1_ok : ∀ k, k < 4 → parseFieldDescriptor (TX1 k).2.2.1 = some (tyX1 k) := by decide +kernel
abbrev cX1_init : ByteArray := prog_3_method_1_code
def yX1_init : MethodName := ⟨RX1, "<init>", "()V"⟩
abbrev cX1_add : ByteArray := prog_3_method_2_code
def yX1_add : MethodName := ⟨RX1, "add", "(III)I"⟩
abbrev cX1_settle : ByteArray := prog_3_method_3_code
def yX1_settle : MethodName := ⟨RX1, "settle", "(LRopeRace$Town;I)V"⟩
def RX2 : String := "RopeRace$Race"
def TX2 : u_T := fun k => match k with
  | 0 => ("RopeRace$Race", "cells", "I", false)
  | 1 => ("RopeRace$Race", "bends", "[Z", true)
  | 2 => ("RopeRace$Race", "orderHow", "[I", true)
  | 3 => ("RopeRace$Race", "orderOther", "[I", true)
  | 4 => ("RopeRace$Race", "size", "I", false)
  | 5 => ("RopeRace$Race", "runners", "[LRopeRace$Runner;", true)
  | 6 => ("RopeRace$Race", "turns", "[I", true)
  | 7 => ("RopeRace$Race", "draws", "LRopeRace$Draws;", true)
  | 8 => ("RopeRace$Race", "laps", "I", false)
  | 9 => ("RopeRace$Race", "safePace", "I", false)
  | 10 => ("RopeRace$Race", "looseWins", "Z", false)
  | 11 => ("RopeRace$Race", "ticks", "I", false)
  | 12 => ("RopeRace$Race", "arrived", "I", false)
  | _ => ("RopeRace$Race", "winner", "I", false)
def tyX2 : Nat → FieldType := fun k => match k with
  | 0 => .int
  | 1 => .array .boolean
  | 2 => .array .int
  | 3 => .array .int
  | 4 => .int
  | 5 => .array (.object "RopeRace$Runner")
  | 6 => .array .int
  | 7 => .object "RopeRace$Draws"
  | 8 => .int
  | 9 => .int
  | 10 => .boolean
  | 11 => .int
  | 12 => .int
  | _ => .int
theorem nmX2 : ∀ a, a < 14 → ∀ b, b < 14 → a ≠ b → (TX2 a).2.1 ≠ (TX2 b).2.1 := by decide +kernel
theorem tyX2_ok : ∀ k, k < 14 → parseFieldDescriptor (TX2 k).2.2.1 = some (tyX2 k) := by decide +kernel
abbrev cX2_init : ByteArray := prog_4_method_1_code
def yX2_init : MethodName := ⟨RX2, "<init>", "()V"⟩
abbrev cX2_layRing : ByteArray := prog_4_method_2_code
def yX2_layRing : MethodName := ⟨RX2, "layRing", "(I)V"⟩
abbrev cX2_begin : ByteArray := prog_4_method_3_code
def yX2_begin : MethodName := ⟨RX2, "begin", "(I)V"⟩
abbrev cX2_setLaws : ByteArray := prog_4_method_4_code
def yX2_setLaws : MethodName := ⟨RX2, "setLaws", "(III)V"⟩
abbrev cX2_enter : ByteArray := prog_4_method_5_code
def yX2_enter : MethodName := ⟨RX2, "enter", "(II)V"⟩
abbrev cX2_find : ByteArray := prog_4_method_6_code
def yX2_find : MethodName := ⟨RX2, "find", "(I)LRopeRace$Runner;"⟩
abbrev cX2_isOver : ByteArray := prog_4_method_7_code
def yX2_isOver : MethodName := ⟨RX2, "isOver", "()Z"⟩
abbrev cX2_tick : ByteArray := prog_4_method_8_code
def yX2_tick : MethodName := ⟨RX2, "tick", "()V"⟩
abbrev cX2_lineUp : ByteArray := prog_4_method_9_code
def yX2_lineUp : MethodName := ⟨RX2, "lineUp", "()I"⟩
abbrev cX2_insertTurn : ByteArray := prog_4_method_10_code
def yX2_insertTurn : MethodName := ⟨RX2, "insertTurn", "(II)V"⟩
abbrev cX2_takeTurn : ByteArray := prog_4_method_11_code
def yX2_takeTurn : MethodName := ⟨RX2, "takeTurn", "(LRopeRace$Runner;)V"⟩
abbrev cX2_followOrders : ByteArray := prog_4_method_12_code
def yX2_followOrders : MethodName := ⟨RX2, "followOrders", "(LRopeRace$Runner;)V"⟩
abbrev cX2_setPace : ByteArray := prog_4_method_13_code
def yX2_setPace : MethodName := ⟨RX2, "setPace", "(LRopeRace$Runner;)V"⟩
abbrev cX2_stepOn : ByteArray := prog_4_method_14_code
def yX2_stepOn : MethodName := ⟨RX2, "stepOn", "(LRopeRace$Runner;)Z"⟩
abbrev cX2_fallsHere : ByteArray := prog_4_method_15_code
def yX2_fallsHere : MethodName := ⟨RX2, "fallsHere", "(LRopeRace$Runner;)Z"⟩
abbrev cX2_arrive : ByteArray := prog_4_method_16_code
def yX2_arrive : MethodName := ⟨RX2, "arrive", "(LRopeRace$Runner;)V"⟩
abbrev cX2_laneBeside : ByteArray := prog_4_method_17_code
def yX2_laneBeside : MethodName := ⟨RX2, "laneBeside", "(II)I"⟩
abbrev cX2_isFree : ByteArray := prog_4_method_18_code
def yX2_isFree : MethodName := ⟨RX2, "isFree", "(II)Z"⟩
abbrev cX2_isBend : ByteArray := prog_4_method_19_code
def yX2_isBend : MethodName := ⟨RX2, "isBend", "(I)Z"⟩
def RX3 : String := "RopeRace$Rope"
def TX3 : u_T := fun k => match k with
  | 0 => ("RopeRace$Rope", "run", "I", false)
  | 1 => ("RopeRace$Rope", "runners", "[I", true)
  | 2 => ("RopeRace$Rope", "places", "[I", true)
  | 3 => ("RopeRace$Rope", "seenAt", "[I", true)
  | _ => ("RopeRace$Rope", "left", "[I", true)
def tyX3 : Nat → FieldType := fun k => match k with
  | 0 => .int
  | 1 => .array .int
  | 2 => .array .int
  | 3 => .array .int
  | _ => .array .int
theorem nmX3 : ∀ a, a < 5 → ∀ b, b < 5 → a ≠ b → (TX3 a).2.1 ≠ (TX3 b).2.1 := by decide +kernel
theorem tyX3_ok : ∀ k, k < 5 → parseFieldDescriptor (TX3 k).2.2.1 = some (tyX3 k) := by decide +kernel
abbrev cX3_init : ByteArray := prog_5_method_1_code
def yX3_init : MethodName := ⟨RX3, "<init>", "()V"⟩
abbrev cX3_listRunners : ByteArray := prog_5_method_2_code
def yX3_listRunners : MethodName := ⟨RX3, "listRunners", "(LRopeRace$Town;)V"⟩
abbrev cX3_drawHorses : ByteArray := prog_5_method_3_code
def yX3_drawHorses : MethodName := ⟨RX3, "drawHorses", "(LRopeRace$Town;[ILRopeRace$Draws;)V"⟩
abbrev cX3_drawPlaces : ByteArray := prog_5_method_4_code
def yX3_drawPlaces : MethodName := ⟨RX3, "drawPlaces", "(LRopeRace$Draws;)V"⟩
abbrev cX3_layOut : ByteArray := prog_5_method_5_code
def yX3_layOut : MethodName := ⟨RX3, "layOut", "([I)V"⟩
abbrev cX3_takeLeft : ByteArray := prog_5_method_6_code
def yX3_takeLeft : MethodName := ⟨RX3, "takeLeft", "(I)I"⟩
abbrev cX3_closeGap : ByteArray := prog_5_method_7_code
def yX3_closeGap : MethodName := ⟨RX3, "closeGap", "([II)V"⟩
abbrev cX3_forgetSeen : ByteArray := prog_5_method_8_code
def yX3_forgetSeen : MethodName := ⟨RX3, "forgetSeen", "()V"⟩
abbrev cX3_hasOther : ByteArray := prog_5_method_9_code
def yX3_hasOther : MethodName := ⟨RX3, "hasOther", "(I)Z"⟩
abbrev cX3_countOthers : ByteArray := prog_5_method_10_code
def yX3_countOthers : MethodName := ⟨RX3, "countOthers", "()I"⟩
abbrev cX3_addFalseStarts : ByteArray := prog_5_method_11_code
def yX3_addFalseStarts : MethodName := ⟨RX3, "addFalseStarts", "(LRopeRace$Town;)V"⟩
abbrev cX3_sendBack : ByteArray := prog_5_method_12_code
def yX3_sendBack : MethodName := ⟨RX3, "sendBack", "(LRopeRace$Town;I)V"⟩
abbrev cX3_moveToEnd : ByteArray := prog_5_method_13_code
def yX3_moveToEnd : MethodName := ⟨RX3, "moveToEnd", "(I)V"⟩
def RX4 : String := "RopeRace$Runner"
def TX4 : u_T := fun k => match k with
  | 0 => ("RopeRace$Runner", "ward", "I", false)
  | 1 => ("RopeRace$Runner", "topPace", "I", false)
  | 2 => ("RopeRace$Runner", "dist", "I", false)
  | 3 => ("RopeRace$Runner", "lane", "I", false)
  | 4 => ("RopeRace$Runner", "pace", "I", false)
  | 5 => ("RopeRace$Runner", "riderless", "Z", false)
  | 6 => ("RopeRace$Runner", "arrivedAs", "I", false)
  | _ => ("RopeRace$Runner", "bumps", "I", false)
def tyX4 : Nat → FieldType := fun k => match k with
  | 0 => .int
  | 1 => .int
  | 2 => .int
  | 3 => .int
  | 4 => .int
  | 5 => .boolean
  | 6 => .int
  | _ => .int
theorem nmX4 : ∀ a, a < 8 → ∀ b, b < 8 → a ≠ b → (TX4 a).2.1 ≠ (TX4 b).2.1 := by decide +kernel
theorem tyX4_ok : ∀ k, k < 8 → parseFieldDescriptor (TX4 k).2.2.1 = some (tyX4 k) := by decide +kernel
abbrev cX4_init : ByteArray := prog_6_method_1_code
def yX4_init : MethodName := ⟨RX4, "<init>", "()V"⟩
abbrev cX4_begin : ByteArray := prog_6_method_2_code
def yX4_begin : MethodName := ⟨RX4, "begin", "(III)V"⟩
abbrev cX4_onRing : ByteArray := prog_6_method_3_code
def yX4_onRing : MethodName := ⟨RX4, "onRing", "()Z"⟩
abbrev cX4_isCloseAheadOf : ByteArray := prog_6_method_4_code
def yX4_isCloseAheadOf : MethodName := ⟨RX4, "isCloseAheadOf", "(LRopeRace$Runner;)Z"⟩
abbrev cX4_goesAheadOf : ByteArray := prog_6_method_5_code
def yX4_goesAheadOf : MethodName := ⟨RX4, "goesAheadOf", "(LRopeRace$Runner;)Z"⟩
def RX5 : String := "RopeRace$Stable"
def TX5 : u_T := fun k => match k with
  | 0 => ("RopeRace$Stable", "size", "I", false)
  | 1 => ("RopeRace$Stable", "marks", "[I", true)
  | 2 => ("RopeRace$Stable", "isSound", "[Z", true)
  | 3 => ("RopeRace$Stable", "picked", "[I", true)
  | _ => ("RopeRace$Stable", "tried", "[I", true)
def tyX5 : Nat → FieldType := fun k => match k with
  | 0 => .int
  | 1 => .array .int
  | 2 => .array .boolean
  | 3 => .array .int
  | _ => .array .int
theorem nmX5 : ∀ a, a < 5 → ∀ b, b < 5 → a ≠ b → (TX5 a).2.1 ≠ (TX5 b).2.1 := by decide +kernel
theorem tyX5_ok : ∀ k, k < 5 → parseFieldDescriptor (TX5 k).2.2.1 = some (tyX5 k) := by decide +kernel
abbrev cX5_init : ByteArray := prog_7_method_1_code
def yX5_init : MethodName := ⟨RX5, "<init>", "()V"⟩
abbrev cX5_addHorse : ByteArray := prog_7_method_2_code
def yX5_addHorse : MethodName := ⟨RX5, "addHorse", "(I)I"⟩
abbrev cX5_has : ByteArray := prog_7_method_3_code
def yX5_has : MethodName := ⟨RX5, "has", "(I)Z"⟩
abbrev cX5_markOf : ByteArray := prog_7_method_4_code
def yX5_markOf : MethodName := ⟨RX5, "markOf", "(I)I"⟩
abbrev cX5_pickEven : ByteArray := prog_7_method_5_code
def yX5_pickEven : MethodName := ⟨RX5, "pickEven", "(I)I"⟩
abbrev cX5_fillTried : ByteArray := prog_7_method_6_code
def yX5_fillTried : MethodName := ⟨RX5, "fillTried", "(III)Z"⟩
abbrev cX5_triedIsAhead : ByteArray := prog_7_method_7_code
def yX5_triedIsAhead : MethodName := ⟨RX5, "triedIsAhead", "(I)Z"⟩
def RX6 : String := "RopeRace$Statutes"
def TX6 : u_T := fun k => match k with
  | 0 => ("RopeRace$Statutes", "told", "I", false)
  | 1 => ("RopeRace$Statutes", "fromYear", "[I", true)
  | _ => ("RopeRace$Statutes", "lines", "[I", true)
def tyX6 : Nat → FieldType := fun k => match k with
  | 0 => .int
  | 1 => .array .int
  | _ => .array .int
theorem nmX6 : ∀ a, a < 3 → ∀ b, b < 3 → a ≠ b → (TX6 a).2.1 ≠ (TX6 b).2.1 := by decide +kernel
theorem tyX6_ok : ∀ k, k < 3 → parseFieldDescriptor (TX6 k).2.2.1 = some (tyX6 k) := by decide +kernel
abbrev cX6_init : ByteArray := prog_8_method_1_code
def yX6_init : MethodName := ⟨RX6, "<init>", "()V"⟩
abbrev cX6_keep : ByteArray := prog_8_method_2_code
def yX6_keep : MethodName := ⟨RX6, "keep", "(I[I)I"⟩
abbrev cX6_inForce : ByteArray := prog_8_method_3_code
def yX6_inForce : MethodName := ⟨RX6, "inForce", "(II)I"⟩
def RX7 : String := "RopeRace$Tape"
def TX7 : u_T := fun k => match k with
  | 0 => ("RopeRace$Tape", "bytes", "[B", true)
  | 1 => ("RopeRace$Tape", "length", "I", false)
  | 2 => ("RopeRace$Tape", "at", "I", false)
  | 3 => ("RopeRace$Tape", "end", "I", false)
  | 4 => ("RopeRace$Tape", "said", "[I", true)
  | 5 => ("RopeRace$Tape", "fault", "I", false)
  | _ => ("RopeRace$Tape", "place", "I", false)
def tyX7 : Nat → FieldType := fun k => match k with
  | 0 => .array .byte
  | 1 => .int
  | 2 => .int
  | 3 => .int
  | 4 => .array .int
  | 5 => .int
  | _ => .int
theorem nmX7 : ∀ a, a < 7 → ∀ b, b < 7 → a ≠ b → (TX7 a).2.1 ≠ (TX7 b).2.1 := by decide +kernel
theorem tyX7_ok : ∀ k, k < 7 → parseFieldDescriptor (TX7 k).2.2.1 = some (tyX7 k) := by decide +kernel
abbrev cX7_init : ByteArray := prog_9_method_1_code
def yX7_init : MethodName := ⟨RX7, "<init>", "()V"⟩
abbrev cX7_append : ByteArray := prog_9_method_2_code
def yX7_append : MethodName := ⟨RX7, "append", "(I)V"⟩
abbrev cX7_readText : ByteArray := prog_9_method_3_code
def yX7_readText : MethodName := ⟨RX7, "readText", "(I)V"⟩
abbrev cX7_readLine : ByteArray := prog_9_method_4_code
def yX7_readLine : MethodName := ⟨RX7, "readLine", "()V"⟩
abbrev cX7_blame : ByteArray := prog_9_method_5_code
def yX7_blame : MethodName := ⟨RX7, "blame", "(II)V"⟩
abbrev cX7_byteHere : ByteArray := prog_9_method_6_code
def yX7_byteHere : MethodName := ⟨RX7, "byteHere", "()I"⟩
abbrev cX7_skipBlanks : ByteArray := prog_9_method_7_code
def yX7_skipBlanks : MethodName := ⟨RX7, "skipBlanks", "()V"⟩
abbrev cX7_takeWord : ByteArray := prog_9_method_8_code
def yX7_takeWord : MethodName := ⟨RX7, "takeWord", "()I"⟩
abbrev cX7_spells : ByteArray := prog_9_method_9_code
def yX7_spells : MethodName := ⟨RX7, "spells", "(Ljava/lang/String;II)Z"⟩
abbrev cX7_spelling : ByteArray := prog_9_method_10_code
def yX7_spelling : MethodName := ⟨RX7, "spelling", "(I)Ljava/lang/String;"⟩
abbrev cX7_takeNumber : ByteArray := prog_9_method_11_code
def yX7_takeNumber : MethodName := ⟨RX7, "takeNumber", "()I"⟩
abbrev cX7_takeLineEnd : ByteArray := prog_9_method_12_code
def yX7_takeLineEnd : MethodName := ⟨RX7, "takeLineEnd", "()V"⟩
def RX8 : String := "RopeRace$Town"
def TX8 : u_T := fun k => match k with
  | 0 => ("RopeRace$Town", "size", "I", false)
  | _ => ("RopeRace$Town", "wards", "[LRopeRace$Ward;", true)
def tyX8 : Nat → FieldType := fun k => match k with
  | 0 => .int
  | _ => .array (.object "RopeRace$Ward")
theorem nmX8 : ∀ a, a < 2 → ∀ b, b < 2 → a ≠ b → (TX8 a).2.1 ≠ (TX8 b).2.1 := by decide +kernel
theorem tyX8_ok : ∀ k, k < 2 → parseFieldDescriptor (TX8 k).2.2.1 = some (tyX8 k) := by decide +kernel
abbrev cX8_init : ByteArray := prog_10_method_1_code
def yX8_init : MethodName := ⟨RX8, "<init>", "()V"⟩
abbrev cX8_addWard : ByteArray := prog_10_method_2_code
def yX8_addWard : MethodName := ⟨RX8, "addWard", "()I"⟩
abbrev cX8_has : ByteArray := prog_10_method_3_code
def yX8_has : MethodName := ⟨RX8, "has", "(I)Z"⟩
abbrev cX8_find : ByteArray := prog_10_method_4_code
def yX8_find : MethodName := ⟨RX8, "find", "(I)LRopeRace$Ward;"⟩
abbrev cX8_runs : ByteArray := prog_10_method_5_code
def yX8_runs : MethodName := ⟨RX8, "runs", "(I)Z"⟩
abbrev cX8_countFree : ByteArray := prog_10_method_6_code
def yX8_countFree : MethodName := ⟨RX8, "countFree", "(I)I"⟩
abbrev cX8_chooseRunners : ByteArray := prog_10_method_7_code
def yX8_chooseRunners : MethodName := ⟨RX8, "chooseRunners", "(IIILRopeRace$Draws;)V"⟩
abbrev cX8_longestAgo : ByteArray := prog_10_method_8_code
def yX8_longestAgo : MethodName := ⟨RX8, "longestAgo", "(I)I"⟩
abbrev cX8_freeAt : ByteArray := prog_10_method_9_code
def yX8_freeAt : MethodName := ⟨RX8, "freeAt", "(II)I"⟩
abbrev cX8_forgetYear : ByteArray := prog_10_method_10_code
def yX8_forgetYear : MethodName := ⟨RX8, "forgetYear", "()V"⟩
def RX9 : String := "RopeRace$Ward"
def TX9 : u_T := fun k => match k with
  | 0 => ("RopeRace$Ward", "runs", "Z", false)
  | 1 => ("RopeRace$Ward", "horse", "I", false)
  | 2 => ("RopeRace$Ward", "lastRan", "I", false)
  | 3 => ("RopeRace$Ward", "barredTo", "I", false)
  | 4 => ("RopeRace$Ward", "falseStarts", "I", false)
  | _ => ("RopeRace$Ward", "money", "I", false)
def tyX9 : Nat → FieldType := fun k => match k with
  | 0 => .boolean
  | 1 => .int
  | 2 => .int
  | 3 => .int
  | 4 => .int
  | _ => .int
theorem nmX9 : ∀ a, a < 6 → ∀ b, b < 6 → a ≠ b → (TX9 a).2.1 ≠ (TX9 b).2.1 := by decide +kernel
theorem tyX9_ok : ∀ k, k < 6 → parseFieldDescriptor (TX9 k).2.2.1 = some (tyX9 k) := by decide +kernel
abbrev cX9_init : ByteArray := prog_11_method_1_code
def yX9_init : MethodName := ⟨RX9, "<init>", "()V"⟩
abbrev cX9_mayBeChosen : ByteArray := prog_11_method_2_code
def yX9_mayBeChosen : MethodName := ⟨RX9, "mayBeChosen", "(I)Z"⟩
def RX10 : String := "RopeRace"
def TX10 : u_T := fun k => match k with
  | 0 => ("RopeRace", "tape", "LRopeRace$Tape;", true)
  | 1 => ("RopeRace", "statutes", "LRopeRace$Statutes;", true)
  | 2 => ("RopeRace", "town", "LRopeRace$Town;", true)
  | 3 => ("RopeRace", "stable", "LRopeRace$Stable;", true)
  | 4 => ("RopeRace", "rope", "LRopeRace$Rope;", true)
  | 5 => ("RopeRace", "race", "LRopeRace$Race;", true)
  | 6 => ("RopeRace", "pacts", "LRopeRace$Pacts;", true)
  | 7 => ("RopeRace", "draws", "LRopeRace$Draws;", true)
  | 8 => ("RopeRace", "year", "I", false)
  | _ => ("RopeRace", "stage", "I", false)
def tyX10 : Nat → FieldType := fun k => match k with
  | 0 => .object "RopeRace$Tape"
  | 1 => .object "RopeRace$Statutes"
  | 2 => .object "RopeRace$Town"
  | 3 => .object "RopeRace$Stable"
  | 4 => .object "RopeRace$Rope"
  | 5 => .object "RopeRace$Race"
  | 6 => .object "RopeRace$Pacts"
  | 7 => .object "RopeRace$Draws"
  | 8 => .int
  | _ => .int
theorem nmX10 : ∀ a, a < 10 → ∀ b, b < 10 → a ≠ b → (TX10 a).2.1 ≠ (TX10 b).2.1 := by decide +kernel
theorem tyX10_ok : ∀ k, k < 10 → parseFieldDescriptor (TX10 k).2.2.1 = some (tyX10 k) := by decide +kernel
abbrev cX10_init : ByteArray := prog_1_method_1_code
def yX10_init : MethodName := ⟨RX10, "<init>", "()V"⟩
abbrev cX10_feed : ByteArray := prog_1_method_2_code
def yX10_feed : MethodName := ⟨RX10, "feed", "(IIIII)I"⟩
abbrev cX10_statute : ByteArray := prog_1_method_3_code
def yX10_statute : MethodName := ⟨RX10, "statute", "(II)I"⟩
abbrev cX10_fault : ByteArray := prog_1_method_4_code
def yX10_fault : MethodName := ⟨RX10, "fault", "(I)I"⟩
abbrev cX10_law : ByteArray := prog_1_method_5_code
def yX10_law : MethodName := ⟨RX10, "law", "(II)I"⟩
abbrev cX10_ward : ByteArray := prog_1_method_6_code
def yX10_ward : MethodName := ⟨RX10, "ward", "()I"⟩
abbrev cX10_horse : ByteArray := prog_1_method_7_code
def yX10_horse : MethodName := ⟨RX10, "horse", "(I)I"⟩
abbrev cX10_sound : ByteArray := prog_1_method_8_code
def yX10_sound : MethodName := ⟨RX10, "sound", "(IZ)Z"⟩
abbrev cX10_choose : ByteArray := prog_1_method_9_code
def yX10_choose : MethodName := ⟨RX10, "choose", "(I)I"⟩
abbrev cX10_pick : ByteArray := prog_1_method_10_code
def yX10_pick : MethodName := ⟨RX10, "pick", "()I"⟩
abbrev cX10_lots : ByteArray := prog_1_method_11_code
def yX10_lots : MethodName := ⟨RX10, "lots", "(I)Z"⟩
abbrev cX10_drawn : ByteArray := prog_1_method_12_code
def yX10_drawn : MethodName := ⟨RX10, "drawn", "(II)I"⟩
abbrev cX10_look : ByteArray := prog_1_method_13_code
def yX10_look : MethodName := ⟨RX10, "look", "(II)I"⟩
abbrev cX10_ring : ByteArray := prog_1_method_14_code
def yX10_ring : MethodName := ⟨RX10, "ring", "(I)Z"⟩
abbrev cX10_bend : ByteArray := prog_1_method_15_code
def yX10_bend : MethodName := ⟨RX10, "bend", "(IZ)Z"⟩
abbrev cX10_orders : ByteArray := prog_1_method_16_code
def yX10_orders : MethodName := ⟨RX10, "orders", "(III)Z"⟩
abbrev cX10_seen : ByteArray := prog_1_method_17_code
def yX10_seen : MethodName := ⟨RX10, "seen", "(II)Z"⟩
abbrev cX10_drop : ByteArray := prog_1_method_18_code
def yX10_drop : MethodName := ⟨RX10, "drop", "(I)I"⟩
abbrev cX10_go : ByteArray := prog_1_method_19_code
def yX10_go : MethodName := ⟨RX10, "go", "(I)I"⟩
abbrev cX10_race : ByteArray := prog_1_method_20_code
def yX10_race : MethodName := ⟨RX10, "race", "(II)I"⟩
abbrev cX10_won : ByteArray := prog_1_method_21_code
def yX10_won : MethodName := ⟨RX10, "won", "()I"⟩
abbrev cX10_pact : ByteArray := prog_1_method_22_code
def yX10_pact : MethodName := ⟨RX10, "pact", "(III)I"⟩
abbrev cX10_punish : ByteArray := prog_1_method_23_code
def yX10_punish : MethodName := ⟨RX10, "punish", "(I)I"⟩
abbrev cX10_next : ByteArray := prog_1_method_24_code
def yX10_next : MethodName := ⟨RX10, "next", "()I"⟩
abbrev cX10_count : ByteArray := prog_1_method_25_code
def yX10_count : MethodName := ⟨RX10, "count", "(I)I"⟩
abbrev cX10_isYear : ByteArray := prog_1_method_26_code
def yX10_isYear : MethodName := ⟨RX10, "isYear", "(I)Z"⟩
abbrev cX10_startRace : ByteArray := prog_1_method_27_code
def yX10_startRace : MethodName := ⟨RX10, "startRace", "(I)V"⟩
def RX11 : String := "RopeRaceModel"
def TX11 : u_T := fun k => match k with
  | 0 => ("RopeRaceModel", "thrown", "I", false)
  | 1 => ("RopeRaceModel", "tape", "[I", true)
  | 2 => ("RopeRaceModel", "taped", "I", false)
  | 3 => ("RopeRaceModel", "year", "I", false)
  | 4 => ("RopeRaceModel", "stage", "I", false)
  | 5 => ("RopeRaceModel", "fromYear", "[I", true)
  | 6 => ("RopeRaceModel", "values", "[I", true)
  | 7 => ("RopeRaceModel", "statutes", "I", false)
  | 8 => ("RopeRaceModel", "size", "I", false)
  | 9 => ("RopeRaceModel", "at", "I", false)
  | 10 => ("RopeRaceModel", "place", "I", false)
  | 11 => ("RopeRaceModel", "sort", "I", false)
  | 12 => ("RopeRaceModel", "value", "I", false)
  | 13 => ("RopeRaceModel", "fault", "I", false)
  | 14 => ("RopeRaceModel", "faultPlace", "I", false)
  | 15 => ("RopeRaceModel", "lastFault", "I", false)
  | 16 => ("RopeRaceModel", "lastPlace", "I", false)
  | 17 => ("RopeRaceModel", "wards", "I", false)
  | 18 => ("RopeRaceModel", "lastRan", "[I", true)
  | 19 => ("RopeRaceModel", "barredTo", "[I", true)
  | 20 => ("RopeRaceModel", "falses", "[I", true)
  | 21 => ("RopeRaceModel", "money", "[I", true)
  | 22 => ("RopeRaceModel", "horseOf", "[I", true)
  | 23 => ("RopeRaceModel", "isRunning", "[Z", true)
  | 24 => ("RopeRaceModel", "how", "[I", true)
  | 25 => ("RopeRaceModel", "whom", "[I", true)
  | 26 => ("RopeRaceModel", "horses", "I", false)
  | 27 => ("RopeRaceModel", "marks", "[I", true)
  | 28 => ("RopeRaceModel", "isSound", "[Z", true)
  | 29 => ("RopeRaceModel", "seed", "I", false)
  | 30 => ("RopeRaceModel", "run", "I", false)
  | 31 => ("RopeRaceModel", "picked", "[I", true)
  | 32 => ("RopeRaceModel", "rope", "[I", true)
  | 33 => ("RopeRaceModel", "seenAt", "[I", true)
  | 34 => ("RopeRaceModel", "best", "I", false)
  | 35 => ("RopeRaceModel", "length", "I", false)
  | 36 => ("RopeRaceModel", "isBend", "[Z", true)
  | 37 => ("RopeRaceModel", "dist", "[I", true)
  | 38 => ("RopeRaceModel", "lane", "[I", true)
  | 39 => ("RopeRaceModel", "pace", "[I", true)
  | 40 => ("RopeRaceModel", "isLoose", "[Z", true)
  | 41 => ("RopeRaceModel", "arrived", "[I", true)
  | 42 => ("RopeRaceModel", "bumps", "[I", true)
  | 43 => ("RopeRaceModel", "arrivals", "I", false)
  | 44 => ("RopeRaceModel", "ticks", "I", false)
  | 45 => ("RopeRaceModel", "winner", "I", false)
  | 46 => ("RopeRaceModel", "laps", "I", false)
  | 47 => ("RopeRaceModel", "bendPace", "I", false)
  | 48 => ("RopeRaceModel", "canLoose", "Z", false)
  | 49 => ("RopeRaceModel", "order", "[I", true)
  | 50 => ("RopeRaceModel", "pactOf", "[I", true)
  | 51 => ("RopeRaceModel", "pactTo", "[I", true)
  | 52 => ("RopeRaceModel", "pactCoins", "[I", true)
  | _ => ("RopeRaceModel", "pacts", "I", false)
def tyX11 : Nat → FieldType := fun k => match k with
  | 0 => .int
  | 1 => .array .int
  | 2 => .int
  | 3 => .int
  | 4 => .int
  | 5 => .array .int
  | 6 => .array .int
  | 7 => .int
  | 8 => .int
  | 9 => .int
  | 10 => .int
  | 11 => .int
  | 12 => .int
  | 13 => .int
  | 14 => .int
  | 15 => .int
  | 16 => .int
  | 17 => .int
  | 18 => .array .int
  | 19 => .array .int
  | 20 => .array .int
  | 21 => .array .int
  | 22 => .array .int
  | 23 => .array .boolean
  | 24 => .array .int
  | 25 => .array .int
  | 26 => .int
  | 27 => .array .int
  | 28 => .array .boolean
  | 29 => .int
  | 30 => .int
  | 31 => .array .int
  | 32 => .array .int
  | 33 => .array .int
  | 34 => .int
  | 35 => .int
  | 36 => .array .boolean
  | 37 => .array .int
  | 38 => .array .int
  | 39 => .array .int
  | 40 => .array .boolean
  | 41 => .array .int
  | 42 => .array .int
  | 43 => .int
  | 44 => .int
  | 45 => .int
  | 46 => .int
  | 47 => .int
  | 48 => .boolean
  | 49 => .array .int
  | 50 => .array .int
  | 51 => .array .int
  | 52 => .array .int
  | _ => .int
theorem nmX11 : ∀ a, a < 54 → ∀ b, b < 54 → a ≠ b → (TX11 a).2.1 ≠ (TX11 b).2.1 := by decide +kernel
theorem tyX11_ok : ∀ k, k < 54 → parseFieldDescriptor (TX11 k).2.2.1 = some (tyX11 k) := by decide +kernel
abbrev cX11_init : ByteArray := prog_13_method_1_code
def yX11_init : MethodName := ⟨RX11, "<init>", "()V"⟩
abbrev cX11_feed : ByteArray := prog_13_method_3_code
def yX11_feed : MethodName := ⟨RX11, "feed", "(IIIII)I"⟩
abbrev cX11_here : ByteArray := prog_13_method_4_code
def yX11_here : MethodName := ⟨RX11, "here", "()I"⟩
abbrev cX11_isSmall : ByteArray := prog_13_method_5_code
def yX11_isSmall : MethodName := ⟨RX11, "isSmall", "(I)Z"⟩
abbrev cX11_isDigit : ByteArray := prog_13_method_6_code
def yX11_isDigit : MethodName := ⟨RX11, "isDigit", "(I)Z"⟩
abbrev cX11_step : ByteArray := prog_13_method_7_code
def yX11_step : MethodName := ⟨RX11, "step", "()V"⟩
abbrev cX11_wordOf : ByteArray := prog_13_method_8_code
def yX11_wordOf : MethodName := ⟨RX11, "wordOf", "()I"⟩
abbrev cX11_wrong : ByteArray := prog_13_method_9_code
def yX11_wrong : MethodName := ⟨RX11, "wrong", "(II)V"⟩
abbrev cX11_isWithin : ByteArray := prog_13_method_10_code
def yX11_isWithin : MethodName := ⟨RX11, "isWithin", "(II)Z"⟩
abbrev cX11_line : ByteArray := prog_13_method_11_code
def yX11_line : MethodName := ⟨RX11, "line", "()V"⟩
abbrev cX11_statute : ByteArray := prog_13_method_12_code
def yX11_statute : MethodName := ⟨RX11, "statute", "(II)I"⟩
abbrev cX11_fault : ByteArray := prog_13_method_13_code
def yX11_fault : MethodName := ⟨RX11, "fault", "(I)I"⟩
abbrev cX11_lawOf : ByteArray := prog_13_method_14_code
def yX11_lawOf : MethodName := ⟨RX11, "lawOf", "(II)I"⟩
abbrev cX11_law : ByteArray := prog_13_method_15_code
def yX11_law : MethodName := ⟨RX11, "law", "(II)I"⟩
abbrev cX11_isWard : ByteArray := prog_13_method_16_code
def yX11_isWard : MethodName := ⟨RX11, "isWard", "(I)Z"⟩
abbrev cX11_ward : ByteArray := prog_13_method_17_code
def yX11_ward : MethodName := ⟨RX11, "ward", "()I"⟩
abbrev cX11_horse : ByteArray := prog_13_method_18_code
def yX11_horse : MethodName := ⟨RX11, "horse", "(I)I"⟩
abbrev cX11_sound : ByteArray := prog_13_method_19_code
def yX11_sound : MethodName := ⟨RX11, "sound", "(IZ)Z"⟩
abbrev cX11_draws : ByteArray := prog_13_method_20_code
def yX11_draws : MethodName := ⟨RX11, "draws", "(I)I"⟩
abbrev cX11_isBarred : ByteArray := prog_13_method_21_code
def yX11_isBarred : MethodName := ⟨RX11, "isBarred", "(I)Z"⟩
abbrev cX11_choose : ByteArray := prog_13_method_22_code
def yX11_choose : MethodName := ⟨RX11, "choose", "(I)I"⟩
abbrev cX11_longest : ByteArray := prog_13_method_23_code
def yX11_longest : MethodName := ⟨RX11, "longest", "()I"⟩
abbrev cX11_drawnWard : ByteArray := prog_13_method_24_code
def yX11_drawnWard : MethodName := ⟨RX11, "drawnWard", "(I)I"⟩
abbrev cX11_pick : ByteArray := prog_13_method_25_code
def yX11_pick : MethodName := ⟨RX11, "pick", "()I"⟩
abbrev cX11_tries : ByteArray := prog_13_method_26_code
def yX11_tries : MethodName := ⟨RX11, "tries", "(I)V"⟩
abbrev cX11_isAhead : ByteArray := prog_13_method_27_code
def yX11_isAhead : MethodName := ⟨RX11, "isAhead", "(I)Z"⟩
abbrev cX11_lots : ByteArray := prog_13_method_28_code
def yX11_lots : MethodName := ⟨RX11, "lots", "(I)Z"⟩
abbrev cX11_drawn : ByteArray := prog_13_method_29_code
def yX11_drawn : MethodName := ⟨RX11, "drawn", "(II)I"⟩
abbrev cX11_runs : ByteArray := prog_13_method_30_code
def yX11_runs : MethodName := ⟨RX11, "runs", "(I)Z"⟩
abbrev cX11_look : ByteArray := prog_13_method_31_code
def yX11_look : MethodName := ⟨RX11, "look", "(II)I"⟩
abbrev cX11_ring : ByteArray := prog_13_method_32_code
def yX11_ring : MethodName := ⟨RX11, "ring", "(I)Z"⟩
abbrev cX11_bend : ByteArray := prog_13_method_33_code
def yX11_bend : MethodName := ⟨RX11, "bend", "(IZ)Z"⟩
abbrev cX11_orders : ByteArray := prog_13_method_34_code
def yX11_orders : MethodName := ⟨RX11, "orders", "(III)Z"⟩
abbrev cX11_seen : ByteArray := prog_13_method_35_code
def yX11_seen : MethodName := ⟨RX11, "seen", "(II)Z"⟩
abbrev cX11_drop : ByteArray := prog_13_method_36_code
def yX11_drop : MethodName := ⟨RX11, "drop", "(I)I"⟩
abbrev cX11_isFalse : ByteArray := prog_13_method_37_code
def yX11_isFalse : MethodName := ⟨RX11, "isFalse", "()V"⟩
abbrev cX11_isOn : ByteArray := prog_13_method_38_code
def yX11_isOn : MethodName := ⟨RX11, "isOn", "(I)Z"⟩
abbrev cX11_cellOf : ByteArray := prog_13_method_39_code
def yX11_cellOf : MethodName := ⟨RX11, "cellOf", "(I)I"⟩
abbrev cX11_isFree : ByteArray := prog_13_method_40_code
def yX11_isFree : MethodName := ⟨RX11, "isFree", "(II)Z"⟩
abbrev cX11_isLane : ByteArray := prog_13_method_41_code
def yX11_isLane : MethodName := ⟨RX11, "isLane", "(I)Z"⟩
abbrev cX11_go : ByteArray := prog_13_method_42_code
def yX11_go : MethodName := ⟨RX11, "go", "(I)I"⟩
abbrev cX11_tick : ByteArray := prog_13_method_43_code
def yX11_tick : MethodName := ⟨RX11, "tick", "()V"⟩
abbrev cX11_isBehind : ByteArray := prog_13_method_44_code
def yX11_isBehind : MethodName := ⟨RX11, "isBehind", "(II)Z"⟩
abbrev cX11_turns : ByteArray := prog_13_method_45_code
def yX11_turns : MethodName := ⟨RX11, "turns", "(I)V"⟩
abbrev cX11_obeys : ByteArray := prog_13_method_46_code
def yX11_obeys : MethodName := ⟨RX11, "obeys", "(I)V"⟩
abbrev cX11_moves : ByteArray := prog_13_method_47_code
def yX11_moves : MethodName := ⟨RX11, "moves", "(I)Z"⟩
abbrev cX11_ends : ByteArray := prog_13_method_48_code
def yX11_ends : MethodName := ⟨RX11, "ends", "()V"⟩
abbrev cX11_race : ByteArray := prog_13_method_49_code
def yX11_race : MethodName := ⟨RX11, "race", "(II)I"⟩
abbrev cX11_won : ByteArray := prog_13_method_50_code
def yX11_won : MethodName := ⟨RX11, "won", "()I"⟩
abbrev cX11_pact : ByteArray := prog_13_method_51_code
def yX11_pact : MethodName := ⟨RX11, "pact", "(III)I"⟩
abbrev cX11_punish : ByteArray := prog_13_method_52_code
def yX11_punish : MethodName := ⟨RX11, "punish", "(I)I"⟩
abbrev cX11_next : ByteArray := prog_13_method_53_code
def yX11_next : MethodName := ⟨RX11, "next", "()I"⟩
abbrev cX11_count : ByteArray := prog_13_method_54_code
def yX11_count : MethodName := ⟨RX11, "count", "(I)I"⟩
def RJ9 : String := "java/lang/Math"
abbrev cJ9_floorMod_7cf53 : ByteArray := prog_14_method_50_code
def yJ9_floorMod_7cf53 : MethodName := ⟨RJ9, "floorMod", "(II)I"⟩
abbrev cJ9_abs_0f7a4 : ByteArray := prog_14_method_59_code
def yJ9_abs_0f7a4 : MethodName := ⟨RJ9, "abs", "(I)I"⟩
abbrev cJ9_max_7cf53 : ByteArray := prog_14_method_65_code
def yJ9_max_7cf53 : MethodName := ⟨RJ9, "max", "(II)I"⟩
abbrev cJ9_min_7cf53 : ByteArray := prog_14_method_69_code
def yJ9_min_7cf53 : MethodName := ⟨RJ9, "min", "(II)I"⟩
def RJ0 : String := "java/lang/String"
abbrev cJ0_length_8abf5 : ByteArray := prog_15_method_54_code
def yJ0_length_8abf5 : MethodName := ⟨RJ0, "length", "()I"⟩
abbrev cJ0_charAt_5068e : ByteArray := prog_15_method_56_code
def yJ0_charAt_5068e : MethodName := ⟨RJ0, "charAt", "(I)C"⟩
abbrev cJ0_coder_7d493 : ByteArray := prog_15_method_152_code
def yJ0_coder_7d493 : MethodName := ⟨RJ0, "coder", "()B"⟩
abbrev cJ0_isLatin1_aae02 : ByteArray := prog_15_method_154_code
def yJ0_isLatin1_aae02 : MethodName := ⟨RJ0, "isLatin1", "()Z"⟩
abbrev cJ0_checkIndex_df160 : ByteArray := prog_15_method_155_code
def yJ0_checkIndex_df160 : MethodName := ⟨RJ0, "checkIndex", "(II)V"⟩
def RJ1 : String := "java/lang/StringLatin1"
abbrev cJ1_charAt_3b067 : ByteArray := prog_16_method_2_code
def yJ1_charAt_3b067 : MethodName := ⟨RJ1, "charAt", "([BI)C"⟩
def RJ2 : String := "java/lang/StringUTF16"
abbrev cJ2_getChar_3b067 : ByteArray := prog_17_method_5_code
def yJ2_getChar_3b067 : MethodName := ⟨RJ2, "getChar", "([BI)C"⟩
abbrev cJ2_length_9d52b : ByteArray := prog_17_method_6_code
def yJ2_length_9d52b : MethodName := ⟨RJ2, "length", "([B)I"⟩
abbrev cJ2_charAt_3b067 : ByteArray := prog_17_method_83_code
def yJ2_charAt_3b067 : MethodName := ⟨RJ2, "charAt", "([BI)C"⟩
abbrev cJ2_checkIndex_2214a : ByteArray := prog_17_method_91_code
def yJ2_checkIndex_2214a : MethodName := ⟨RJ2, "checkIndex", "(I[B)V"⟩
def RJ10 : String := "java/lang/System"
def RJ7 : String := "java/util/Arrays"
abbrev cJ7_fill_53178 : ByteArray := prog_19_method_103_code
def yJ7_fill_53178 : MethodName := ⟨RJ7, "fill", "([II)V"⟩
def RJ3 : String := "jdk/internal/util/Preconditions"
abbrev cJ3_checkIndex_8e157 : ByteArray := prog_20_method_11_code
def yJ3_checkIndex_8e157 : MethodName := ⟨RJ3, "checkIndex", "(IILjava/util/function/BiFunction;)I"⟩
def RL : String := "RopeRaceLaw"
abbrev cL_law : ByteArray := code
def yL_law : MethodName := ⟨RL, "law", "([I)Z"⟩
abbrev vwCl : List vw_C := [(RX0, TX0, 1), (RX1, TX1, 4), (RX2, TX2, 14), (RX3, TX3, 5), (RX4, TX4, 8), (RX5, TX5, 5), (RX6, TX6, 3), (RX7, TX7, 7), (RX8, TX8, 2), (RX9, TX9, 6), (RX10, TX10, 10), (RX11, TX11, 54)]
end
section
theorem dX0_init_0 : decode cX0_init 0 = .ok (.aload_n 0, 1) := by decide +kernel
theorem dX0_init_1 : decode cX0_init 1 = .ok (.invokespecial 1, 3) := by decide +kernel
theorem dX0_init_4 : decode cX0_init 4 = .ok (.return_, 1) := by decide +kernel
theorem dX0_begin_0 : decode cX0_begin 0 = .ok (.aload_n 0, 1) := by decide +kernel
theorem dX0_begin_1 : decode cX0_begin 1 = .ok (.iload_n 1, 1) := by decide +kernel
theorem dX0_begin_2 : decode cX0_begin 2 = .ok (.putfield 7, 3) := by decide +kernel
theorem dX0_begin_5 : decode cX0_begin 5 = .ok (.return_, 1) := by decide +kernel
theorem dX0_below_0 : decode cX0_below 0 = .ok (.aload_n 0, 1) := by decide +kernel
theorem dX0_below_1 : decode cX0_below 1 = .ok (.ldc 13, 2) := by decide +kernel
theorem dX0_below_3 : decode cX0_below 3 = .ok (.aload_n 0, 1) := by decide +kernel
theorem dX0_below_4 : decode cX0_below 4 = .ok (.getfield 7, 3) := by decide +kernel
theorem dX0_below_7 : decode cX0_below 7 = .ok (.imul, 1) := by decide +kernel
theorem dX0_below_8 : decode cX0_below 8 = .ok (.sipush 12345, 3) := by decide +kernel
theorem dX0_below_11 : decode cX0_below 11 = .ok (.iadd, 1) := by decide +kernel
theorem dX0_below_12 : decode cX0_below 12 = .ok (.putfield 7, 3) := by decide +kernel
theorem dX0_below_15 : decode cX0_below 15 = .ok (.aload_n 0, 1) := by decide +kernel
theorem dX0_below_16 : decode cX0_below 16 = .ok (.getfield 7, 3) := by decide +kernel
theorem dX0_below_19 : decode cX0_below 19 = .ok (.bipush 16, 2) := by decide +kernel
theorem dX0_below_21 : decode cX0_below 21 = .ok (.ishr, 1) := by decide +kernel
theorem dX0_below_22 : decode cX0_below 22 = .ok (.sipush 32767, 3) := by decide +kernel
theorem dX0_below_25 : decode cX0_below 25 = .ok (.iand, 1) := by decide +kernel
theorem dX0_below_26 : decode cX0_below 26 = .ok (.istore_n 2, 1) := by decide +kernel
theorem dX0_below_27 : decode cX0_below 27 = .ok (.iload_n 1, 1) := by decide +kernel
theorem dX0_below_28 : decode cX0_below 28 = .ok (.ifCond .le 9, 3) := by decide +kernel
theorem dX0_below_31 : decode cX0_below 31 = .ok (.iload_n 2, 1) := by decide +kernel
theorem dX0_below_32 : decode cX0_below 32 = .ok (.iload_n 1, 1) := by decide +kernel
theorem dX0_below_33 : decode cX0_below 33 = .ok (.irem, 1) := by decide +kernel
theorem dX0_below_34 : decode cX0_below 34 = .ok (.goto 4, 3) := by decide +kernel
theorem dX0_below_37 : decode cX0_below 37 = .ok (.iconst 0, 1) := by decide +kernel
theorem dX0_below_38 : decode cX0_below 38 = .ok (.ireturn, 1) := by decide +kernel
theorem dX1_init_0 : decode cX1_init 0 = .ok (.aload_n 0, 1) := by decide +kernel
theorem dX1_init_1 : decode cX1_init 1 = .ok (.invokespecial 3, 3) := by decide +kernel
theorem dX1_init_4 : decode cX1_init 4 = .ok (.aload_n 0, 1) := by decide +kernel
theorem dX1_init_5 : decode cX1_init 5 = .ok (.bipush 40, 2) := by decide +kernel
theorem dX1_init_7 : decode cX1_init 7 = .ok (.newarray .int, 2) := by decide +kernel
theorem dX1_init_9 : decode cX1_init 9 = .ok (.putfield 9, 3) := by decide +kernel
theorem dX1_init_12 : decode cX1_init 12 = .ok (.aload_n 0, 1) := by decide +kernel
theorem dX1_init_13 : decode cX1_init 13 = .ok (.bipush 40, 2) := by decide +kernel
theorem dX1_init_15 : decode cX1_init 15 = .ok (.newarray .int, 2) := by decide +kernel
theorem dX1_init_17 : decode cX1_init 17 = .ok (.putfield 15, 3) := by decide +kernel
theorem dX1_init_20 : decode cX1_init 20 = .ok (.aload_n 0, 1) := by decide +kernel
theorem dX1_init_21 : decode cX1_init 21 = .ok (.bipush 40, 2) := by decide +kernel
theorem dX1_init_23 : decode cX1_init 23 = .ok (.newarray .int, 2) := by decide +kernel
theorem dX1_init_25 : decode cX1_init 25 = .ok (.putfield 18, 3) := by decide +kernel
theorem dX1_init_28 : decode cX1_init 28 = .ok (.return_, 1) := by decide +kernel
theorem dX1_add_0 : decode cX1_add 0 = .ok (.aload_n 0, 1) := by decide +kernel
theorem dX1_add_1 : decode cX1_add 1 = .ok (.getfield 21, 3) := by decide +kernel
theorem dX1_add_4 : decode cX1_add 4 = .ok (.bipush 40, 2) := by decide +kernel
theorem dX1_add_6 : decode cX1_add 6 = .ok (.if_icmp .lt 5, 3) := by decide +kernel
theorem dX1_add_9 : decode cX1_add 9 = .ok (.iconst (-1), 1) := by decide +kernel
theorem dX1_add_10 : decode cX1_add 10 = .ok (.ireturn, 1) := by decide +kernel
theorem dX1_add_11 : decode cX1_add 11 = .ok (.aload_n 0, 1) := by decide +kernel
theorem dX1_add_12 : decode cX1_add 12 = .ok (.getfield 9, 3) := by decide +kernel
theorem dX1_add_15 : decode cX1_add 15 = .ok (.aload_n 0, 1) := by decide +kernel
theorem dX1_add_16 : decode cX1_add 16 = .ok (.getfield 21, 3) := by decide +kernel
theorem dX1_add_19 : decode cX1_add 19 = .ok (.iload_n 1, 1) := by decide +kernel
theorem dX1_add_20 : decode cX1_add 20 = .ok (.iastore, 1) := by decide +kernel
theorem dX1_add_21 : decode cX1_add 21 = .ok (.aload_n 0, 1) := by decide +kernel
theorem dX1_add_22 : decode cX1_add 22 = .ok (.getfield 15, 3) := by decide +kernel
theorem dX1_add_25 : decode cX1_add 25 = .ok (.aload_n 0, 1) := by decide +kernel
theorem dX1_add_26 : decode cX1_add 26 = .ok (.getfield 21, 3) := by decide +kernel
theorem dX1_add_29 : decode cX1_add 29 = .ok (.iload_n 2, 1) := by decide +kernel
theorem dX1_add_30 : decode cX1_add 30 = .ok (.iastore, 1) := by decide +kernel
theorem dX1_add_31 : decode cX1_add 31 = .ok (.aload_n 0, 1) := by decide +kernel
theorem dX1_add_32 : decode cX1_add 32 = .ok (.getfield 18, 3) := by decide +kernel
theorem dX1_add_35 : decode cX1_add 35 = .ok (.aload_n 0, 1) := by decide +kernel
theorem dX1_add_36 : decode cX1_add 36 = .ok (.getfield 21, 3) := by decide +kernel
theorem dX1_add_39 : decode cX1_add 39 = .ok (.iload_n 3, 1) := by decide +kernel
theorem dX1_add_40 : decode cX1_add 40 = .ok (.iastore, 1) := by decide +kernel
theorem dX1_add_41 : decode cX1_add 41 = .ok (.aload_n 0, 1) := by decide +kernel
theorem dX1_add_42 : decode cX1_add 42 = .ok (.dup, 1) := by decide +kernel
theorem dX1_add_43 : decode cX1_add 43 = .ok (.getfield 21, 3) := by decide +kernel
theorem dX1_add_46 : decode cX1_add 46 = .ok (.iconst 1, 1) := by decide +kernel
theorem dX1_add_47 : decode cX1_add 47 = .ok (.iadd, 1) := by decide +kernel
theorem dX1_add_48 : decode cX1_add 48 = .ok (.putfield 21, 3) := by decide +kernel
theorem dX1_add_51 : decode cX1_add 51 = .ok (.aload_n 0, 1) := by decide +kernel
theorem dX1_add_52 : decode cX1_add 52 = .ok (.getfield 21, 3) := by decide +kernel
theorem dX1_add_55 : decode cX1_add 55 = .ok (.ireturn, 1) := by decide +kernel
theorem dX1_settle_0 : decode cX1_settle 0 = .ok (.iconst 0, 1) := by decide +kernel
theorem dX1_settle_1 : decode cX1_settle 1 = .ok (.istore_n 3, 1) := by decide +kernel
theorem dX1_settle_2 : decode cX1_settle 2 = .ok (.iload_n 3, 1) := by decide +kernel
theorem dX1_settle_3 : decode cX1_settle 3 = .ok (.aload_n 0, 1) := by decide +kernel
theorem dX1_settle_4 : decode cX1_settle 4 = .ok (.getfield 21, 3) := by decide +kernel
theorem dX1_settle_7 : decode cX1_settle 7 = .ok (.if_icmp .ge 85, 3) := by decide +kernel
theorem dX1_settle_10 : decode cX1_settle 10 = .ok (.aload_n 1, 1) := by decide +kernel
theorem dX1_settle_11 : decode cX1_settle 11 = .ok (.aload_n 0, 1) := by decide +kernel
theorem dX1_settle_12 : decode cX1_settle 12 = .ok (.getfield 9, 3) := by decide +kernel
theorem dX1_settle_15 : decode cX1_settle 15 = .ok (.iload_n 3, 1) := by decide +kernel
theorem dX1_settle_16 : decode cX1_settle 16 = .ok (.iaload, 1) := by decide +kernel
theorem dX1_settle_17 : decode cX1_settle 17 = .ok (.invokevirtual 25, 3) := by decide +kernel
theorem dX1_settle_20 : decode cX1_settle 20 = .ok (.astore 4, 2) := by decide +kernel
theorem dX1_settle_22 : decode cX1_settle 22 = .ok (.aload_n 1, 1) := by decide +kernel
theorem dX1_settle_23 : decode cX1_settle 23 = .ok (.aload_n 0, 1) := by decide +kernel
theorem dX1_settle_24 : decode cX1_settle 24 = .ok (.getfield 15, 3) := by decide +kernel
theorem dX1_settle_27 : decode cX1_settle 27 = .ok (.iload_n 3, 1) := by decide +kernel
theorem dX1_settle_28 : decode cX1_settle 28 = .ok (.iaload, 1) := by decide +kernel
theorem dX1_settle_29 : decode cX1_settle 29 = .ok (.invokevirtual 25, 3) := by decide +kernel
theorem dX1_settle_32 : decode cX1_settle 32 = .ok (.astore 5, 2) := by decide +kernel
theorem dX1_settle_34 : decode cX1_settle 34 = .ok (.aload_n 0, 1) := by decide +kernel
theorem dX1_settle_35 : decode cX1_settle 35 = .ok (.getfield 9, 3) := by decide +kernel
theorem dX1_settle_38 : decode cX1_settle 38 = .ok (.iload_n 3, 1) := by decide +kernel
theorem dX1_settle_39 : decode cX1_settle 39 = .ok (.iaload, 1) := by decide +kernel
theorem dX1_settle_40 : decode cX1_settle 40 = .ok (.iload_n 2, 1) := by decide +kernel
theorem dX1_settle_41 : decode cX1_settle 41 = .ok (.if_icmp .ne 45, 3) := by decide +kernel
theorem dX1_settle_44 : decode cX1_settle 44 = .ok (.aload 4, 2) := by decide +kernel
theorem dX1_settle_46 : decode cX1_settle 46 = .ok (.ifnull 40, 3) := by decide +kernel
theorem dX1_settle_49 : decode cX1_settle 49 = .ok (.aload 5, 2) := by decide +kernel
theorem dX1_settle_51 : decode cX1_settle 51 = .ok (.ifnull 35, 3) := by decide +kernel
theorem dX1_settle_54 : decode cX1_settle 54 = .ok (.aload 4, 2) := by decide +kernel
theorem dX1_settle_56 : decode cX1_settle 56 = .ok (.dup, 1) := by decide +kernel
theorem dX1_settle_57 : decode cX1_settle 57 = .ok (.getfield 31, 3) := by decide +kernel
theorem dX1_settle_60 : decode cX1_settle 60 = .ok (.aload_n 0, 1) := by decide +kernel
theorem dX1_settle_61 : decode cX1_settle 61 = .ok (.getfield 18, 3) := by decide +kernel
theorem dX1_settle_64 : decode cX1_settle 64 = .ok (.iload_n 3, 1) := by decide +kernel
theorem dX1_settle_65 : decode cX1_settle 65 = .ok (.iaload, 1) := by decide +kernel
theorem dX1_settle_66 : decode cX1_settle 66 = .ok (.isub, 1) := by decide +kernel
theorem dX1_settle_67 : decode cX1_settle 67 = .ok (.putfield 31, 3) := by decide +kernel
theorem dX1_settle_70 : decode cX1_settle 70 = .ok (.aload 5, 2) := by decide +kernel
theorem dX1_settle_72 : decode cX1_settle 72 = .ok (.dup, 1) := by decide +kernel
theorem dX1_settle_73 : decode cX1_settle 73 = .ok (.getfield 31, 3) := by decide +kernel
theorem dX1_settle_76 : decode cX1_settle 76 = .ok (.aload_n 0, 1) := by decide +kernel
theorem dX1_settle_77 : decode cX1_settle 77 = .ok (.getfield 18, 3) := by decide +kernel
theorem dX1_settle_80 : decode cX1_settle 80 = .ok (.iload_n 3, 1) := by decide +kernel
theorem dX1_settle_81 : decode cX1_settle 81 = .ok (.iaload, 1) := by decide +kernel
theorem dX1_settle_82 : decode cX1_settle 82 = .ok (.iadd, 1) := by decide +kernel
theorem dX1_settle_83 : decode cX1_settle 83 = .ok (.putfield 31, 3) := by decide +kernel
theorem dX1_settle_86 : decode cX1_settle 86 = .ok (.iinc 3 1, 3) := by decide +kernel
theorem dX1_settle_89 : decode cX1_settle 89 = .ok (.goto (-87), 3) := by decide +kernel
theorem dX1_settle_92 : decode cX1_settle 92 = .ok (.aload_n 0, 1) := by decide +kernel
theorem dX1_settle_93 : decode cX1_settle 93 = .ok (.iconst 0, 1) := by decide +kernel
theorem dX1_settle_94 : decode cX1_settle 94 = .ok (.putfield 21, 3) := by decide +kernel
theorem dX1_settle_97 : decode cX1_settle 97 = .ok (.return_, 1) := by decide +kernel
theorem dX3_init_0 : decode cX3_init 0 = .ok (.aload_n 0, 1) := by decide +kernel
theorem dX3_init_1 : decode cX3_init 1 = .ok (.invokespecial 3, 3) := by decide +kernel
theorem dX3_init_4 : decode cX3_init 4 = .ok (.aload_n 0, 1) := by decide +kernel
theorem dX3_init_5 : decode cX3_init 5 = .ok (.bipush 10, 2) := by decide +kernel
theorem dX3_init_7 : decode cX3_init 7 = .ok (.newarray .int, 2) := by decide +kernel
theorem dX3_init_9 : decode cX3_init 9 = .ok (.putfield 9, 3) := by decide +kernel
theorem dX3_init_12 : decode cX3_init 12 = .ok (.aload_n 0, 1) := by decide +kernel
theorem dX3_init_13 : decode cX3_init 13 = .ok (.bipush 10, 2) := by decide +kernel
theorem dX3_init_15 : decode cX3_init 15 = .ok (.newarray .int, 2) := by decide +kernel
theorem dX3_init_17 : decode cX3_init 17 = .ok (.putfield 15, 3) := by decide +kernel
theorem dX3_init_20 : decode cX3_init 20 = .ok (.aload_n 0, 1) := by decide +kernel
theorem dX3_init_21 : decode cX3_init 21 = .ok (.bipush 10, 2) := by decide +kernel
theorem dX3_init_23 : decode cX3_init 23 = .ok (.newarray .int, 2) := by decide +kernel
theorem dX3_init_25 : decode cX3_init 25 = .ok (.putfield 18, 3) := by decide +kernel
theorem dX3_init_28 : decode cX3_init 28 = .ok (.aload_n 0, 1) := by decide +kernel
theorem dX3_init_29 : decode cX3_init 29 = .ok (.bipush 10, 2) := by decide +kernel
theorem dX3_init_31 : decode cX3_init 31 = .ok (.newarray .int, 2) := by decide +kernel
theorem dX3_init_33 : decode cX3_init 33 = .ok (.putfield 21, 3) := by decide +kernel
theorem dX3_init_36 : decode cX3_init 36 = .ok (.return_, 1) := by decide +kernel
theorem dX3_listRunners_0 : decode cX3_listRunners 0 = .ok (.aload_n 0, 1) := by decide +kernel
theorem dX3_listRunners_1 : decode cX3_listRunners 1 = .ok (.iconst 0, 1) := by decide +kernel
theorem dX3_listRunners_2 : decode cX3_listRunners 2 = .ok (.putfield 24, 3) := by decide +kernel
theorem dX3_listRunners_5 : decode cX3_listRunners 5 = .ok (.iconst 0, 1) := by decide +kernel
theorem dX3_listRunners_6 : decode cX3_listRunners 6 = .ok (.istore_n 2, 1) := by decide +kernel
theorem dX3_listRunners_7 : decode cX3_listRunners 7 = .ok (.iload_n 2, 1) := by decide +kernel
theorem dX3_listRunners_8 : decode cX3_listRunners 8 = .ok (.aload_n 1, 1) := by decide +kernel
theorem dX3_listRunners_9 : decode cX3_listRunners 9 = .ok (.getfield 28, 3) := by decide +kernel
theorem dX3_listRunners_12 : decode cX3_listRunners 12 = .ok (.if_icmp .ge 46, 3) := by decide +kernel
theorem dX3_listRunners_15 : decode cX3_listRunners 15 = .ok (.aload_n 0, 1) := by decide +kernel
theorem dX3_listRunners_16 : decode cX3_listRunners 16 = .ok (.getfield 24, 3) := by decide +kernel
theorem dX3_listRunners_19 : decode cX3_listRunners 19 = .ok (.bipush 10, 2) := by decide +kernel
theorem dX3_listRunners_21 : decode cX3_listRunners 21 = .ok (.if_icmp .ge 37, 3) := by decide +kernel
theorem dX3_listRunners_24 : decode cX3_listRunners 24 = .ok (.aload_n 1, 1) := by decide +kernel
theorem dX3_listRunners_25 : decode cX3_listRunners 25 = .ok (.iload_n 2, 1) := by decide +kernel
theorem dX3_listRunners_26 : decode cX3_listRunners 26 = .ok (.invokevirtual 33, 3) := by decide +kernel
theorem dX3_listRunners_29 : decode cX3_listRunners 29 = .ok (.ifCond .eq 23, 3) := by decide +kernel
theorem dX3_listRunners_32 : decode cX3_listRunners 32 = .ok (.aload_n 0, 1) := by decide +kernel
theorem dX3_listRunners_33 : decode cX3_listRunners 33 = .ok (.getfield 9, 3) := by decide +kernel
theorem dX3_listRunners_36 : decode cX3_listRunners 36 = .ok (.aload_n 0, 1) := by decide +kernel
theorem dX3_listRunners_37 : decode cX3_listRunners 37 = .ok (.getfield 24, 3) := by decide +kernel
theorem dX3_listRunners_40 : decode cX3_listRunners 40 = .ok (.iload_n 2, 1) := by decide +kernel
theorem dX3_listRunners_41 : decode cX3_listRunners 41 = .ok (.iastore, 1) := by decide +kernel
theorem dX3_listRunners_42 : decode cX3_listRunners 42 = .ok (.aload_n 0, 1) := by decide +kernel
theorem dX3_listRunners_43 : decode cX3_listRunners 43 = .ok (.dup, 1) := by decide +kernel
theorem dX3_listRunners_44 : decode cX3_listRunners 44 = .ok (.getfield 24, 3) := by decide +kernel
theorem dX3_listRunners_47 : decode cX3_listRunners 47 = .ok (.iconst 1, 1) := by decide +kernel
theorem dX3_listRunners_48 : decode cX3_listRunners 48 = .ok (.iadd, 1) := by decide +kernel
theorem dX3_listRunners_49 : decode cX3_listRunners 49 = .ok (.putfield 24, 3) := by decide +kernel
theorem dX3_listRunners_52 : decode cX3_listRunners 52 = .ok (.iinc 2 1, 3) := by decide +kernel
theorem dX3_listRunners_55 : decode cX3_listRunners 55 = .ok (.goto (-48), 3) := by decide +kernel
theorem dX3_listRunners_58 : decode cX3_listRunners 58 = .ok (.return_, 1) := by decide +kernel
theorem dX3_drawHorses_0 : decode cX3_drawHorses 0 = .ok (.aload_n 0, 1) := by decide +kernel
theorem dX3_drawHorses_1 : decode cX3_drawHorses 1 = .ok (.aload_n 2, 1) := by decide +kernel
theorem dX3_drawHorses_2 : decode cX3_drawHorses 2 = .ok (.invokevirtual 37, 3) := by decide +kernel
theorem dX3_drawHorses_5 : decode cX3_drawHorses 5 = .ok (.iconst 0, 1) := by decide +kernel
theorem dX3_drawHorses_6 : decode cX3_drawHorses 6 = .ok (.istore 4, 2) := by decide +kernel
theorem dX3_drawHorses_8 : decode cX3_drawHorses 8 = .ok (.iload 4, 2) := by decide +kernel
theorem dX3_drawHorses_10 : decode cX3_drawHorses 10 = .ok (.aload_n 0, 1) := by decide +kernel
theorem dX3_drawHorses_11 : decode cX3_drawHorses 11 = .ok (.getfield 24, 3) := by decide +kernel
theorem dX3_drawHorses_14 : decode cX3_drawHorses 14 = .ok (.if_icmp .ge 51, 3) := by decide +kernel
theorem dX3_drawHorses_17 : decode cX3_drawHorses 17 = .ok (.aload_n 0, 1) := by decide +kernel
theorem dX3_drawHorses_18 : decode cX3_drawHorses 18 = .ok (.aload_n 3, 1) := by decide +kernel
theorem dX3_drawHorses_19 : decode cX3_drawHorses 19 = .ok (.aload_n 0, 1) := by decide +kernel
theorem dX3_drawHorses_20 : decode cX3_drawHorses 20 = .ok (.getfield 24, 3) := by decide +kernel
theorem dX3_drawHorses_23 : decode cX3_drawHorses 23 = .ok (.iload 4, 2) := by decide +kernel
theorem dX3_drawHorses_25 : decode cX3_drawHorses 25 = .ok (.isub, 1) := by decide +kernel
theorem dX3_drawHorses_26 : decode cX3_drawHorses 26 = .ok (.invokevirtual 41, 3) := by decide +kernel
theorem dX3_drawHorses_29 : decode cX3_drawHorses 29 = .ok (.invokevirtual 47, 3) := by decide +kernel
theorem dX3_drawHorses_32 : decode cX3_drawHorses 32 = .ok (.istore 5, 2) := by decide +kernel
theorem dX3_drawHorses_34 : decode cX3_drawHorses 34 = .ok (.aload_n 1, 1) := by decide +kernel
theorem dX3_drawHorses_35 : decode cX3_drawHorses 35 = .ok (.aload_n 0, 1) := by decide +kernel
theorem dX3_drawHorses_36 : decode cX3_drawHorses 36 = .ok (.getfield 9, 3) := by decide +kernel
theorem dX3_drawHorses_39 : decode cX3_drawHorses 39 = .ok (.iload 4, 2) := by decide +kernel
theorem dX3_drawHorses_41 : decode cX3_drawHorses 41 = .ok (.iaload, 1) := by decide +kernel
theorem dX3_drawHorses_42 : decode cX3_drawHorses 42 = .ok (.invokevirtual 50, 3) := by decide +kernel
theorem dX3_drawHorses_45 : decode cX3_drawHorses 45 = .ok (.astore 6, 2) := by decide +kernel
theorem dX3_drawHorses_47 : decode cX3_drawHorses 47 = .ok (.aload 6, 2) := by decide +kernel
theorem dX3_drawHorses_49 : decode cX3_drawHorses 49 = .ok (.ifnull 10, 3) := by decide +kernel
theorem dX3_drawHorses_52 : decode cX3_drawHorses 52 = .ok (.aload 6, 2) := by decide +kernel
theorem dX3_drawHorses_54 : decode cX3_drawHorses 54 = .ok (.iload 5, 2) := by decide +kernel
theorem dX3_drawHorses_56 : decode cX3_drawHorses 56 = .ok (.putfield 54, 3) := by decide +kernel
theorem dX3_drawHorses_59 : decode cX3_drawHorses 59 = .ok (.iinc 4 1, 3) := by decide +kernel
theorem dX3_drawHorses_62 : decode cX3_drawHorses 62 = .ok (.goto (-54), 3) := by decide +kernel
theorem dX3_drawHorses_65 : decode cX3_drawHorses 65 = .ok (.return_, 1) := by decide +kernel
theorem dX3_drawPlaces_0 : decode cX3_drawPlaces 0 = .ok (.aload_n 0, 1) := by decide +kernel
theorem dX3_drawPlaces_1 : decode cX3_drawPlaces 1 = .ok (.aload_n 0, 1) := by decide +kernel
theorem dX3_drawPlaces_2 : decode cX3_drawPlaces 2 = .ok (.getfield 9, 3) := by decide +kernel
theorem dX3_drawPlaces_5 : decode cX3_drawPlaces 5 = .ok (.invokevirtual 37, 3) := by decide +kernel
theorem dX3_drawPlaces_8 : decode cX3_drawPlaces 8 = .ok (.iconst 0, 1) := by decide +kernel
theorem dX3_drawPlaces_9 : decode cX3_drawPlaces 9 = .ok (.istore_n 2, 1) := by decide +kernel
theorem dX3_drawPlaces_10 : decode cX3_drawPlaces 10 = .ok (.iload_n 2, 1) := by decide +kernel
theorem dX3_drawPlaces_11 : decode cX3_drawPlaces 11 = .ok (.aload_n 0, 1) := by decide +kernel
theorem dX3_drawPlaces_12 : decode cX3_drawPlaces 12 = .ok (.getfield 24, 3) := by decide +kernel
theorem dX3_drawPlaces_15 : decode cX3_drawPlaces 15 = .ok (.if_icmp .ge 29, 3) := by decide +kernel
theorem dX3_drawPlaces_18 : decode cX3_drawPlaces 18 = .ok (.aload_n 0, 1) := by decide +kernel
theorem dX3_drawPlaces_19 : decode cX3_drawPlaces 19 = .ok (.getfield 15, 3) := by decide +kernel
theorem dX3_drawPlaces_22 : decode cX3_drawPlaces 22 = .ok (.iload_n 2, 1) := by decide +kernel
theorem dX3_drawPlaces_23 : decode cX3_drawPlaces 23 = .ok (.aload_n 0, 1) := by decide +kernel
theorem dX3_drawPlaces_24 : decode cX3_drawPlaces 24 = .ok (.aload_n 1, 1) := by decide +kernel
theorem dX3_drawPlaces_25 : decode cX3_drawPlaces 25 = .ok (.aload_n 0, 1) := by decide +kernel
theorem dX3_drawPlaces_26 : decode cX3_drawPlaces 26 = .ok (.getfield 24, 3) := by decide +kernel
theorem dX3_drawPlaces_29 : decode cX3_drawPlaces 29 = .ok (.iload_n 2, 1) := by decide +kernel
theorem dX3_drawPlaces_30 : decode cX3_drawPlaces 30 = .ok (.isub, 1) := by decide +kernel
theorem dX3_drawPlaces_31 : decode cX3_drawPlaces 31 = .ok (.invokevirtual 41, 3) := by decide +kernel
theorem dX3_drawPlaces_34 : decode cX3_drawPlaces 34 = .ok (.invokevirtual 47, 3) := by decide +kernel
theorem dX3_drawPlaces_37 : decode cX3_drawPlaces 37 = .ok (.iastore, 1) := by decide +kernel
theorem dX3_drawPlaces_38 : decode cX3_drawPlaces 38 = .ok (.iinc 2 1, 3) := by decide +kernel
theorem dX3_drawPlaces_41 : decode cX3_drawPlaces 41 = .ok (.goto (-31), 3) := by decide +kernel
theorem dX3_drawPlaces_44 : decode cX3_drawPlaces 44 = .ok (.aload_n 0, 1) := by decide +kernel
theorem dX3_drawPlaces_45 : decode cX3_drawPlaces 45 = .ok (.invokevirtual 59, 3) := by decide +kernel
theorem dX3_drawPlaces_48 : decode cX3_drawPlaces 48 = .ok (.return_, 1) := by decide +kernel
theorem dX3_layOut_0 : decode cX3_layOut 0 = .ok (.iconst 0, 1) := by decide +kernel
theorem dX3_layOut_1 : decode cX3_layOut 1 = .ok (.istore_n 2, 1) := by decide +kernel
theorem dX3_layOut_2 : decode cX3_layOut 2 = .ok (.iload_n 2, 1) := by decide +kernel
theorem dX3_layOut_3 : decode cX3_layOut 3 = .ok (.aload_n 0, 1) := by decide +kernel
theorem dX3_layOut_4 : decode cX3_layOut 4 = .ok (.getfield 24, 3) := by decide +kernel
theorem dX3_layOut_7 : decode cX3_layOut 7 = .ok (.if_icmp .ge 24, 3) := by decide +kernel
theorem dX3_layOut_10 : decode cX3_layOut 10 = .ok (.iload_n 2, 1) := by decide +kernel
theorem dX3_layOut_11 : decode cX3_layOut 11 = .ok (.aload_n 1, 1) := by decide +kernel
theorem dX3_layOut_12 : decode cX3_layOut 12 = .ok (.arraylength, 1) := by decide +kernel
theorem dX3_layOut_13 : decode cX3_layOut 13 = .ok (.if_icmp .ge 18, 3) := by decide +kernel
theorem dX3_layOut_16 : decode cX3_layOut 16 = .ok (.aload_n 0, 1) := by decide +kernel
theorem dX3_layOut_17 : decode cX3_layOut 17 = .ok (.getfield 21, 3) := by decide +kernel
theorem dX3_layOut_20 : decode cX3_layOut 20 = .ok (.iload_n 2, 1) := by decide +kernel
theorem dX3_layOut_21 : decode cX3_layOut 21 = .ok (.aload_n 1, 1) := by decide +kernel
theorem dX3_layOut_22 : decode cX3_layOut 22 = .ok (.iload_n 2, 1) := by decide +kernel
theorem dX3_layOut_23 : decode cX3_layOut 23 = .ok (.iaload, 1) := by decide +kernel
theorem dX3_layOut_24 : decode cX3_layOut 24 = .ok (.iastore, 1) := by decide +kernel
theorem dX3_layOut_25 : decode cX3_layOut 25 = .ok (.iinc 2 1, 3) := by decide +kernel
theorem dX3_layOut_28 : decode cX3_layOut 28 = .ok (.goto (-26), 3) := by decide +kernel
theorem dX3_layOut_31 : decode cX3_layOut 31 = .ok (.return_, 1) := by decide +kernel
theorem dX3_takeLeft_0 : decode cX3_takeLeft 0 = .ok (.iload_n 1, 1) := by decide +kernel
theorem dX3_takeLeft_1 : decode cX3_takeLeft 1 = .ok (.ifCond .lt 11, 3) := by decide +kernel
theorem dX3_takeLeft_4 : decode cX3_takeLeft 4 = .ok (.iload_n 1, 1) := by decide +kernel
theorem dX3_takeLeft_5 : decode cX3_takeLeft 5 = .ok (.aload_n 0, 1) := by decide +kernel
theorem dX3_takeLeft_6 : decode cX3_takeLeft 6 = .ok (.getfield 24, 3) := by decide +kernel
theorem dX3_takeLeft_9 : decode cX3_takeLeft 9 = .ok (.if_icmp .lt 5, 3) := by decide +kernel
theorem dX3_takeLeft_12 : decode cX3_takeLeft 12 = .ok (.iconst (-1), 1) := by decide +kernel
theorem dX3_takeLeft_13 : decode cX3_takeLeft 13 = .ok (.ireturn, 1) := by decide +kernel
theorem dX3_takeLeft_14 : decode cX3_takeLeft 14 = .ok (.aload_n 0, 1) := by decide +kernel
theorem dX3_takeLeft_15 : decode cX3_takeLeft 15 = .ok (.getfield 21, 3) := by decide +kernel
theorem dX3_takeLeft_18 : decode cX3_takeLeft 18 = .ok (.iload_n 1, 1) := by decide +kernel
theorem dX3_takeLeft_19 : decode cX3_takeLeft 19 = .ok (.iaload, 1) := by decide +kernel
theorem dX3_takeLeft_20 : decode cX3_takeLeft 20 = .ok (.istore_n 2, 1) := by decide +kernel
theorem dX3_takeLeft_21 : decode cX3_takeLeft 21 = .ok (.aload_n 0, 1) := by decide +kernel
theorem dX3_takeLeft_22 : decode cX3_takeLeft 22 = .ok (.aload_n 0, 1) := by decide +kernel
theorem dX3_takeLeft_23 : decode cX3_takeLeft 23 = .ok (.getfield 21, 3) := by decide +kernel
theorem dX3_takeLeft_26 : decode cX3_takeLeft 26 = .ok (.iload_n 1, 1) := by decide +kernel
theorem dX3_takeLeft_27 : decode cX3_takeLeft 27 = .ok (.invokevirtual 62, 3) := by decide +kernel
theorem dX3_takeLeft_30 : decode cX3_takeLeft 30 = .ok (.iload_n 2, 1) := by decide +kernel
theorem dX3_takeLeft_31 : decode cX3_takeLeft 31 = .ok (.ireturn, 1) := by decide +kernel
theorem dX3_closeGap_0 : decode cX3_closeGap 0 = .ok (.iload_n 2, 1) := by decide +kernel
theorem dX3_closeGap_1 : decode cX3_closeGap 1 = .ok (.istore_n 3, 1) := by decide +kernel
theorem dX3_closeGap_2 : decode cX3_closeGap 2 = .ok (.iload_n 3, 1) := by decide +kernel
theorem dX3_closeGap_3 : decode cX3_closeGap 3 = .ok (.iconst 1, 1) := by decide +kernel
theorem dX3_closeGap_4 : decode cX3_closeGap 4 = .ok (.iadd, 1) := by decide +kernel
theorem dX3_closeGap_5 : decode cX3_closeGap 5 = .ok (.aload_n 0, 1) := by decide +kernel
theorem dX3_closeGap_6 : decode cX3_closeGap 6 = .ok (.getfield 24, 3) := by decide +kernel
theorem dX3_closeGap_9 : decode cX3_closeGap 9 = .ok (.if_icmp .ge 25, 3) := by decide +kernel
theorem dX3_closeGap_12 : decode cX3_closeGap 12 = .ok (.iload_n 3, 1) := by decide +kernel
theorem dX3_closeGap_13 : decode cX3_closeGap 13 = .ok (.iconst 1, 1) := by decide +kernel
theorem dX3_closeGap_14 : decode cX3_closeGap 14 = .ok (.iadd, 1) := by decide +kernel
theorem dX3_closeGap_15 : decode cX3_closeGap 15 = .ok (.aload_n 1, 1) := by decide +kernel
theorem dX3_closeGap_16 : decode cX3_closeGap 16 = .ok (.arraylength, 1) := by decide +kernel
theorem dX3_closeGap_17 : decode cX3_closeGap 17 = .ok (.if_icmp .ge 17, 3) := by decide +kernel
theorem dX3_closeGap_20 : decode cX3_closeGap 20 = .ok (.aload_n 1, 1) := by decide +kernel
theorem dX3_closeGap_21 : decode cX3_closeGap 21 = .ok (.iload_n 3, 1) := by decide +kernel
theorem dX3_closeGap_22 : decode cX3_closeGap 22 = .ok (.aload_n 1, 1) := by decide +kernel
theorem dX3_closeGap_23 : decode cX3_closeGap 23 = .ok (.iload_n 3, 1) := by decide +kernel
theorem dX3_closeGap_24 : decode cX3_closeGap 24 = .ok (.iconst 1, 1) := by decide +kernel
theorem dX3_closeGap_25 : decode cX3_closeGap 25 = .ok (.iadd, 1) := by decide +kernel
theorem dX3_closeGap_26 : decode cX3_closeGap 26 = .ok (.iaload, 1) := by decide +kernel
theorem dX3_closeGap_27 : decode cX3_closeGap 27 = .ok (.iastore, 1) := by decide +kernel
theorem dX3_closeGap_28 : decode cX3_closeGap 28 = .ok (.iinc 3 1, 3) := by decide +kernel
theorem dX3_closeGap_31 : decode cX3_closeGap 31 = .ok (.goto (-29), 3) := by decide +kernel
theorem dX3_closeGap_34 : decode cX3_closeGap 34 = .ok (.return_, 1) := by decide +kernel
theorem dX3_forgetSeen_0 : decode cX3_forgetSeen 0 = .ok (.aload_n 0, 1) := by decide +kernel
theorem dX3_forgetSeen_1 : decode cX3_forgetSeen 1 = .ok (.getfield 18, 3) := by decide +kernel
theorem dX3_forgetSeen_4 : decode cX3_forgetSeen 4 = .ok (.iconst (-1), 1) := by decide +kernel
theorem dX3_forgetSeen_5 : decode cX3_forgetSeen 5 = .ok (.invokestatic 66, 3) := by decide +kernel
theorem dX3_forgetSeen_8 : decode cX3_forgetSeen 8 = .ok (.return_, 1) := by decide +kernel
theorem dX3_hasOther_0 : decode cX3_hasOther 0 = .ok (.aload_n 0, 1) := by decide +kernel
theorem dX3_hasOther_1 : decode cX3_hasOther 1 = .ok (.getfield 18, 3) := by decide +kernel
theorem dX3_hasOther_4 : decode cX3_hasOther 4 = .ok (.iload_n 1, 1) := by decide +kernel
theorem dX3_hasOther_5 : decode cX3_hasOther 5 = .ok (.iaload, 1) := by decide +kernel
theorem dX3_hasOther_6 : decode cX3_hasOther 6 = .ok (.iconst (-1), 1) := by decide +kernel
theorem dX3_hasOther_7 : decode cX3_hasOther 7 = .ok (.if_icmp .eq 22, 3) := by decide +kernel
theorem dX3_hasOther_10 : decode cX3_hasOther 10 = .ok (.aload_n 0, 1) := by decide +kernel
theorem dX3_hasOther_11 : decode cX3_hasOther 11 = .ok (.getfield 18, 3) := by decide +kernel
theorem dX3_hasOther_14 : decode cX3_hasOther 14 = .ok (.iload_n 1, 1) := by decide +kernel
theorem dX3_hasOther_15 : decode cX3_hasOther 15 = .ok (.iaload, 1) := by decide +kernel
theorem dX3_hasOther_16 : decode cX3_hasOther 16 = .ok (.aload_n 0, 1) := by decide +kernel
theorem dX3_hasOther_17 : decode cX3_hasOther 17 = .ok (.getfield 15, 3) := by decide +kernel
theorem dX3_hasOther_20 : decode cX3_hasOther 20 = .ok (.iload_n 1, 1) := by decide +kernel
theorem dX3_hasOther_21 : decode cX3_hasOther 21 = .ok (.iaload, 1) := by decide +kernel
theorem dX3_hasOther_22 : decode cX3_hasOther 22 = .ok (.if_icmp .eq 7, 3) := by decide +kernel
theorem dX3_hasOther_25 : decode cX3_hasOther 25 = .ok (.iconst 1, 1) := by decide +kernel
theorem dX3_hasOther_26 : decode cX3_hasOther 26 = .ok (.goto 4, 3) := by decide +kernel
theorem dX3_hasOther_29 : decode cX3_hasOther 29 = .ok (.iconst 0, 1) := by decide +kernel
theorem dX3_hasOther_30 : decode cX3_hasOther 30 = .ok (.ireturn, 1) := by decide +kernel
theorem dX3_countOthers_0 : decode cX3_countOthers 0 = .ok (.iconst 0, 1) := by decide +kernel
theorem dX3_countOthers_1 : decode cX3_countOthers 1 = .ok (.istore_n 1, 1) := by decide +kernel
theorem dX3_countOthers_2 : decode cX3_countOthers 2 = .ok (.iconst 0, 1) := by decide +kernel
theorem dX3_countOthers_3 : decode cX3_countOthers 3 = .ok (.istore_n 2, 1) := by decide +kernel
theorem dX3_countOthers_4 : decode cX3_countOthers 4 = .ok (.iload_n 2, 1) := by decide +kernel
theorem dX3_countOthers_5 : decode cX3_countOthers 5 = .ok (.aload_n 0, 1) := by decide +kernel
theorem dX3_countOthers_6 : decode cX3_countOthers 6 = .ok (.getfield 24, 3) := by decide +kernel
theorem dX3_countOthers_9 : decode cX3_countOthers 9 = .ok (.if_icmp .ge 20, 3) := by decide +kernel
theorem dX3_countOthers_12 : decode cX3_countOthers 12 = .ok (.aload_n 0, 1) := by decide +kernel
theorem dX3_countOthers_13 : decode cX3_countOthers 13 = .ok (.iload_n 2, 1) := by decide +kernel
theorem dX3_countOthers_14 : decode cX3_countOthers 14 = .ok (.invokevirtual 71, 3) := by decide +kernel
theorem dX3_countOthers_17 : decode cX3_countOthers 17 = .ok (.ifCond .eq 6, 3) := by decide +kernel
theorem dX3_countOthers_20 : decode cX3_countOthers 20 = .ok (.iinc 1 1, 3) := by decide +kernel
theorem dX3_countOthers_23 : decode cX3_countOthers 23 = .ok (.iinc 2 1, 3) := by decide +kernel
theorem dX3_countOthers_26 : decode cX3_countOthers 26 = .ok (.goto (-22), 3) := by decide +kernel
theorem dX3_countOthers_29 : decode cX3_countOthers 29 = .ok (.iload_n 1, 1) := by decide +kernel
theorem dX3_countOthers_30 : decode cX3_countOthers 30 = .ok (.ireturn, 1) := by decide +kernel
theorem dX3_addFalseStarts_0 : decode cX3_addFalseStarts 0 = .ok (.iconst 0, 1) := by decide +kernel
theorem dX3_addFalseStarts_1 : decode cX3_addFalseStarts 1 = .ok (.istore_n 2, 1) := by decide +kernel
theorem dX3_addFalseStarts_2 : decode cX3_addFalseStarts 2 = .ok (.iload_n 2, 1) := by decide +kernel
theorem dX3_addFalseStarts_3 : decode cX3_addFalseStarts 3 = .ok (.aload_n 0, 1) := by decide +kernel
theorem dX3_addFalseStarts_4 : decode cX3_addFalseStarts 4 = .ok (.getfield 24, 3) := by decide +kernel
theorem dX3_addFalseStarts_7 : decode cX3_addFalseStarts 7 = .ok (.if_icmp .ge 42, 3) := by decide +kernel
theorem dX3_addFalseStarts_10 : decode cX3_addFalseStarts 10 = .ok (.aload_n 1, 1) := by decide +kernel
theorem dX3_addFalseStarts_11 : decode cX3_addFalseStarts 11 = .ok (.aload_n 0, 1) := by decide +kernel
theorem dX3_addFalseStarts_12 : decode cX3_addFalseStarts 12 = .ok (.getfield 15, 3) := by decide +kernel
theorem dX3_addFalseStarts_15 : decode cX3_addFalseStarts 15 = .ok (.iload_n 2, 1) := by decide +kernel
theorem dX3_addFalseStarts_16 : decode cX3_addFalseStarts 16 = .ok (.iaload, 1) := by decide +kernel
theorem dX3_addFalseStarts_17 : decode cX3_addFalseStarts 17 = .ok (.invokevirtual 50, 3) := by decide +kernel
theorem dX3_addFalseStarts_20 : decode cX3_addFalseStarts 20 = .ok (.astore_n 3, 1) := by decide +kernel
theorem dX3_addFalseStarts_21 : decode cX3_addFalseStarts 21 = .ok (.aload_n 3, 1) := by decide +kernel
theorem dX3_addFalseStarts_22 : decode cX3_addFalseStarts 22 = .ok (.ifnull 21, 3) := by decide +kernel
theorem dX3_addFalseStarts_25 : decode cX3_addFalseStarts 25 = .ok (.aload_n 0, 1) := by decide +kernel
theorem dX3_addFalseStarts_26 : decode cX3_addFalseStarts 26 = .ok (.iload_n 2, 1) := by decide +kernel
theorem dX3_addFalseStarts_27 : decode cX3_addFalseStarts 27 = .ok (.invokevirtual 71, 3) := by decide +kernel
theorem dX3_addFalseStarts_30 : decode cX3_addFalseStarts 30 = .ok (.ifCond .eq 13, 3) := by decide +kernel
theorem dX3_addFalseStarts_33 : decode cX3_addFalseStarts 33 = .ok (.aload_n 3, 1) := by decide +kernel
theorem dX3_addFalseStarts_34 : decode cX3_addFalseStarts 34 = .ok (.dup, 1) := by decide +kernel
theorem dX3_addFalseStarts_35 : decode cX3_addFalseStarts 35 = .ok (.getfield 74, 3) := by decide +kernel
theorem dX3_addFalseStarts_38 : decode cX3_addFalseStarts 38 = .ok (.iconst 1, 1) := by decide +kernel
theorem dX3_addFalseStarts_39 : decode cX3_addFalseStarts 39 = .ok (.iadd, 1) := by decide +kernel
theorem dX3_addFalseStarts_40 : decode cX3_addFalseStarts 40 = .ok (.putfield 74, 3) := by decide +kernel
theorem dX3_addFalseStarts_43 : decode cX3_addFalseStarts 43 = .ok (.iinc 2 1, 3) := by decide +kernel
theorem dX3_addFalseStarts_46 : decode cX3_addFalseStarts 46 = .ok (.goto (-44), 3) := by decide +kernel
theorem dX3_addFalseStarts_49 : decode cX3_addFalseStarts 49 = .ok (.return_, 1) := by decide +kernel
theorem dX3_sendBack_0 : decode cX3_sendBack 0 = .ok (.iconst 0, 1) := by decide +kernel
theorem dX3_sendBack_1 : decode cX3_sendBack 1 = .ok (.istore_n 3, 1) := by decide +kernel
theorem dX3_sendBack_2 : decode cX3_sendBack 2 = .ok (.iload_n 3, 1) := by decide +kernel
theorem dX3_sendBack_3 : decode cX3_sendBack 3 = .ok (.aload_n 0, 1) := by decide +kernel
theorem dX3_sendBack_4 : decode cX3_sendBack 4 = .ok (.getfield 24, 3) := by decide +kernel
theorem dX3_sendBack_7 : decode cX3_sendBack 7 = .ok (.if_icmp .ge 55, 3) := by decide +kernel
theorem dX3_sendBack_10 : decode cX3_sendBack 10 = .ok (.iload_n 2, 1) := by decide +kernel
theorem dX3_sendBack_11 : decode cX3_sendBack 11 = .ok (.ifCond .le 51, 3) := by decide +kernel
theorem dX3_sendBack_14 : decode cX3_sendBack 14 = .ok (.aload_n 1, 1) := by decide +kernel
theorem dX3_sendBack_15 : decode cX3_sendBack 15 = .ok (.aload_n 0, 1) := by decide +kernel
theorem dX3_sendBack_16 : decode cX3_sendBack 16 = .ok (.getfield 9, 3) := by decide +kernel
theorem dX3_sendBack_19 : decode cX3_sendBack 19 = .ok (.iload_n 3, 1) := by decide +kernel
theorem dX3_sendBack_20 : decode cX3_sendBack 20 = .ok (.iaload, 1) := by decide +kernel
theorem dX3_sendBack_21 : decode cX3_sendBack 21 = .ok (.invokevirtual 50, 3) := by decide +kernel
theorem dX3_sendBack_24 : decode cX3_sendBack 24 = .ok (.astore 4, 2) := by decide +kernel
theorem dX3_sendBack_26 : decode cX3_sendBack 26 = .ok (.aload 4, 2) := by decide +kernel
theorem dX3_sendBack_28 : decode cX3_sendBack 28 = .ok (.ifnull 28, 3) := by decide +kernel
theorem dX3_sendBack_31 : decode cX3_sendBack 31 = .ok (.aload 4, 2) := by decide +kernel
theorem dX3_sendBack_33 : decode cX3_sendBack 33 = .ok (.getfield 74, 3) := by decide +kernel
theorem dX3_sendBack_36 : decode cX3_sendBack 36 = .ok (.iload_n 2, 1) := by decide +kernel
theorem dX3_sendBack_37 : decode cX3_sendBack 37 = .ok (.if_icmp .lt 19, 3) := by decide +kernel
theorem dX3_sendBack_40 : decode cX3_sendBack 40 = .ok (.aload_n 0, 1) := by decide +kernel
theorem dX3_sendBack_41 : decode cX3_sendBack 41 = .ok (.aload_n 0, 1) := by decide +kernel
theorem dX3_sendBack_42 : decode cX3_sendBack 42 = .ok (.getfield 9, 3) := by decide +kernel
theorem dX3_sendBack_45 : decode cX3_sendBack 45 = .ok (.iload_n 3, 1) := by decide +kernel
theorem dX3_sendBack_46 : decode cX3_sendBack 46 = .ok (.iaload, 1) := by decide +kernel
theorem dX3_sendBack_47 : decode cX3_sendBack 47 = .ok (.invokevirtual 77, 3) := by decide +kernel
theorem dX3_sendBack_50 : decode cX3_sendBack 50 = .ok (.aload 4, 2) := by decide +kernel
theorem dX3_sendBack_52 : decode cX3_sendBack 52 = .ok (.iconst 0, 1) := by decide +kernel
theorem dX3_sendBack_53 : decode cX3_sendBack 53 = .ok (.putfield 74, 3) := by decide +kernel
theorem dX3_sendBack_56 : decode cX3_sendBack 56 = .ok (.iinc 3 1, 3) := by decide +kernel
theorem dX3_sendBack_59 : decode cX3_sendBack 59 = .ok (.goto (-57), 3) := by decide +kernel
theorem dX3_sendBack_62 : decode cX3_sendBack 62 = .ok (.return_, 1) := by decide +kernel
theorem dX3_moveToEnd_0 : decode cX3_moveToEnd 0 = .ok (.iconst 0, 1) := by decide +kernel
theorem dX3_moveToEnd_1 : decode cX3_moveToEnd 1 = .ok (.istore_n 2, 1) := by decide +kernel
theorem dX3_moveToEnd_2 : decode cX3_moveToEnd 2 = .ok (.iload_n 2, 1) := by decide +kernel
theorem dX3_moveToEnd_3 : decode cX3_moveToEnd 3 = .ok (.aload_n 0, 1) := by decide +kernel
theorem dX3_moveToEnd_4 : decode cX3_moveToEnd 4 = .ok (.getfield 24, 3) := by decide +kernel
theorem dX3_moveToEnd_7 : decode cX3_moveToEnd 7 = .ok (.if_icmp .ge 41, 3) := by decide +kernel
theorem dX3_moveToEnd_10 : decode cX3_moveToEnd 10 = .ok (.aload_n 0, 1) := by decide +kernel
theorem dX3_moveToEnd_11 : decode cX3_moveToEnd 11 = .ok (.getfield 15, 3) := by decide +kernel
theorem dX3_moveToEnd_14 : decode cX3_moveToEnd 14 = .ok (.iload_n 2, 1) := by decide +kernel
theorem dX3_moveToEnd_15 : decode cX3_moveToEnd 15 = .ok (.iaload, 1) := by decide +kernel
theorem dX3_moveToEnd_16 : decode cX3_moveToEnd 16 = .ok (.iload_n 1, 1) := by decide +kernel
theorem dX3_moveToEnd_17 : decode cX3_moveToEnd 17 = .ok (.if_icmp .ne 25, 3) := by decide +kernel
theorem dX3_moveToEnd_20 : decode cX3_moveToEnd 20 = .ok (.aload_n 0, 1) := by decide +kernel
theorem dX3_moveToEnd_21 : decode cX3_moveToEnd 21 = .ok (.aload_n 0, 1) := by decide +kernel
theorem dX3_moveToEnd_22 : decode cX3_moveToEnd 22 = .ok (.getfield 15, 3) := by decide +kernel
theorem dX3_moveToEnd_25 : decode cX3_moveToEnd 25 = .ok (.iload_n 2, 1) := by decide +kernel
theorem dX3_moveToEnd_26 : decode cX3_moveToEnd 26 = .ok (.invokevirtual 62, 3) := by decide +kernel
theorem dX3_moveToEnd_29 : decode cX3_moveToEnd 29 = .ok (.aload_n 0, 1) := by decide +kernel
theorem dX3_moveToEnd_30 : decode cX3_moveToEnd 30 = .ok (.getfield 15, 3) := by decide +kernel
theorem dX3_moveToEnd_33 : decode cX3_moveToEnd 33 = .ok (.aload_n 0, 1) := by decide +kernel
theorem dX3_moveToEnd_34 : decode cX3_moveToEnd 34 = .ok (.getfield 24, 3) := by decide +kernel
theorem dX3_moveToEnd_37 : decode cX3_moveToEnd 37 = .ok (.iconst 1, 1) := by decide +kernel
theorem dX3_moveToEnd_38 : decode cX3_moveToEnd 38 = .ok (.isub, 1) := by decide +kernel
theorem dX3_moveToEnd_39 : decode cX3_moveToEnd 39 = .ok (.iload_n 1, 1) := by decide +kernel
theorem dX3_moveToEnd_40 : decode cX3_moveToEnd 40 = .ok (.iastore, 1) := by decide +kernel
theorem dX3_moveToEnd_41 : decode cX3_moveToEnd 41 = .ok (.return_, 1) := by decide +kernel
theorem dX3_moveToEnd_42 : decode cX3_moveToEnd 42 = .ok (.iinc 2 1, 3) := by decide +kernel
theorem dX3_moveToEnd_45 : decode cX3_moveToEnd 45 = .ok (.goto (-43), 3) := by decide +kernel
theorem dX3_moveToEnd_48 : decode cX3_moveToEnd 48 = .ok (.return_, 1) := by decide +kernel
theorem dX4_init_0 : decode cX4_init 0 = .ok (.aload_n 0, 1) := by decide +kernel
theorem dX4_init_1 : decode cX4_init 1 = .ok (.invokespecial 3, 3) := by decide +kernel
theorem dX4_init_4 : decode cX4_init 4 = .ok (.return_, 1) := by decide +kernel
theorem dX4_begin_0 : decode cX4_begin 0 = .ok (.aload_n 0, 1) := by decide +kernel
theorem dX4_begin_1 : decode cX4_begin 1 = .ok (.iload_n 1, 1) := by decide +kernel
theorem dX4_begin_2 : decode cX4_begin 2 = .ok (.putfield 9, 3) := by decide +kernel
theorem dX4_begin_5 : decode cX4_begin 5 = .ok (.aload_n 0, 1) := by decide +kernel
theorem dX4_begin_6 : decode cX4_begin 6 = .ok (.iconst 3, 1) := by decide +kernel
theorem dX4_begin_7 : decode cX4_begin 7 = .ok (.iload_n 2, 1) := by decide +kernel
theorem dX4_begin_8 : decode cX4_begin 8 = .ok (.sipush 250, 3) := by decide +kernel
theorem dX4_begin_11 : decode cX4_begin 11 = .ok (.idiv, 1) := by decide +kernel
theorem dX4_begin_12 : decode cX4_begin 12 = .ok (.iadd, 1) := by decide +kernel
theorem dX4_begin_13 : decode cX4_begin 13 = .ok (.putfield 15, 3) := by decide +kernel
theorem dX4_begin_16 : decode cX4_begin 16 = .ok (.aload_n 0, 1) := by decide +kernel
theorem dX4_begin_17 : decode cX4_begin 17 = .ok (.iload_n 3, 1) := by decide +kernel
theorem dX4_begin_18 : decode cX4_begin 18 = .ok (.iconst 4, 1) := by decide +kernel
theorem dX4_begin_19 : decode cX4_begin 19 = .ok (.idiv, 1) := by decide +kernel
theorem dX4_begin_20 : decode cX4_begin 20 = .ok (.ineg, 1) := by decide +kernel
theorem dX4_begin_21 : decode cX4_begin 21 = .ok (.putfield 18, 3) := by decide +kernel
theorem dX4_begin_24 : decode cX4_begin 24 = .ok (.aload_n 0, 1) := by decide +kernel
theorem dX4_begin_25 : decode cX4_begin 25 = .ok (.iload_n 3, 1) := by decide +kernel
theorem dX4_begin_26 : decode cX4_begin 26 = .ok (.iconst 4, 1) := by decide +kernel
theorem dX4_begin_27 : decode cX4_begin 27 = .ok (.irem, 1) := by decide +kernel
theorem dX4_begin_28 : decode cX4_begin 28 = .ok (.putfield 21, 3) := by decide +kernel
theorem dX4_begin_31 : decode cX4_begin 31 = .ok (.aload_n 0, 1) := by decide +kernel
theorem dX4_begin_32 : decode cX4_begin 32 = .ok (.iconst 0, 1) := by decide +kernel
theorem dX4_begin_33 : decode cX4_begin 33 = .ok (.putfield 24, 3) := by decide +kernel
theorem dX4_begin_36 : decode cX4_begin 36 = .ok (.aload_n 0, 1) := by decide +kernel
theorem dX4_begin_37 : decode cX4_begin 37 = .ok (.iconst 0, 1) := by decide +kernel
theorem dX4_begin_38 : decode cX4_begin 38 = .ok (.putfield 27, 3) := by decide +kernel
theorem dX4_begin_41 : decode cX4_begin 41 = .ok (.aload_n 0, 1) := by decide +kernel
theorem dX4_begin_42 : decode cX4_begin 42 = .ok (.iconst (-1), 1) := by decide +kernel
theorem dX4_begin_43 : decode cX4_begin 43 = .ok (.putfield 31, 3) := by decide +kernel
theorem dX4_begin_46 : decode cX4_begin 46 = .ok (.aload_n 0, 1) := by decide +kernel
theorem dX4_begin_47 : decode cX4_begin 47 = .ok (.iconst 0, 1) := by decide +kernel
theorem dX4_begin_48 : decode cX4_begin 48 = .ok (.putfield 34, 3) := by decide +kernel
theorem dX4_begin_51 : decode cX4_begin 51 = .ok (.return_, 1) := by decide +kernel
theorem dX4_onRing_0 : decode cX4_onRing 0 = .ok (.aload_n 0, 1) := by decide +kernel
theorem dX4_onRing_1 : decode cX4_onRing 1 = .ok (.getfield 31, 3) := by decide +kernel
theorem dX4_onRing_4 : decode cX4_onRing 4 = .ok (.iconst (-1), 1) := by decide +kernel
theorem dX4_onRing_5 : decode cX4_onRing 5 = .ok (.if_icmp .ne 7, 3) := by decide +kernel
theorem dX4_onRing_8 : decode cX4_onRing 8 = .ok (.iconst 1, 1) := by decide +kernel
theorem dX4_onRing_9 : decode cX4_onRing 9 = .ok (.goto 4, 3) := by decide +kernel
theorem dX4_onRing_12 : decode cX4_onRing 12 = .ok (.iconst 0, 1) := by decide +kernel
theorem dX4_onRing_13 : decode cX4_onRing 13 = .ok (.ireturn, 1) := by decide +kernel
theorem dX4_isCloseAheadOf_0 : decode cX4_isCloseAheadOf 0 = .ok (.aload_n 0, 1) := by decide +kernel
theorem dX4_isCloseAheadOf_1 : decode cX4_isCloseAheadOf 1 = .ok (.getfield 18, 3) := by decide +kernel
theorem dX4_isCloseAheadOf_4 : decode cX4_isCloseAheadOf 4 = .ok (.aload_n 1, 1) := by decide +kernel
theorem dX4_isCloseAheadOf_5 : decode cX4_isCloseAheadOf 5 = .ok (.getfield 18, 3) := by decide +kernel
theorem dX4_isCloseAheadOf_8 : decode cX4_isCloseAheadOf 8 = .ok (.iconst 1, 1) := by decide +kernel
theorem dX4_isCloseAheadOf_9 : decode cX4_isCloseAheadOf 9 = .ok (.iadd, 1) := by decide +kernel
theorem dX4_isCloseAheadOf_10 : decode cX4_isCloseAheadOf 10 = .ok (.if_icmp .eq 16, 3) := by decide +kernel
theorem dX4_isCloseAheadOf_13 : decode cX4_isCloseAheadOf 13 = .ok (.aload_n 0, 1) := by decide +kernel
theorem dX4_isCloseAheadOf_14 : decode cX4_isCloseAheadOf 14 = .ok (.getfield 18, 3) := by decide +kernel
theorem dX4_isCloseAheadOf_17 : decode cX4_isCloseAheadOf 17 = .ok (.aload_n 1, 1) := by decide +kernel
theorem dX4_isCloseAheadOf_18 : decode cX4_isCloseAheadOf 18 = .ok (.getfield 18, 3) := by decide +kernel
theorem dX4_isCloseAheadOf_21 : decode cX4_isCloseAheadOf 21 = .ok (.iconst 2, 1) := by decide +kernel
theorem dX4_isCloseAheadOf_22 : decode cX4_isCloseAheadOf 22 = .ok (.iadd, 1) := by decide +kernel
theorem dX4_isCloseAheadOf_23 : decode cX4_isCloseAheadOf 23 = .ok (.if_icmp .ne 7, 3) := by decide +kernel
theorem dX4_isCloseAheadOf_26 : decode cX4_isCloseAheadOf 26 = .ok (.iconst 1, 1) := by decide +kernel
theorem dX4_isCloseAheadOf_27 : decode cX4_isCloseAheadOf 27 = .ok (.goto 4, 3) := by decide +kernel
theorem dX4_isCloseAheadOf_30 : decode cX4_isCloseAheadOf 30 = .ok (.iconst 0, 1) := by decide +kernel
theorem dX4_isCloseAheadOf_31 : decode cX4_isCloseAheadOf 31 = .ok (.ireturn, 1) := by decide +kernel
theorem dX4_goesAheadOf_0 : decode cX4_goesAheadOf 0 = .ok (.aload_n 0, 1) := by decide +kernel
theorem dX4_goesAheadOf_1 : decode cX4_goesAheadOf 1 = .ok (.getfield 18, 3) := by decide +kernel
theorem dX4_goesAheadOf_4 : decode cX4_goesAheadOf 4 = .ok (.aload_n 1, 1) := by decide +kernel
theorem dX4_goesAheadOf_5 : decode cX4_goesAheadOf 5 = .ok (.getfield 18, 3) := by decide +kernel
theorem dX4_goesAheadOf_8 : decode cX4_goesAheadOf 8 = .ok (.if_icmp .gt 25, 3) := by decide +kernel
theorem dX4_goesAheadOf_11 : decode cX4_goesAheadOf 11 = .ok (.aload_n 0, 1) := by decide +kernel
theorem dX4_goesAheadOf_12 : decode cX4_goesAheadOf 12 = .ok (.getfield 18, 3) := by decide +kernel
theorem dX4_goesAheadOf_15 : decode cX4_goesAheadOf 15 = .ok (.aload_n 1, 1) := by decide +kernel
theorem dX4_goesAheadOf_16 : decode cX4_goesAheadOf 16 = .ok (.getfield 18, 3) := by decide +kernel
theorem dX4_goesAheadOf_19 : decode cX4_goesAheadOf 19 = .ok (.if_icmp .ne 18, 3) := by decide +kernel
theorem dX4_goesAheadOf_22 : decode cX4_goesAheadOf 22 = .ok (.aload_n 0, 1) := by decide +kernel
theorem dX4_goesAheadOf_23 : decode cX4_goesAheadOf 23 = .ok (.getfield 21, 3) := by decide +kernel
theorem dX4_goesAheadOf_26 : decode cX4_goesAheadOf 26 = .ok (.aload_n 1, 1) := by decide +kernel
theorem dX4_goesAheadOf_27 : decode cX4_goesAheadOf 27 = .ok (.getfield 21, 3) := by decide +kernel
theorem dX4_goesAheadOf_30 : decode cX4_goesAheadOf 30 = .ok (.if_icmp .ge 7, 3) := by decide +kernel
theorem dX4_goesAheadOf_33 : decode cX4_goesAheadOf 33 = .ok (.iconst 1, 1) := by decide +kernel
theorem dX4_goesAheadOf_34 : decode cX4_goesAheadOf 34 = .ok (.goto 4, 3) := by decide +kernel
theorem dX4_goesAheadOf_37 : decode cX4_goesAheadOf 37 = .ok (.iconst 0, 1) := by decide +kernel
theorem dX4_goesAheadOf_38 : decode cX4_goesAheadOf 38 = .ok (.ireturn, 1) := by decide +kernel
theorem dX5_init_0 : decode cX5_init 0 = .ok (.aload_n 0, 1) := by decide +kernel
theorem dX5_init_1 : decode cX5_init 1 = .ok (.invokespecial 3, 3) := by decide +kernel
theorem dX5_init_4 : decode cX5_init 4 = .ok (.aload_n 0, 1) := by decide +kernel
theorem dX5_init_5 : decode cX5_init 5 = .ok (.bipush 16, 2) := by decide +kernel
theorem dX5_init_7 : decode cX5_init 7 = .ok (.newarray .int, 2) := by decide +kernel
theorem dX5_init_9 : decode cX5_init 9 = .ok (.putfield 9, 3) := by decide +kernel
theorem dX5_init_12 : decode cX5_init 12 = .ok (.aload_n 0, 1) := by decide +kernel
theorem dX5_init_13 : decode cX5_init 13 = .ok (.bipush 16, 2) := by decide +kernel
theorem dX5_init_15 : decode cX5_init 15 = .ok (.newarray .boolean, 2) := by decide +kernel
theorem dX5_init_17 : decode cX5_init 17 = .ok (.putfield 15, 3) := by decide +kernel
theorem dX5_init_20 : decode cX5_init 20 = .ok (.aload_n 0, 1) := by decide +kernel
theorem dX5_init_21 : decode cX5_init 21 = .ok (.bipush 10, 2) := by decide +kernel
theorem dX5_init_23 : decode cX5_init 23 = .ok (.newarray .int, 2) := by decide +kernel
theorem dX5_init_25 : decode cX5_init 25 = .ok (.putfield 19, 3) := by decide +kernel
theorem dX5_init_28 : decode cX5_init 28 = .ok (.aload_n 0, 1) := by decide +kernel
theorem dX5_init_29 : decode cX5_init 29 = .ok (.bipush 10, 2) := by decide +kernel
theorem dX5_init_31 : decode cX5_init 31 = .ok (.newarray .int, 2) := by decide +kernel
theorem dX5_init_33 : decode cX5_init 33 = .ok (.putfield 22, 3) := by decide +kernel
theorem dX5_init_36 : decode cX5_init 36 = .ok (.return_, 1) := by decide +kernel
theorem dX5_addHorse_0 : decode cX5_addHorse 0 = .ok (.aload_n 0, 1) := by decide +kernel
theorem dX5_addHorse_1 : decode cX5_addHorse 1 = .ok (.getfield 25, 3) := by decide +kernel
theorem dX5_addHorse_4 : decode cX5_addHorse 4 = .ok (.bipush 16, 2) := by decide +kernel
theorem dX5_addHorse_6 : decode cX5_addHorse 6 = .ok (.if_icmp .lt 5, 3) := by decide +kernel
theorem dX5_addHorse_9 : decode cX5_addHorse 9 = .ok (.iconst (-1), 1) := by decide +kernel
theorem dX5_addHorse_10 : decode cX5_addHorse 10 = .ok (.ireturn, 1) := by decide +kernel
theorem dX5_addHorse_11 : decode cX5_addHorse 11 = .ok (.aload_n 0, 1) := by decide +kernel
theorem dX5_addHorse_12 : decode cX5_addHorse 12 = .ok (.getfield 9, 3) := by decide +kernel
theorem dX5_addHorse_15 : decode cX5_addHorse 15 = .ok (.aload_n 0, 1) := by decide +kernel
theorem dX5_addHorse_16 : decode cX5_addHorse 16 = .ok (.getfield 25, 3) := by decide +kernel
theorem dX5_addHorse_19 : decode cX5_addHorse 19 = .ok (.iload_n 1, 1) := by decide +kernel
theorem dX5_addHorse_20 : decode cX5_addHorse 20 = .ok (.iastore, 1) := by decide +kernel
theorem dX5_addHorse_21 : decode cX5_addHorse 21 = .ok (.aload_n 0, 1) := by decide +kernel
theorem dX5_addHorse_22 : decode cX5_addHorse 22 = .ok (.getfield 15, 3) := by decide +kernel
theorem dX5_addHorse_25 : decode cX5_addHorse 25 = .ok (.aload_n 0, 1) := by decide +kernel
theorem dX5_addHorse_26 : decode cX5_addHorse 26 = .ok (.getfield 25, 3) := by decide +kernel
theorem dX5_addHorse_29 : decode cX5_addHorse 29 = .ok (.iconst 1, 1) := by decide +kernel
theorem dX5_addHorse_30 : decode cX5_addHorse 30 = .ok (.bastore, 1) := by decide +kernel
theorem dX5_addHorse_31 : decode cX5_addHorse 31 = .ok (.aload_n 0, 1) := by decide +kernel
theorem dX5_addHorse_32 : decode cX5_addHorse 32 = .ok (.dup, 1) := by decide +kernel
theorem dX5_addHorse_33 : decode cX5_addHorse 33 = .ok (.getfield 25, 3) := by decide +kernel
theorem dX5_addHorse_36 : decode cX5_addHorse 36 = .ok (.iconst 1, 1) := by decide +kernel
theorem dX5_addHorse_37 : decode cX5_addHorse 37 = .ok (.iadd, 1) := by decide +kernel
theorem dX5_addHorse_38 : decode cX5_addHorse 38 = .ok (.putfield 25, 3) := by decide +kernel
theorem dX5_addHorse_41 : decode cX5_addHorse 41 = .ok (.aload_n 0, 1) := by decide +kernel
theorem dX5_addHorse_42 : decode cX5_addHorse 42 = .ok (.getfield 25, 3) := by decide +kernel
theorem dX5_addHorse_45 : decode cX5_addHorse 45 = .ok (.iconst 1, 1) := by decide +kernel
theorem dX5_addHorse_46 : decode cX5_addHorse 46 = .ok (.isub, 1) := by decide +kernel
theorem dX5_addHorse_47 : decode cX5_addHorse 47 = .ok (.ireturn, 1) := by decide +kernel
theorem dX5_has_0 : decode cX5_has 0 = .ok (.iload_n 1, 1) := by decide +kernel
theorem dX5_has_1 : decode cX5_has 1 = .ok (.ifCond .lt 15, 3) := by decide +kernel
theorem dX5_has_4 : decode cX5_has 4 = .ok (.iload_n 1, 1) := by decide +kernel
theorem dX5_has_5 : decode cX5_has 5 = .ok (.aload_n 0, 1) := by decide +kernel
theorem dX5_has_6 : decode cX5_has 6 = .ok (.getfield 25, 3) := by decide +kernel
theorem dX5_has_9 : decode cX5_has 9 = .ok (.if_icmp .ge 7, 3) := by decide +kernel
theorem dX5_has_12 : decode cX5_has 12 = .ok (.iconst 1, 1) := by decide +kernel
theorem dX5_has_13 : decode cX5_has 13 = .ok (.goto 4, 3) := by decide +kernel
theorem dX5_has_16 : decode cX5_has 16 = .ok (.iconst 0, 1) := by decide +kernel
theorem dX5_has_17 : decode cX5_has 17 = .ok (.ireturn, 1) := by decide +kernel
theorem dX5_markOf_0 : decode cX5_markOf 0 = .ok (.aload_n 0, 1) := by decide +kernel
theorem dX5_markOf_1 : decode cX5_markOf 1 = .ok (.iload_n 1, 1) := by decide +kernel
theorem dX5_markOf_2 : decode cX5_markOf 2 = .ok (.invokevirtual 29, 3) := by decide +kernel
theorem dX5_markOf_5 : decode cX5_markOf 5 = .ok (.ifCond .eq 12, 3) := by decide +kernel
theorem dX5_markOf_8 : decode cX5_markOf 8 = .ok (.aload_n 0, 1) := by decide +kernel
theorem dX5_markOf_9 : decode cX5_markOf 9 = .ok (.getfield 9, 3) := by decide +kernel
theorem dX5_markOf_12 : decode cX5_markOf 12 = .ok (.iload_n 1, 1) := by decide +kernel
theorem dX5_markOf_13 : decode cX5_markOf 13 = .ok (.iaload, 1) := by decide +kernel
theorem dX5_markOf_14 : decode cX5_markOf 14 = .ok (.goto 4, 3) := by decide +kernel
theorem dX5_markOf_17 : decode cX5_markOf 17 = .ok (.iconst 0, 1) := by decide +kernel
theorem dX5_markOf_18 : decode cX5_markOf 18 = .ok (.ireturn, 1) := by decide +kernel
theorem dX5_pickEven_0 : decode cX5_pickEven 0 = .ok (.iconst (-1), 1) := by decide +kernel
theorem dX5_pickEven_1 : decode cX5_pickEven 1 = .ok (.istore_n 2, 1) := by decide +kernel
theorem dX5_pickEven_2 : decode cX5_pickEven 2 = .ok (.iconst 0, 1) := by decide +kernel
theorem dX5_pickEven_3 : decode cX5_pickEven 3 = .ok (.istore_n 3, 1) := by decide +kernel
theorem dX5_pickEven_4 : decode cX5_pickEven 4 = .ok (.iload_n 3, 1) := by decide +kernel
theorem dX5_pickEven_5 : decode cX5_pickEven 5 = .ok (.aload_n 0, 1) := by decide +kernel
theorem dX5_pickEven_6 : decode cX5_pickEven 6 = .ok (.getfield 25, 3) := by decide +kernel
theorem dX5_pickEven_9 : decode cX5_pickEven 9 = .ok (.if_icmp .ge 143, 3) := by decide +kernel
theorem dX5_pickEven_12 : decode cX5_pickEven 12 = .ok (.iconst 0, 1) := by decide +kernel
theorem dX5_pickEven_13 : decode cX5_pickEven 13 = .ok (.istore 4, 2) := by decide +kernel
theorem dX5_pickEven_15 : decode cX5_pickEven 15 = .ok (.iload 4, 2) := by decide +kernel
theorem dX5_pickEven_17 : decode cX5_pickEven 17 = .ok (.aload_n 0, 1) := by decide +kernel
theorem dX5_pickEven_18 : decode cX5_pickEven 18 = .ok (.getfield 25, 3) := by decide +kernel
theorem dX5_pickEven_21 : decode cX5_pickEven 21 = .ok (.if_icmp .ge 125, 3) := by decide +kernel
theorem dX5_pickEven_24 : decode cX5_pickEven 24 = .ok (.aload_n 0, 1) := by decide +kernel
theorem dX5_pickEven_25 : decode cX5_pickEven 25 = .ok (.getfield 9, 3) := by decide +kernel
theorem dX5_pickEven_28 : decode cX5_pickEven 28 = .ok (.iload 4, 2) := by decide +kernel
theorem dX5_pickEven_30 : decode cX5_pickEven 30 = .ok (.iaload, 1) := by decide +kernel
theorem dX5_pickEven_31 : decode cX5_pickEven 31 = .ok (.aload_n 0, 1) := by decide +kernel
theorem dX5_pickEven_32 : decode cX5_pickEven 32 = .ok (.getfield 9, 3) := by decide +kernel
theorem dX5_pickEven_35 : decode cX5_pickEven 35 = .ok (.iload_n 3, 1) := by decide +kernel
theorem dX5_pickEven_36 : decode cX5_pickEven 36 = .ok (.iaload, 1) := by decide +kernel
theorem dX5_pickEven_37 : decode cX5_pickEven 37 = .ok (.isub, 1) := by decide +kernel
theorem dX5_pickEven_38 : decode cX5_pickEven 38 = .ok (.istore 5, 2) := by decide +kernel
theorem dX5_pickEven_40 : decode cX5_pickEven 40 = .ok (.iload 5, 2) := by decide +kernel
theorem dX5_pickEven_42 : decode cX5_pickEven 42 = .ok (.ifCond .lt 18, 3) := by decide +kernel
theorem dX5_pickEven_45 : decode cX5_pickEven 45 = .ok (.iload_n 2, 1) := by decide +kernel
theorem dX5_pickEven_46 : decode cX5_pickEven 46 = .ok (.iconst (-1), 1) := by decide +kernel
theorem dX5_pickEven_47 : decode cX5_pickEven 47 = .ok (.if_icmp .eq 9, 3) := by decide +kernel
theorem dX5_pickEven_50 : decode cX5_pickEven 50 = .ok (.iload 5, 2) := by decide +kernel
theorem dX5_pickEven_52 : decode cX5_pickEven 52 = .ok (.iload_n 2, 1) := by decide +kernel
theorem dX5_pickEven_53 : decode cX5_pickEven 53 = .ok (.if_icmp .gt 7, 3) := by decide +kernel
theorem dX5_pickEven_56 : decode cX5_pickEven 56 = .ok (.iconst 1, 1) := by decide +kernel
theorem dX5_pickEven_57 : decode cX5_pickEven 57 = .ok (.goto 4, 3) := by decide +kernel
theorem dX5_pickEven_60 : decode cX5_pickEven 60 = .ok (.iconst 0, 1) := by decide +kernel
theorem dX5_pickEven_61 : decode cX5_pickEven 61 = .ok (.istore 6, 2) := by decide +kernel
theorem dX5_pickEven_63 : decode cX5_pickEven 63 = .ok (.iload 6, 2) := by decide +kernel
theorem dX5_pickEven_65 : decode cX5_pickEven 65 = .ok (.ifCond .eq 75, 3) := by decide +kernel
theorem dX5_pickEven_68 : decode cX5_pickEven 68 = .ok (.aload_n 0, 1) := by decide +kernel
theorem dX5_pickEven_69 : decode cX5_pickEven 69 = .ok (.getfield 15, 3) := by decide +kernel
theorem dX5_pickEven_72 : decode cX5_pickEven 72 = .ok (.iload_n 3, 1) := by decide +kernel
theorem dX5_pickEven_73 : decode cX5_pickEven 73 = .ok (.baload, 1) := by decide +kernel
theorem dX5_pickEven_74 : decode cX5_pickEven 74 = .ok (.ifCond .eq 66, 3) := by decide +kernel
theorem dX5_pickEven_77 : decode cX5_pickEven 77 = .ok (.aload_n 0, 1) := by decide +kernel
theorem dX5_pickEven_78 : decode cX5_pickEven 78 = .ok (.getfield 15, 3) := by decide +kernel
theorem dX5_pickEven_81 : decode cX5_pickEven 81 = .ok (.iload 4, 2) := by decide +kernel
theorem dX5_pickEven_83 : decode cX5_pickEven 83 = .ok (.baload, 1) := by decide +kernel
theorem dX5_pickEven_84 : decode cX5_pickEven 84 = .ok (.ifCond .eq 56, 3) := by decide +kernel
theorem dX5_pickEven_87 : decode cX5_pickEven 87 = .ok (.aload_n 0, 1) := by decide +kernel
theorem dX5_pickEven_88 : decode cX5_pickEven 88 = .ok (.iload_n 1, 1) := by decide +kernel
theorem dX5_pickEven_89 : decode cX5_pickEven 89 = .ok (.aload_n 0, 1) := by decide +kernel
theorem dX5_pickEven_90 : decode cX5_pickEven 90 = .ok (.getfield 9, 3) := by decide +kernel
theorem dX5_pickEven_93 : decode cX5_pickEven 93 = .ok (.iload_n 3, 1) := by decide +kernel
theorem dX5_pickEven_94 : decode cX5_pickEven 94 = .ok (.iaload, 1) := by decide +kernel
theorem dX5_pickEven_95 : decode cX5_pickEven 95 = .ok (.aload_n 0, 1) := by decide +kernel
theorem dX5_pickEven_96 : decode cX5_pickEven 96 = .ok (.getfield 9, 3) := by decide +kernel
theorem dX5_pickEven_99 : decode cX5_pickEven 99 = .ok (.iload 4, 2) := by decide +kernel
theorem dX5_pickEven_101 : decode cX5_pickEven 101 = .ok (.iaload, 1) := by decide +kernel
theorem dX5_pickEven_102 : decode cX5_pickEven 102 = .ok (.invokevirtual 33, 3) := by decide +kernel
theorem dX5_pickEven_105 : decode cX5_pickEven 105 = .ok (.ifCond .eq 35, 3) := by decide +kernel
theorem dX5_pickEven_108 : decode cX5_pickEven 108 = .ok (.iload 5, 2) := by decide +kernel
theorem dX5_pickEven_110 : decode cX5_pickEven 110 = .ok (.iload_n 2, 1) := by decide +kernel
theorem dX5_pickEven_111 : decode cX5_pickEven 111 = .ok (.if_icmp .ne 11, 3) := by decide +kernel
theorem dX5_pickEven_114 : decode cX5_pickEven 114 = .ok (.aload_n 0, 1) := by decide +kernel
theorem dX5_pickEven_115 : decode cX5_pickEven 115 = .ok (.iload_n 1, 1) := by decide +kernel
theorem dX5_pickEven_116 : decode cX5_pickEven 116 = .ok (.invokevirtual 37, 3) := by decide +kernel
theorem dX5_pickEven_119 : decode cX5_pickEven 119 = .ok (.ifCond .eq 21, 3) := by decide +kernel
theorem dX5_pickEven_122 : decode cX5_pickEven 122 = .ok (.iload 5, 2) := by decide +kernel
theorem dX5_pickEven_124 : decode cX5_pickEven 124 = .ok (.istore_n 2, 1) := by decide +kernel
theorem dX5_pickEven_125 : decode cX5_pickEven 125 = .ok (.aload_n 0, 1) := by decide +kernel
theorem dX5_pickEven_126 : decode cX5_pickEven 126 = .ok (.getfield 22, 3) := by decide +kernel
theorem dX5_pickEven_129 : decode cX5_pickEven 129 = .ok (.iconst 0, 1) := by decide +kernel
theorem dX5_pickEven_130 : decode cX5_pickEven 130 = .ok (.aload_n 0, 1) := by decide +kernel
theorem dX5_pickEven_131 : decode cX5_pickEven 131 = .ok (.getfield 19, 3) := by decide +kernel
theorem dX5_pickEven_134 : decode cX5_pickEven 134 = .ok (.iconst 0, 1) := by decide +kernel
theorem dX5_pickEven_135 : decode cX5_pickEven 135 = .ok (.bipush 10, 2) := by decide +kernel
theorem dX5_pickEven_137 : decode cX5_pickEven 137 = .ok (.invokestatic 40, 3) := by decide +kernel
theorem dX5_pickEven_140 : decode cX5_pickEven 140 = .ok (.iinc 4 1, 3) := by decide +kernel
theorem dX5_pickEven_143 : decode cX5_pickEven 143 = .ok (.goto (-128), 3) := by decide +kernel
theorem dX5_pickEven_146 : decode cX5_pickEven 146 = .ok (.iinc 3 1, 3) := by decide +kernel
theorem dX5_pickEven_149 : decode cX5_pickEven 149 = .ok (.goto (-145), 3) := by decide +kernel
theorem dX5_pickEven_152 : decode cX5_pickEven 152 = .ok (.iload_n 2, 1) := by decide +kernel
theorem dX5_pickEven_153 : decode cX5_pickEven 153 = .ok (.ireturn, 1) := by decide +kernel
theorem dX5_fillTried_0 : decode cX5_fillTried 0 = .ok (.iconst 0, 1) := by decide +kernel
theorem dX5_fillTried_1 : decode cX5_fillTried 1 = .ok (.istore 4, 2) := by decide +kernel
theorem dX5_fillTried_3 : decode cX5_fillTried 3 = .ok (.iconst 0, 1) := by decide +kernel
theorem dX5_fillTried_4 : decode cX5_fillTried 4 = .ok (.istore 5, 2) := by decide +kernel
theorem dX5_fillTried_6 : decode cX5_fillTried 6 = .ok (.iload 5, 2) := by decide +kernel
theorem dX5_fillTried_8 : decode cX5_fillTried 8 = .ok (.aload_n 0, 1) := by decide +kernel
theorem dX5_fillTried_9 : decode cX5_fillTried 9 = .ok (.getfield 25, 3) := by decide +kernel
theorem dX5_fillTried_12 : decode cX5_fillTried 12 = .ok (.if_icmp .ge 66, 3) := by decide +kernel
theorem dX5_fillTried_15 : decode cX5_fillTried 15 = .ok (.iload 4, 2) := by decide +kernel
theorem dX5_fillTried_17 : decode cX5_fillTried 17 = .ok (.iload_n 1, 1) := by decide +kernel
theorem dX5_fillTried_18 : decode cX5_fillTried 18 = .ok (.if_icmp .ge 60, 3) := by decide +kernel
theorem dX5_fillTried_21 : decode cX5_fillTried 21 = .ok (.iload 4, 2) := by decide +kernel
theorem dX5_fillTried_23 : decode cX5_fillTried 23 = .ok (.bipush 10, 2) := by decide +kernel
theorem dX5_fillTried_25 : decode cX5_fillTried 25 = .ok (.if_icmp .ge 53, 3) := by decide +kernel
theorem dX5_fillTried_28 : decode cX5_fillTried 28 = .ok (.aload_n 0, 1) := by decide +kernel
theorem dX5_fillTried_29 : decode cX5_fillTried 29 = .ok (.getfield 15, 3) := by decide +kernel
theorem dX5_fillTried_32 : decode cX5_fillTried 32 = .ok (.iload 5, 2) := by decide +kernel
theorem dX5_fillTried_34 : decode cX5_fillTried 34 = .ok (.baload, 1) := by decide +kernel
theorem dX5_fillTried_35 : decode cX5_fillTried 35 = .ok (.ifCond .eq 37, 3) := by decide +kernel
theorem dX5_fillTried_38 : decode cX5_fillTried 38 = .ok (.aload_n 0, 1) := by decide +kernel
theorem dX5_fillTried_39 : decode cX5_fillTried 39 = .ok (.getfield 9, 3) := by decide +kernel
theorem dX5_fillTried_42 : decode cX5_fillTried 42 = .ok (.iload 5, 2) := by decide +kernel
theorem dX5_fillTried_44 : decode cX5_fillTried 44 = .ok (.iaload, 1) := by decide +kernel
theorem dX5_fillTried_45 : decode cX5_fillTried 45 = .ok (.iload_n 2, 1) := by decide +kernel
theorem dX5_fillTried_46 : decode cX5_fillTried 46 = .ok (.if_icmp .lt 26, 3) := by decide +kernel
theorem dX5_fillTried_49 : decode cX5_fillTried 49 = .ok (.aload_n 0, 1) := by decide +kernel
theorem dX5_fillTried_50 : decode cX5_fillTried 50 = .ok (.getfield 9, 3) := by decide +kernel
theorem dX5_fillTried_53 : decode cX5_fillTried 53 = .ok (.iload 5, 2) := by decide +kernel
theorem dX5_fillTried_55 : decode cX5_fillTried 55 = .ok (.iaload, 1) := by decide +kernel
theorem dX5_fillTried_56 : decode cX5_fillTried 56 = .ok (.iload_n 3, 1) := by decide +kernel
theorem dX5_fillTried_57 : decode cX5_fillTried 57 = .ok (.if_icmp .gt 15, 3) := by decide +kernel
theorem dX5_fillTried_60 : decode cX5_fillTried 60 = .ok (.aload_n 0, 1) := by decide +kernel
theorem dX5_fillTried_61 : decode cX5_fillTried 61 = .ok (.getfield 22, 3) := by decide +kernel
theorem dX5_fillTried_64 : decode cX5_fillTried 64 = .ok (.iload 4, 2) := by decide +kernel
theorem dX5_fillTried_66 : decode cX5_fillTried 66 = .ok (.iload 5, 2) := by decide +kernel
theorem dX5_fillTried_68 : decode cX5_fillTried 68 = .ok (.iastore, 1) := by decide +kernel
theorem dX5_fillTried_69 : decode cX5_fillTried 69 = .ok (.iinc 4 1, 3) := by decide +kernel
theorem dX5_fillTried_72 : decode cX5_fillTried 72 = .ok (.iinc 5 1, 3) := by decide +kernel
theorem dX5_fillTried_75 : decode cX5_fillTried 75 = .ok (.goto (-69), 3) := by decide +kernel
theorem dX5_fillTried_78 : decode cX5_fillTried 78 = .ok (.iload 4, 2) := by decide +kernel
theorem dX5_fillTried_80 : decode cX5_fillTried 80 = .ok (.iload_n 1, 1) := by decide +kernel
theorem dX5_fillTried_81 : decode cX5_fillTried 81 = .ok (.if_icmp .ne 7, 3) := by decide +kernel
theorem dX5_fillTried_84 : decode cX5_fillTried 84 = .ok (.iconst 1, 1) := by decide +kernel
theorem dX5_fillTried_85 : decode cX5_fillTried 85 = .ok (.goto 4, 3) := by decide +kernel
theorem dX5_fillTried_88 : decode cX5_fillTried 88 = .ok (.iconst 0, 1) := by decide +kernel
theorem dX5_fillTried_89 : decode cX5_fillTried 89 = .ok (.ireturn, 1) := by decide +kernel
theorem dX5_triedIsAhead_0 : decode cX5_triedIsAhead 0 = .ok (.iconst 0, 1) := by decide +kernel
theorem dX5_triedIsAhead_1 : decode cX5_triedIsAhead 1 = .ok (.istore_n 2, 1) := by decide +kernel
theorem dX5_triedIsAhead_2 : decode cX5_triedIsAhead 2 = .ok (.iload_n 2, 1) := by decide +kernel
theorem dX5_triedIsAhead_3 : decode cX5_triedIsAhead 3 = .ok (.iload_n 1, 1) := by decide +kernel
theorem dX5_triedIsAhead_4 : decode cX5_triedIsAhead 4 = .ok (.if_icmp .ge 51, 3) := by decide +kernel
theorem dX5_triedIsAhead_7 : decode cX5_triedIsAhead 7 = .ok (.iload_n 2, 1) := by decide +kernel
theorem dX5_triedIsAhead_8 : decode cX5_triedIsAhead 8 = .ok (.bipush 10, 2) := by decide +kernel
theorem dX5_triedIsAhead_10 : decode cX5_triedIsAhead 10 = .ok (.if_icmp .ge 45, 3) := by decide +kernel
theorem dX5_triedIsAhead_13 : decode cX5_triedIsAhead 13 = .ok (.aload_n 0, 1) := by decide +kernel
theorem dX5_triedIsAhead_14 : decode cX5_triedIsAhead 14 = .ok (.getfield 22, 3) := by decide +kernel
theorem dX5_triedIsAhead_17 : decode cX5_triedIsAhead 17 = .ok (.iload_n 2, 1) := by decide +kernel
theorem dX5_triedIsAhead_18 : decode cX5_triedIsAhead 18 = .ok (.iaload, 1) := by decide +kernel
theorem dX5_triedIsAhead_19 : decode cX5_triedIsAhead 19 = .ok (.aload_n 0, 1) := by decide +kernel
theorem dX5_triedIsAhead_20 : decode cX5_triedIsAhead 20 = .ok (.getfield 19, 3) := by decide +kernel
theorem dX5_triedIsAhead_23 : decode cX5_triedIsAhead 23 = .ok (.iload_n 2, 1) := by decide +kernel
theorem dX5_triedIsAhead_24 : decode cX5_triedIsAhead 24 = .ok (.iaload, 1) := by decide +kernel
theorem dX5_triedIsAhead_25 : decode cX5_triedIsAhead 25 = .ok (.if_icmp .eq 24, 3) := by decide +kernel
theorem dX5_triedIsAhead_28 : decode cX5_triedIsAhead 28 = .ok (.aload_n 0, 1) := by decide +kernel
theorem dX5_triedIsAhead_29 : decode cX5_triedIsAhead 29 = .ok (.getfield 22, 3) := by decide +kernel
theorem dX5_triedIsAhead_32 : decode cX5_triedIsAhead 32 = .ok (.iload_n 2, 1) := by decide +kernel
theorem dX5_triedIsAhead_33 : decode cX5_triedIsAhead 33 = .ok (.iaload, 1) := by decide +kernel
theorem dX5_triedIsAhead_34 : decode cX5_triedIsAhead 34 = .ok (.aload_n 0, 1) := by decide +kernel
theorem dX5_triedIsAhead_35 : decode cX5_triedIsAhead 35 = .ok (.getfield 19, 3) := by decide +kernel
theorem dX5_triedIsAhead_38 : decode cX5_triedIsAhead 38 = .ok (.iload_n 2, 1) := by decide +kernel
theorem dX5_triedIsAhead_39 : decode cX5_triedIsAhead 39 = .ok (.iaload, 1) := by decide +kernel
theorem dX5_triedIsAhead_40 : decode cX5_triedIsAhead 40 = .ok (.if_icmp .ge 7, 3) := by decide +kernel
theorem dX5_triedIsAhead_43 : decode cX5_triedIsAhead 43 = .ok (.iconst 1, 1) := by decide +kernel
theorem dX5_triedIsAhead_44 : decode cX5_triedIsAhead 44 = .ok (.goto 4, 3) := by decide +kernel
theorem dX5_triedIsAhead_47 : decode cX5_triedIsAhead 47 = .ok (.iconst 0, 1) := by decide +kernel
theorem dX5_triedIsAhead_48 : decode cX5_triedIsAhead 48 = .ok (.ireturn, 1) := by decide +kernel
theorem dX5_triedIsAhead_49 : decode cX5_triedIsAhead 49 = .ok (.iinc 2 1, 3) := by decide +kernel
theorem dX5_triedIsAhead_52 : decode cX5_triedIsAhead 52 = .ok (.goto (-50), 3) := by decide +kernel
theorem dX5_triedIsAhead_55 : decode cX5_triedIsAhead 55 = .ok (.iconst 0, 1) := by decide +kernel
theorem dX5_triedIsAhead_56 : decode cX5_triedIsAhead 56 = .ok (.ireturn, 1) := by decide +kernel
theorem dX6_init_0 : decode cX6_init 0 = .ok (.aload_n 0, 1) := by decide +kernel
theorem dX6_init_1 : decode cX6_init 1 = .ok (.invokespecial 3, 3) := by decide +kernel
theorem dX6_init_4 : decode cX6_init 4 = .ok (.aload_n 0, 1) := by decide +kernel
theorem dX6_init_5 : decode cX6_init 5 = .ok (.bipush 10, 2) := by decide +kernel
theorem dX6_init_7 : decode cX6_init 7 = .ok (.newarray .int, 2) := by decide +kernel
theorem dX6_init_9 : decode cX6_init 9 = .ok (.putfield 9, 3) := by decide +kernel
theorem dX6_init_12 : decode cX6_init 12 = .ok (.aload_n 0, 1) := by decide +kernel
theorem dX6_init_13 : decode cX6_init 13 = .ok (.bipush 70, 2) := by decide +kernel
theorem dX6_init_15 : decode cX6_init 15 = .ok (.newarray .int, 2) := by decide +kernel
theorem dX6_init_17 : decode cX6_init 17 = .ok (.putfield 15, 3) := by decide +kernel
theorem dX6_init_20 : decode cX6_init 20 = .ok (.return_, 1) := by decide +kernel
theorem dX6_keep_0 : decode cX6_keep 0 = .ok (.aload_n 0, 1) := by decide +kernel
theorem dX6_keep_1 : decode cX6_keep 1 = .ok (.getfield 18, 3) := by decide +kernel
theorem dX6_keep_4 : decode cX6_keep 4 = .ok (.bipush 10, 2) := by decide +kernel
theorem dX6_keep_6 : decode cX6_keep 6 = .ok (.if_icmp .ge 10, 3) := by decide +kernel
theorem dX6_keep_9 : decode cX6_keep 9 = .ok (.aload_n 2, 1) := by decide +kernel
theorem dX6_keep_10 : decode cX6_keep 10 = .ok (.arraylength, 1) := by decide +kernel
theorem dX6_keep_11 : decode cX6_keep 11 = .ok (.bipush 7, 2) := by decide +kernel
theorem dX6_keep_13 : decode cX6_keep 13 = .ok (.if_icmp .eq 5, 3) := by decide +kernel
theorem dX6_keep_16 : decode cX6_keep 16 = .ok (.iconst (-1), 1) := by decide +kernel
theorem dX6_keep_17 : decode cX6_keep 17 = .ok (.ireturn, 1) := by decide +kernel
theorem dX6_keep_18 : decode cX6_keep 18 = .ok (.aload_n 0, 1) := by decide +kernel
theorem dX6_keep_19 : decode cX6_keep 19 = .ok (.getfield 9, 3) := by decide +kernel
theorem dX6_keep_22 : decode cX6_keep 22 = .ok (.aload_n 0, 1) := by decide +kernel
theorem dX6_keep_23 : decode cX6_keep 23 = .ok (.getfield 18, 3) := by decide +kernel
theorem dX6_keep_26 : decode cX6_keep 26 = .ok (.iload_n 1, 1) := by decide +kernel
theorem dX6_keep_27 : decode cX6_keep 27 = .ok (.iastore, 1) := by decide +kernel
theorem dX6_keep_28 : decode cX6_keep 28 = .ok (.aload_n 2, 1) := by decide +kernel
theorem dX6_keep_29 : decode cX6_keep 29 = .ok (.iconst 0, 1) := by decide +kernel
theorem dX6_keep_30 : decode cX6_keep 30 = .ok (.aload_n 0, 1) := by decide +kernel
theorem dX6_keep_31 : decode cX6_keep 31 = .ok (.getfield 15, 3) := by decide +kernel
theorem dX6_keep_34 : decode cX6_keep 34 = .ok (.aload_n 0, 1) := by decide +kernel
theorem dX6_keep_35 : decode cX6_keep 35 = .ok (.getfield 18, 3) := by decide +kernel
theorem dX6_keep_38 : decode cX6_keep 38 = .ok (.bipush 7, 2) := by decide +kernel
theorem dX6_keep_40 : decode cX6_keep 40 = .ok (.imul, 1) := by decide +kernel
theorem dX6_keep_41 : decode cX6_keep 41 = .ok (.bipush 7, 2) := by decide +kernel
theorem dX6_keep_43 : decode cX6_keep 43 = .ok (.invokestatic 22, 3) := by decide +kernel
theorem dX6_keep_46 : decode cX6_keep 46 = .ok (.aload_n 0, 1) := by decide +kernel
theorem dX6_keep_47 : decode cX6_keep 47 = .ok (.dup, 1) := by decide +kernel
theorem dX6_keep_48 : decode cX6_keep 48 = .ok (.getfield 18, 3) := by decide +kernel
theorem dX6_keep_51 : decode cX6_keep 51 = .ok (.iconst 1, 1) := by decide +kernel
theorem dX6_keep_52 : decode cX6_keep 52 = .ok (.iadd, 1) := by decide +kernel
theorem dX6_keep_53 : decode cX6_keep 53 = .ok (.putfield 18, 3) := by decide +kernel
theorem dX6_keep_56 : decode cX6_keep 56 = .ok (.aload_n 0, 1) := by decide +kernel
theorem dX6_keep_57 : decode cX6_keep 57 = .ok (.getfield 18, 3) := by decide +kernel
theorem dX6_keep_60 : decode cX6_keep 60 = .ok (.iconst 1, 1) := by decide +kernel
theorem dX6_keep_61 : decode cX6_keep 61 = .ok (.isub, 1) := by decide +kernel
theorem dX6_keep_62 : decode cX6_keep 62 = .ok (.ireturn, 1) := by decide +kernel
theorem dX6_inForce_0 : decode cX6_inForce 0 = .ok (.iconst (-1), 1) := by decide +kernel
theorem dX6_inForce_1 : decode cX6_inForce 1 = .ok (.istore_n 3, 1) := by decide +kernel
theorem dX6_inForce_2 : decode cX6_inForce 2 = .ok (.getstatic 28, 3) := by decide +kernel
theorem dX6_inForce_5 : decode cX6_inForce 5 = .ok (.iload_n 1, 1) := by decide +kernel
theorem dX6_inForce_6 : decode cX6_inForce 6 = .ok (.iaload, 1) := by decide +kernel
theorem dX6_inForce_7 : decode cX6_inForce 7 = .ok (.istore 4, 2) := by decide +kernel
theorem dX6_inForce_9 : decode cX6_inForce 9 = .ok (.iconst 0, 1) := by decide +kernel
theorem dX6_inForce_10 : decode cX6_inForce 10 = .ok (.istore 5, 2) := by decide +kernel
theorem dX6_inForce_12 : decode cX6_inForce 12 = .ok (.iload 5, 2) := by decide +kernel
theorem dX6_inForce_14 : decode cX6_inForce 14 = .ok (.aload_n 0, 1) := by decide +kernel
theorem dX6_inForce_15 : decode cX6_inForce 15 = .ok (.getfield 18, 3) := by decide +kernel
theorem dX6_inForce_18 : decode cX6_inForce 18 = .ok (.if_icmp .ge 63, 3) := by decide +kernel
theorem dX6_inForce_21 : decode cX6_inForce 21 = .ok (.aload_n 0, 1) := by decide +kernel
theorem dX6_inForce_22 : decode cX6_inForce 22 = .ok (.getfield 15, 3) := by decide +kernel
theorem dX6_inForce_25 : decode cX6_inForce 25 = .ok (.iload 5, 2) := by decide +kernel
theorem dX6_inForce_27 : decode cX6_inForce 27 = .ok (.bipush 7, 2) := by decide +kernel
theorem dX6_inForce_29 : decode cX6_inForce 29 = .ok (.imul, 1) := by decide +kernel
theorem dX6_inForce_30 : decode cX6_inForce 30 = .ok (.iload_n 1, 1) := by decide +kernel
theorem dX6_inForce_31 : decode cX6_inForce 31 = .ok (.iadd, 1) := by decide +kernel
theorem dX6_inForce_32 : decode cX6_inForce 32 = .ok (.iaload, 1) := by decide +kernel
theorem dX6_inForce_33 : decode cX6_inForce 33 = .ok (.istore 6, 2) := by decide +kernel
theorem dX6_inForce_35 : decode cX6_inForce 35 = .ok (.iload 6, 2) := by decide +kernel
theorem dX6_inForce_37 : decode cX6_inForce 37 = .ok (.iconst (-1), 1) := by decide +kernel
theorem dX6_inForce_38 : decode cX6_inForce 38 = .ok (.if_icmp .eq 37, 3) := by decide +kernel
theorem dX6_inForce_41 : decode cX6_inForce 41 = .ok (.aload_n 0, 1) := by decide +kernel
theorem dX6_inForce_42 : decode cX6_inForce 42 = .ok (.getfield 9, 3) := by decide +kernel
theorem dX6_inForce_45 : decode cX6_inForce 45 = .ok (.iload 5, 2) := by decide +kernel
theorem dX6_inForce_47 : decode cX6_inForce 47 = .ok (.iaload, 1) := by decide +kernel
theorem dX6_inForce_48 : decode cX6_inForce 48 = .ok (.iload_n 2, 1) := by decide +kernel
theorem dX6_inForce_49 : decode cX6_inForce 49 = .ok (.if_icmp .gt 26, 3) := by decide +kernel
theorem dX6_inForce_52 : decode cX6_inForce 52 = .ok (.aload_n 0, 1) := by decide +kernel
theorem dX6_inForce_53 : decode cX6_inForce 53 = .ok (.getfield 9, 3) := by decide +kernel
theorem dX6_inForce_56 : decode cX6_inForce 56 = .ok (.iload 5, 2) := by decide +kernel
theorem dX6_inForce_58 : decode cX6_inForce 58 = .ok (.iaload, 1) := by decide +kernel
theorem dX6_inForce_59 : decode cX6_inForce 59 = .ok (.iload_n 3, 1) := by decide +kernel
theorem dX6_inForce_60 : decode cX6_inForce 60 = .ok (.if_icmp .lt 15, 3) := by decide +kernel
theorem dX6_inForce_63 : decode cX6_inForce 63 = .ok (.aload_n 0, 1) := by decide +kernel
theorem dX6_inForce_64 : decode cX6_inForce 64 = .ok (.getfield 9, 3) := by decide +kernel
theorem dX6_inForce_67 : decode cX6_inForce 67 = .ok (.iload 5, 2) := by decide +kernel
theorem dX6_inForce_69 : decode cX6_inForce 69 = .ok (.iaload, 1) := by decide +kernel
theorem dX6_inForce_70 : decode cX6_inForce 70 = .ok (.istore_n 3, 1) := by decide +kernel
theorem dX6_inForce_71 : decode cX6_inForce 71 = .ok (.iload 6, 2) := by decide +kernel
theorem dX6_inForce_73 : decode cX6_inForce 73 = .ok (.istore 4, 2) := by decide +kernel
theorem dX6_inForce_75 : decode cX6_inForce 75 = .ok (.iinc 5 1, 3) := by decide +kernel
theorem dX6_inForce_78 : decode cX6_inForce 78 = .ok (.goto (-66), 3) := by decide +kernel
theorem dX6_inForce_81 : decode cX6_inForce 81 = .ok (.iload 4, 2) := by decide +kernel
theorem dX6_inForce_83 : decode cX6_inForce 83 = .ok (.ireturn, 1) := by decide +kernel
theorem dX8_init_0 : decode cX8_init 0 = .ok (.aload_n 0, 1) := by decide +kernel
theorem dX8_init_1 : decode cX8_init 1 = .ok (.invokespecial 3, 3) := by decide +kernel
theorem dX8_init_4 : decode cX8_init 4 = .ok (.aload_n 0, 1) := by decide +kernel
theorem dX8_init_5 : decode cX8_init 5 = .ok (.bipush 17, 2) := by decide +kernel
theorem dX8_init_7 : decode cX8_init 7 = .ok (.anewarray 9, 3) := by decide +kernel
theorem dX8_init_10 : decode cX8_init 10 = .ok (.putfield 11, 3) := by decide +kernel
theorem dX8_init_13 : decode cX8_init 13 = .ok (.return_, 1) := by decide +kernel
theorem dX8_addWard_0 : decode cX8_addWard 0 = .ok (.aload_n 0, 1) := by decide +kernel
theorem dX8_addWard_1 : decode cX8_addWard 1 = .ok (.getfield 17, 3) := by decide +kernel
theorem dX8_addWard_4 : decode cX8_addWard 4 = .ok (.bipush 17, 2) := by decide +kernel
theorem dX8_addWard_6 : decode cX8_addWard 6 = .ok (.if_icmp .lt 5, 3) := by decide +kernel
theorem dX8_addWard_9 : decode cX8_addWard 9 = .ok (.iconst (-1), 1) := by decide +kernel
theorem dX8_addWard_10 : decode cX8_addWard 10 = .ok (.ireturn, 1) := by decide +kernel
theorem dX8_addWard_11 : decode cX8_addWard 11 = .ok (.aload_n 0, 1) := by decide +kernel
theorem dX8_addWard_12 : decode cX8_addWard 12 = .ok (.getfield 11, 3) := by decide +kernel
theorem dX8_addWard_15 : decode cX8_addWard 15 = .ok (.aload_n 0, 1) := by decide +kernel
theorem dX8_addWard_16 : decode cX8_addWard 16 = .ok (.getfield 17, 3) := by decide +kernel
theorem dX8_addWard_19 : decode cX8_addWard 19 = .ok (.new 9, 3) := by decide +kernel
theorem dX8_addWard_22 : decode cX8_addWard 22 = .ok (.dup, 1) := by decide +kernel
theorem dX8_addWard_23 : decode cX8_addWard 23 = .ok (.invokespecial 21, 3) := by decide +kernel
theorem dX8_addWard_26 : decode cX8_addWard 26 = .ok (.aastore, 1) := by decide +kernel
theorem dX8_addWard_27 : decode cX8_addWard 27 = .ok (.aload_n 0, 1) := by decide +kernel
theorem dX8_addWard_28 : decode cX8_addWard 28 = .ok (.dup, 1) := by decide +kernel
theorem dX8_addWard_29 : decode cX8_addWard 29 = .ok (.getfield 17, 3) := by decide +kernel
theorem dX8_addWard_32 : decode cX8_addWard 32 = .ok (.iconst 1, 1) := by decide +kernel
theorem dX8_addWard_33 : decode cX8_addWard 33 = .ok (.iadd, 1) := by decide +kernel
theorem dX8_addWard_34 : decode cX8_addWard 34 = .ok (.putfield 17, 3) := by decide +kernel
theorem dX8_addWard_37 : decode cX8_addWard 37 = .ok (.aload_n 0, 1) := by decide +kernel
theorem dX8_addWard_38 : decode cX8_addWard 38 = .ok (.getfield 17, 3) := by decide +kernel
theorem dX8_addWard_41 : decode cX8_addWard 41 = .ok (.iconst 1, 1) := by decide +kernel
theorem dX8_addWard_42 : decode cX8_addWard 42 = .ok (.isub, 1) := by decide +kernel
theorem dX8_addWard_43 : decode cX8_addWard 43 = .ok (.ireturn, 1) := by decide +kernel
theorem dX8_has_0 : decode cX8_has 0 = .ok (.iload_n 1, 1) := by decide +kernel
theorem dX8_has_1 : decode cX8_has 1 = .ok (.ifCond .lt 15, 3) := by decide +kernel
theorem dX8_has_4 : decode cX8_has 4 = .ok (.iload_n 1, 1) := by decide +kernel
theorem dX8_has_5 : decode cX8_has 5 = .ok (.aload_n 0, 1) := by decide +kernel
theorem dX8_has_6 : decode cX8_has 6 = .ok (.getfield 17, 3) := by decide +kernel
theorem dX8_has_9 : decode cX8_has 9 = .ok (.if_icmp .ge 7, 3) := by decide +kernel
theorem dX8_has_12 : decode cX8_has 12 = .ok (.iconst 1, 1) := by decide +kernel
theorem dX8_has_13 : decode cX8_has 13 = .ok (.goto 4, 3) := by decide +kernel
theorem dX8_has_16 : decode cX8_has 16 = .ok (.iconst 0, 1) := by decide +kernel
theorem dX8_has_17 : decode cX8_has 17 = .ok (.ireturn, 1) := by decide +kernel
theorem dX8_find_0 : decode cX8_find 0 = .ok (.aload_n 0, 1) := by decide +kernel
theorem dX8_find_1 : decode cX8_find 1 = .ok (.iload_n 1, 1) := by decide +kernel
theorem dX8_find_2 : decode cX8_find 2 = .ok (.invokevirtual 22, 3) := by decide +kernel
theorem dX8_find_5 : decode cX8_find 5 = .ok (.ifCond .eq 12, 3) := by decide +kernel
theorem dX8_find_8 : decode cX8_find 8 = .ok (.aload_n 0, 1) := by decide +kernel
theorem dX8_find_9 : decode cX8_find 9 = .ok (.getfield 11, 3) := by decide +kernel
theorem dX8_find_12 : decode cX8_find 12 = .ok (.iload_n 1, 1) := by decide +kernel
theorem dX8_find_13 : decode cX8_find 13 = .ok (.aaload, 1) := by decide +kernel
theorem dX8_find_14 : decode cX8_find 14 = .ok (.goto 4, 3) := by decide +kernel
theorem dX8_find_17 : decode cX8_find 17 = .ok (.aconst_null, 1) := by decide +kernel
theorem dX8_find_18 : decode cX8_find 18 = .ok (.areturn, 1) := by decide +kernel
theorem dX8_runs_0 : decode cX8_runs 0 = .ok (.aload_n 0, 1) := by decide +kernel
theorem dX8_runs_1 : decode cX8_runs 1 = .ok (.iload_n 1, 1) := by decide +kernel
theorem dX8_runs_2 : decode cX8_runs 2 = .ok (.invokevirtual 26, 3) := by decide +kernel
theorem dX8_runs_5 : decode cX8_runs 5 = .ok (.astore_n 2, 1) := by decide +kernel
theorem dX8_runs_6 : decode cX8_runs 6 = .ok (.aload_n 2, 1) := by decide +kernel
theorem dX8_runs_7 : decode cX8_runs 7 = .ok (.ifnull 14, 3) := by decide +kernel
theorem dX8_runs_10 : decode cX8_runs 10 = .ok (.aload_n 2, 1) := by decide +kernel
theorem dX8_runs_11 : decode cX8_runs 11 = .ok (.getfield 30, 3) := by decide +kernel
theorem dX8_runs_14 : decode cX8_runs 14 = .ok (.ifCond .eq 7, 3) := by decide +kernel
theorem dX8_runs_17 : decode cX8_runs 17 = .ok (.iconst 1, 1) := by decide +kernel
theorem dX8_runs_18 : decode cX8_runs 18 = .ok (.goto 4, 3) := by decide +kernel
theorem dX8_runs_21 : decode cX8_runs 21 = .ok (.iconst 0, 1) := by decide +kernel
theorem dX8_runs_22 : decode cX8_runs 22 = .ok (.ireturn, 1) := by decide +kernel
theorem dX8_countFree_0 : decode cX8_countFree 0 = .ok (.iconst 0, 1) := by decide +kernel
theorem dX8_countFree_1 : decode cX8_countFree 1 = .ok (.istore_n 2, 1) := by decide +kernel
theorem dX8_countFree_2 : decode cX8_countFree 2 = .ok (.iconst 0, 1) := by decide +kernel
theorem dX8_countFree_3 : decode cX8_countFree 3 = .ok (.istore_n 3, 1) := by decide +kernel
theorem dX8_countFree_4 : decode cX8_countFree 4 = .ok (.iload_n 3, 1) := by decide +kernel
theorem dX8_countFree_5 : decode cX8_countFree 5 = .ok (.aload_n 0, 1) := by decide +kernel
theorem dX8_countFree_6 : decode cX8_countFree 6 = .ok (.getfield 17, 3) := by decide +kernel
theorem dX8_countFree_9 : decode cX8_countFree 9 = .ok (.if_icmp .ge 25, 3) := by decide +kernel
theorem dX8_countFree_12 : decode cX8_countFree 12 = .ok (.aload_n 0, 1) := by decide +kernel
theorem dX8_countFree_13 : decode cX8_countFree 13 = .ok (.getfield 11, 3) := by decide +kernel
theorem dX8_countFree_16 : decode cX8_countFree 16 = .ok (.iload_n 3, 1) := by decide +kernel
theorem dX8_countFree_17 : decode cX8_countFree 17 = .ok (.aaload, 1) := by decide +kernel
theorem dX8_countFree_18 : decode cX8_countFree 18 = .ok (.iload_n 1, 1) := by decide +kernel
theorem dX8_countFree_19 : decode cX8_countFree 19 = .ok (.invokevirtual 34, 3) := by decide +kernel
theorem dX8_countFree_22 : decode cX8_countFree 22 = .ok (.ifCond .eq 6, 3) := by decide +kernel
theorem dX8_countFree_25 : decode cX8_countFree 25 = .ok (.iinc 2 1, 3) := by decide +kernel
theorem dX8_countFree_28 : decode cX8_countFree 28 = .ok (.iinc 3 1, 3) := by decide +kernel
theorem dX8_countFree_31 : decode cX8_countFree 31 = .ok (.goto (-27), 3) := by decide +kernel
theorem dX8_countFree_34 : decode cX8_countFree 34 = .ok (.iload_n 2, 1) := by decide +kernel
theorem dX8_countFree_35 : decode cX8_countFree 35 = .ok (.ireturn, 1) := by decide +kernel
theorem dX8_chooseRunners_0 : decode cX8_chooseRunners 0 = .ok (.iload_n 1, 1) := by decide +kernel
theorem dX8_chooseRunners_1 : decode cX8_chooseRunners 1 = .ok (.iload_n 1, 1) := by decide +kernel
theorem dX8_chooseRunners_2 : decode cX8_chooseRunners 2 = .ok (.iconst 3, 1) := by decide +kernel
theorem dX8_chooseRunners_3 : decode cX8_chooseRunners 3 = .ok (.idiv, 1) := by decide +kernel
theorem dX8_chooseRunners_4 : decode cX8_chooseRunners 4 = .ok (.isub, 1) := by decide +kernel
theorem dX8_chooseRunners_5 : decode cX8_chooseRunners 5 = .ok (.istore 5, 2) := by decide +kernel
theorem dX8_chooseRunners_7 : decode cX8_chooseRunners 7 = .ok (.iconst 0, 1) := by decide +kernel
theorem dX8_chooseRunners_8 : decode cX8_chooseRunners 8 = .ok (.istore 6, 2) := by decide +kernel
theorem dX8_chooseRunners_10 : decode cX8_chooseRunners 10 = .ok (.iload 6, 2) := by decide +kernel
theorem dX8_chooseRunners_12 : decode cX8_chooseRunners 12 = .ok (.iload_n 1, 1) := by decide +kernel
theorem dX8_chooseRunners_13 : decode cX8_chooseRunners 13 = .ok (.if_icmp .ge 59, 3) := by decide +kernel
theorem dX8_chooseRunners_16 : decode cX8_chooseRunners 16 = .ok (.iload 6, 2) := by decide +kernel
theorem dX8_chooseRunners_18 : decode cX8_chooseRunners 18 = .ok (.iload 5, 2) := by decide +kernel
theorem dX8_chooseRunners_20 : decode cX8_chooseRunners 20 = .ok (.if_icmp .ge 11, 3) := by decide +kernel
theorem dX8_chooseRunners_23 : decode cX8_chooseRunners 23 = .ok (.aload_n 0, 1) := by decide +kernel
theorem dX8_chooseRunners_24 : decode cX8_chooseRunners 24 = .ok (.iload_n 3, 1) := by decide +kernel
theorem dX8_chooseRunners_25 : decode cX8_chooseRunners 25 = .ok (.invokevirtual 37, 3) := by decide +kernel
theorem dX8_chooseRunners_28 : decode cX8_chooseRunners 28 = .ok (.goto 17, 3) := by decide +kernel
theorem dX8_chooseRunners_31 : decode cX8_chooseRunners 31 = .ok (.aload_n 0, 1) := by decide +kernel
theorem dX8_chooseRunners_32 : decode cX8_chooseRunners 32 = .ok (.aload 4, 2) := by decide +kernel
theorem dX8_chooseRunners_34 : decode cX8_chooseRunners 34 = .ok (.iload_n 2, 1) := by decide +kernel
theorem dX8_chooseRunners_35 : decode cX8_chooseRunners 35 = .ok (.iload 6, 2) := by decide +kernel
theorem dX8_chooseRunners_37 : decode cX8_chooseRunners 37 = .ok (.isub, 1) := by decide +kernel
theorem dX8_chooseRunners_38 : decode cX8_chooseRunners 38 = .ok (.invokevirtual 41, 3) := by decide +kernel
theorem dX8_chooseRunners_41 : decode cX8_chooseRunners 41 = .ok (.iload_n 3, 1) := by decide +kernel
theorem dX8_chooseRunners_42 : decode cX8_chooseRunners 42 = .ok (.invokevirtual 46, 3) := by decide +kernel
theorem dX8_chooseRunners_45 : decode cX8_chooseRunners 45 = .ok (.istore 7, 2) := by decide +kernel
theorem dX8_chooseRunners_47 : decode cX8_chooseRunners 47 = .ok (.aload_n 0, 1) := by decide +kernel
theorem dX8_chooseRunners_48 : decode cX8_chooseRunners 48 = .ok (.iload 7, 2) := by decide +kernel
theorem dX8_chooseRunners_50 : decode cX8_chooseRunners 50 = .ok (.invokevirtual 26, 3) := by decide +kernel
theorem dX8_chooseRunners_53 : decode cX8_chooseRunners 53 = .ok (.astore 8, 2) := by decide +kernel
theorem dX8_chooseRunners_55 : decode cX8_chooseRunners 55 = .ok (.aload 8, 2) := by decide +kernel
theorem dX8_chooseRunners_57 : decode cX8_chooseRunners 57 = .ok (.ifnull 9, 3) := by decide +kernel
theorem dX8_chooseRunners_60 : decode cX8_chooseRunners 60 = .ok (.aload 8, 2) := by decide +kernel
theorem dX8_chooseRunners_62 : decode cX8_chooseRunners 62 = .ok (.iconst 1, 1) := by decide +kernel
theorem dX8_chooseRunners_63 : decode cX8_chooseRunners 63 = .ok (.putfield 30, 3) := by decide +kernel
theorem dX8_chooseRunners_66 : decode cX8_chooseRunners 66 = .ok (.iinc 6 1, 3) := by decide +kernel
theorem dX8_chooseRunners_69 : decode cX8_chooseRunners 69 = .ok (.goto (-59), 3) := by decide +kernel
theorem dX8_chooseRunners_72 : decode cX8_chooseRunners 72 = .ok (.return_, 1) := by decide +kernel
theorem dX8_longestAgo_0 : decode cX8_longestAgo 0 = .ok (.iconst (-1), 1) := by decide +kernel
theorem dX8_longestAgo_1 : decode cX8_longestAgo 1 = .ok (.istore_n 2, 1) := by decide +kernel
theorem dX8_longestAgo_2 : decode cX8_longestAgo 2 = .ok (.iconst 0, 1) := by decide +kernel
theorem dX8_longestAgo_3 : decode cX8_longestAgo 3 = .ok (.istore_n 3, 1) := by decide +kernel
theorem dX8_longestAgo_4 : decode cX8_longestAgo 4 = .ok (.iload_n 3, 1) := by decide +kernel
theorem dX8_longestAgo_5 : decode cX8_longestAgo 5 = .ok (.aload_n 0, 1) := by decide +kernel
theorem dX8_longestAgo_6 : decode cX8_longestAgo 6 = .ok (.getfield 17, 3) := by decide +kernel
theorem dX8_longestAgo_9 : decode cX8_longestAgo 9 = .ok (.if_icmp .ge 50, 3) := by decide +kernel
theorem dX8_longestAgo_12 : decode cX8_longestAgo 12 = .ok (.aload_n 0, 1) := by decide +kernel
theorem dX8_longestAgo_13 : decode cX8_longestAgo 13 = .ok (.getfield 11, 3) := by decide +kernel
theorem dX8_longestAgo_16 : decode cX8_longestAgo 16 = .ok (.iload_n 3, 1) := by decide +kernel
theorem dX8_longestAgo_17 : decode cX8_longestAgo 17 = .ok (.aaload, 1) := by decide +kernel
theorem dX8_longestAgo_18 : decode cX8_longestAgo 18 = .ok (.iload_n 1, 1) := by decide +kernel
theorem dX8_longestAgo_19 : decode cX8_longestAgo 19 = .ok (.invokevirtual 34, 3) := by decide +kernel
theorem dX8_longestAgo_22 : decode cX8_longestAgo 22 = .ok (.ifCond .eq 31, 3) := by decide +kernel
theorem dX8_longestAgo_25 : decode cX8_longestAgo 25 = .ok (.iload_n 2, 1) := by decide +kernel
theorem dX8_longestAgo_26 : decode cX8_longestAgo 26 = .ok (.iconst (-1), 1) := by decide +kernel
theorem dX8_longestAgo_27 : decode cX8_longestAgo 27 = .ok (.if_icmp .eq 24, 3) := by decide +kernel
theorem dX8_longestAgo_30 : decode cX8_longestAgo 30 = .ok (.aload_n 0, 1) := by decide +kernel
theorem dX8_longestAgo_31 : decode cX8_longestAgo 31 = .ok (.getfield 11, 3) := by decide +kernel
theorem dX8_longestAgo_34 : decode cX8_longestAgo 34 = .ok (.iload_n 3, 1) := by decide +kernel
theorem dX8_longestAgo_35 : decode cX8_longestAgo 35 = .ok (.aaload, 1) := by decide +kernel
theorem dX8_longestAgo_36 : decode cX8_longestAgo 36 = .ok (.getfield 50, 3) := by decide +kernel
theorem dX8_longestAgo_39 : decode cX8_longestAgo 39 = .ok (.aload_n 0, 1) := by decide +kernel
theorem dX8_longestAgo_40 : decode cX8_longestAgo 40 = .ok (.getfield 11, 3) := by decide +kernel
theorem dX8_longestAgo_43 : decode cX8_longestAgo 43 = .ok (.iload_n 2, 1) := by decide +kernel
theorem dX8_longestAgo_44 : decode cX8_longestAgo 44 = .ok (.aaload, 1) := by decide +kernel
theorem dX8_longestAgo_45 : decode cX8_longestAgo 45 = .ok (.getfield 50, 3) := by decide +kernel
theorem dX8_longestAgo_48 : decode cX8_longestAgo 48 = .ok (.if_icmp .ge 5, 3) := by decide +kernel
theorem dX8_longestAgo_51 : decode cX8_longestAgo 51 = .ok (.iload_n 3, 1) := by decide +kernel
theorem dX8_longestAgo_52 : decode cX8_longestAgo 52 = .ok (.istore_n 2, 1) := by decide +kernel
theorem dX8_longestAgo_53 : decode cX8_longestAgo 53 = .ok (.iinc 3 1, 3) := by decide +kernel
theorem dX8_longestAgo_56 : decode cX8_longestAgo 56 = .ok (.goto (-52), 3) := by decide +kernel
theorem dX8_longestAgo_59 : decode cX8_longestAgo 59 = .ok (.iload_n 2, 1) := by decide +kernel
theorem dX8_longestAgo_60 : decode cX8_longestAgo 60 = .ok (.ireturn, 1) := by decide +kernel
theorem dX8_freeAt_0 : decode cX8_freeAt 0 = .ok (.iconst 0, 1) := by decide +kernel
theorem dX8_freeAt_1 : decode cX8_freeAt 1 = .ok (.istore_n 3, 1) := by decide +kernel
theorem dX8_freeAt_2 : decode cX8_freeAt 2 = .ok (.iconst 0, 1) := by decide +kernel
theorem dX8_freeAt_3 : decode cX8_freeAt 3 = .ok (.istore 4, 2) := by decide +kernel
theorem dX8_freeAt_5 : decode cX8_freeAt 5 = .ok (.iload 4, 2) := by decide +kernel
theorem dX8_freeAt_7 : decode cX8_freeAt 7 = .ok (.aload_n 0, 1) := by decide +kernel
theorem dX8_freeAt_8 : decode cX8_freeAt 8 = .ok (.getfield 17, 3) := by decide +kernel
theorem dX8_freeAt_11 : decode cX8_freeAt 11 = .ok (.if_icmp .ge 34, 3) := by decide +kernel
theorem dX8_freeAt_14 : decode cX8_freeAt 14 = .ok (.aload_n 0, 1) := by decide +kernel
theorem dX8_freeAt_15 : decode cX8_freeAt 15 = .ok (.getfield 11, 3) := by decide +kernel
theorem dX8_freeAt_18 : decode cX8_freeAt 18 = .ok (.iload 4, 2) := by decide +kernel
theorem dX8_freeAt_20 : decode cX8_freeAt 20 = .ok (.aaload, 1) := by decide +kernel
theorem dX8_freeAt_21 : decode cX8_freeAt 21 = .ok (.iload_n 2, 1) := by decide +kernel
theorem dX8_freeAt_22 : decode cX8_freeAt 22 = .ok (.invokevirtual 34, 3) := by decide +kernel
theorem dX8_freeAt_25 : decode cX8_freeAt 25 = .ok (.ifCond .eq 14, 3) := by decide +kernel
theorem dX8_freeAt_28 : decode cX8_freeAt 28 = .ok (.iload_n 3, 1) := by decide +kernel
theorem dX8_freeAt_29 : decode cX8_freeAt 29 = .ok (.iload_n 1, 1) := by decide +kernel
theorem dX8_freeAt_30 : decode cX8_freeAt 30 = .ok (.if_icmp .ne 6, 3) := by decide +kernel
theorem dX8_freeAt_33 : decode cX8_freeAt 33 = .ok (.iload 4, 2) := by decide +kernel
theorem dX8_freeAt_35 : decode cX8_freeAt 35 = .ok (.ireturn, 1) := by decide +kernel
theorem dX8_freeAt_36 : decode cX8_freeAt 36 = .ok (.iinc 3 1, 3) := by decide +kernel
theorem dX8_freeAt_39 : decode cX8_freeAt 39 = .ok (.iinc 4 1, 3) := by decide +kernel
theorem dX8_freeAt_42 : decode cX8_freeAt 42 = .ok (.goto (-37), 3) := by decide +kernel
theorem dX8_freeAt_45 : decode cX8_freeAt 45 = .ok (.iconst (-1), 1) := by decide +kernel
theorem dX8_freeAt_46 : decode cX8_freeAt 46 = .ok (.ireturn, 1) := by decide +kernel
theorem dX8_forgetYear_0 : decode cX8_forgetYear 0 = .ok (.iconst 0, 1) := by decide +kernel
theorem dX8_forgetYear_1 : decode cX8_forgetYear 1 = .ok (.istore_n 1, 1) := by decide +kernel
theorem dX8_forgetYear_2 : decode cX8_forgetYear 2 = .ok (.iload_n 1, 1) := by decide +kernel
theorem dX8_forgetYear_3 : decode cX8_forgetYear 3 = .ok (.aload_n 0, 1) := by decide +kernel
theorem dX8_forgetYear_4 : decode cX8_forgetYear 4 = .ok (.getfield 17, 3) := by decide +kernel
theorem dX8_forgetYear_7 : decode cX8_forgetYear 7 = .ok (.if_icmp .ge 39, 3) := by decide +kernel
theorem dX8_forgetYear_10 : decode cX8_forgetYear 10 = .ok (.aload_n 0, 1) := by decide +kernel
theorem dX8_forgetYear_11 : decode cX8_forgetYear 11 = .ok (.getfield 11, 3) := by decide +kernel
theorem dX8_forgetYear_14 : decode cX8_forgetYear 14 = .ok (.iload_n 1, 1) := by decide +kernel
theorem dX8_forgetYear_15 : decode cX8_forgetYear 15 = .ok (.aaload, 1) := by decide +kernel
theorem dX8_forgetYear_16 : decode cX8_forgetYear 16 = .ok (.iconst 0, 1) := by decide +kernel
theorem dX8_forgetYear_17 : decode cX8_forgetYear 17 = .ok (.putfield 30, 3) := by decide +kernel
theorem dX8_forgetYear_20 : decode cX8_forgetYear 20 = .ok (.aload_n 0, 1) := by decide +kernel
theorem dX8_forgetYear_21 : decode cX8_forgetYear 21 = .ok (.getfield 11, 3) := by decide +kernel
theorem dX8_forgetYear_24 : decode cX8_forgetYear 24 = .ok (.iload_n 1, 1) := by decide +kernel
theorem dX8_forgetYear_25 : decode cX8_forgetYear 25 = .ok (.aaload, 1) := by decide +kernel
theorem dX8_forgetYear_26 : decode cX8_forgetYear 26 = .ok (.iconst (-1), 1) := by decide +kernel
theorem dX8_forgetYear_27 : decode cX8_forgetYear 27 = .ok (.putfield 53, 3) := by decide +kernel
theorem dX8_forgetYear_30 : decode cX8_forgetYear 30 = .ok (.aload_n 0, 1) := by decide +kernel
theorem dX8_forgetYear_31 : decode cX8_forgetYear 31 = .ok (.getfield 11, 3) := by decide +kernel
theorem dX8_forgetYear_34 : decode cX8_forgetYear 34 = .ok (.iload_n 1, 1) := by decide +kernel
theorem dX8_forgetYear_35 : decode cX8_forgetYear 35 = .ok (.aaload, 1) := by decide +kernel
theorem dX8_forgetYear_36 : decode cX8_forgetYear 36 = .ok (.iconst 0, 1) := by decide +kernel
theorem dX8_forgetYear_37 : decode cX8_forgetYear 37 = .ok (.putfield 56, 3) := by decide +kernel
theorem dX8_forgetYear_40 : decode cX8_forgetYear 40 = .ok (.iinc 1 1, 3) := by decide +kernel
theorem dX8_forgetYear_43 : decode cX8_forgetYear 43 = .ok (.goto (-41), 3) := by decide +kernel
theorem dX8_forgetYear_46 : decode cX8_forgetYear 46 = .ok (.return_, 1) := by decide +kernel
theorem dX9_init_0 : decode cX9_init 0 = .ok (.aload_n 0, 1) := by decide +kernel
theorem dX9_init_1 : decode cX9_init 1 = .ok (.invokespecial 3, 3) := by decide +kernel
theorem dX9_init_4 : decode cX9_init 4 = .ok (.aload_n 0, 1) := by decide +kernel
theorem dX9_init_5 : decode cX9_init 5 = .ok (.iconst (-1), 1) := by decide +kernel
theorem dX9_init_6 : decode cX9_init 6 = .ok (.putfield 9, 3) := by decide +kernel
theorem dX9_init_9 : decode cX9_init 9 = .ok (.aload_n 0, 1) := by decide +kernel
theorem dX9_init_10 : decode cX9_init 10 = .ok (.iconst (-1), 1) := by decide +kernel
theorem dX9_init_11 : decode cX9_init 11 = .ok (.putfield 15, 3) := by decide +kernel
theorem dX9_init_14 : decode cX9_init 14 = .ok (.aload_n 0, 1) := by decide +kernel
theorem dX9_init_15 : decode cX9_init 15 = .ok (.iconst (-1), 1) := by decide +kernel
theorem dX9_init_16 : decode cX9_init 16 = .ok (.putfield 18, 3) := by decide +kernel
theorem dX9_init_19 : decode cX9_init 19 = .ok (.return_, 1) := by decide +kernel
theorem dX9_mayBeChosen_0 : decode cX9_mayBeChosen 0 = .ok (.aload_n 0, 1) := by decide +kernel
theorem dX9_mayBeChosen_1 : decode cX9_mayBeChosen 1 = .ok (.getfield 18, 3) := by decide +kernel
theorem dX9_mayBeChosen_4 : decode cX9_mayBeChosen 4 = .ok (.iload_n 1, 1) := by decide +kernel
theorem dX9_mayBeChosen_5 : decode cX9_mayBeChosen 5 = .ok (.if_icmp .ge 14, 3) := by decide +kernel
theorem dX9_mayBeChosen_8 : decode cX9_mayBeChosen 8 = .ok (.aload_n 0, 1) := by decide +kernel
theorem dX9_mayBeChosen_9 : decode cX9_mayBeChosen 9 = .ok (.getfield 21, 3) := by decide +kernel
theorem dX9_mayBeChosen_12 : decode cX9_mayBeChosen 12 = .ok (.ifCond .ne 7, 3) := by decide +kernel
theorem dX9_mayBeChosen_15 : decode cX9_mayBeChosen 15 = .ok (.iconst 1, 1) := by decide +kernel
theorem dX9_mayBeChosen_16 : decode cX9_mayBeChosen 16 = .ok (.goto 4, 3) := by decide +kernel
theorem dX9_mayBeChosen_19 : decode cX9_mayBeChosen 19 = .ok (.iconst 0, 1) := by decide +kernel
theorem dX9_mayBeChosen_20 : decode cX9_mayBeChosen 20 = .ok (.ireturn, 1) := by decide +kernel
theorem dJ9_floorMod_7cf53_0 : decode cJ9_floorMod_7cf53 0 = .ok (.iload_n 0, 1) := by decide +kernel
theorem dJ9_floorMod_7cf53_1 : decode cJ9_floorMod_7cf53 1 = .ok (.iload_n 1, 1) := by decide +kernel
theorem dJ9_floorMod_7cf53_2 : decode cJ9_floorMod_7cf53 2 = .ok (.irem, 1) := by decide +kernel
theorem dJ9_floorMod_7cf53_3 : decode cJ9_floorMod_7cf53 3 = .ok (.istore_n 2, 1) := by decide +kernel
theorem dJ9_floorMod_7cf53_4 : decode cJ9_floorMod_7cf53 4 = .ok (.iload_n 0, 1) := by decide +kernel
theorem dJ9_floorMod_7cf53_5 : decode cJ9_floorMod_7cf53 5 = .ok (.iload_n 1, 1) := by decide +kernel
theorem dJ9_floorMod_7cf53_6 : decode cJ9_floorMod_7cf53 6 = .ok (.ixor, 1) := by decide +kernel
theorem dJ9_floorMod_7cf53_7 : decode cJ9_floorMod_7cf53 7 = .ok (.ifCond .ge 11, 3) := by decide +kernel
theorem dJ9_floorMod_7cf53_10 : decode cJ9_floorMod_7cf53 10 = .ok (.iload_n 2, 1) := by decide +kernel
theorem dJ9_floorMod_7cf53_11 : decode cJ9_floorMod_7cf53 11 = .ok (.ifCond .eq 7, 3) := by decide +kernel
theorem dJ9_floorMod_7cf53_14 : decode cJ9_floorMod_7cf53 14 = .ok (.iload_n 2, 1) := by decide +kernel
theorem dJ9_floorMod_7cf53_15 : decode cJ9_floorMod_7cf53 15 = .ok (.iload_n 1, 1) := by decide +kernel
theorem dJ9_floorMod_7cf53_16 : decode cJ9_floorMod_7cf53 16 = .ok (.iadd, 1) := by decide +kernel
theorem dJ9_floorMod_7cf53_17 : decode cJ9_floorMod_7cf53 17 = .ok (.ireturn, 1) := by decide +kernel
theorem dJ9_floorMod_7cf53_18 : decode cJ9_floorMod_7cf53 18 = .ok (.iload_n 2, 1) := by decide +kernel
theorem dJ9_floorMod_7cf53_19 : decode cJ9_floorMod_7cf53 19 = .ok (.ireturn, 1) := by decide +kernel
theorem dJ9_abs_0f7a4_0 : decode cJ9_abs_0f7a4 0 = .ok (.iload_n 0, 1) := by decide +kernel
theorem dJ9_abs_0f7a4_1 : decode cJ9_abs_0f7a4 1 = .ok (.ifCond .ge 8, 3) := by decide +kernel
theorem dJ9_abs_0f7a4_4 : decode cJ9_abs_0f7a4 4 = .ok (.iload_n 0, 1) := by decide +kernel
theorem dJ9_abs_0f7a4_5 : decode cJ9_abs_0f7a4 5 = .ok (.ineg, 1) := by decide +kernel
theorem dJ9_abs_0f7a4_6 : decode cJ9_abs_0f7a4 6 = .ok (.goto 4, 3) := by decide +kernel
theorem dJ9_abs_0f7a4_9 : decode cJ9_abs_0f7a4 9 = .ok (.iload_n 0, 1) := by decide +kernel
theorem dJ9_abs_0f7a4_10 : decode cJ9_abs_0f7a4 10 = .ok (.ireturn, 1) := by decide +kernel
theorem dJ9_max_7cf53_0 : decode cJ9_max_7cf53 0 = .ok (.iload_n 0, 1) := by decide +kernel
theorem dJ9_max_7cf53_1 : decode cJ9_max_7cf53 1 = .ok (.iload_n 1, 1) := by decide +kernel
theorem dJ9_max_7cf53_2 : decode cJ9_max_7cf53 2 = .ok (.if_icmp .lt 7, 3) := by decide +kernel
theorem dJ9_max_7cf53_5 : decode cJ9_max_7cf53 5 = .ok (.iload_n 0, 1) := by decide +kernel
theorem dJ9_max_7cf53_6 : decode cJ9_max_7cf53 6 = .ok (.goto 4, 3) := by decide +kernel
theorem dJ9_max_7cf53_9 : decode cJ9_max_7cf53 9 = .ok (.iload_n 1, 1) := by decide +kernel
theorem dJ9_max_7cf53_10 : decode cJ9_max_7cf53 10 = .ok (.ireturn, 1) := by decide +kernel
theorem dJ9_min_7cf53_0 : decode cJ9_min_7cf53 0 = .ok (.iload_n 0, 1) := by decide +kernel
theorem dJ9_min_7cf53_1 : decode cJ9_min_7cf53 1 = .ok (.iload_n 1, 1) := by decide +kernel
theorem dJ9_min_7cf53_2 : decode cJ9_min_7cf53 2 = .ok (.if_icmp .gt 7, 3) := by decide +kernel
theorem dJ9_min_7cf53_5 : decode cJ9_min_7cf53 5 = .ok (.iload_n 0, 1) := by decide +kernel
theorem dJ9_min_7cf53_6 : decode cJ9_min_7cf53 6 = .ok (.goto 4, 3) := by decide +kernel
theorem dJ9_min_7cf53_9 : decode cJ9_min_7cf53 9 = .ok (.iload_n 1, 1) := by decide +kernel
theorem dJ9_min_7cf53_10 : decode cJ9_min_7cf53 10 = .ok (.ireturn, 1) := by decide +kernel
theorem dJ0_length_8abf5_0 : decode cJ0_length_8abf5 0 = .ok (.aload_n 0, 1) := by decide +kernel
theorem dJ0_length_8abf5_1 : decode cJ0_length_8abf5 1 = .ok (.getfield 9, 3) := by decide +kernel
theorem dJ0_length_8abf5_4 : decode cJ0_length_8abf5 4 = .ok (.arraylength, 1) := by decide +kernel
theorem dJ0_length_8abf5_5 : decode cJ0_length_8abf5 5 = .ok (.aload_n 0, 1) := by decide +kernel
theorem dJ0_length_8abf5_6 : decode cJ0_length_8abf5 6 = .ok (.invokevirtual 335, 3) := by decide +kernel
theorem dJ0_length_8abf5_9 : decode cJ0_length_8abf5 9 = .ok (.ishr, 1) := by decide +kernel
theorem dJ0_length_8abf5_10 : decode cJ0_length_8abf5 10 = .ok (.ireturn, 1) := by decide +kernel
theorem dJ0_charAt_5068e_0 : decode cJ0_charAt_5068e 0 = .ok (.aload_n 0, 1) := by decide +kernel
theorem dJ0_charAt_5068e_1 : decode cJ0_charAt_5068e 1 = .ok (.invokevirtual 492, 3) := by decide +kernel
theorem dJ0_charAt_5068e_4 : decode cJ0_charAt_5068e 4 = .ok (.ifCond .eq 12, 3) := by decide +kernel
theorem dJ0_charAt_5068e_7 : decode cJ0_charAt_5068e 7 = .ok (.aload_n 0, 1) := by decide +kernel
theorem dJ0_charAt_5068e_8 : decode cJ0_charAt_5068e 8 = .ok (.getfield 9, 3) := by decide +kernel
theorem dJ0_charAt_5068e_11 : decode cJ0_charAt_5068e 11 = .ok (.iload_n 1, 1) := by decide +kernel
theorem dJ0_charAt_5068e_12 : decode cJ0_charAt_5068e 12 = .ok (.invokestatic 495, 3) := by decide +kernel
theorem dJ0_charAt_5068e_15 : decode cJ0_charAt_5068e 15 = .ok (.ireturn, 1) := by decide +kernel
theorem dJ0_charAt_5068e_16 : decode cJ0_charAt_5068e 16 = .ok (.aload_n 0, 1) := by decide +kernel
theorem dJ0_charAt_5068e_17 : decode cJ0_charAt_5068e 17 = .ok (.getfield 9, 3) := by decide +kernel
theorem dJ0_charAt_5068e_20 : decode cJ0_charAt_5068e 20 = .ok (.iload_n 1, 1) := by decide +kernel
theorem dJ0_charAt_5068e_21 : decode cJ0_charAt_5068e 21 = .ok (.invokestatic 498, 3) := by decide +kernel
theorem dJ0_charAt_5068e_24 : decode cJ0_charAt_5068e 24 = .ok (.ireturn, 1) := by decide +kernel
theorem dJ0_coder_7d493_0 : decode cJ0_coder_7d493 0 = .ok (.getstatic 38, 3) := by decide +kernel
theorem dJ0_coder_7d493_3 : decode cJ0_coder_7d493 3 = .ok (.ifCond .eq 10, 3) := by decide +kernel
theorem dJ0_coder_7d493_6 : decode cJ0_coder_7d493 6 = .ok (.aload_n 0, 1) := by decide +kernel
theorem dJ0_coder_7d493_7 : decode cJ0_coder_7d493 7 = .ok (.getfield 15, 3) := by decide +kernel
theorem dJ0_coder_7d493_10 : decode cJ0_coder_7d493 10 = .ok (.goto 4, 3) := by decide +kernel
theorem dJ0_coder_7d493_13 : decode cJ0_coder_7d493 13 = .ok (.iconst 1, 1) := by decide +kernel
theorem dJ0_coder_7d493_14 : decode cJ0_coder_7d493 14 = .ok (.ireturn, 1) := by decide +kernel
theorem dJ0_isLatin1_aae02_0 : decode cJ0_isLatin1_aae02 0 = .ok (.getstatic 38, 3) := by decide +kernel
theorem dJ0_isLatin1_aae02_3 : decode cJ0_isLatin1_aae02 3 = .ok (.ifCond .eq 14, 3) := by decide +kernel
theorem dJ0_isLatin1_aae02_6 : decode cJ0_isLatin1_aae02 6 = .ok (.aload_n 0, 1) := by decide +kernel
theorem dJ0_isLatin1_aae02_7 : decode cJ0_isLatin1_aae02 7 = .ok (.getfield 15, 3) := by decide +kernel
theorem dJ0_isLatin1_aae02_10 : decode cJ0_isLatin1_aae02 10 = .ok (.ifCond .ne 7, 3) := by decide +kernel
theorem dJ0_isLatin1_aae02_13 : decode cJ0_isLatin1_aae02 13 = .ok (.iconst 1, 1) := by decide +kernel
theorem dJ0_isLatin1_aae02_14 : decode cJ0_isLatin1_aae02 14 = .ok (.goto 4, 3) := by decide +kernel
theorem dJ0_isLatin1_aae02_17 : decode cJ0_isLatin1_aae02 17 = .ok (.iconst 0, 1) := by decide +kernel
theorem dJ0_isLatin1_aae02_18 : decode cJ0_isLatin1_aae02 18 = .ok (.ireturn, 1) := by decide +kernel
theorem dJ0_checkIndex_df160_0 : decode cJ0_checkIndex_df160 0 = .ok (.iload_n 0, 1) := by decide +kernel
theorem dJ0_checkIndex_df160_1 : decode cJ0_checkIndex_df160 1 = .ok (.iload_n 1, 1) := by decide +kernel
theorem dJ0_checkIndex_df160_2 : decode cJ0_checkIndex_df160 2 = .ok (.getstatic 1053, 3) := by decide +kernel
theorem dJ0_checkIndex_df160_5 : decode cJ0_checkIndex_df160 5 = .ok (.invokestatic 1059, 3) := by decide +kernel
theorem dJ0_checkIndex_df160_8 : decode cJ0_checkIndex_df160 8 = .ok (.pop, 1) := by decide +kernel
theorem dJ0_checkIndex_df160_9 : decode cJ0_checkIndex_df160 9 = .ok (.return_, 1) := by decide +kernel
theorem dJ1_charAt_3b067_0 : decode cJ1_charAt_3b067 0 = .ok (.iload_n 1, 1) := by decide +kernel
theorem dJ1_charAt_3b067_1 : decode cJ1_charAt_3b067 1 = .ok (.aload_n 0, 1) := by decide +kernel
theorem dJ1_charAt_3b067_2 : decode cJ1_charAt_3b067 2 = .ok (.arraylength, 1) := by decide +kernel
theorem dJ1_charAt_3b067_3 : decode cJ1_charAt_3b067 3 = .ok (.invokestatic 9, 3) := by decide +kernel
theorem dJ1_charAt_3b067_6 : decode cJ1_charAt_3b067 6 = .ok (.aload_n 0, 1) := by decide +kernel
theorem dJ1_charAt_3b067_7 : decode cJ1_charAt_3b067 7 = .ok (.iload_n 1, 1) := by decide +kernel
theorem dJ1_charAt_3b067_8 : decode cJ1_charAt_3b067 8 = .ok (.baload, 1) := by decide +kernel
theorem dJ1_charAt_3b067_9 : decode cJ1_charAt_3b067 9 = .ok (.sipush 255, 3) := by decide +kernel
theorem dJ1_charAt_3b067_12 : decode cJ1_charAt_3b067 12 = .ok (.iand, 1) := by decide +kernel
theorem dJ1_charAt_3b067_13 : decode cJ1_charAt_3b067 13 = .ok (.i2c, 1) := by decide +kernel
theorem dJ1_charAt_3b067_14 : decode cJ1_charAt_3b067 14 = .ok (.ireturn, 1) := by decide +kernel
theorem dJ2_getChar_3b067_0 : decode cJ2_getChar_3b067 0 = .ok (.getstatic 44, 3) := by decide +kernel
theorem dJ2_getChar_3b067_3 : decode cJ2_getChar_3b067 3 = .ok (.ifCond .ne 25, 3) := by decide +kernel
theorem dJ2_getChar_3b067_6 : decode cJ2_getChar_3b067 6 = .ok (.iload_n 1, 1) := by decide +kernel
theorem dJ2_getChar_3b067_7 : decode cJ2_getChar_3b067 7 = .ok (.ifCond .lt 11, 3) := by decide +kernel
theorem dJ2_getChar_3b067_10 : decode cJ2_getChar_3b067 10 = .ok (.iload_n 1, 1) := by decide +kernel
theorem dJ2_getChar_3b067_11 : decode cJ2_getChar_3b067 11 = .ok (.aload_n 0, 1) := by decide +kernel
theorem dJ2_getChar_3b067_12 : decode cJ2_getChar_3b067 12 = .ok (.invokestatic 48, 3) := by decide +kernel
theorem dJ2_getChar_3b067_15 : decode cJ2_getChar_3b067 15 = .ok (.if_icmp .lt 13, 3) := by decide +kernel
theorem dJ2_getChar_3b067_18 : decode cJ2_getChar_3b067 18 = .ok (.new 52, 3) := by decide +kernel
theorem dJ2_getChar_3b067_21 : decode cJ2_getChar_3b067 21 = .ok (.dup, 1) := by decide +kernel
theorem dJ2_getChar_3b067_22 : decode cJ2_getChar_3b067 22 = .ok (.ldc 54, 2) := by decide +kernel
theorem dJ2_getChar_3b067_24 : decode cJ2_getChar_3b067 24 = .ok (.invokespecial 56, 3) := by decide +kernel
theorem dJ2_getChar_3b067_27 : decode cJ2_getChar_3b067 27 = .ok (.athrow, 1) := by decide +kernel
theorem dJ2_getChar_3b067_28 : decode cJ2_getChar_3b067 28 = .ok (.iload_n 1, 1) := by decide +kernel
theorem dJ2_getChar_3b067_29 : decode cJ2_getChar_3b067 29 = .ok (.iconst 1, 1) := by decide +kernel
theorem dJ2_getChar_3b067_30 : decode cJ2_getChar_3b067 30 = .ok (.ishl, 1) := by decide +kernel
theorem dJ2_getChar_3b067_31 : decode cJ2_getChar_3b067 31 = .ok (.istore_n 1, 1) := by decide +kernel
theorem dJ2_getChar_3b067_32 : decode cJ2_getChar_3b067 32 = .ok (.aload_n 0, 1) := by decide +kernel
theorem dJ2_getChar_3b067_33 : decode cJ2_getChar_3b067 33 = .ok (.iload_n 1, 1) := by decide +kernel
theorem dJ2_getChar_3b067_34 : decode cJ2_getChar_3b067 34 = .ok (.iinc 1 1, 3) := by decide +kernel
theorem dJ2_getChar_3b067_37 : decode cJ2_getChar_3b067 37 = .ok (.baload, 1) := by decide +kernel
theorem dJ2_getChar_3b067_38 : decode cJ2_getChar_3b067 38 = .ok (.sipush 255, 3) := by decide +kernel
theorem dJ2_getChar_3b067_41 : decode cJ2_getChar_3b067 41 = .ok (.iand, 1) := by decide +kernel
theorem dJ2_getChar_3b067_42 : decode cJ2_getChar_3b067 42 = .ok (.getstatic 59, 3) := by decide +kernel
theorem dJ2_getChar_3b067_45 : decode cJ2_getChar_3b067 45 = .ok (.ishl, 1) := by decide +kernel
theorem dJ2_getChar_3b067_46 : decode cJ2_getChar_3b067 46 = .ok (.aload_n 0, 1) := by decide +kernel
theorem dJ2_getChar_3b067_47 : decode cJ2_getChar_3b067 47 = .ok (.iload_n 1, 1) := by decide +kernel
theorem dJ2_getChar_3b067_48 : decode cJ2_getChar_3b067 48 = .ok (.baload, 1) := by decide +kernel
theorem dJ2_getChar_3b067_49 : decode cJ2_getChar_3b067 49 = .ok (.sipush 255, 3) := by decide +kernel
theorem dJ2_getChar_3b067_52 : decode cJ2_getChar_3b067 52 = .ok (.iand, 1) := by decide +kernel
theorem dJ2_getChar_3b067_53 : decode cJ2_getChar_3b067 53 = .ok (.getstatic 63, 3) := by decide +kernel
theorem dJ2_getChar_3b067_56 : decode cJ2_getChar_3b067 56 = .ok (.ishl, 1) := by decide +kernel
theorem dJ2_getChar_3b067_57 : decode cJ2_getChar_3b067 57 = .ok (.ior, 1) := by decide +kernel
theorem dJ2_getChar_3b067_58 : decode cJ2_getChar_3b067 58 = .ok (.i2c, 1) := by decide +kernel
theorem dJ2_getChar_3b067_59 : decode cJ2_getChar_3b067 59 = .ok (.ireturn, 1) := by decide +kernel
theorem dJ2_length_9d52b_0 : decode cJ2_length_9d52b 0 = .ok (.aload_n 0, 1) := by decide +kernel
theorem dJ2_length_9d52b_1 : decode cJ2_length_9d52b 1 = .ok (.arraylength, 1) := by decide +kernel
theorem dJ2_length_9d52b_2 : decode cJ2_length_9d52b 2 = .ok (.iconst 1, 1) := by decide +kernel
theorem dJ2_length_9d52b_3 : decode cJ2_length_9d52b 3 = .ok (.ishr, 1) := by decide +kernel
theorem dJ2_length_9d52b_4 : decode cJ2_length_9d52b 4 = .ok (.ireturn, 1) := by decide +kernel
theorem dJ2_charAt_3b067_0 : decode cJ2_charAt_3b067 0 = .ok (.iload_n 1, 1) := by decide +kernel
theorem dJ2_charAt_3b067_1 : decode cJ2_charAt_3b067 1 = .ok (.aload_n 0, 1) := by decide +kernel
theorem dJ2_charAt_3b067_2 : decode cJ2_charAt_3b067 2 = .ok (.invokestatic 67, 3) := by decide +kernel
theorem dJ2_charAt_3b067_5 : decode cJ2_charAt_3b067 5 = .ok (.aload_n 0, 1) := by decide +kernel
theorem dJ2_charAt_3b067_6 : decode cJ2_charAt_3b067 6 = .ok (.iload_n 1, 1) := by decide +kernel
theorem dJ2_charAt_3b067_7 : decode cJ2_charAt_3b067 7 = .ok (.invokestatic 71, 3) := by decide +kernel
theorem dJ2_charAt_3b067_10 : decode cJ2_charAt_3b067 10 = .ok (.ireturn, 1) := by decide +kernel
theorem dJ2_checkIndex_2214a_0 : decode cJ2_checkIndex_2214a 0 = .ok (.iload_n 0, 1) := by decide +kernel
theorem dJ2_checkIndex_2214a_1 : decode cJ2_checkIndex_2214a 1 = .ok (.aload_n 1, 1) := by decide +kernel
theorem dJ2_checkIndex_2214a_2 : decode cJ2_checkIndex_2214a 2 = .ok (.invokestatic 48, 3) := by decide +kernel
theorem dJ2_checkIndex_2214a_5 : decode cJ2_checkIndex_2214a 5 = .ok (.invokestatic 414, 3) := by decide +kernel
theorem dJ2_checkIndex_2214a_8 : decode cJ2_checkIndex_2214a 8 = .ok (.return_, 1) := by decide +kernel
theorem dJ7_fill_53178_0 : decode cJ7_fill_53178 0 = .ok (.iconst 0, 1) := by decide +kernel
theorem dJ7_fill_53178_1 : decode cJ7_fill_53178 1 = .ok (.istore_n 2, 1) := by decide +kernel
theorem dJ7_fill_53178_2 : decode cJ7_fill_53178 2 = .ok (.aload_n 0, 1) := by decide +kernel
theorem dJ7_fill_53178_3 : decode cJ7_fill_53178 3 = .ok (.arraylength, 1) := by decide +kernel
theorem dJ7_fill_53178_4 : decode cJ7_fill_53178 4 = .ok (.istore_n 3, 1) := by decide +kernel
theorem dJ7_fill_53178_5 : decode cJ7_fill_53178 5 = .ok (.iload_n 2, 1) := by decide +kernel
theorem dJ7_fill_53178_6 : decode cJ7_fill_53178 6 = .ok (.iload_n 3, 1) := by decide +kernel
theorem dJ7_fill_53178_7 : decode cJ7_fill_53178 7 = .ok (.if_icmp .ge 13, 3) := by decide +kernel
theorem dJ7_fill_53178_10 : decode cJ7_fill_53178 10 = .ok (.aload_n 0, 1) := by decide +kernel
theorem dJ7_fill_53178_11 : decode cJ7_fill_53178 11 = .ok (.iload_n 2, 1) := by decide +kernel
theorem dJ7_fill_53178_12 : decode cJ7_fill_53178 12 = .ok (.iload_n 1, 1) := by decide +kernel
theorem dJ7_fill_53178_13 : decode cJ7_fill_53178 13 = .ok (.iastore, 1) := by decide +kernel
theorem dJ7_fill_53178_14 : decode cJ7_fill_53178 14 = .ok (.iinc 2 1, 3) := by decide +kernel
theorem dJ7_fill_53178_17 : decode cJ7_fill_53178 17 = .ok (.goto (-12), 3) := by decide +kernel
theorem dJ7_fill_53178_20 : decode cJ7_fill_53178 20 = .ok (.return_, 1) := by decide +kernel
theorem dJ3_checkIndex_8e157_0 : decode cJ3_checkIndex_8e157 0 = .ok (.iload_n 0, 1) := by decide +kernel
theorem dJ3_checkIndex_8e157_1 : decode cJ3_checkIndex_8e157 1 = .ok (.ifCond .lt 8, 3) := by decide +kernel
theorem dJ3_checkIndex_8e157_4 : decode cJ3_checkIndex_8e157 4 = .ok (.iload_n 0, 1) := by decide +kernel
theorem dJ3_checkIndex_8e157_5 : decode cJ3_checkIndex_8e157 5 = .ok (.iload_n 1, 1) := by decide +kernel
theorem dJ3_checkIndex_8e157_6 : decode cJ3_checkIndex_8e157 6 = .ok (.if_icmp .lt 10, 3) := by decide +kernel
theorem dJ3_checkIndex_8e157_9 : decode cJ3_checkIndex_8e157 9 = .ok (.aload_n 2, 1) := by decide +kernel
theorem dJ3_checkIndex_8e157_10 : decode cJ3_checkIndex_8e157 10 = .ok (.iload_n 0, 1) := by decide +kernel
theorem dJ3_checkIndex_8e157_11 : decode cJ3_checkIndex_8e157 11 = .ok (.iload_n 1, 1) := by decide +kernel
theorem dJ3_checkIndex_8e157_12 : decode cJ3_checkIndex_8e157 12 = .ok (.invokestatic 95, 3) := by decide +kernel
theorem dJ3_checkIndex_8e157_15 : decode cJ3_checkIndex_8e157 15 = .ok (.athrow, 1) := by decide +kernel
theorem dJ3_checkIndex_8e157_16 : decode cJ3_checkIndex_8e157 16 = .ok (.iload_n 0, 1) := by decide +kernel
theorem dJ3_checkIndex_8e157_17 : decode cJ3_checkIndex_8e157 17 = .ok (.ireturn, 1) := by decide +kernel
end
section
theorem dX10_init_0 : decode cX10_init 0 = .ok (.aload_n 0, 1) := by decide +kernel
theorem dX10_init_1 : decode cX10_init 1 = .ok (.invokespecial 1, 3) := by decide +kernel
theorem dX10_init_4 : decode cX10_init 4 = .ok (.aload_n 0, 1) := by decide +kernel
theorem dX10_init_5 : decode cX10_init 5 = .ok (.new 7, 3) := by decide +kernel
theorem dX10_init_8 : decode cX10_init 8 = .ok (.dup, 1) := by decide +kernel
theorem dX10_init_9 : decode cX10_init 9 = .ok (.invokespecial 9, 3) := by decide +kernel
theorem dX10_init_12 : decode cX10_init 12 = .ok (.putfield 10, 3) := by decide +kernel
theorem dX10_init_15 : decode cX10_init 15 = .ok (.aload_n 0, 1) := by decide +kernel
theorem dX10_init_16 : decode cX10_init 16 = .ok (.new 16, 3) := by decide +kernel
theorem dX10_init_19 : decode cX10_init 19 = .ok (.dup, 1) := by decide +kernel
theorem dX10_init_20 : decode cX10_init 20 = .ok (.invokespecial 18, 3) := by decide +kernel
theorem dX10_init_23 : decode cX10_init 23 = .ok (.putfield 19, 3) := by decide +kernel
theorem dX10_init_26 : decode cX10_init 26 = .ok (.aload_n 0, 1) := by decide +kernel
theorem dX10_init_27 : decode cX10_init 27 = .ok (.new 23, 3) := by decide +kernel
theorem dX10_init_30 : decode cX10_init 30 = .ok (.dup, 1) := by decide +kernel
theorem dX10_init_31 : decode cX10_init 31 = .ok (.invokespecial 25, 3) := by decide +kernel
theorem dX10_init_34 : decode cX10_init 34 = .ok (.putfield 26, 3) := by decide +kernel
theorem dX10_init_37 : decode cX10_init 37 = .ok (.aload_n 0, 1) := by decide +kernel
theorem dX10_init_38 : decode cX10_init 38 = .ok (.new 30, 3) := by decide +kernel
theorem dX10_init_41 : decode cX10_init 41 = .ok (.dup, 1) := by decide +kernel
theorem dX10_init_42 : decode cX10_init 42 = .ok (.invokespecial 32, 3) := by decide +kernel
theorem dX10_init_45 : decode cX10_init 45 = .ok (.putfield 33, 3) := by decide +kernel
theorem dX10_init_48 : decode cX10_init 48 = .ok (.aload_n 0, 1) := by decide +kernel
theorem dX10_init_49 : decode cX10_init 49 = .ok (.new 37, 3) := by decide +kernel
theorem dX10_init_52 : decode cX10_init 52 = .ok (.dup, 1) := by decide +kernel
theorem dX10_init_53 : decode cX10_init 53 = .ok (.invokespecial 39, 3) := by decide +kernel
theorem dX10_init_56 : decode cX10_init 56 = .ok (.putfield 40, 3) := by decide +kernel
theorem dX10_init_59 : decode cX10_init 59 = .ok (.aload_n 0, 1) := by decide +kernel
theorem dX10_init_60 : decode cX10_init 60 = .ok (.new 44, 3) := by decide +kernel
theorem dX10_init_63 : decode cX10_init 63 = .ok (.dup, 1) := by decide +kernel
theorem dX10_init_64 : decode cX10_init 64 = .ok (.invokespecial 46, 3) := by decide +kernel
theorem dX10_init_67 : decode cX10_init 67 = .ok (.putfield 47, 3) := by decide +kernel
theorem dX10_init_70 : decode cX10_init 70 = .ok (.aload_n 0, 1) := by decide +kernel
theorem dX10_init_71 : decode cX10_init 71 = .ok (.new 51, 3) := by decide +kernel
theorem dX10_init_74 : decode cX10_init 74 = .ok (.dup, 1) := by decide +kernel
theorem dX10_init_75 : decode cX10_init 75 = .ok (.invokespecial 53, 3) := by decide +kernel
theorem dX10_init_78 : decode cX10_init 78 = .ok (.putfield 54, 3) := by decide +kernel
theorem dX10_init_81 : decode cX10_init 81 = .ok (.aload_n 0, 1) := by decide +kernel
theorem dX10_init_82 : decode cX10_init 82 = .ok (.new 58, 3) := by decide +kernel
theorem dX10_init_85 : decode cX10_init 85 = .ok (.dup, 1) := by decide +kernel
theorem dX10_init_86 : decode cX10_init 86 = .ok (.invokespecial 60, 3) := by decide +kernel
theorem dX10_init_89 : decode cX10_init 89 = .ok (.putfield 61, 3) := by decide +kernel
theorem dX10_init_92 : decode cX10_init 92 = .ok (.aload_n 0, 1) := by decide +kernel
theorem dX10_init_93 : decode cX10_init 93 = .ok (.iconst 0, 1) := by decide +kernel
theorem dX10_init_94 : decode cX10_init 94 = .ok (.putfield 65, 3) := by decide +kernel
theorem dX10_init_97 : decode cX10_init 97 = .ok (.aload_n 0, 1) := by decide +kernel
theorem dX10_init_98 : decode cX10_init 98 = .ok (.iconst 0, 1) := by decide +kernel
theorem dX10_init_99 : decode cX10_init 99 = .ok (.putfield 69, 3) := by decide +kernel
theorem dX10_init_102 : decode cX10_init 102 = .ok (.return_, 1) := by decide +kernel
theorem dX10_feed_0 : decode cX10_feed 0 = .ok (.aload_n 0, 1) := by decide +kernel
theorem dX10_feed_1 : decode cX10_feed 1 = .ok (.getfield 10, 3) := by decide +kernel
theorem dX10_feed_4 : decode cX10_feed 4 = .ok (.getfield 72, 3) := by decide +kernel
theorem dX10_feed_7 : decode cX10_feed 7 = .ok (.bipush 20, 2) := by decide +kernel
theorem dX10_feed_9 : decode cX10_feed 9 = .ok (.iadd, 1) := by decide +kernel
theorem dX10_feed_10 : decode cX10_feed 10 = .ok (.sipush 600, 3) := by decide +kernel
theorem dX10_feed_13 : decode cX10_feed 13 = .ok (.if_icmp .le 5, 3) := by decide +kernel
theorem dX10_feed_16 : decode cX10_feed 16 = .ok (.iconst (-1), 1) := by decide +kernel
theorem dX10_feed_17 : decode cX10_feed 17 = .ok (.ireturn, 1) := by decide +kernel
theorem dX10_feed_18 : decode cX10_feed 18 = .ok (.aload_n 0, 1) := by decide +kernel
theorem dX10_feed_19 : decode cX10_feed 19 = .ok (.getfield 10, 3) := by decide +kernel
theorem dX10_feed_22 : decode cX10_feed 22 = .ok (.iload_n 1, 1) := by decide +kernel
theorem dX10_feed_23 : decode cX10_feed 23 = .ok (.invokevirtual 75, 3) := by decide +kernel
theorem dX10_feed_26 : decode cX10_feed 26 = .ok (.aload_n 0, 1) := by decide +kernel
theorem dX10_feed_27 : decode cX10_feed 27 = .ok (.getfield 10, 3) := by decide +kernel
theorem dX10_feed_30 : decode cX10_feed 30 = .ok (.iload_n 2, 1) := by decide +kernel
theorem dX10_feed_31 : decode cX10_feed 31 = .ok (.invokevirtual 75, 3) := by decide +kernel
theorem dX10_feed_34 : decode cX10_feed 34 = .ok (.aload_n 0, 1) := by decide +kernel
theorem dX10_feed_35 : decode cX10_feed 35 = .ok (.getfield 10, 3) := by decide +kernel
theorem dX10_feed_38 : decode cX10_feed 38 = .ok (.iload_n 3, 1) := by decide +kernel
theorem dX10_feed_39 : decode cX10_feed 39 = .ok (.invokevirtual 75, 3) := by decide +kernel
theorem dX10_feed_42 : decode cX10_feed 42 = .ok (.aload_n 0, 1) := by decide +kernel
theorem dX10_feed_43 : decode cX10_feed 43 = .ok (.getfield 10, 3) := by decide +kernel
theorem dX10_feed_46 : decode cX10_feed 46 = .ok (.iload 4, 2) := by decide +kernel
theorem dX10_feed_48 : decode cX10_feed 48 = .ok (.invokevirtual 75, 3) := by decide +kernel
theorem dX10_feed_51 : decode cX10_feed 51 = .ok (.aload_n 0, 1) := by decide +kernel
theorem dX10_feed_52 : decode cX10_feed 52 = .ok (.getfield 10, 3) := by decide +kernel
theorem dX10_feed_55 : decode cX10_feed 55 = .ok (.iload 5, 2) := by decide +kernel
theorem dX10_feed_57 : decode cX10_feed 57 = .ok (.invokevirtual 75, 3) := by decide +kernel
theorem dX10_feed_60 : decode cX10_feed 60 = .ok (.aload_n 0, 1) := by decide +kernel
theorem dX10_feed_61 : decode cX10_feed 61 = .ok (.getfield 10, 3) := by decide +kernel
theorem dX10_feed_64 : decode cX10_feed 64 = .ok (.getfield 72, 3) := by decide +kernel
theorem dX10_feed_67 : decode cX10_feed 67 = .ok (.ireturn, 1) := by decide +kernel
theorem dX10_statute_0 : decode cX10_statute 0 = .ok (.iload_n 1, 1) := by decide +kernel
theorem dX10_statute_1 : decode cX10_statute 1 = .ok (.ifCond .lt 33, 3) := by decide +kernel
theorem dX10_statute_4 : decode cX10_statute 4 = .ok (.iload_n 1, 1) := by decide +kernel
theorem dX10_statute_5 : decode cX10_statute 5 = .ok (.aload_n 0, 1) := by decide +kernel
theorem dX10_statute_6 : decode cX10_statute 6 = .ok (.getfield 10, 3) := by decide +kernel
theorem dX10_statute_9 : decode cX10_statute 9 = .ok (.getfield 72, 3) := by decide +kernel
theorem dX10_statute_12 : decode cX10_statute 12 = .ok (.if_icmp .gt 22, 3) := by decide +kernel
theorem dX10_statute_15 : decode cX10_statute 15 = .ok (.iload_n 2, 1) := by decide +kernel
theorem dX10_statute_16 : decode cX10_statute 16 = .ok (.invokestatic 79, 3) := by decide +kernel
theorem dX10_statute_19 : decode cX10_statute 19 = .ok (.ifCond .eq 15, 3) := by decide +kernel
theorem dX10_statute_22 : decode cX10_statute 22 = .ok (.aload_n 0, 1) := by decide +kernel
theorem dX10_statute_23 : decode cX10_statute 23 = .ok (.getfield 19, 3) := by decide +kernel
theorem dX10_statute_26 : decode cX10_statute 26 = .ok (.getfield 83, 3) := by decide +kernel
theorem dX10_statute_29 : decode cX10_statute 29 = .ok (.bipush 10, 2) := by decide +kernel
theorem dX10_statute_31 : decode cX10_statute 31 = .ok (.if_icmp .lt 6, 3) := by decide +kernel
theorem dX10_statute_34 : decode cX10_statute 34 = .ok (.bipush (-2), 2) := by decide +kernel
theorem dX10_statute_36 : decode cX10_statute 36 = .ok (.ireturn, 1) := by decide +kernel
theorem dX10_statute_37 : decode cX10_statute 37 = .ok (.aload_n 0, 1) := by decide +kernel
theorem dX10_statute_38 : decode cX10_statute 38 = .ok (.getfield 10, 3) := by decide +kernel
theorem dX10_statute_41 : decode cX10_statute 41 = .ok (.iload_n 1, 1) := by decide +kernel
theorem dX10_statute_42 : decode cX10_statute 42 = .ok (.invokevirtual 86, 3) := by decide +kernel
theorem dX10_statute_45 : decode cX10_statute 45 = .ok (.aload_n 0, 1) := by decide +kernel
theorem dX10_statute_46 : decode cX10_statute 46 = .ok (.getfield 10, 3) := by decide +kernel
theorem dX10_statute_49 : decode cX10_statute 49 = .ok (.getfield 89, 3) := by decide +kernel
theorem dX10_statute_52 : decode cX10_statute 52 = .ok (.ifCond .ne 21, 3) := by decide +kernel
theorem dX10_statute_55 : decode cX10_statute 55 = .ok (.aload_n 0, 1) := by decide +kernel
theorem dX10_statute_56 : decode cX10_statute 56 = .ok (.getfield 19, 3) := by decide +kernel
theorem dX10_statute_59 : decode cX10_statute 59 = .ok (.iload_n 2, 1) := by decide +kernel
theorem dX10_statute_60 : decode cX10_statute 60 = .ok (.aload_n 0, 1) := by decide +kernel
theorem dX10_statute_61 : decode cX10_statute 61 = .ok (.getfield 10, 3) := by decide +kernel
theorem dX10_statute_64 : decode cX10_statute 64 = .ok (.getfield 92, 3) := by decide +kernel
theorem dX10_statute_67 : decode cX10_statute 67 = .ok (.invokevirtual 96, 3) := by decide +kernel
theorem dX10_statute_70 : decode cX10_statute 70 = .ok (.goto 4, 3) := by decide +kernel
theorem dX10_statute_73 : decode cX10_statute 73 = .ok (.iconst (-1), 1) := by decide +kernel
theorem dX10_statute_74 : decode cX10_statute 74 = .ok (.ireturn, 1) := by decide +kernel
theorem dX10_fault_0 : decode cX10_fault 0 = .ok (.iload_n 1, 1) := by decide +kernel
theorem dX10_fault_1 : decode cX10_fault 1 = .ok (.lookupswitch 43 #[(0, 27), (1, 35)], 27) := by decide +kernel
theorem dX10_fault_28 : decode cX10_fault 28 = .ok (.aload_n 0, 1) := by decide +kernel
theorem dX10_fault_29 : decode cX10_fault 29 = .ok (.getfield 10, 3) := by decide +kernel
theorem dX10_fault_32 : decode cX10_fault 32 = .ok (.getfield 89, 3) := by decide +kernel
theorem dX10_fault_35 : decode cX10_fault 35 = .ok (.ireturn, 1) := by decide +kernel
theorem dX10_fault_36 : decode cX10_fault 36 = .ok (.aload_n 0, 1) := by decide +kernel
theorem dX10_fault_37 : decode cX10_fault 37 = .ok (.getfield 10, 3) := by decide +kernel
theorem dX10_fault_40 : decode cX10_fault 40 = .ok (.getfield 100, 3) := by decide +kernel
theorem dX10_fault_43 : decode cX10_fault 43 = .ok (.ireturn, 1) := by decide +kernel
theorem dX10_fault_44 : decode cX10_fault 44 = .ok (.iconst (-1), 1) := by decide +kernel
theorem dX10_fault_45 : decode cX10_fault 45 = .ok (.ireturn, 1) := by decide +kernel
theorem dX10_law_0 : decode cX10_law 0 = .ok (.iload_n 1, 1) := by decide +kernel
theorem dX10_law_1 : decode cX10_law 1 = .ok (.ifCond .lt 28, 3) := by decide +kernel
theorem dX10_law_4 : decode cX10_law 4 = .ok (.iload_n 1, 1) := by decide +kernel
theorem dX10_law_5 : decode cX10_law 5 = .ok (.bipush 7, 2) := by decide +kernel
theorem dX10_law_7 : decode cX10_law 7 = .ok (.if_icmp .ge 22, 3) := by decide +kernel
theorem dX10_law_10 : decode cX10_law 10 = .ok (.iload_n 2, 1) := by decide +kernel
theorem dX10_law_11 : decode cX10_law 11 = .ok (.invokestatic 79, 3) := by decide +kernel
theorem dX10_law_14 : decode cX10_law 14 = .ok (.ifCond .eq 15, 3) := by decide +kernel
theorem dX10_law_17 : decode cX10_law 17 = .ok (.aload_n 0, 1) := by decide +kernel
theorem dX10_law_18 : decode cX10_law 18 = .ok (.getfield 19, 3) := by decide +kernel
theorem dX10_law_21 : decode cX10_law 21 = .ok (.iload_n 1, 1) := by decide +kernel
theorem dX10_law_22 : decode cX10_law 22 = .ok (.iload_n 2, 1) := by decide +kernel
theorem dX10_law_23 : decode cX10_law 23 = .ok (.invokevirtual 103, 3) := by decide +kernel
theorem dX10_law_26 : decode cX10_law 26 = .ok (.goto 4, 3) := by decide +kernel
theorem dX10_law_29 : decode cX10_law 29 = .ok (.iconst (-1), 1) := by decide +kernel
theorem dX10_law_30 : decode cX10_law 30 = .ok (.ireturn, 1) := by decide +kernel
theorem dX10_ward_0 : decode cX10_ward 0 = .ok (.aload_n 0, 1) := by decide +kernel
theorem dX10_ward_1 : decode cX10_ward 1 = .ok (.getfield 26, 3) := by decide +kernel
theorem dX10_ward_4 : decode cX10_ward 4 = .ok (.invokevirtual 107, 3) := by decide +kernel
theorem dX10_ward_7 : decode cX10_ward 7 = .ok (.ireturn, 1) := by decide +kernel
theorem dX10_horse_0 : decode cX10_horse 0 = .ok (.iload_n 1, 1) := by decide +kernel
theorem dX10_horse_1 : decode cX10_horse 1 = .ok (.ifCond .lt 21, 3) := by decide +kernel
theorem dX10_horse_4 : decode cX10_horse 4 = .ok (.iload_n 1, 1) := by decide +kernel
theorem dX10_horse_5 : decode cX10_horse 5 = .ok (.sipush 999, 3) := by decide +kernel
theorem dX10_horse_8 : decode cX10_horse 8 = .ok (.if_icmp .gt 14, 3) := by decide +kernel
theorem dX10_horse_11 : decode cX10_horse 11 = .ok (.aload_n 0, 1) := by decide +kernel
theorem dX10_horse_12 : decode cX10_horse 12 = .ok (.getfield 33, 3) := by decide +kernel
theorem dX10_horse_15 : decode cX10_horse 15 = .ok (.iload_n 1, 1) := by decide +kernel
theorem dX10_horse_16 : decode cX10_horse 16 = .ok (.invokevirtual 111, 3) := by decide +kernel
theorem dX10_horse_19 : decode cX10_horse 19 = .ok (.goto 4, 3) := by decide +kernel
theorem dX10_horse_22 : decode cX10_horse 22 = .ok (.iconst (-1), 1) := by decide +kernel
theorem dX10_horse_23 : decode cX10_horse 23 = .ok (.ireturn, 1) := by decide +kernel
theorem dX10_sound_0 : decode cX10_sound 0 = .ok (.aload_n 0, 1) := by decide +kernel
theorem dX10_sound_1 : decode cX10_sound 1 = .ok (.getfield 33, 3) := by decide +kernel
theorem dX10_sound_4 : decode cX10_sound 4 = .ok (.iload_n 1, 1) := by decide +kernel
theorem dX10_sound_5 : decode cX10_sound 5 = .ok (.invokevirtual 115, 3) := by decide +kernel
theorem dX10_sound_8 : decode cX10_sound 8 = .ok (.ifCond .ne 5, 3) := by decide +kernel
theorem dX10_sound_11 : decode cX10_sound 11 = .ok (.iconst 0, 1) := by decide +kernel
theorem dX10_sound_12 : decode cX10_sound 12 = .ok (.ireturn, 1) := by decide +kernel
theorem dX10_sound_13 : decode cX10_sound 13 = .ok (.aload_n 0, 1) := by decide +kernel
theorem dX10_sound_14 : decode cX10_sound 14 = .ok (.getfield 33, 3) := by decide +kernel
theorem dX10_sound_17 : decode cX10_sound 17 = .ok (.getfield 118, 3) := by decide +kernel
theorem dX10_sound_20 : decode cX10_sound 20 = .ok (.iload_n 1, 1) := by decide +kernel
theorem dX10_sound_21 : decode cX10_sound 21 = .ok (.iload_n 2, 1) := by decide +kernel
theorem dX10_sound_22 : decode cX10_sound 22 = .ok (.bastore, 1) := by decide +kernel
theorem dX10_sound_23 : decode cX10_sound 23 = .ok (.iconst 1, 1) := by decide +kernel
theorem dX10_sound_24 : decode cX10_sound 24 = .ok (.ireturn, 1) := by decide +kernel
theorem dX10_choose_0 : decode cX10_choose 0 = .ok (.aload_n 0, 1) := by decide +kernel
theorem dX10_choose_1 : decode cX10_choose 1 = .ok (.getfield 69, 3) := by decide +kernel
theorem dX10_choose_4 : decode cX10_choose 4 = .ok (.ifCond .eq 5, 3) := by decide +kernel
theorem dX10_choose_7 : decode cX10_choose 7 = .ok (.iconst (-1), 1) := by decide +kernel
theorem dX10_choose_8 : decode cX10_choose 8 = .ok (.ireturn, 1) := by decide +kernel
theorem dX10_choose_9 : decode cX10_choose 9 = .ok (.aload_n 0, 1) := by decide +kernel
theorem dX10_choose_10 : decode cX10_choose 10 = .ok (.getfield 26, 3) := by decide +kernel
theorem dX10_choose_13 : decode cX10_choose 13 = .ok (.aload_n 0, 1) := by decide +kernel
theorem dX10_choose_14 : decode cX10_choose 14 = .ok (.getfield 65, 3) := by decide +kernel
theorem dX10_choose_17 : decode cX10_choose 17 = .ok (.invokevirtual 122, 3) := by decide +kernel
theorem dX10_choose_20 : decode cX10_choose 20 = .ok (.istore_n 2, 1) := by decide +kernel
theorem dX10_choose_21 : decode cX10_choose 21 = .ok (.aload_n 0, 1) := by decide +kernel
theorem dX10_choose_22 : decode cX10_choose 22 = .ok (.getfield 19, 3) := by decide +kernel
theorem dX10_choose_25 : decode cX10_choose 25 = .ok (.iconst 0, 1) := by decide +kernel
theorem dX10_choose_26 : decode cX10_choose 26 = .ok (.aload_n 0, 1) := by decide +kernel
theorem dX10_choose_27 : decode cX10_choose 27 = .ok (.getfield 65, 3) := by decide +kernel
theorem dX10_choose_30 : decode cX10_choose 30 = .ok (.invokevirtual 103, 3) := by decide +kernel
theorem dX10_choose_33 : decode cX10_choose 33 = .ok (.iload_n 2, 1) := by decide +kernel
theorem dX10_choose_34 : decode cX10_choose 34 = .ok (.invokestatic 125, 3) := by decide +kernel
theorem dX10_choose_37 : decode cX10_choose 37 = .ok (.istore_n 3, 1) := by decide +kernel
theorem dX10_choose_38 : decode cX10_choose 38 = .ok (.iload_n 3, 1) := by decide +kernel
theorem dX10_choose_39 : decode cX10_choose 39 = .ok (.iconst 2, 1) := by decide +kernel
theorem dX10_choose_40 : decode cX10_choose 40 = .ok (.if_icmp .ge 5, 3) := by decide +kernel
theorem dX10_choose_43 : decode cX10_choose 43 = .ok (.iconst (-1), 1) := by decide +kernel
theorem dX10_choose_44 : decode cX10_choose 44 = .ok (.ireturn, 1) := by decide +kernel
theorem dX10_choose_45 : decode cX10_choose 45 = .ok (.aload_n 0, 1) := by decide +kernel
theorem dX10_choose_46 : decode cX10_choose 46 = .ok (.getfield 61, 3) := by decide +kernel
theorem dX10_choose_49 : decode cX10_choose 49 = .ok (.iload_n 1, 1) := by decide +kernel
theorem dX10_choose_50 : decode cX10_choose 50 = .ok (.invokevirtual 130, 3) := by decide +kernel
theorem dX10_choose_53 : decode cX10_choose 53 = .ok (.aload_n 0, 1) := by decide +kernel
theorem dX10_choose_54 : decode cX10_choose 54 = .ok (.getfield 26, 3) := by decide +kernel
theorem dX10_choose_57 : decode cX10_choose 57 = .ok (.iload_n 3, 1) := by decide +kernel
theorem dX10_choose_58 : decode cX10_choose 58 = .ok (.iload_n 2, 1) := by decide +kernel
theorem dX10_choose_59 : decode cX10_choose 59 = .ok (.aload_n 0, 1) := by decide +kernel
theorem dX10_choose_60 : decode cX10_choose 60 = .ok (.getfield 65, 3) := by decide +kernel
theorem dX10_choose_63 : decode cX10_choose 63 = .ok (.aload_n 0, 1) := by decide +kernel
theorem dX10_choose_64 : decode cX10_choose 64 = .ok (.getfield 61, 3) := by decide +kernel
theorem dX10_choose_67 : decode cX10_choose 67 = .ok (.invokevirtual 133, 3) := by decide +kernel
theorem dX10_choose_70 : decode cX10_choose 70 = .ok (.aload_n 0, 1) := by decide +kernel
theorem dX10_choose_71 : decode cX10_choose 71 = .ok (.getfield 40, 3) := by decide +kernel
theorem dX10_choose_74 : decode cX10_choose 74 = .ok (.aload_n 0, 1) := by decide +kernel
theorem dX10_choose_75 : decode cX10_choose 75 = .ok (.getfield 26, 3) := by decide +kernel
theorem dX10_choose_78 : decode cX10_choose 78 = .ok (.invokevirtual 137, 3) := by decide +kernel
theorem dX10_choose_81 : decode cX10_choose 81 = .ok (.aload_n 0, 1) := by decide +kernel
theorem dX10_choose_82 : decode cX10_choose 82 = .ok (.iconst 1, 1) := by decide +kernel
theorem dX10_choose_83 : decode cX10_choose 83 = .ok (.putfield 69, 3) := by decide +kernel
theorem dX10_choose_86 : decode cX10_choose 86 = .ok (.iload_n 3, 1) := by decide +kernel
theorem dX10_choose_87 : decode cX10_choose 87 = .ok (.ireturn, 1) := by decide +kernel
theorem dX10_pick_0 : decode cX10_pick 0 = .ok (.aload_n 0, 1) := by decide +kernel
theorem dX10_pick_1 : decode cX10_pick 1 = .ok (.getfield 69, 3) := by decide +kernel
theorem dX10_pick_4 : decode cX10_pick 4 = .ok (.iconst 1, 1) := by decide +kernel
theorem dX10_pick_5 : decode cX10_pick 5 = .ok (.if_icmp .eq 5, 3) := by decide +kernel
theorem dX10_pick_8 : decode cX10_pick 8 = .ok (.iconst (-1), 1) := by decide +kernel
theorem dX10_pick_9 : decode cX10_pick 9 = .ok (.ireturn, 1) := by decide +kernel
theorem dX10_pick_10 : decode cX10_pick 10 = .ok (.aload_n 0, 1) := by decide +kernel
theorem dX10_pick_11 : decode cX10_pick 11 = .ok (.getfield 33, 3) := by decide +kernel
theorem dX10_pick_14 : decode cX10_pick 14 = .ok (.aload_n 0, 1) := by decide +kernel
theorem dX10_pick_15 : decode cX10_pick 15 = .ok (.getfield 40, 3) := by decide +kernel
theorem dX10_pick_18 : decode cX10_pick 18 = .ok (.getfield 141, 3) := by decide +kernel
theorem dX10_pick_21 : decode cX10_pick 21 = .ok (.invokevirtual 144, 3) := by decide +kernel
theorem dX10_pick_24 : decode cX10_pick 24 = .ok (.istore_n 1, 1) := by decide +kernel
theorem dX10_pick_25 : decode cX10_pick 25 = .ok (.iload_n 1, 1) := by decide +kernel
theorem dX10_pick_26 : decode cX10_pick 26 = .ok (.iconst (-1), 1) := by decide +kernel
theorem dX10_pick_27 : decode cX10_pick 27 = .ok (.if_icmp .eq 8, 3) := by decide +kernel
theorem dX10_pick_30 : decode cX10_pick 30 = .ok (.aload_n 0, 1) := by decide +kernel
theorem dX10_pick_31 : decode cX10_pick 31 = .ok (.iconst 2, 1) := by decide +kernel
theorem dX10_pick_32 : decode cX10_pick 32 = .ok (.putfield 69, 3) := by decide +kernel
theorem dX10_pick_35 : decode cX10_pick 35 = .ok (.iload_n 1, 1) := by decide +kernel
theorem dX10_pick_36 : decode cX10_pick 36 = .ok (.ireturn, 1) := by decide +kernel
theorem dX10_lots_0 : decode cX10_lots 0 = .ok (.aload_n 0, 1) := by decide +kernel
theorem dX10_lots_1 : decode cX10_lots 1 = .ok (.getfield 69, 3) := by decide +kernel
theorem dX10_lots_4 : decode cX10_lots 4 = .ok (.iconst 2, 1) := by decide +kernel
theorem dX10_lots_5 : decode cX10_lots 5 = .ok (.if_icmp .eq 5, 3) := by decide +kernel
theorem dX10_lots_8 : decode cX10_lots 8 = .ok (.iconst 0, 1) := by decide +kernel
theorem dX10_lots_9 : decode cX10_lots 9 = .ok (.ireturn, 1) := by decide +kernel
theorem dX10_lots_10 : decode cX10_lots 10 = .ok (.aload_n 0, 1) := by decide +kernel
theorem dX10_lots_11 : decode cX10_lots 11 = .ok (.getfield 61, 3) := by decide +kernel
theorem dX10_lots_14 : decode cX10_lots 14 = .ok (.iload_n 1, 1) := by decide +kernel
theorem dX10_lots_15 : decode cX10_lots 15 = .ok (.invokevirtual 130, 3) := by decide +kernel
theorem dX10_lots_18 : decode cX10_lots 18 = .ok (.aload_n 0, 1) := by decide +kernel
theorem dX10_lots_19 : decode cX10_lots 19 = .ok (.getfield 40, 3) := by decide +kernel
theorem dX10_lots_22 : decode cX10_lots 22 = .ok (.aload_n 0, 1) := by decide +kernel
theorem dX10_lots_23 : decode cX10_lots 23 = .ok (.getfield 26, 3) := by decide +kernel
theorem dX10_lots_26 : decode cX10_lots 26 = .ok (.aload_n 0, 1) := by decide +kernel
theorem dX10_lots_27 : decode cX10_lots 27 = .ok (.getfield 33, 3) := by decide +kernel
theorem dX10_lots_30 : decode cX10_lots 30 = .ok (.getfield 147, 3) := by decide +kernel
theorem dX10_lots_33 : decode cX10_lots 33 = .ok (.aload_n 0, 1) := by decide +kernel
theorem dX10_lots_34 : decode cX10_lots 34 = .ok (.getfield 61, 3) := by decide +kernel
theorem dX10_lots_37 : decode cX10_lots 37 = .ok (.invokevirtual 150, 3) := by decide +kernel
theorem dX10_lots_40 : decode cX10_lots 40 = .ok (.aload_n 0, 1) := by decide +kernel
theorem dX10_lots_41 : decode cX10_lots 41 = .ok (.getfield 40, 3) := by decide +kernel
theorem dX10_lots_44 : decode cX10_lots 44 = .ok (.aload_n 0, 1) := by decide +kernel
theorem dX10_lots_45 : decode cX10_lots 45 = .ok (.getfield 61, 3) := by decide +kernel
theorem dX10_lots_48 : decode cX10_lots 48 = .ok (.invokevirtual 154, 3) := by decide +kernel
theorem dX10_lots_51 : decode cX10_lots 51 = .ok (.aload_n 0, 1) := by decide +kernel
theorem dX10_lots_52 : decode cX10_lots 52 = .ok (.iconst 3, 1) := by decide +kernel
theorem dX10_lots_53 : decode cX10_lots 53 = .ok (.putfield 69, 3) := by decide +kernel
theorem dX10_lots_56 : decode cX10_lots 56 = .ok (.iconst 1, 1) := by decide +kernel
theorem dX10_lots_57 : decode cX10_lots 57 = .ok (.ireturn, 1) := by decide +kernel
theorem dX10_drawn_0 : decode cX10_drawn 0 = .ok (.iload_n 2, 1) := by decide +kernel
theorem dX10_drawn_1 : decode cX10_drawn 1 = .ok (.ifCond .lt 14, 3) := by decide +kernel
theorem dX10_drawn_4 : decode cX10_drawn 4 = .ok (.iload_n 2, 1) := by decide +kernel
theorem dX10_drawn_5 : decode cX10_drawn 5 = .ok (.aload_n 0, 1) := by decide +kernel
theorem dX10_drawn_6 : decode cX10_drawn 6 = .ok (.getfield 40, 3) := by decide +kernel
theorem dX10_drawn_9 : decode cX10_drawn 9 = .ok (.getfield 141, 3) := by decide +kernel
theorem dX10_drawn_12 : decode cX10_drawn 12 = .ok (.if_icmp .lt 5, 3) := by decide +kernel
theorem dX10_drawn_15 : decode cX10_drawn 15 = .ok (.iconst (-1), 1) := by decide +kernel
theorem dX10_drawn_16 : decode cX10_drawn 16 = .ok (.ireturn, 1) := by decide +kernel
theorem dX10_drawn_17 : decode cX10_drawn 17 = .ok (.iload_n 1, 1) := by decide +kernel
theorem dX10_drawn_18 : decode cX10_drawn 18 = .ok (.tableswitch 92 0 2 #[26, 48, 70], 26) := by decide +kernel
theorem dX10_drawn_44 : decode cX10_drawn 44 = .ok (.aload_n 0, 1) := by decide +kernel
theorem dX10_drawn_45 : decode cX10_drawn 45 = .ok (.getfield 69, 3) := by decide +kernel
theorem dX10_drawn_48 : decode cX10_drawn 48 = .ok (.iconst 1, 1) := by decide +kernel
theorem dX10_drawn_49 : decode cX10_drawn 49 = .ok (.if_icmp .lt 15, 3) := by decide +kernel
theorem dX10_drawn_52 : decode cX10_drawn 52 = .ok (.aload_n 0, 1) := by decide +kernel
theorem dX10_drawn_53 : decode cX10_drawn 53 = .ok (.getfield 40, 3) := by decide +kernel
theorem dX10_drawn_56 : decode cX10_drawn 56 = .ok (.getfield 158, 3) := by decide +kernel
theorem dX10_drawn_59 : decode cX10_drawn 59 = .ok (.iload_n 2, 1) := by decide +kernel
theorem dX10_drawn_60 : decode cX10_drawn 60 = .ok (.iaload, 1) := by decide +kernel
theorem dX10_drawn_61 : decode cX10_drawn 61 = .ok (.goto 4, 3) := by decide +kernel
theorem dX10_drawn_64 : decode cX10_drawn 64 = .ok (.iconst (-1), 1) := by decide +kernel
theorem dX10_drawn_65 : decode cX10_drawn 65 = .ok (.ireturn, 1) := by decide +kernel
theorem dX10_drawn_66 : decode cX10_drawn 66 = .ok (.aload_n 0, 1) := by decide +kernel
theorem dX10_drawn_67 : decode cX10_drawn 67 = .ok (.getfield 69, 3) := by decide +kernel
theorem dX10_drawn_70 : decode cX10_drawn 70 = .ok (.iconst 2, 1) := by decide +kernel
theorem dX10_drawn_71 : decode cX10_drawn 71 = .ok (.if_icmp .lt 15, 3) := by decide +kernel
theorem dX10_drawn_74 : decode cX10_drawn 74 = .ok (.aload_n 0, 1) := by decide +kernel
theorem dX10_drawn_75 : decode cX10_drawn 75 = .ok (.getfield 33, 3) := by decide +kernel
theorem dX10_drawn_78 : decode cX10_drawn 78 = .ok (.getfield 147, 3) := by decide +kernel
theorem dX10_drawn_81 : decode cX10_drawn 81 = .ok (.iload_n 2, 1) := by decide +kernel
theorem dX10_drawn_82 : decode cX10_drawn 82 = .ok (.iaload, 1) := by decide +kernel
theorem dX10_drawn_83 : decode cX10_drawn 83 = .ok (.goto 4, 3) := by decide +kernel
theorem dX10_drawn_86 : decode cX10_drawn 86 = .ok (.iconst (-1), 1) := by decide +kernel
theorem dX10_drawn_87 : decode cX10_drawn 87 = .ok (.ireturn, 1) := by decide +kernel
theorem dX10_drawn_88 : decode cX10_drawn 88 = .ok (.aload_n 0, 1) := by decide +kernel
theorem dX10_drawn_89 : decode cX10_drawn 89 = .ok (.getfield 69, 3) := by decide +kernel
theorem dX10_drawn_92 : decode cX10_drawn 92 = .ok (.iconst 3, 1) := by decide +kernel
theorem dX10_drawn_93 : decode cX10_drawn 93 = .ok (.if_icmp .lt 15, 3) := by decide +kernel
theorem dX10_drawn_96 : decode cX10_drawn 96 = .ok (.aload_n 0, 1) := by decide +kernel
theorem dX10_drawn_97 : decode cX10_drawn 97 = .ok (.getfield 40, 3) := by decide +kernel
theorem dX10_drawn_100 : decode cX10_drawn 100 = .ok (.getfield 161, 3) := by decide +kernel
theorem dX10_drawn_103 : decode cX10_drawn 103 = .ok (.iload_n 2, 1) := by decide +kernel
theorem dX10_drawn_104 : decode cX10_drawn 104 = .ok (.iaload, 1) := by decide +kernel
theorem dX10_drawn_105 : decode cX10_drawn 105 = .ok (.goto 4, 3) := by decide +kernel
theorem dX10_drawn_108 : decode cX10_drawn 108 = .ok (.iconst (-1), 1) := by decide +kernel
theorem dX10_drawn_109 : decode cX10_drawn 109 = .ok (.ireturn, 1) := by decide +kernel
theorem dX10_drawn_110 : decode cX10_drawn 110 = .ok (.iconst (-1), 1) := by decide +kernel
theorem dX10_drawn_111 : decode cX10_drawn 111 = .ok (.ireturn, 1) := by decide +kernel
theorem dX10_look_0 : decode cX10_look 0 = .ok (.aload_n 0, 1) := by decide +kernel
theorem dX10_look_1 : decode cX10_look 1 = .ok (.getfield 26, 3) := by decide +kernel
theorem dX10_look_4 : decode cX10_look 4 = .ok (.iload_n 1, 1) := by decide +kernel
theorem dX10_look_5 : decode cX10_look 5 = .ok (.invokevirtual 164, 3) := by decide +kernel
theorem dX10_look_8 : decode cX10_look 8 = .ok (.astore_n 3, 1) := by decide +kernel
theorem dX10_look_9 : decode cX10_look 9 = .ok (.aload_n 3, 1) := by decide +kernel
theorem dX10_look_10 : decode cX10_look 10 = .ok (.ifnonnull 5, 3) := by decide +kernel
theorem dX10_look_13 : decode cX10_look 13 = .ok (.iconst (-1), 1) := by decide +kernel
theorem dX10_look_14 : decode cX10_look 14 = .ok (.ireturn, 1) := by decide +kernel
theorem dX10_look_15 : decode cX10_look 15 = .ok (.iload_n 2, 1) := by decide +kernel
theorem dX10_look_16 : decode cX10_look 16 = .ok (.tableswitch 61 0 4 #[36, 41, 46, 51, 56], 36) := by decide +kernel
theorem dX10_look_52 : decode cX10_look 52 = .ok (.aload_n 3, 1) := by decide +kernel
theorem dX10_look_53 : decode cX10_look 53 = .ok (.getfield 168, 3) := by decide +kernel
theorem dX10_look_56 : decode cX10_look 56 = .ok (.ireturn, 1) := by decide +kernel
theorem dX10_look_57 : decode cX10_look 57 = .ok (.aload_n 3, 1) := by decide +kernel
theorem dX10_look_58 : decode cX10_look 58 = .ok (.getfield 173, 3) := by decide +kernel
theorem dX10_look_61 : decode cX10_look 61 = .ok (.ireturn, 1) := by decide +kernel
theorem dX10_look_62 : decode cX10_look 62 = .ok (.aload_n 3, 1) := by decide +kernel
theorem dX10_look_63 : decode cX10_look 63 = .ok (.getfield 176, 3) := by decide +kernel
theorem dX10_look_66 : decode cX10_look 66 = .ok (.ireturn, 1) := by decide +kernel
theorem dX10_look_67 : decode cX10_look 67 = .ok (.aload_n 3, 1) := by decide +kernel
theorem dX10_look_68 : decode cX10_look 68 = .ok (.getfield 179, 3) := by decide +kernel
theorem dX10_look_71 : decode cX10_look 71 = .ok (.ireturn, 1) := by decide +kernel
theorem dX10_look_72 : decode cX10_look 72 = .ok (.aload_n 3, 1) := by decide +kernel
theorem dX10_look_73 : decode cX10_look 73 = .ok (.getfield 182, 3) := by decide +kernel
theorem dX10_look_76 : decode cX10_look 76 = .ok (.ireturn, 1) := by decide +kernel
theorem dX10_look_77 : decode cX10_look 77 = .ok (.iconst (-1), 1) := by decide +kernel
theorem dX10_look_78 : decode cX10_look 78 = .ok (.ireturn, 1) := by decide +kernel
theorem dX10_ring_0 : decode cX10_ring 0 = .ok (.iload_n 1, 1) := by decide +kernel
theorem dX10_ring_1 : decode cX10_ring 1 = .ok (.bipush 12, 2) := by decide +kernel
theorem dX10_ring_3 : decode cX10_ring 3 = .ok (.if_icmp .lt 17, 3) := by decide +kernel
theorem dX10_ring_6 : decode cX10_ring 6 = .ok (.iload_n 1, 1) := by decide +kernel
theorem dX10_ring_7 : decode cX10_ring 7 = .ok (.bipush 60, 2) := by decide +kernel
theorem dX10_ring_9 : decode cX10_ring 9 = .ok (.if_icmp .gt 11, 3) := by decide +kernel
theorem dX10_ring_12 : decode cX10_ring 12 = .ok (.aload_n 0, 1) := by decide +kernel
theorem dX10_ring_13 : decode cX10_ring 13 = .ok (.getfield 69, 3) := by decide +kernel
theorem dX10_ring_16 : decode cX10_ring 16 = .ok (.iconst 4, 1) := by decide +kernel
theorem dX10_ring_17 : decode cX10_ring 17 = .ok (.if_icmp .ne 5, 3) := by decide +kernel
theorem dX10_ring_20 : decode cX10_ring 20 = .ok (.iconst 0, 1) := by decide +kernel
theorem dX10_ring_21 : decode cX10_ring 21 = .ok (.ireturn, 1) := by decide +kernel
theorem dX10_ring_22 : decode cX10_ring 22 = .ok (.aload_n 0, 1) := by decide +kernel
theorem dX10_ring_23 : decode cX10_ring 23 = .ok (.getfield 47, 3) := by decide +kernel
theorem dX10_ring_26 : decode cX10_ring 26 = .ok (.iload_n 1, 1) := by decide +kernel
theorem dX10_ring_27 : decode cX10_ring 27 = .ok (.invokevirtual 185, 3) := by decide +kernel
theorem dX10_ring_30 : decode cX10_ring 30 = .ok (.iconst 1, 1) := by decide +kernel
theorem dX10_ring_31 : decode cX10_ring 31 = .ok (.ireturn, 1) := by decide +kernel
theorem dX10_bend_0 : decode cX10_bend 0 = .ok (.iload_n 1, 1) := by decide +kernel
theorem dX10_bend_1 : decode cX10_bend 1 = .ok (.ifCond .lt 22, 3) := by decide +kernel
theorem dX10_bend_4 : decode cX10_bend 4 = .ok (.iload_n 1, 1) := by decide +kernel
theorem dX10_bend_5 : decode cX10_bend 5 = .ok (.aload_n 0, 1) := by decide +kernel
theorem dX10_bend_6 : decode cX10_bend 6 = .ok (.getfield 47, 3) := by decide +kernel
theorem dX10_bend_9 : decode cX10_bend 9 = .ok (.getfield 188, 3) := by decide +kernel
theorem dX10_bend_12 : decode cX10_bend 12 = .ok (.if_icmp .ge 11, 3) := by decide +kernel
theorem dX10_bend_15 : decode cX10_bend 15 = .ok (.aload_n 0, 1) := by decide +kernel
theorem dX10_bend_16 : decode cX10_bend 16 = .ok (.getfield 69, 3) := by decide +kernel
theorem dX10_bend_19 : decode cX10_bend 19 = .ok (.iconst 4, 1) := by decide +kernel
theorem dX10_bend_20 : decode cX10_bend 20 = .ok (.if_icmp .ne 5, 3) := by decide +kernel
theorem dX10_bend_23 : decode cX10_bend 23 = .ok (.iconst 0, 1) := by decide +kernel
theorem dX10_bend_24 : decode cX10_bend 24 = .ok (.ireturn, 1) := by decide +kernel
theorem dX10_bend_25 : decode cX10_bend 25 = .ok (.aload_n 0, 1) := by decide +kernel
theorem dX10_bend_26 : decode cX10_bend 26 = .ok (.getfield 47, 3) := by decide +kernel
theorem dX10_bend_29 : decode cX10_bend 29 = .ok (.getfield 191, 3) := by decide +kernel
theorem dX10_bend_32 : decode cX10_bend 32 = .ok (.iload_n 1, 1) := by decide +kernel
theorem dX10_bend_33 : decode cX10_bend 33 = .ok (.iload_n 2, 1) := by decide +kernel
theorem dX10_bend_34 : decode cX10_bend 34 = .ok (.bastore, 1) := by decide +kernel
theorem dX10_bend_35 : decode cX10_bend 35 = .ok (.iconst 1, 1) := by decide +kernel
theorem dX10_bend_36 : decode cX10_bend 36 = .ok (.ireturn, 1) := by decide +kernel
theorem dX10_orders_0 : decode cX10_orders 0 = .ok (.aload_n 0, 1) := by decide +kernel
theorem dX10_orders_1 : decode cX10_orders 1 = .ok (.getfield 26, 3) := by decide +kernel
theorem dX10_orders_4 : decode cX10_orders 4 = .ok (.iload_n 1, 1) := by decide +kernel
theorem dX10_orders_5 : decode cX10_orders 5 = .ok (.invokevirtual 194, 3) := by decide +kernel
theorem dX10_orders_8 : decode cX10_orders 8 = .ok (.ifCond .eq 12, 3) := by decide +kernel
theorem dX10_orders_11 : decode cX10_orders 11 = .ok (.iload_n 2, 1) := by decide +kernel
theorem dX10_orders_12 : decode cX10_orders 12 = .ok (.ifCond .lt 8, 3) := by decide +kernel
theorem dX10_orders_15 : decode cX10_orders 15 = .ok (.iload_n 2, 1) := by decide +kernel
theorem dX10_orders_16 : decode cX10_orders 16 = .ok (.iconst 2, 1) := by decide +kernel
theorem dX10_orders_17 : decode cX10_orders 17 = .ok (.if_icmp .le 5, 3) := by decide +kernel
theorem dX10_orders_20 : decode cX10_orders 20 = .ok (.iconst 0, 1) := by decide +kernel
theorem dX10_orders_21 : decode cX10_orders 21 = .ok (.ireturn, 1) := by decide +kernel
theorem dX10_orders_22 : decode cX10_orders 22 = .ok (.iload_n 2, 1) := by decide +kernel
theorem dX10_orders_23 : decode cX10_orders 23 = .ok (.ifCond .eq 21, 3) := by decide +kernel
theorem dX10_orders_26 : decode cX10_orders 26 = .ok (.aload_n 0, 1) := by decide +kernel
theorem dX10_orders_27 : decode cX10_orders 27 = .ok (.getfield 26, 3) := by decide +kernel
theorem dX10_orders_30 : decode cX10_orders 30 = .ok (.iload_n 3, 1) := by decide +kernel
theorem dX10_orders_31 : decode cX10_orders 31 = .ok (.invokevirtual 194, 3) := by decide +kernel
theorem dX10_orders_34 : decode cX10_orders 34 = .ok (.ifCond .eq 8, 3) := by decide +kernel
theorem dX10_orders_37 : decode cX10_orders 37 = .ok (.iload_n 3, 1) := by decide +kernel
theorem dX10_orders_38 : decode cX10_orders 38 = .ok (.iload_n 1, 1) := by decide +kernel
theorem dX10_orders_39 : decode cX10_orders 39 = .ok (.if_icmp .ne 5, 3) := by decide +kernel
theorem dX10_orders_42 : decode cX10_orders 42 = .ok (.iconst 0, 1) := by decide +kernel
theorem dX10_orders_43 : decode cX10_orders 43 = .ok (.ireturn, 1) := by decide +kernel
theorem dX10_orders_44 : decode cX10_orders 44 = .ok (.aload_n 0, 1) := by decide +kernel
theorem dX10_orders_45 : decode cX10_orders 45 = .ok (.getfield 47, 3) := by decide +kernel
theorem dX10_orders_48 : decode cX10_orders 48 = .ok (.getfield 195, 3) := by decide +kernel
theorem dX10_orders_51 : decode cX10_orders 51 = .ok (.iload_n 1, 1) := by decide +kernel
theorem dX10_orders_52 : decode cX10_orders 52 = .ok (.iload_n 2, 1) := by decide +kernel
theorem dX10_orders_53 : decode cX10_orders 53 = .ok (.iastore, 1) := by decide +kernel
theorem dX10_orders_54 : decode cX10_orders 54 = .ok (.aload_n 0, 1) := by decide +kernel
theorem dX10_orders_55 : decode cX10_orders 55 = .ok (.getfield 47, 3) := by decide +kernel
theorem dX10_orders_58 : decode cX10_orders 58 = .ok (.getfield 198, 3) := by decide +kernel
theorem dX10_orders_61 : decode cX10_orders 61 = .ok (.iload_n 1, 1) := by decide +kernel
theorem dX10_orders_62 : decode cX10_orders 62 = .ok (.iload_n 3, 1) := by decide +kernel
theorem dX10_orders_63 : decode cX10_orders 63 = .ok (.iastore, 1) := by decide +kernel
theorem dX10_orders_64 : decode cX10_orders 64 = .ok (.iconst 1, 1) := by decide +kernel
theorem dX10_orders_65 : decode cX10_orders 65 = .ok (.ireturn, 1) := by decide +kernel
theorem dX10_seen_0 : decode cX10_seen 0 = .ok (.aload_n 0, 1) := by decide +kernel
theorem dX10_seen_1 : decode cX10_seen 1 = .ok (.getfield 69, 3) := by decide +kernel
theorem dX10_seen_4 : decode cX10_seen 4 = .ok (.iconst 3, 1) := by decide +kernel
theorem dX10_seen_5 : decode cX10_seen 5 = .ok (.if_icmp .ne 29, 3) := by decide +kernel
theorem dX10_seen_8 : decode cX10_seen 8 = .ok (.iload_n 1, 1) := by decide +kernel
theorem dX10_seen_9 : decode cX10_seen 9 = .ok (.ifCond .lt 25, 3) := by decide +kernel
theorem dX10_seen_12 : decode cX10_seen 12 = .ok (.iload_n 1, 1) := by decide +kernel
theorem dX10_seen_13 : decode cX10_seen 13 = .ok (.aload_n 0, 1) := by decide +kernel
theorem dX10_seen_14 : decode cX10_seen 14 = .ok (.getfield 40, 3) := by decide +kernel
theorem dX10_seen_17 : decode cX10_seen 17 = .ok (.getfield 141, 3) := by decide +kernel
theorem dX10_seen_20 : decode cX10_seen 20 = .ok (.if_icmp .ge 14, 3) := by decide +kernel
theorem dX10_seen_23 : decode cX10_seen 23 = .ok (.aload_n 0, 1) := by decide +kernel
theorem dX10_seen_24 : decode cX10_seen 24 = .ok (.getfield 26, 3) := by decide +kernel
theorem dX10_seen_27 : decode cX10_seen 27 = .ok (.iload_n 2, 1) := by decide +kernel
theorem dX10_seen_28 : decode cX10_seen 28 = .ok (.invokevirtual 201, 3) := by decide +kernel
theorem dX10_seen_31 : decode cX10_seen 31 = .ok (.ifCond .ne 5, 3) := by decide +kernel
theorem dX10_seen_34 : decode cX10_seen 34 = .ok (.iconst 0, 1) := by decide +kernel
theorem dX10_seen_35 : decode cX10_seen 35 = .ok (.ireturn, 1) := by decide +kernel
theorem dX10_seen_36 : decode cX10_seen 36 = .ok (.aload_n 0, 1) := by decide +kernel
theorem dX10_seen_37 : decode cX10_seen 37 = .ok (.getfield 40, 3) := by decide +kernel
theorem dX10_seen_40 : decode cX10_seen 40 = .ok (.getfield 204, 3) := by decide +kernel
theorem dX10_seen_43 : decode cX10_seen 43 = .ok (.iload_n 1, 1) := by decide +kernel
theorem dX10_seen_44 : decode cX10_seen 44 = .ok (.iload_n 2, 1) := by decide +kernel
theorem dX10_seen_45 : decode cX10_seen 45 = .ok (.iastore, 1) := by decide +kernel
theorem dX10_seen_46 : decode cX10_seen 46 = .ok (.iconst 1, 1) := by decide +kernel
theorem dX10_seen_47 : decode cX10_seen 47 = .ok (.ireturn, 1) := by decide +kernel
theorem dX10_drop_0 : decode cX10_drop 0 = .ok (.aload_n 0, 1) := by decide +kernel
theorem dX10_drop_1 : decode cX10_drop 1 = .ok (.getfield 69, 3) := by decide +kernel
theorem dX10_drop_4 : decode cX10_drop 4 = .ok (.iconst 3, 1) := by decide +kernel
theorem dX10_drop_5 : decode cX10_drop 5 = .ok (.if_icmp .eq 6, 3) := by decide +kernel
theorem dX10_drop_8 : decode cX10_drop 8 = .ok (.bipush (-100), 2) := by decide +kernel
theorem dX10_drop_10 : decode cX10_drop 10 = .ok (.ireturn, 1) := by decide +kernel
theorem dX10_drop_11 : decode cX10_drop 11 = .ok (.aload_n 0, 1) := by decide +kernel
theorem dX10_drop_12 : decode cX10_drop 12 = .ok (.getfield 40, 3) := by decide +kernel
theorem dX10_drop_15 : decode cX10_drop 15 = .ok (.invokevirtual 207, 3) := by decide +kernel
theorem dX10_drop_18 : decode cX10_drop 18 = .ok (.istore_n 2, 1) := by decide +kernel
theorem dX10_drop_19 : decode cX10_drop 19 = .ok (.iload_n 2, 1) := by decide +kernel
theorem dX10_drop_20 : decode cX10_drop 20 = .ok (.aload_n 0, 1) := by decide +kernel
theorem dX10_drop_21 : decode cX10_drop 21 = .ok (.getfield 19, 3) := by decide +kernel
theorem dX10_drop_24 : decode cX10_drop 24 = .ok (.iconst 5, 1) := by decide +kernel
theorem dX10_drop_25 : decode cX10_drop 25 = .ok (.aload_n 0, 1) := by decide +kernel
theorem dX10_drop_26 : decode cX10_drop 26 = .ok (.getfield 65, 3) := by decide +kernel
theorem dX10_drop_29 : decode cX10_drop 29 = .ok (.invokevirtual 103, 3) := by decide +kernel
theorem dX10_drop_32 : decode cX10_drop 32 = .ok (.if_icmp .le 49, 3) := by decide +kernel
theorem dX10_drop_35 : decode cX10_drop 35 = .ok (.aload_n 0, 1) := by decide +kernel
theorem dX10_drop_36 : decode cX10_drop 36 = .ok (.getfield 40, 3) := by decide +kernel
theorem dX10_drop_39 : decode cX10_drop 39 = .ok (.aload_n 0, 1) := by decide +kernel
theorem dX10_drop_40 : decode cX10_drop 40 = .ok (.getfield 26, 3) := by decide +kernel
theorem dX10_drop_43 : decode cX10_drop 43 = .ok (.invokevirtual 210, 3) := by decide +kernel
theorem dX10_drop_46 : decode cX10_drop 46 = .ok (.aload_n 0, 1) := by decide +kernel
theorem dX10_drop_47 : decode cX10_drop 47 = .ok (.getfield 40, 3) := by decide +kernel
theorem dX10_drop_50 : decode cX10_drop 50 = .ok (.invokevirtual 213, 3) := by decide +kernel
theorem dX10_drop_53 : decode cX10_drop 53 = .ok (.aload_n 0, 1) := by decide +kernel
theorem dX10_drop_54 : decode cX10_drop 54 = .ok (.getfield 40, 3) := by decide +kernel
theorem dX10_drop_57 : decode cX10_drop 57 = .ok (.aload_n 0, 1) := by decide +kernel
theorem dX10_drop_58 : decode cX10_drop 58 = .ok (.getfield 26, 3) := by decide +kernel
theorem dX10_drop_61 : decode cX10_drop 61 = .ok (.aload_n 0, 1) := by decide +kernel
theorem dX10_drop_62 : decode cX10_drop 62 = .ok (.getfield 19, 3) := by decide +kernel
theorem dX10_drop_65 : decode cX10_drop 65 = .ok (.bipush 6, 2) := by decide +kernel
theorem dX10_drop_67 : decode cX10_drop 67 = .ok (.aload_n 0, 1) := by decide +kernel
theorem dX10_drop_68 : decode cX10_drop 68 = .ok (.getfield 65, 3) := by decide +kernel
theorem dX10_drop_71 : decode cX10_drop 71 = .ok (.invokevirtual 103, 3) := by decide +kernel
theorem dX10_drop_74 : decode cX10_drop 74 = .ok (.invokevirtual 216, 3) := by decide +kernel
theorem dX10_drop_77 : decode cX10_drop 77 = .ok (.iconst (-1), 1) := by decide +kernel
theorem dX10_drop_78 : decode cX10_drop 78 = .ok (.iload_n 2, 1) := by decide +kernel
theorem dX10_drop_79 : decode cX10_drop 79 = .ok (.isub, 1) := by decide +kernel
theorem dX10_drop_80 : decode cX10_drop 80 = .ok (.ireturn, 1) := by decide +kernel
theorem dX10_drop_81 : decode cX10_drop 81 = .ok (.aload_n 0, 1) := by decide +kernel
theorem dX10_drop_82 : decode cX10_drop 82 = .ok (.iload_n 1, 1) := by decide +kernel
theorem dX10_drop_83 : decode cX10_drop 83 = .ok (.invokevirtual 220, 3) := by decide +kernel
theorem dX10_drop_86 : decode cX10_drop 86 = .ok (.iload_n 2, 1) := by decide +kernel
theorem dX10_drop_87 : decode cX10_drop 87 = .ok (.ireturn, 1) := by decide +kernel
theorem dX10_go_0 : decode cX10_go 0 = .ok (.aload_n 0, 1) := by decide +kernel
theorem dX10_go_1 : decode cX10_go 1 = .ok (.getfield 69, 3) := by decide +kernel
theorem dX10_go_4 : decode cX10_go 4 = .ok (.iconst 4, 1) := by decide +kernel
theorem dX10_go_5 : decode cX10_go 5 = .ok (.if_icmp .ne 15, 3) := by decide +kernel
theorem dX10_go_8 : decode cX10_go 8 = .ok (.iload_n 1, 1) := by decide +kernel
theorem dX10_go_9 : decode cX10_go 9 = .ok (.iconst 1, 1) := by decide +kernel
theorem dX10_go_10 : decode cX10_go 10 = .ok (.if_icmp .lt 10, 3) := by decide +kernel
theorem dX10_go_13 : decode cX10_go 13 = .ok (.iload_n 1, 1) := by decide +kernel
theorem dX10_go_14 : decode cX10_go 14 = .ok (.sipush 400, 3) := by decide +kernel
theorem dX10_go_17 : decode cX10_go 17 = .ok (.if_icmp .le 5, 3) := by decide +kernel
theorem dX10_go_20 : decode cX10_go 20 = .ok (.iconst (-1), 1) := by decide +kernel
theorem dX10_go_21 : decode cX10_go 21 = .ok (.ireturn, 1) := by decide +kernel
theorem dX10_go_22 : decode cX10_go 22 = .ok (.iconst 0, 1) := by decide +kernel
theorem dX10_go_23 : decode cX10_go 23 = .ok (.istore_n 2, 1) := by decide +kernel
theorem dX10_go_24 : decode cX10_go 24 = .ok (.iload_n 2, 1) := by decide +kernel
theorem dX10_go_25 : decode cX10_go 25 = .ok (.iload_n 1, 1) := by decide +kernel
theorem dX10_go_26 : decode cX10_go 26 = .ok (.if_icmp .ge 26, 3) := by decide +kernel
theorem dX10_go_29 : decode cX10_go 29 = .ok (.aload_n 0, 1) := by decide +kernel
theorem dX10_go_30 : decode cX10_go 30 = .ok (.getfield 47, 3) := by decide +kernel
theorem dX10_go_33 : decode cX10_go 33 = .ok (.invokevirtual 223, 3) := by decide +kernel
theorem dX10_go_36 : decode cX10_go 36 = .ok (.ifCond .ne 16, 3) := by decide +kernel
theorem dX10_go_39 : decode cX10_go 39 = .ok (.aload_n 0, 1) := by decide +kernel
theorem dX10_go_40 : decode cX10_go 40 = .ok (.getfield 47, 3) := by decide +kernel
theorem dX10_go_43 : decode cX10_go 43 = .ok (.invokevirtual 227, 3) := by decide +kernel
theorem dX10_go_46 : decode cX10_go 46 = .ok (.iinc 2 1, 3) := by decide +kernel
theorem dX10_go_49 : decode cX10_go 49 = .ok (.goto (-25), 3) := by decide +kernel
theorem dX10_go_52 : decode cX10_go 52 = .ok (.aload_n 0, 1) := by decide +kernel
theorem dX10_go_53 : decode cX10_go 53 = .ok (.getfield 47, 3) := by decide +kernel
theorem dX10_go_56 : decode cX10_go 56 = .ok (.invokevirtual 223, 3) := by decide +kernel
theorem dX10_go_59 : decode cX10_go 59 = .ok (.ifCond .eq 26, 3) := by decide +kernel
theorem dX10_go_62 : decode cX10_go 62 = .ok (.aload_n 0, 1) := by decide +kernel
theorem dX10_go_63 : decode cX10_go 63 = .ok (.getfield 54, 3) := by decide +kernel
theorem dX10_go_66 : decode cX10_go 66 = .ok (.aload_n 0, 1) := by decide +kernel
theorem dX10_go_67 : decode cX10_go 67 = .ok (.getfield 26, 3) := by decide +kernel
theorem dX10_go_70 : decode cX10_go 70 = .ok (.aload_n 0, 1) := by decide +kernel
theorem dX10_go_71 : decode cX10_go 71 = .ok (.getfield 47, 3) := by decide +kernel
theorem dX10_go_74 : decode cX10_go 74 = .ok (.getfield 230, 3) := by decide +kernel
theorem dX10_go_77 : decode cX10_go 77 = .ok (.invokevirtual 233, 3) := by decide +kernel
theorem dX10_go_80 : decode cX10_go 80 = .ok (.aload_n 0, 1) := by decide +kernel
theorem dX10_go_81 : decode cX10_go 81 = .ok (.iconst 5, 1) := by decide +kernel
theorem dX10_go_82 : decode cX10_go 82 = .ok (.putfield 69, 3) := by decide +kernel
theorem dX10_go_85 : decode cX10_go 85 = .ok (.iload_n 2, 1) := by decide +kernel
theorem dX10_go_86 : decode cX10_go 86 = .ok (.ireturn, 1) := by decide +kernel
theorem dX10_race_0 : decode cX10_race 0 = .ok (.aload_n 0, 1) := by decide +kernel
theorem dX10_race_1 : decode cX10_race 1 = .ok (.getfield 69, 3) := by decide +kernel
theorem dX10_race_4 : decode cX10_race 4 = .ok (.iconst 4, 1) := by decide +kernel
theorem dX10_race_5 : decode cX10_race 5 = .ok (.if_icmp .lt 14, 3) := by decide +kernel
theorem dX10_race_8 : decode cX10_race 8 = .ok (.aload_n 0, 1) := by decide +kernel
theorem dX10_race_9 : decode cX10_race 9 = .ok (.getfield 47, 3) := by decide +kernel
theorem dX10_race_12 : decode cX10_race 12 = .ok (.iload_n 1, 1) := by decide +kernel
theorem dX10_race_13 : decode cX10_race 13 = .ok (.invokevirtual 236, 3) := by decide +kernel
theorem dX10_race_16 : decode cX10_race 16 = .ok (.goto 4, 3) := by decide +kernel
theorem dX10_race_19 : decode cX10_race 19 = .ok (.aconst_null, 1) := by decide +kernel
theorem dX10_race_20 : decode cX10_race 20 = .ok (.astore_n 3, 1) := by decide +kernel
theorem dX10_race_21 : decode cX10_race 21 = .ok (.aload_n 3, 1) := by decide +kernel
theorem dX10_race_22 : decode cX10_race 22 = .ok (.ifnonnull 6, 3) := by decide +kernel
theorem dX10_race_25 : decode cX10_race 25 = .ok (.bipush (-100), 2) := by decide +kernel
theorem dX10_race_27 : decode cX10_race 27 = .ok (.ireturn, 1) := by decide +kernel
theorem dX10_race_28 : decode cX10_race 28 = .ok (.iload_n 2, 1) := by decide +kernel
theorem dX10_race_29 : decode cX10_race 29 = .ok (.tableswitch 77 0 5 #[39, 44, 49, 54, 67, 72], 39) := by decide +kernel
theorem dX10_race_68 : decode cX10_race 68 = .ok (.aload_n 3, 1) := by decide +kernel
theorem dX10_race_69 : decode cX10_race 69 = .ok (.getfield 239, 3) := by decide +kernel
theorem dX10_race_72 : decode cX10_race 72 = .ok (.ireturn, 1) := by decide +kernel
theorem dX10_race_73 : decode cX10_race 73 = .ok (.aload_n 3, 1) := by decide +kernel
theorem dX10_race_74 : decode cX10_race 74 = .ok (.getfield 244, 3) := by decide +kernel
theorem dX10_race_77 : decode cX10_race 77 = .ok (.ireturn, 1) := by decide +kernel
theorem dX10_race_78 : decode cX10_race 78 = .ok (.aload_n 3, 1) := by decide +kernel
theorem dX10_race_79 : decode cX10_race 79 = .ok (.getfield 247, 3) := by decide +kernel
theorem dX10_race_82 : decode cX10_race 82 = .ok (.ireturn, 1) := by decide +kernel
theorem dX10_race_83 : decode cX10_race 83 = .ok (.aload_n 3, 1) := by decide +kernel
theorem dX10_race_84 : decode cX10_race 84 = .ok (.getfield 250, 3) := by decide +kernel
theorem dX10_race_87 : decode cX10_race 87 = .ok (.ifCond .eq 7, 3) := by decide +kernel
theorem dX10_race_90 : decode cX10_race 90 = .ok (.iconst 1, 1) := by decide +kernel
theorem dX10_race_91 : decode cX10_race 91 = .ok (.goto 4, 3) := by decide +kernel
theorem dX10_race_94 : decode cX10_race 94 = .ok (.iconst 0, 1) := by decide +kernel
theorem dX10_race_95 : decode cX10_race 95 = .ok (.ireturn, 1) := by decide +kernel
theorem dX10_race_96 : decode cX10_race 96 = .ok (.aload_n 3, 1) := by decide +kernel
theorem dX10_race_97 : decode cX10_race 97 = .ok (.getfield 254, 3) := by decide +kernel
theorem dX10_race_100 : decode cX10_race 100 = .ok (.ireturn, 1) := by decide +kernel
theorem dX10_race_101 : decode cX10_race 101 = .ok (.aload_n 3, 1) := by decide +kernel
theorem dX10_race_102 : decode cX10_race 102 = .ok (.getfield 257, 3) := by decide +kernel
theorem dX10_race_105 : decode cX10_race 105 = .ok (.ireturn, 1) := by decide +kernel
theorem dX10_race_106 : decode cX10_race 106 = .ok (.bipush (-100), 2) := by decide +kernel
theorem dX10_race_108 : decode cX10_race 108 = .ok (.ireturn, 1) := by decide +kernel
theorem dX10_won_0 : decode cX10_won 0 = .ok (.aload_n 0, 1) := by decide +kernel
theorem dX10_won_1 : decode cX10_won 1 = .ok (.getfield 69, 3) := by decide +kernel
theorem dX10_won_4 : decode cX10_won 4 = .ok (.iconst 4, 1) := by decide +kernel
theorem dX10_won_5 : decode cX10_won 5 = .ok (.if_icmp .lt 13, 3) := by decide +kernel
theorem dX10_won_8 : decode cX10_won 8 = .ok (.aload_n 0, 1) := by decide +kernel
theorem dX10_won_9 : decode cX10_won 9 = .ok (.getfield 47, 3) := by decide +kernel
theorem dX10_won_12 : decode cX10_won 12 = .ok (.getfield 230, 3) := by decide +kernel
theorem dX10_won_15 : decode cX10_won 15 = .ok (.goto 4, 3) := by decide +kernel
theorem dX10_won_18 : decode cX10_won 18 = .ok (.iconst (-1), 1) := by decide +kernel
theorem dX10_won_19 : decode cX10_won 19 = .ok (.ireturn, 1) := by decide +kernel
theorem dX10_pact_0 : decode cX10_pact 0 = .ok (.aload_n 0, 1) := by decide +kernel
theorem dX10_pact_1 : decode cX10_pact 1 = .ok (.getfield 26, 3) := by decide +kernel
theorem dX10_pact_4 : decode cX10_pact 4 = .ok (.iload_n 1, 1) := by decide +kernel
theorem dX10_pact_5 : decode cX10_pact 5 = .ok (.invokevirtual 194, 3) := by decide +kernel
theorem dX10_pact_8 : decode cX10_pact 8 = .ok (.ifCond .eq 31, 3) := by decide +kernel
theorem dX10_pact_11 : decode cX10_pact 11 = .ok (.aload_n 0, 1) := by decide +kernel
theorem dX10_pact_12 : decode cX10_pact 12 = .ok (.getfield 26, 3) := by decide +kernel
theorem dX10_pact_15 : decode cX10_pact 15 = .ok (.iload_n 2, 1) := by decide +kernel
theorem dX10_pact_16 : decode cX10_pact 16 = .ok (.invokevirtual 194, 3) := by decide +kernel
theorem dX10_pact_19 : decode cX10_pact 19 = .ok (.ifCond .eq 20, 3) := by decide +kernel
theorem dX10_pact_22 : decode cX10_pact 22 = .ok (.iload_n 1, 1) := by decide +kernel
theorem dX10_pact_23 : decode cX10_pact 23 = .ok (.iload_n 2, 1) := by decide +kernel
theorem dX10_pact_24 : decode cX10_pact 24 = .ok (.if_icmp .eq 15, 3) := by decide +kernel
theorem dX10_pact_27 : decode cX10_pact 27 = .ok (.iload_n 3, 1) := by decide +kernel
theorem dX10_pact_28 : decode cX10_pact 28 = .ok (.iconst 1, 1) := by decide +kernel
theorem dX10_pact_29 : decode cX10_pact 29 = .ok (.if_icmp .lt 10, 3) := by decide +kernel
theorem dX10_pact_32 : decode cX10_pact 32 = .ok (.iload_n 3, 1) := by decide +kernel
theorem dX10_pact_33 : decode cX10_pact 33 = .ok (.sipush 9999, 3) := by decide +kernel
theorem dX10_pact_36 : decode cX10_pact 36 = .ok (.if_icmp .le 5, 3) := by decide +kernel
theorem dX10_pact_39 : decode cX10_pact 39 = .ok (.iconst (-1), 1) := by decide +kernel
theorem dX10_pact_40 : decode cX10_pact 40 = .ok (.ireturn, 1) := by decide +kernel
theorem dX10_pact_41 : decode cX10_pact 41 = .ok (.aload_n 0, 1) := by decide +kernel
theorem dX10_pact_42 : decode cX10_pact 42 = .ok (.getfield 54, 3) := by decide +kernel
theorem dX10_pact_45 : decode cX10_pact 45 = .ok (.iload_n 1, 1) := by decide +kernel
theorem dX10_pact_46 : decode cX10_pact 46 = .ok (.iload_n 2, 1) := by decide +kernel
theorem dX10_pact_47 : decode cX10_pact 47 = .ok (.iload_n 3, 1) := by decide +kernel
theorem dX10_pact_48 : decode cX10_pact 48 = .ok (.invokevirtual 260, 3) := by decide +kernel
theorem dX10_pact_51 : decode cX10_pact 51 = .ok (.ireturn, 1) := by decide +kernel
theorem dX10_punish_0 : decode cX10_punish 0 = .ok (.aload_n 0, 1) := by decide +kernel
theorem dX10_punish_1 : decode cX10_punish 1 = .ok (.getfield 26, 3) := by decide +kernel
theorem dX10_punish_4 : decode cX10_punish 4 = .ok (.iload_n 1, 1) := by decide +kernel
theorem dX10_punish_5 : decode cX10_punish 5 = .ok (.invokevirtual 164, 3) := by decide +kernel
theorem dX10_punish_8 : decode cX10_punish 8 = .ok (.astore_n 2, 1) := by decide +kernel
theorem dX10_punish_9 : decode cX10_punish 9 = .ok (.aload_n 0, 1) := by decide +kernel
theorem dX10_punish_10 : decode cX10_punish 10 = .ok (.getfield 69, 3) := by decide +kernel
theorem dX10_punish_13 : decode cX10_punish 13 = .ok (.iconst 5, 1) := by decide +kernel
theorem dX10_punish_14 : decode cX10_punish 14 = .ok (.if_icmp .ne 14, 3) := by decide +kernel
theorem dX10_punish_17 : decode cX10_punish 17 = .ok (.aload_n 2, 1) := by decide +kernel
theorem dX10_punish_18 : decode cX10_punish 18 = .ok (.ifnull 10, 3) := by decide +kernel
theorem dX10_punish_21 : decode cX10_punish 21 = .ok (.aload_n 2, 1) := by decide +kernel
theorem dX10_punish_22 : decode cX10_punish 22 = .ok (.getfield 264, 3) := by decide +kernel
theorem dX10_punish_25 : decode cX10_punish 25 = .ok (.ifCond .ne 6, 3) := by decide +kernel
theorem dX10_punish_28 : decode cX10_punish 28 = .ok (.bipush (-2), 2) := by decide +kernel
theorem dX10_punish_30 : decode cX10_punish 30 = .ok (.ireturn, 1) := by decide +kernel
theorem dX10_punish_31 : decode cX10_punish 31 = .ok (.aload_n 0, 1) := by decide +kernel
theorem dX10_punish_32 : decode cX10_punish 32 = .ok (.getfield 19, 3) := by decide +kernel
theorem dX10_punish_35 : decode cX10_punish 35 = .ok (.iconst 4, 1) := by decide +kernel
theorem dX10_punish_36 : decode cX10_punish 36 = .ok (.aload_n 0, 1) := by decide +kernel
theorem dX10_punish_37 : decode cX10_punish 37 = .ok (.getfield 65, 3) := by decide +kernel
theorem dX10_punish_40 : decode cX10_punish 40 = .ok (.invokevirtual 103, 3) := by decide +kernel
theorem dX10_punish_43 : decode cX10_punish 43 = .ok (.istore_n 3, 1) := by decide +kernel
theorem dX10_punish_44 : decode cX10_punish 44 = .ok (.iload_n 3, 1) := by decide +kernel
theorem dX10_punish_45 : decode cX10_punish 45 = .ok (.ifCond .le 20, 3) := by decide +kernel
theorem dX10_punish_48 : decode cX10_punish 48 = .ok (.aload_n 2, 1) := by decide +kernel
theorem dX10_punish_49 : decode cX10_punish 49 = .ok (.aload_n 2, 1) := by decide +kernel
theorem dX10_punish_50 : decode cX10_punish 50 = .ok (.getfield 176, 3) := by decide +kernel
theorem dX10_punish_53 : decode cX10_punish 53 = .ok (.aload_n 0, 1) := by decide +kernel
theorem dX10_punish_54 : decode cX10_punish 54 = .ok (.getfield 65, 3) := by decide +kernel
theorem dX10_punish_57 : decode cX10_punish 57 = .ok (.iload_n 3, 1) := by decide +kernel
theorem dX10_punish_58 : decode cX10_punish 58 = .ok (.iadd, 1) := by decide +kernel
theorem dX10_punish_59 : decode cX10_punish 59 = .ok (.invokestatic 266, 3) := by decide +kernel
theorem dX10_punish_62 : decode cX10_punish 62 = .ok (.putfield 176, 3) := by decide +kernel
theorem dX10_punish_65 : decode cX10_punish 65 = .ok (.aload_n 2, 1) := by decide +kernel
theorem dX10_punish_66 : decode cX10_punish 66 = .ok (.getfield 176, 3) := by decide +kernel
theorem dX10_punish_69 : decode cX10_punish 69 = .ok (.ireturn, 1) := by decide +kernel
theorem dX10_next_0 : decode cX10_next 0 = .ok (.aload_n 0, 1) := by decide +kernel
theorem dX10_next_1 : decode cX10_next 1 = .ok (.getfield 69, 3) := by decide +kernel
theorem dX10_next_4 : decode cX10_next 4 = .ok (.iconst 4, 1) := by decide +kernel
theorem dX10_next_5 : decode cX10_next 5 = .ok (.if_icmp .eq 12, 3) := by decide +kernel
theorem dX10_next_8 : decode cX10_next 8 = .ok (.aload_n 0, 1) := by decide +kernel
theorem dX10_next_9 : decode cX10_next 9 = .ok (.getfield 65, 3) := by decide +kernel
theorem dX10_next_12 : decode cX10_next 12 = .ok (.bipush 99, 2) := by decide +kernel
theorem dX10_next_14 : decode cX10_next 14 = .ok (.if_icmp .lt 5, 3) := by decide +kernel
theorem dX10_next_17 : decode cX10_next 17 = .ok (.iconst (-1), 1) := by decide +kernel
theorem dX10_next_18 : decode cX10_next 18 = .ok (.ireturn, 1) := by decide +kernel
theorem dX10_next_19 : decode cX10_next 19 = .ok (.aload_n 0, 1) := by decide +kernel
theorem dX10_next_20 : decode cX10_next 20 = .ok (.dup, 1) := by decide +kernel
theorem dX10_next_21 : decode cX10_next 21 = .ok (.getfield 65, 3) := by decide +kernel
theorem dX10_next_24 : decode cX10_next 24 = .ok (.iconst 1, 1) := by decide +kernel
theorem dX10_next_25 : decode cX10_next 25 = .ok (.iadd, 1) := by decide +kernel
theorem dX10_next_26 : decode cX10_next 26 = .ok (.putfield 65, 3) := by decide +kernel
theorem dX10_next_29 : decode cX10_next 29 = .ok (.aload_n 0, 1) := by decide +kernel
theorem dX10_next_30 : decode cX10_next 30 = .ok (.iconst 0, 1) := by decide +kernel
theorem dX10_next_31 : decode cX10_next 31 = .ok (.putfield 69, 3) := by decide +kernel
theorem dX10_next_34 : decode cX10_next 34 = .ok (.aload_n 0, 1) := by decide +kernel
theorem dX10_next_35 : decode cX10_next 35 = .ok (.getfield 26, 3) := by decide +kernel
theorem dX10_next_38 : decode cX10_next 38 = .ok (.invokevirtual 269, 3) := by decide +kernel
theorem dX10_next_41 : decode cX10_next 41 = .ok (.aload_n 0, 1) := by decide +kernel
theorem dX10_next_42 : decode cX10_next 42 = .ok (.getfield 65, 3) := by decide +kernel
theorem dX10_next_45 : decode cX10_next 45 = .ok (.ireturn, 1) := by decide +kernel
theorem dX10_count_0 : decode cX10_count 0 = .ok (.iload_n 1, 1) := by decide +kernel
theorem dX10_count_1 : decode cX10_count 1 = .ok (.tableswitch 117 0 7 #[47, 52, 57, 77, 85, 93, 101, 109], 47) := by decide +kernel
theorem dX10_count_48 : decode cX10_count 48 = .ok (.aload_n 0, 1) := by decide +kernel
theorem dX10_count_49 : decode cX10_count 49 = .ok (.getfield 65, 3) := by decide +kernel
theorem dX10_count_52 : decode cX10_count 52 = .ok (.ireturn, 1) := by decide +kernel
theorem dX10_count_53 : decode cX10_count 53 = .ok (.aload_n 0, 1) := by decide +kernel
theorem dX10_count_54 : decode cX10_count 54 = .ok (.getfield 69, 3) := by decide +kernel
theorem dX10_count_57 : decode cX10_count 57 = .ok (.ireturn, 1) := by decide +kernel
theorem dX10_count_58 : decode cX10_count 58 = .ok (.aload_n 0, 1) := by decide +kernel
theorem dX10_count_59 : decode cX10_count 59 = .ok (.getfield 69, 3) := by decide +kernel
theorem dX10_count_62 : decode cX10_count 62 = .ok (.iconst 4, 1) := by decide +kernel
theorem dX10_count_63 : decode cX10_count 63 = .ok (.if_icmp .lt 13, 3) := by decide +kernel
theorem dX10_count_66 : decode cX10_count 66 = .ok (.aload_n 0, 1) := by decide +kernel
theorem dX10_count_67 : decode cX10_count 67 = .ok (.getfield 47, 3) := by decide +kernel
theorem dX10_count_70 : decode cX10_count 70 = .ok (.getfield 272, 3) := by decide +kernel
theorem dX10_count_73 : decode cX10_count 73 = .ok (.goto 4, 3) := by decide +kernel
theorem dX10_count_76 : decode cX10_count 76 = .ok (.iconst 0, 1) := by decide +kernel
theorem dX10_count_77 : decode cX10_count 77 = .ok (.ireturn, 1) := by decide +kernel
theorem dX10_count_78 : decode cX10_count 78 = .ok (.aload_n 0, 1) := by decide +kernel
theorem dX10_count_79 : decode cX10_count 79 = .ok (.getfield 26, 3) := by decide +kernel
theorem dX10_count_82 : decode cX10_count 82 = .ok (.getfield 275, 3) := by decide +kernel
theorem dX10_count_85 : decode cX10_count 85 = .ok (.ireturn, 1) := by decide +kernel
theorem dX10_count_86 : decode cX10_count 86 = .ok (.aload_n 0, 1) := by decide +kernel
theorem dX10_count_87 : decode cX10_count 87 = .ok (.getfield 33, 3) := by decide +kernel
theorem dX10_count_90 : decode cX10_count 90 = .ok (.getfield 278, 3) := by decide +kernel
theorem dX10_count_93 : decode cX10_count 93 = .ok (.ireturn, 1) := by decide +kernel
theorem dX10_count_94 : decode cX10_count 94 = .ok (.aload_n 0, 1) := by decide +kernel
theorem dX10_count_95 : decode cX10_count 95 = .ok (.getfield 54, 3) := by decide +kernel
theorem dX10_count_98 : decode cX10_count 98 = .ok (.getfield 279, 3) := by decide +kernel
theorem dX10_count_101 : decode cX10_count 101 = .ok (.ireturn, 1) := by decide +kernel
theorem dX10_count_102 : decode cX10_count 102 = .ok (.aload_n 0, 1) := by decide +kernel
theorem dX10_count_103 : decode cX10_count 103 = .ok (.getfield 19, 3) := by decide +kernel
theorem dX10_count_106 : decode cX10_count 106 = .ok (.getfield 83, 3) := by decide +kernel
theorem dX10_count_109 : decode cX10_count 109 = .ok (.ireturn, 1) := by decide +kernel
theorem dX10_count_110 : decode cX10_count 110 = .ok (.aload_n 0, 1) := by decide +kernel
theorem dX10_count_111 : decode cX10_count 111 = .ok (.getfield 47, 3) := by decide +kernel
theorem dX10_count_114 : decode cX10_count 114 = .ok (.getfield 188, 3) := by decide +kernel
theorem dX10_count_117 : decode cX10_count 117 = .ok (.ireturn, 1) := by decide +kernel
theorem dX10_count_118 : decode cX10_count 118 = .ok (.iconst (-1), 1) := by decide +kernel
theorem dX10_count_119 : decode cX10_count 119 = .ok (.ireturn, 1) := by decide +kernel
theorem dX10_isYear_0 : decode cX10_isYear 0 = .ok (.iload_n 0, 1) := by decide +kernel
theorem dX10_isYear_1 : decode cX10_isYear 1 = .ok (.ifCond .lt 13, 3) := by decide +kernel
theorem dX10_isYear_4 : decode cX10_isYear 4 = .ok (.iload_n 0, 1) := by decide +kernel
theorem dX10_isYear_5 : decode cX10_isYear 5 = .ok (.bipush 99, 2) := by decide +kernel
theorem dX10_isYear_7 : decode cX10_isYear 7 = .ok (.if_icmp .gt 7, 3) := by decide +kernel
theorem dX10_isYear_10 : decode cX10_isYear 10 = .ok (.iconst 1, 1) := by decide +kernel
theorem dX10_isYear_11 : decode cX10_isYear 11 = .ok (.goto 4, 3) := by decide +kernel
theorem dX10_isYear_14 : decode cX10_isYear 14 = .ok (.iconst 0, 1) := by decide +kernel
theorem dX10_isYear_15 : decode cX10_isYear 15 = .ok (.ireturn, 1) := by decide +kernel
theorem dX10_startRace_0 : decode cX10_startRace 0 = .ok (.aload_n 0, 1) := by decide +kernel
theorem dX10_startRace_1 : decode cX10_startRace 1 = .ok (.getfield 47, 3) := by decide +kernel
theorem dX10_startRace_4 : decode cX10_startRace 4 = .ok (.iload_n 1, 1) := by decide +kernel
theorem dX10_startRace_5 : decode cX10_startRace 5 = .ok (.invokevirtual 280, 3) := by decide +kernel
theorem dX10_startRace_8 : decode cX10_startRace 8 = .ok (.aload_n 0, 1) := by decide +kernel
theorem dX10_startRace_9 : decode cX10_startRace 9 = .ok (.getfield 47, 3) := by decide +kernel
theorem dX10_startRace_12 : decode cX10_startRace 12 = .ok (.aload_n 0, 1) := by decide +kernel
theorem dX10_startRace_13 : decode cX10_startRace 13 = .ok (.getfield 19, 3) := by decide +kernel
theorem dX10_startRace_16 : decode cX10_startRace 16 = .ok (.iconst 1, 1) := by decide +kernel
theorem dX10_startRace_17 : decode cX10_startRace 17 = .ok (.aload_n 0, 1) := by decide +kernel
theorem dX10_startRace_18 : decode cX10_startRace 18 = .ok (.getfield 65, 3) := by decide +kernel
theorem dX10_startRace_21 : decode cX10_startRace 21 = .ok (.invokevirtual 103, 3) := by decide +kernel
theorem dX10_startRace_24 : decode cX10_startRace 24 = .ok (.aload_n 0, 1) := by decide +kernel
theorem dX10_startRace_25 : decode cX10_startRace 25 = .ok (.getfield 19, 3) := by decide +kernel
theorem dX10_startRace_28 : decode cX10_startRace 28 = .ok (.iconst 2, 1) := by decide +kernel
theorem dX10_startRace_29 : decode cX10_startRace 29 = .ok (.aload_n 0, 1) := by decide +kernel
theorem dX10_startRace_30 : decode cX10_startRace 30 = .ok (.getfield 65, 3) := by decide +kernel
theorem dX10_startRace_33 : decode cX10_startRace 33 = .ok (.invokevirtual 103, 3) := by decide +kernel
theorem dX10_startRace_36 : decode cX10_startRace 36 = .ok (.aload_n 0, 1) := by decide +kernel
theorem dX10_startRace_37 : decode cX10_startRace 37 = .ok (.getfield 19, 3) := by decide +kernel
theorem dX10_startRace_40 : decode cX10_startRace 40 = .ok (.iconst 3, 1) := by decide +kernel
theorem dX10_startRace_41 : decode cX10_startRace 41 = .ok (.aload_n 0, 1) := by decide +kernel
theorem dX10_startRace_42 : decode cX10_startRace 42 = .ok (.getfield 65, 3) := by decide +kernel
theorem dX10_startRace_45 : decode cX10_startRace 45 = .ok (.invokevirtual 103, 3) := by decide +kernel
theorem dX10_startRace_48 : decode cX10_startRace 48 = .ok (.invokevirtual 281, 3) := by decide +kernel
theorem dX10_startRace_51 : decode cX10_startRace 51 = .ok (.iconst 0, 1) := by decide +kernel
theorem dX10_startRace_52 : decode cX10_startRace 52 = .ok (.istore_n 2, 1) := by decide +kernel
theorem dX10_startRace_53 : decode cX10_startRace 53 = .ok (.iload_n 2, 1) := by decide +kernel
theorem dX10_startRace_54 : decode cX10_startRace 54 = .ok (.aload_n 0, 1) := by decide +kernel
theorem dX10_startRace_55 : decode cX10_startRace 55 = .ok (.getfield 40, 3) := by decide +kernel
theorem dX10_startRace_58 : decode cX10_startRace 58 = .ok (.getfield 141, 3) := by decide +kernel
theorem dX10_startRace_61 : decode cX10_startRace 61 = .ok (.if_icmp .ge 65, 3) := by decide +kernel
theorem dX10_startRace_64 : decode cX10_startRace 64 = .ok (.aload_n 0, 1) := by decide +kernel
theorem dX10_startRace_65 : decode cX10_startRace 65 = .ok (.getfield 26, 3) := by decide +kernel
theorem dX10_startRace_68 : decode cX10_startRace 68 = .ok (.aload_n 0, 1) := by decide +kernel
theorem dX10_startRace_69 : decode cX10_startRace 69 = .ok (.getfield 40, 3) := by decide +kernel
theorem dX10_startRace_72 : decode cX10_startRace 72 = .ok (.getfield 161, 3) := by decide +kernel
theorem dX10_startRace_75 : decode cX10_startRace 75 = .ok (.iload_n 2, 1) := by decide +kernel
theorem dX10_startRace_76 : decode cX10_startRace 76 = .ok (.iaload, 1) := by decide +kernel
theorem dX10_startRace_77 : decode cX10_startRace 77 = .ok (.invokevirtual 164, 3) := by decide +kernel
theorem dX10_startRace_80 : decode cX10_startRace 80 = .ok (.astore_n 3, 1) := by decide +kernel
theorem dX10_startRace_81 : decode cX10_startRace 81 = .ok (.aload_n 3, 1) := by decide +kernel
theorem dX10_startRace_82 : decode cX10_startRace 82 = .ok (.ifnull 38, 3) := by decide +kernel
theorem dX10_startRace_85 : decode cX10_startRace 85 = .ok (.aload_n 0, 1) := by decide +kernel
theorem dX10_startRace_86 : decode cX10_startRace 86 = .ok (.getfield 47, 3) := by decide +kernel
theorem dX10_startRace_89 : decode cX10_startRace 89 = .ok (.aload_n 0, 1) := by decide +kernel
theorem dX10_startRace_90 : decode cX10_startRace 90 = .ok (.getfield 40, 3) := by decide +kernel
theorem dX10_startRace_93 : decode cX10_startRace 93 = .ok (.getfield 161, 3) := by decide +kernel
theorem dX10_startRace_96 : decode cX10_startRace 96 = .ok (.iload_n 2, 1) := by decide +kernel
theorem dX10_startRace_97 : decode cX10_startRace 97 = .ok (.iaload, 1) := by decide +kernel
theorem dX10_startRace_98 : decode cX10_startRace 98 = .ok (.aload_n 0, 1) := by decide +kernel
theorem dX10_startRace_99 : decode cX10_startRace 99 = .ok (.getfield 33, 3) := by decide +kernel
theorem dX10_startRace_102 : decode cX10_startRace 102 = .ok (.aload_n 3, 1) := by decide +kernel
theorem dX10_startRace_103 : decode cX10_startRace 103 = .ok (.getfield 168, 3) := by decide +kernel
theorem dX10_startRace_106 : decode cX10_startRace 106 = .ok (.invokevirtual 285, 3) := by decide +kernel
theorem dX10_startRace_109 : decode cX10_startRace 109 = .ok (.invokevirtual 288, 3) := by decide +kernel
theorem dX10_startRace_112 : decode cX10_startRace 112 = .ok (.aload_n 3, 1) := by decide +kernel
theorem dX10_startRace_113 : decode cX10_startRace 113 = .ok (.aload_n 0, 1) := by decide +kernel
theorem dX10_startRace_114 : decode cX10_startRace 114 = .ok (.getfield 65, 3) := by decide +kernel
theorem dX10_startRace_117 : decode cX10_startRace 117 = .ok (.putfield 173, 3) := by decide +kernel
theorem dX10_startRace_120 : decode cX10_startRace 120 = .ok (.iinc 2 1, 3) := by decide +kernel
theorem dX10_startRace_123 : decode cX10_startRace 123 = .ok (.goto (-70), 3) := by decide +kernel
theorem dX10_startRace_126 : decode cX10_startRace 126 = .ok (.aload_n 0, 1) := by decide +kernel
theorem dX10_startRace_127 : decode cX10_startRace 127 = .ok (.iconst 4, 1) := by decide +kernel
theorem dX10_startRace_128 : decode cX10_startRace 128 = .ok (.putfield 69, 3) := by decide +kernel
theorem dX10_startRace_131 : decode cX10_startRace 131 = .ok (.return_, 1) := by decide +kernel
theorem dX2_init_0 : decode cX2_init 0 = .ok (.aload_n 0, 1) := by decide +kernel
theorem dX2_init_1 : decode cX2_init 1 = .ok (.invokespecial 3, 3) := by decide +kernel
theorem dX2_init_4 : decode cX2_init 4 = .ok (.aload_n 0, 1) := by decide +kernel
theorem dX2_init_5 : decode cX2_init 5 = .ok (.bipush 20, 2) := by decide +kernel
theorem dX2_init_7 : decode cX2_init 7 = .ok (.putfield 9, 3) := by decide +kernel
theorem dX2_init_10 : decode cX2_init 10 = .ok (.aload_n 0, 1) := by decide +kernel
theorem dX2_init_11 : decode cX2_init 11 = .ok (.bipush 60, 2) := by decide +kernel
theorem dX2_init_13 : decode cX2_init 13 = .ok (.newarray .boolean, 2) := by decide +kernel
theorem dX2_init_15 : decode cX2_init 15 = .ok (.putfield 15, 3) := by decide +kernel
theorem dX2_init_18 : decode cX2_init 18 = .ok (.aload_n 0, 1) := by decide +kernel
theorem dX2_init_19 : decode cX2_init 19 = .ok (.bipush 17, 2) := by decide +kernel
theorem dX2_init_21 : decode cX2_init 21 = .ok (.newarray .int, 2) := by decide +kernel
theorem dX2_init_23 : decode cX2_init 23 = .ok (.putfield 19, 3) := by decide +kernel
theorem dX2_init_26 : decode cX2_init 26 = .ok (.aload_n 0, 1) := by decide +kernel
theorem dX2_init_27 : decode cX2_init 27 = .ok (.bipush 17, 2) := by decide +kernel
theorem dX2_init_29 : decode cX2_init 29 = .ok (.newarray .int, 2) := by decide +kernel
theorem dX2_init_31 : decode cX2_init 31 = .ok (.putfield 23, 3) := by decide +kernel
theorem dX2_init_34 : decode cX2_init 34 = .ok (.aload_n 0, 1) := by decide +kernel
theorem dX2_init_35 : decode cX2_init 35 = .ok (.bipush 10, 2) := by decide +kernel
theorem dX2_init_37 : decode cX2_init 37 = .ok (.anewarray 26, 3) := by decide +kernel
theorem dX2_init_40 : decode cX2_init 40 = .ok (.putfield 28, 3) := by decide +kernel
theorem dX2_init_43 : decode cX2_init 43 = .ok (.aload_n 0, 1) := by decide +kernel
theorem dX2_init_44 : decode cX2_init 44 = .ok (.bipush 10, 2) := by decide +kernel
theorem dX2_init_46 : decode cX2_init 46 = .ok (.newarray .int, 2) := by decide +kernel
theorem dX2_init_48 : decode cX2_init 48 = .ok (.putfield 32, 3) := by decide +kernel
theorem dX2_init_51 : decode cX2_init 51 = .ok (.aload_n 0, 1) := by decide +kernel
theorem dX2_init_52 : decode cX2_init 52 = .ok (.new 35, 3) := by decide +kernel
theorem dX2_init_55 : decode cX2_init 55 = .ok (.dup, 1) := by decide +kernel
theorem dX2_init_56 : decode cX2_init 56 = .ok (.invokespecial 37, 3) := by decide +kernel
theorem dX2_init_59 : decode cX2_init 59 = .ok (.putfield 38, 3) := by decide +kernel
theorem dX2_init_62 : decode cX2_init 62 = .ok (.aload_n 0, 1) := by decide +kernel
theorem dX2_init_63 : decode cX2_init 63 = .ok (.iconst (-1), 1) := by decide +kernel
theorem dX2_init_64 : decode cX2_init 64 = .ok (.putfield 42, 3) := by decide +kernel
theorem dX2_init_67 : decode cX2_init 67 = .ok (.iconst 0, 1) := by decide +kernel
theorem dX2_init_68 : decode cX2_init 68 = .ok (.istore_n 1, 1) := by decide +kernel
theorem dX2_init_69 : decode cX2_init 69 = .ok (.iload_n 1, 1) := by decide +kernel
theorem dX2_init_70 : decode cX2_init 70 = .ok (.bipush 10, 2) := by decide +kernel
theorem dX2_init_72 : decode cX2_init 72 = .ok (.if_icmp .ge 22, 3) := by decide +kernel
theorem dX2_init_75 : decode cX2_init 75 = .ok (.aload_n 0, 1) := by decide +kernel
theorem dX2_init_76 : decode cX2_init 76 = .ok (.getfield 28, 3) := by decide +kernel
theorem dX2_init_79 : decode cX2_init 79 = .ok (.iload_n 1, 1) := by decide +kernel
theorem dX2_init_80 : decode cX2_init 80 = .ok (.new 26, 3) := by decide +kernel
theorem dX2_init_83 : decode cX2_init 83 = .ok (.dup, 1) := by decide +kernel
theorem dX2_init_84 : decode cX2_init 84 = .ok (.invokespecial 45, 3) := by decide +kernel
theorem dX2_init_87 : decode cX2_init 87 = .ok (.aastore, 1) := by decide +kernel
theorem dX2_init_88 : decode cX2_init 88 = .ok (.iinc 1 1, 3) := by decide +kernel
theorem dX2_init_91 : decode cX2_init 91 = .ok (.goto (-22), 3) := by decide +kernel
theorem dX2_init_94 : decode cX2_init 94 = .ok (.return_, 1) := by decide +kernel
theorem dX2_layRing_0 : decode cX2_layRing 0 = .ok (.aload_n 0, 1) := by decide +kernel
theorem dX2_layRing_1 : decode cX2_layRing 1 = .ok (.iload_n 1, 1) := by decide +kernel
theorem dX2_layRing_2 : decode cX2_layRing 2 = .ok (.putfield 9, 3) := by decide +kernel
theorem dX2_layRing_5 : decode cX2_layRing 5 = .ok (.iconst 0, 1) := by decide +kernel
theorem dX2_layRing_6 : decode cX2_layRing 6 = .ok (.istore_n 2, 1) := by decide +kernel
theorem dX2_layRing_7 : decode cX2_layRing 7 = .ok (.iload_n 2, 1) := by decide +kernel
theorem dX2_layRing_8 : decode cX2_layRing 8 = .ok (.bipush 60, 2) := by decide +kernel
theorem dX2_layRing_10 : decode cX2_layRing 10 = .ok (.if_icmp .ge 16, 3) := by decide +kernel
theorem dX2_layRing_13 : decode cX2_layRing 13 = .ok (.aload_n 0, 1) := by decide +kernel
theorem dX2_layRing_14 : decode cX2_layRing 14 = .ok (.getfield 15, 3) := by decide +kernel
theorem dX2_layRing_17 : decode cX2_layRing 17 = .ok (.iload_n 2, 1) := by decide +kernel
theorem dX2_layRing_18 : decode cX2_layRing 18 = .ok (.iconst 0, 1) := by decide +kernel
theorem dX2_layRing_19 : decode cX2_layRing 19 = .ok (.bastore, 1) := by decide +kernel
theorem dX2_layRing_20 : decode cX2_layRing 20 = .ok (.iinc 2 1, 3) := by decide +kernel
theorem dX2_layRing_23 : decode cX2_layRing 23 = .ok (.goto (-16), 3) := by decide +kernel
theorem dX2_layRing_26 : decode cX2_layRing 26 = .ok (.return_, 1) := by decide +kernel
theorem dX2_begin_0 : decode cX2_begin 0 = .ok (.aload_n 0, 1) := by decide +kernel
theorem dX2_begin_1 : decode cX2_begin 1 = .ok (.getfield 38, 3) := by decide +kernel
theorem dX2_begin_4 : decode cX2_begin 4 = .ok (.iload_n 1, 1) := by decide +kernel
theorem dX2_begin_5 : decode cX2_begin 5 = .ok (.invokevirtual 46, 3) := by decide +kernel
theorem dX2_begin_8 : decode cX2_begin 8 = .ok (.aload_n 0, 1) := by decide +kernel
theorem dX2_begin_9 : decode cX2_begin 9 = .ok (.iconst 0, 1) := by decide +kernel
theorem dX2_begin_10 : decode cX2_begin 10 = .ok (.putfield 50, 3) := by decide +kernel
theorem dX2_begin_13 : decode cX2_begin 13 = .ok (.aload_n 0, 1) := by decide +kernel
theorem dX2_begin_14 : decode cX2_begin 14 = .ok (.iconst 0, 1) := by decide +kernel
theorem dX2_begin_15 : decode cX2_begin 15 = .ok (.putfield 53, 3) := by decide +kernel
theorem dX2_begin_18 : decode cX2_begin 18 = .ok (.aload_n 0, 1) := by decide +kernel
theorem dX2_begin_19 : decode cX2_begin 19 = .ok (.iconst 0, 1) := by decide +kernel
theorem dX2_begin_20 : decode cX2_begin 20 = .ok (.putfield 56, 3) := by decide +kernel
theorem dX2_begin_23 : decode cX2_begin 23 = .ok (.aload_n 0, 1) := by decide +kernel
theorem dX2_begin_24 : decode cX2_begin 24 = .ok (.iconst (-1), 1) := by decide +kernel
theorem dX2_begin_25 : decode cX2_begin 25 = .ok (.putfield 42, 3) := by decide +kernel
theorem dX2_begin_28 : decode cX2_begin 28 = .ok (.return_, 1) := by decide +kernel
theorem dX2_setLaws_0 : decode cX2_setLaws 0 = .ok (.aload_n 0, 1) := by decide +kernel
theorem dX2_setLaws_1 : decode cX2_setLaws 1 = .ok (.iload_n 1, 1) := by decide +kernel
theorem dX2_setLaws_2 : decode cX2_setLaws 2 = .ok (.putfield 59, 3) := by decide +kernel
theorem dX2_setLaws_5 : decode cX2_setLaws 5 = .ok (.aload_n 0, 1) := by decide +kernel
theorem dX2_setLaws_6 : decode cX2_setLaws 6 = .ok (.iload_n 2, 1) := by decide +kernel
theorem dX2_setLaws_7 : decode cX2_setLaws 7 = .ok (.putfield 62, 3) := by decide +kernel
theorem dX2_setLaws_10 : decode cX2_setLaws 10 = .ok (.aload_n 0, 1) := by decide +kernel
theorem dX2_setLaws_11 : decode cX2_setLaws 11 = .ok (.iload_n 3, 1) := by decide +kernel
theorem dX2_setLaws_12 : decode cX2_setLaws 12 = .ok (.iconst 1, 1) := by decide +kernel
theorem dX2_setLaws_13 : decode cX2_setLaws 13 = .ok (.if_icmp .ne 7, 3) := by decide +kernel
theorem dX2_setLaws_16 : decode cX2_setLaws 16 = .ok (.iconst 1, 1) := by decide +kernel
theorem dX2_setLaws_17 : decode cX2_setLaws 17 = .ok (.goto 4, 3) := by decide +kernel
theorem dX2_setLaws_20 : decode cX2_setLaws 20 = .ok (.iconst 0, 1) := by decide +kernel
theorem dX2_setLaws_21 : decode cX2_setLaws 21 = .ok (.putfield 65, 3) := by decide +kernel
theorem dX2_setLaws_24 : decode cX2_setLaws 24 = .ok (.return_, 1) := by decide +kernel
theorem dX2_enter_0 : decode cX2_enter 0 = .ok (.aload_n 0, 1) := by decide +kernel
theorem dX2_enter_1 : decode cX2_enter 1 = .ok (.getfield 50, 3) := by decide +kernel
theorem dX2_enter_4 : decode cX2_enter 4 = .ok (.bipush 10, 2) := by decide +kernel
theorem dX2_enter_6 : decode cX2_enter 6 = .ok (.if_icmp .ge 31, 3) := by decide +kernel
theorem dX2_enter_9 : decode cX2_enter 9 = .ok (.aload_n 0, 1) := by decide +kernel
theorem dX2_enter_10 : decode cX2_enter 10 = .ok (.getfield 28, 3) := by decide +kernel
theorem dX2_enter_13 : decode cX2_enter 13 = .ok (.aload_n 0, 1) := by decide +kernel
theorem dX2_enter_14 : decode cX2_enter 14 = .ok (.getfield 50, 3) := by decide +kernel
theorem dX2_enter_17 : decode cX2_enter 17 = .ok (.aaload, 1) := by decide +kernel
theorem dX2_enter_18 : decode cX2_enter 18 = .ok (.iload_n 1, 1) := by decide +kernel
theorem dX2_enter_19 : decode cX2_enter 19 = .ok (.iload_n 2, 1) := by decide +kernel
theorem dX2_enter_20 : decode cX2_enter 20 = .ok (.aload_n 0, 1) := by decide +kernel
theorem dX2_enter_21 : decode cX2_enter 21 = .ok (.getfield 50, 3) := by decide +kernel
theorem dX2_enter_24 : decode cX2_enter 24 = .ok (.invokevirtual 69, 3) := by decide +kernel
theorem dX2_enter_27 : decode cX2_enter 27 = .ok (.aload_n 0, 1) := by decide +kernel
theorem dX2_enter_28 : decode cX2_enter 28 = .ok (.dup, 1) := by decide +kernel
theorem dX2_enter_29 : decode cX2_enter 29 = .ok (.getfield 50, 3) := by decide +kernel
theorem dX2_enter_32 : decode cX2_enter 32 = .ok (.iconst 1, 1) := by decide +kernel
theorem dX2_enter_33 : decode cX2_enter 33 = .ok (.iadd, 1) := by decide +kernel
theorem dX2_enter_34 : decode cX2_enter 34 = .ok (.putfield 50, 3) := by decide +kernel
theorem dX2_enter_37 : decode cX2_enter 37 = .ok (.return_, 1) := by decide +kernel
theorem dX2_find_0 : decode cX2_find 0 = .ok (.iconst 0, 1) := by decide +kernel
theorem dX2_find_1 : decode cX2_find 1 = .ok (.istore_n 2, 1) := by decide +kernel
theorem dX2_find_2 : decode cX2_find 2 = .ok (.iload_n 2, 1) := by decide +kernel
theorem dX2_find_3 : decode cX2_find 3 = .ok (.aload_n 0, 1) := by decide +kernel
theorem dX2_find_4 : decode cX2_find 4 = .ok (.getfield 50, 3) := by decide +kernel
theorem dX2_find_7 : decode cX2_find 7 = .ok (.if_icmp .ge 29, 3) := by decide +kernel
theorem dX2_find_10 : decode cX2_find 10 = .ok (.aload_n 0, 1) := by decide +kernel
theorem dX2_find_11 : decode cX2_find 11 = .ok (.getfield 28, 3) := by decide +kernel
theorem dX2_find_14 : decode cX2_find 14 = .ok (.iload_n 2, 1) := by decide +kernel
theorem dX2_find_15 : decode cX2_find 15 = .ok (.aaload, 1) := by decide +kernel
theorem dX2_find_16 : decode cX2_find 16 = .ok (.getfield 72, 3) := by decide +kernel
theorem dX2_find_19 : decode cX2_find 19 = .ok (.iload_n 1, 1) := by decide +kernel
theorem dX2_find_20 : decode cX2_find 20 = .ok (.if_icmp .ne 10, 3) := by decide +kernel
theorem dX2_find_23 : decode cX2_find 23 = .ok (.aload_n 0, 1) := by decide +kernel
theorem dX2_find_24 : decode cX2_find 24 = .ok (.getfield 28, 3) := by decide +kernel
theorem dX2_find_27 : decode cX2_find 27 = .ok (.iload_n 2, 1) := by decide +kernel
theorem dX2_find_28 : decode cX2_find 28 = .ok (.aaload, 1) := by decide +kernel
theorem dX2_find_29 : decode cX2_find 29 = .ok (.areturn, 1) := by decide +kernel
theorem dX2_find_30 : decode cX2_find 30 = .ok (.iinc 2 1, 3) := by decide +kernel
theorem dX2_find_33 : decode cX2_find 33 = .ok (.goto (-31), 3) := by decide +kernel
theorem dX2_find_36 : decode cX2_find 36 = .ok (.aconst_null, 1) := by decide +kernel
theorem dX2_find_37 : decode cX2_find 37 = .ok (.areturn, 1) := by decide +kernel
theorem dX2_isOver_0 : decode cX2_isOver 0 = .ok (.aload_n 0, 1) := by decide +kernel
theorem dX2_isOver_1 : decode cX2_isOver 1 = .ok (.getfield 56, 3) := by decide +kernel
theorem dX2_isOver_4 : decode cX2_isOver 4 = .ok (.aload_n 0, 1) := by decide +kernel
theorem dX2_isOver_5 : decode cX2_isOver 5 = .ok (.getfield 50, 3) := by decide +kernel
theorem dX2_isOver_8 : decode cX2_isOver 8 = .ok (.if_icmp .ge 13, 3) := by decide +kernel
theorem dX2_isOver_11 : decode cX2_isOver 11 = .ok (.aload_n 0, 1) := by decide +kernel
theorem dX2_isOver_12 : decode cX2_isOver 12 = .ok (.getfield 53, 3) := by decide +kernel
theorem dX2_isOver_15 : decode cX2_isOver 15 = .ok (.sipush 400, 3) := by decide +kernel
theorem dX2_isOver_18 : decode cX2_isOver 18 = .ok (.if_icmp .lt 7, 3) := by decide +kernel
theorem dX2_isOver_21 : decode cX2_isOver 21 = .ok (.iconst 1, 1) := by decide +kernel
theorem dX2_isOver_22 : decode cX2_isOver 22 = .ok (.goto 4, 3) := by decide +kernel
theorem dX2_isOver_25 : decode cX2_isOver 25 = .ok (.iconst 0, 1) := by decide +kernel
theorem dX2_isOver_26 : decode cX2_isOver 26 = .ok (.ireturn, 1) := by decide +kernel
theorem dX2_tick_0 : decode cX2_tick 0 = .ok (.aload_n 0, 1) := by decide +kernel
theorem dX2_tick_1 : decode cX2_tick 1 = .ok (.invokevirtual 75, 3) := by decide +kernel
theorem dX2_tick_4 : decode cX2_tick 4 = .ok (.istore_n 1, 1) := by decide +kernel
theorem dX2_tick_5 : decode cX2_tick 5 = .ok (.iconst 0, 1) := by decide +kernel
theorem dX2_tick_6 : decode cX2_tick 6 = .ok (.istore_n 2, 1) := by decide +kernel
theorem dX2_tick_7 : decode cX2_tick 7 = .ok (.iload_n 2, 1) := by decide +kernel
theorem dX2_tick_8 : decode cX2_tick 8 = .ok (.iload_n 1, 1) := by decide +kernel
theorem dX2_tick_9 : decode cX2_tick 9 = .ok (.if_icmp .ge 24, 3) := by decide +kernel
theorem dX2_tick_12 : decode cX2_tick 12 = .ok (.aload_n 0, 1) := by decide +kernel
theorem dX2_tick_13 : decode cX2_tick 13 = .ok (.aload_n 0, 1) := by decide +kernel
theorem dX2_tick_14 : decode cX2_tick 14 = .ok (.getfield 28, 3) := by decide +kernel
theorem dX2_tick_17 : decode cX2_tick 17 = .ok (.aload_n 0, 1) := by decide +kernel
theorem dX2_tick_18 : decode cX2_tick 18 = .ok (.getfield 32, 3) := by decide +kernel
theorem dX2_tick_21 : decode cX2_tick 21 = .ok (.iload_n 2, 1) := by decide +kernel
theorem dX2_tick_22 : decode cX2_tick 22 = .ok (.iaload, 1) := by decide +kernel
theorem dX2_tick_23 : decode cX2_tick 23 = .ok (.aaload, 1) := by decide +kernel
theorem dX2_tick_24 : decode cX2_tick 24 = .ok (.invokevirtual 79, 3) := by decide +kernel
theorem dX2_tick_27 : decode cX2_tick 27 = .ok (.iinc 2 1, 3) := by decide +kernel
theorem dX2_tick_30 : decode cX2_tick 30 = .ok (.goto (-23), 3) := by decide +kernel
theorem dX2_tick_33 : decode cX2_tick 33 = .ok (.aload_n 0, 1) := by decide +kernel
theorem dX2_tick_34 : decode cX2_tick 34 = .ok (.dup, 1) := by decide +kernel
theorem dX2_tick_35 : decode cX2_tick 35 = .ok (.getfield 53, 3) := by decide +kernel
theorem dX2_tick_38 : decode cX2_tick 38 = .ok (.iconst 1, 1) := by decide +kernel
theorem dX2_tick_39 : decode cX2_tick 39 = .ok (.iadd, 1) := by decide +kernel
theorem dX2_tick_40 : decode cX2_tick 40 = .ok (.putfield 53, 3) := by decide +kernel
theorem dX2_tick_43 : decode cX2_tick 43 = .ok (.return_, 1) := by decide +kernel
theorem dX2_lineUp_0 : decode cX2_lineUp 0 = .ok (.iconst 0, 1) := by decide +kernel
theorem dX2_lineUp_1 : decode cX2_lineUp 1 = .ok (.istore_n 1, 1) := by decide +kernel
theorem dX2_lineUp_2 : decode cX2_lineUp 2 = .ok (.iconst 0, 1) := by decide +kernel
theorem dX2_lineUp_3 : decode cX2_lineUp 3 = .ok (.istore_n 2, 1) := by decide +kernel
theorem dX2_lineUp_4 : decode cX2_lineUp 4 = .ok (.iload_n 2, 1) := by decide +kernel
theorem dX2_lineUp_5 : decode cX2_lineUp 5 = .ok (.aload_n 0, 1) := by decide +kernel
theorem dX2_lineUp_6 : decode cX2_lineUp 6 = .ok (.getfield 50, 3) := by decide +kernel
theorem dX2_lineUp_9 : decode cX2_lineUp 9 = .ok (.if_icmp .ge 30, 3) := by decide +kernel
theorem dX2_lineUp_12 : decode cX2_lineUp 12 = .ok (.aload_n 0, 1) := by decide +kernel
theorem dX2_lineUp_13 : decode cX2_lineUp 13 = .ok (.getfield 28, 3) := by decide +kernel
theorem dX2_lineUp_16 : decode cX2_lineUp 16 = .ok (.iload_n 2, 1) := by decide +kernel
theorem dX2_lineUp_17 : decode cX2_lineUp 17 = .ok (.aaload, 1) := by decide +kernel
theorem dX2_lineUp_18 : decode cX2_lineUp 18 = .ok (.invokevirtual 83, 3) := by decide +kernel
theorem dX2_lineUp_21 : decode cX2_lineUp 21 = .ok (.ifCond .eq 12, 3) := by decide +kernel
theorem dX2_lineUp_24 : decode cX2_lineUp 24 = .ok (.aload_n 0, 1) := by decide +kernel
theorem dX2_lineUp_25 : decode cX2_lineUp 25 = .ok (.iload_n 2, 1) := by decide +kernel
theorem dX2_lineUp_26 : decode cX2_lineUp 26 = .ok (.iload_n 1, 1) := by decide +kernel
theorem dX2_lineUp_27 : decode cX2_lineUp 27 = .ok (.invokevirtual 87, 3) := by decide +kernel
theorem dX2_lineUp_30 : decode cX2_lineUp 30 = .ok (.iinc 1 1, 3) := by decide +kernel
theorem dX2_lineUp_33 : decode cX2_lineUp 33 = .ok (.iinc 2 1, 3) := by decide +kernel
theorem dX2_lineUp_36 : decode cX2_lineUp 36 = .ok (.goto (-32), 3) := by decide +kernel
theorem dX2_lineUp_39 : decode cX2_lineUp 39 = .ok (.iload_n 1, 1) := by decide +kernel
theorem dX2_lineUp_40 : decode cX2_lineUp 40 = .ok (.ireturn, 1) := by decide +kernel
theorem dX2_insertTurn_0 : decode cX2_insertTurn 0 = .ok (.iload_n 2, 1) := by decide +kernel
theorem dX2_insertTurn_1 : decode cX2_insertTurn 1 = .ok (.istore_n 3, 1) := by decide +kernel
theorem dX2_insertTurn_2 : decode cX2_insertTurn 2 = .ok (.iload_n 3, 1) := by decide +kernel
theorem dX2_insertTurn_3 : decode cX2_insertTurn 3 = .ok (.ifCond .le 48, 3) := by decide +kernel
theorem dX2_insertTurn_6 : decode cX2_insertTurn 6 = .ok (.aload_n 0, 1) := by decide +kernel
theorem dX2_insertTurn_7 : decode cX2_insertTurn 7 = .ok (.getfield 28, 3) := by decide +kernel
theorem dX2_insertTurn_10 : decode cX2_insertTurn 10 = .ok (.iload_n 1, 1) := by decide +kernel
theorem dX2_insertTurn_11 : decode cX2_insertTurn 11 = .ok (.aaload, 1) := by decide +kernel
theorem dX2_insertTurn_12 : decode cX2_insertTurn 12 = .ok (.aload_n 0, 1) := by decide +kernel
theorem dX2_insertTurn_13 : decode cX2_insertTurn 13 = .ok (.getfield 28, 3) := by decide +kernel
theorem dX2_insertTurn_16 : decode cX2_insertTurn 16 = .ok (.aload_n 0, 1) := by decide +kernel
theorem dX2_insertTurn_17 : decode cX2_insertTurn 17 = .ok (.getfield 32, 3) := by decide +kernel
theorem dX2_insertTurn_20 : decode cX2_insertTurn 20 = .ok (.iload_n 3, 1) := by decide +kernel
theorem dX2_insertTurn_21 : decode cX2_insertTurn 21 = .ok (.iconst 1, 1) := by decide +kernel
theorem dX2_insertTurn_22 : decode cX2_insertTurn 22 = .ok (.isub, 1) := by decide +kernel
theorem dX2_insertTurn_23 : decode cX2_insertTurn 23 = .ok (.iaload, 1) := by decide +kernel
theorem dX2_insertTurn_24 : decode cX2_insertTurn 24 = .ok (.aaload, 1) := by decide +kernel
theorem dX2_insertTurn_25 : decode cX2_insertTurn 25 = .ok (.invokevirtual 91, 3) := by decide +kernel
theorem dX2_insertTurn_28 : decode cX2_insertTurn 28 = .ok (.ifCond .eq 23, 3) := by decide +kernel
theorem dX2_insertTurn_31 : decode cX2_insertTurn 31 = .ok (.aload_n 0, 1) := by decide +kernel
theorem dX2_insertTurn_32 : decode cX2_insertTurn 32 = .ok (.getfield 32, 3) := by decide +kernel
theorem dX2_insertTurn_35 : decode cX2_insertTurn 35 = .ok (.iload_n 3, 1) := by decide +kernel
theorem dX2_insertTurn_36 : decode cX2_insertTurn 36 = .ok (.aload_n 0, 1) := by decide +kernel
theorem dX2_insertTurn_37 : decode cX2_insertTurn 37 = .ok (.getfield 32, 3) := by decide +kernel
theorem dX2_insertTurn_40 : decode cX2_insertTurn 40 = .ok (.iload_n 3, 1) := by decide +kernel
theorem dX2_insertTurn_41 : decode cX2_insertTurn 41 = .ok (.iconst 1, 1) := by decide +kernel
theorem dX2_insertTurn_42 : decode cX2_insertTurn 42 = .ok (.isub, 1) := by decide +kernel
theorem dX2_insertTurn_43 : decode cX2_insertTurn 43 = .ok (.iaload, 1) := by decide +kernel
theorem dX2_insertTurn_44 : decode cX2_insertTurn 44 = .ok (.iastore, 1) := by decide +kernel
theorem dX2_insertTurn_45 : decode cX2_insertTurn 45 = .ok (.iinc 3 (-1), 3) := by decide +kernel
theorem dX2_insertTurn_48 : decode cX2_insertTurn 48 = .ok (.goto (-46), 3) := by decide +kernel
theorem dX2_insertTurn_51 : decode cX2_insertTurn 51 = .ok (.aload_n 0, 1) := by decide +kernel
theorem dX2_insertTurn_52 : decode cX2_insertTurn 52 = .ok (.getfield 32, 3) := by decide +kernel
theorem dX2_insertTurn_55 : decode cX2_insertTurn 55 = .ok (.iload_n 3, 1) := by decide +kernel
theorem dX2_insertTurn_56 : decode cX2_insertTurn 56 = .ok (.iload_n 1, 1) := by decide +kernel
theorem dX2_insertTurn_57 : decode cX2_insertTurn 57 = .ok (.iastore, 1) := by decide +kernel
theorem dX2_insertTurn_58 : decode cX2_insertTurn 58 = .ok (.return_, 1) := by decide +kernel
theorem dX2_takeTurn_0 : decode cX2_takeTurn 0 = .ok (.aload_n 1, 1) := by decide +kernel
theorem dX2_takeTurn_1 : decode cX2_takeTurn 1 = .ok (.getfield 95, 3) := by decide +kernel
theorem dX2_takeTurn_4 : decode cX2_takeTurn 4 = .ok (.ifCond .ne 8, 3) := by decide +kernel
theorem dX2_takeTurn_7 : decode cX2_takeTurn 7 = .ok (.aload_n 0, 1) := by decide +kernel
theorem dX2_takeTurn_8 : decode cX2_takeTurn 8 = .ok (.aload_n 1, 1) := by decide +kernel
theorem dX2_takeTurn_9 : decode cX2_takeTurn 9 = .ok (.invokevirtual 98, 3) := by decide +kernel
theorem dX2_takeTurn_12 : decode cX2_takeTurn 12 = .ok (.aload_n 0, 1) := by decide +kernel
theorem dX2_takeTurn_13 : decode cX2_takeTurn 13 = .ok (.aload_n 1, 1) := by decide +kernel
theorem dX2_takeTurn_14 : decode cX2_takeTurn 14 = .ok (.invokevirtual 101, 3) := by decide +kernel
theorem dX2_takeTurn_17 : decode cX2_takeTurn 17 = .ok (.aload_n 1, 1) := by decide +kernel
theorem dX2_takeTurn_18 : decode cX2_takeTurn 18 = .ok (.getfield 104, 3) := by decide +kernel
theorem dX2_takeTurn_21 : decode cX2_takeTurn 21 = .ok (.istore_n 2, 1) := by decide +kernel
theorem dX2_takeTurn_22 : decode cX2_takeTurn 22 = .ok (.iconst 0, 1) := by decide +kernel
theorem dX2_takeTurn_23 : decode cX2_takeTurn 23 = .ok (.istore_n 3, 1) := by decide +kernel
theorem dX2_takeTurn_24 : decode cX2_takeTurn 24 = .ok (.iload_n 3, 1) := by decide +kernel
theorem dX2_takeTurn_25 : decode cX2_takeTurn 25 = .ok (.iload_n 2, 1) := by decide +kernel
theorem dX2_takeTurn_26 : decode cX2_takeTurn 26 = .ok (.if_icmp .ge 18, 3) := by decide +kernel
theorem dX2_takeTurn_29 : decode cX2_takeTurn 29 = .ok (.aload_n 0, 1) := by decide +kernel
theorem dX2_takeTurn_30 : decode cX2_takeTurn 30 = .ok (.aload_n 1, 1) := by decide +kernel
theorem dX2_takeTurn_31 : decode cX2_takeTurn 31 = .ok (.invokevirtual 107, 3) := by decide +kernel
theorem dX2_takeTurn_34 : decode cX2_takeTurn 34 = .ok (.ifCond .ne 4, 3) := by decide +kernel
theorem dX2_takeTurn_37 : decode cX2_takeTurn 37 = .ok (.return_, 1) := by decide +kernel
theorem dX2_takeTurn_38 : decode cX2_takeTurn 38 = .ok (.iinc 3 1, 3) := by decide +kernel
theorem dX2_takeTurn_41 : decode cX2_takeTurn 41 = .ok (.goto (-17), 3) := by decide +kernel
theorem dX2_takeTurn_44 : decode cX2_takeTurn 44 = .ok (.return_, 1) := by decide +kernel
theorem dX2_followOrders_0 : decode cX2_followOrders 0 = .ok (.aload_n 1, 1) := by decide +kernel
theorem dX2_followOrders_1 : decode cX2_followOrders 1 = .ok (.getfield 72, 3) := by decide +kernel
theorem dX2_followOrders_4 : decode cX2_followOrders 4 = .ok (.ifCond .lt 24, 3) := by decide +kernel
theorem dX2_followOrders_7 : decode cX2_followOrders 7 = .ok (.aload_n 1, 1) := by decide +kernel
theorem dX2_followOrders_8 : decode cX2_followOrders 8 = .ok (.getfield 72, 3) := by decide +kernel
theorem dX2_followOrders_11 : decode cX2_followOrders 11 = .ok (.bipush 17, 2) := by decide +kernel
theorem dX2_followOrders_13 : decode cX2_followOrders 13 = .ok (.if_icmp .ge 15, 3) := by decide +kernel
theorem dX2_followOrders_16 : decode cX2_followOrders 16 = .ok (.aload_n 0, 1) := by decide +kernel
theorem dX2_followOrders_17 : decode cX2_followOrders 17 = .ok (.getfield 19, 3) := by decide +kernel
theorem dX2_followOrders_20 : decode cX2_followOrders 20 = .ok (.aload_n 1, 1) := by decide +kernel
theorem dX2_followOrders_21 : decode cX2_followOrders 21 = .ok (.getfield 72, 3) := by decide +kernel
theorem dX2_followOrders_24 : decode cX2_followOrders 24 = .ok (.iaload, 1) := by decide +kernel
theorem dX2_followOrders_25 : decode cX2_followOrders 25 = .ok (.goto 4, 3) := by decide +kernel
theorem dX2_followOrders_28 : decode cX2_followOrders 28 = .ok (.iconst 0, 1) := by decide +kernel
theorem dX2_followOrders_29 : decode cX2_followOrders 29 = .ok (.istore_n 2, 1) := by decide +kernel
theorem dX2_followOrders_30 : decode cX2_followOrders 30 = .ok (.iload_n 2, 1) := by decide +kernel
theorem dX2_followOrders_31 : decode cX2_followOrders 31 = .ok (.ifCond .ne 7, 3) := by decide +kernel
theorem dX2_followOrders_34 : decode cX2_followOrders 34 = .ok (.aconst_null, 1) := by decide +kernel
theorem dX2_followOrders_35 : decode cX2_followOrders 35 = .ok (.goto 16, 3) := by decide +kernel
theorem dX2_followOrders_38 : decode cX2_followOrders 38 = .ok (.aload_n 0, 1) := by decide +kernel
theorem dX2_followOrders_39 : decode cX2_followOrders 39 = .ok (.aload_n 0, 1) := by decide +kernel
theorem dX2_followOrders_40 : decode cX2_followOrders 40 = .ok (.getfield 23, 3) := by decide +kernel
theorem dX2_followOrders_43 : decode cX2_followOrders 43 = .ok (.aload_n 1, 1) := by decide +kernel
theorem dX2_followOrders_44 : decode cX2_followOrders 44 = .ok (.getfield 72, 3) := by decide +kernel
theorem dX2_followOrders_47 : decode cX2_followOrders 47 = .ok (.iaload, 1) := by decide +kernel
theorem dX2_followOrders_48 : decode cX2_followOrders 48 = .ok (.invokevirtual 110, 3) := by decide +kernel
theorem dX2_followOrders_51 : decode cX2_followOrders 51 = .ok (.astore_n 3, 1) := by decide +kernel
theorem dX2_followOrders_52 : decode cX2_followOrders 52 = .ok (.aload_n 3, 1) := by decide +kernel
theorem dX2_followOrders_53 : decode cX2_followOrders 53 = .ok (.ifnull 18, 3) := by decide +kernel
theorem dX2_followOrders_56 : decode cX2_followOrders 56 = .ok (.aload_n 3, 1) := by decide +kernel
theorem dX2_followOrders_57 : decode cX2_followOrders 57 = .ok (.invokevirtual 83, 3) := by decide +kernel
theorem dX2_followOrders_60 : decode cX2_followOrders 60 = .ok (.ifCond .eq 11, 3) := by decide +kernel
theorem dX2_followOrders_63 : decode cX2_followOrders 63 = .ok (.aload_n 1, 1) := by decide +kernel
theorem dX2_followOrders_64 : decode cX2_followOrders 64 = .ok (.aload_n 3, 1) := by decide +kernel
theorem dX2_followOrders_65 : decode cX2_followOrders 65 = .ok (.invokevirtual 114, 3) := by decide +kernel
theorem dX2_followOrders_68 : decode cX2_followOrders 68 = .ok (.ifCond .ne 4, 3) := by decide +kernel
theorem dX2_followOrders_71 : decode cX2_followOrders 71 = .ok (.return_, 1) := by decide +kernel
theorem dX2_followOrders_72 : decode cX2_followOrders 72 = .ok (.aload_n 1, 1) := by decide +kernel
theorem dX2_followOrders_73 : decode cX2_followOrders 73 = .ok (.getfield 117, 3) := by decide +kernel
theorem dX2_followOrders_76 : decode cX2_followOrders 76 = .ok (.istore 4, 2) := by decide +kernel
theorem dX2_followOrders_78 : decode cX2_followOrders 78 = .ok (.iload_n 2, 1) := by decide +kernel
theorem dX2_followOrders_79 : decode cX2_followOrders 79 = .ok (.iconst 1, 1) := by decide +kernel
theorem dX2_followOrders_80 : decode cX2_followOrders 80 = .ok (.if_icmp .ne 41, 3) := by decide +kernel
theorem dX2_followOrders_83 : decode cX2_followOrders 83 = .ok (.iload 4, 2) := by decide +kernel
theorem dX2_followOrders_85 : decode cX2_followOrders 85 = .ok (.aload_n 3, 1) := by decide +kernel
theorem dX2_followOrders_86 : decode cX2_followOrders 86 = .ok (.getfield 117, 3) := by decide +kernel
theorem dX2_followOrders_89 : decode cX2_followOrders 89 = .ok (.isub, 1) := by decide +kernel
theorem dX2_followOrders_90 : decode cX2_followOrders 90 = .ok (.invokestatic 120, 3) := by decide +kernel
theorem dX2_followOrders_93 : decode cX2_followOrders 93 = .ok (.iconst 1, 1) := by decide +kernel
theorem dX2_followOrders_94 : decode cX2_followOrders 94 = .ok (.if_icmp .ne 27, 3) := by decide +kernel
theorem dX2_followOrders_97 : decode cX2_followOrders 97 = .ok (.aload_n 0, 1) := by decide +kernel
theorem dX2_followOrders_98 : decode cX2_followOrders 98 = .ok (.aload_n 1, 1) := by decide +kernel
theorem dX2_followOrders_99 : decode cX2_followOrders 99 = .ok (.getfield 126, 3) := by decide +kernel
theorem dX2_followOrders_102 : decode cX2_followOrders 102 = .ok (.aload_n 3, 1) := by decide +kernel
theorem dX2_followOrders_103 : decode cX2_followOrders 103 = .ok (.getfield 117, 3) := by decide +kernel
theorem dX2_followOrders_106 : decode cX2_followOrders 106 = .ok (.invokevirtual 129, 3) := by decide +kernel
theorem dX2_followOrders_109 : decode cX2_followOrders 109 = .ok (.ifCond .eq 12, 3) := by decide +kernel
theorem dX2_followOrders_112 : decode cX2_followOrders 112 = .ok (.aload_n 3, 1) := by decide +kernel
theorem dX2_followOrders_113 : decode cX2_followOrders 113 = .ok (.getfield 117, 3) := by decide +kernel
theorem dX2_followOrders_116 : decode cX2_followOrders 116 = .ok (.istore 4, 2) := by decide +kernel
theorem dX2_followOrders_118 : decode cX2_followOrders 118 = .ok (.goto 29, 3) := by decide +kernel
theorem dX2_followOrders_121 : decode cX2_followOrders 121 = .ok (.iload_n 2, 1) := by decide +kernel
theorem dX2_followOrders_122 : decode cX2_followOrders 122 = .ok (.iconst 2, 1) := by decide +kernel
theorem dX2_followOrders_123 : decode cX2_followOrders 123 = .ok (.if_icmp .ne 24, 3) := by decide +kernel
theorem dX2_followOrders_126 : decode cX2_followOrders 126 = .ok (.iload 4, 2) := by decide +kernel
theorem dX2_followOrders_128 : decode cX2_followOrders 128 = .ok (.aload_n 3, 1) := by decide +kernel
theorem dX2_followOrders_129 : decode cX2_followOrders 129 = .ok (.getfield 117, 3) := by decide +kernel
theorem dX2_followOrders_132 : decode cX2_followOrders 132 = .ok (.if_icmp .ne 15, 3) := by decide +kernel
theorem dX2_followOrders_135 : decode cX2_followOrders 135 = .ok (.aload_n 0, 1) := by decide +kernel
theorem dX2_followOrders_136 : decode cX2_followOrders 136 = .ok (.aload_n 1, 1) := by decide +kernel
theorem dX2_followOrders_137 : decode cX2_followOrders 137 = .ok (.getfield 126, 3) := by decide +kernel
theorem dX2_followOrders_140 : decode cX2_followOrders 140 = .ok (.iload 4, 2) := by decide +kernel
theorem dX2_followOrders_142 : decode cX2_followOrders 142 = .ok (.invokevirtual 133, 3) := by decide +kernel
theorem dX2_followOrders_145 : decode cX2_followOrders 145 = .ok (.istore 4, 2) := by decide +kernel
theorem dX2_followOrders_147 : decode cX2_followOrders 147 = .ok (.iload 4, 2) := by decide +kernel
theorem dX2_followOrders_149 : decode cX2_followOrders 149 = .ok (.iconst (-1), 1) := by decide +kernel
theorem dX2_followOrders_150 : decode cX2_followOrders 150 = .ok (.if_icmp .eq 9, 3) := by decide +kernel
theorem dX2_followOrders_153 : decode cX2_followOrders 153 = .ok (.aload_n 1, 1) := by decide +kernel
theorem dX2_followOrders_154 : decode cX2_followOrders 154 = .ok (.iload 4, 2) := by decide +kernel
theorem dX2_followOrders_156 : decode cX2_followOrders 156 = .ok (.putfield 117, 3) := by decide +kernel
theorem dX2_followOrders_159 : decode cX2_followOrders 159 = .ok (.return_, 1) := by decide +kernel
theorem dX2_setPace_0 : decode cX2_setPace 0 = .ok (.aload_n 1, 1) := by decide +kernel
theorem dX2_setPace_1 : decode cX2_setPace 1 = .ok (.getfield 104, 3) := by decide +kernel
theorem dX2_setPace_4 : decode cX2_setPace 4 = .ok (.iconst 1, 1) := by decide +kernel
theorem dX2_setPace_5 : decode cX2_setPace 5 = .ok (.iadd, 1) := by decide +kernel
theorem dX2_setPace_6 : decode cX2_setPace 6 = .ok (.aload_n 1, 1) := by decide +kernel
theorem dX2_setPace_7 : decode cX2_setPace 7 = .ok (.getfield 137, 3) := by decide +kernel
theorem dX2_setPace_10 : decode cX2_setPace 10 = .ok (.invokestatic 140, 3) := by decide +kernel
theorem dX2_setPace_13 : decode cX2_setPace 13 = .ok (.istore_n 2, 1) := by decide +kernel
theorem dX2_setPace_14 : decode cX2_setPace 14 = .ok (.aload_n 0, 1) := by decide +kernel
theorem dX2_setPace_15 : decode cX2_setPace 15 = .ok (.getfield 38, 3) := by decide +kernel
theorem dX2_setPace_18 : decode cX2_setPace 18 = .ok (.bipush 8, 2) := by decide +kernel
theorem dX2_setPace_20 : decode cX2_setPace 20 = .ok (.invokevirtual 143, 3) := by decide +kernel
theorem dX2_setPace_23 : decode cX2_setPace 23 = .ok (.ifCond .ne 6, 3) := by decide +kernel
theorem dX2_setPace_26 : decode cX2_setPace 26 = .ok (.iinc 2 (-1), 3) := by decide +kernel
theorem dX2_setPace_29 : decode cX2_setPace 29 = .ok (.aload_n 1, 1) := by decide +kernel
theorem dX2_setPace_30 : decode cX2_setPace 30 = .ok (.iload_n 2, 1) := by decide +kernel
theorem dX2_setPace_31 : decode cX2_setPace 31 = .ok (.iconst 1, 1) := by decide +kernel
theorem dX2_setPace_32 : decode cX2_setPace 32 = .ok (.invokestatic 146, 3) := by decide +kernel
theorem dX2_setPace_35 : decode cX2_setPace 35 = .ok (.putfield 104, 3) := by decide +kernel
theorem dX2_setPace_38 : decode cX2_setPace 38 = .ok (.return_, 1) := by decide +kernel
theorem dX2_stepOn_0 : decode cX2_stepOn 0 = .ok (.aload_n 1, 1) := by decide +kernel
theorem dX2_stepOn_1 : decode cX2_stepOn 1 = .ok (.getfield 126, 3) := by decide +kernel
theorem dX2_stepOn_4 : decode cX2_stepOn 4 = .ok (.iconst 1, 1) := by decide +kernel
theorem dX2_stepOn_5 : decode cX2_stepOn 5 = .ok (.iadd, 1) := by decide +kernel
theorem dX2_stepOn_6 : decode cX2_stepOn 6 = .ok (.istore_n 2, 1) := by decide +kernel
theorem dX2_stepOn_7 : decode cX2_stepOn 7 = .ok (.aload_n 0, 1) := by decide +kernel
theorem dX2_stepOn_8 : decode cX2_stepOn 8 = .ok (.iload_n 2, 1) := by decide +kernel
theorem dX2_stepOn_9 : decode cX2_stepOn 9 = .ok (.aload_n 1, 1) := by decide +kernel
theorem dX2_stepOn_10 : decode cX2_stepOn 10 = .ok (.getfield 117, 3) := by decide +kernel
theorem dX2_stepOn_13 : decode cX2_stepOn 13 = .ok (.invokevirtual 129, 3) := by decide +kernel
theorem dX2_stepOn_16 : decode cX2_stepOn 16 = .ok (.ifCond .eq 10, 3) := by decide +kernel
theorem dX2_stepOn_19 : decode cX2_stepOn 19 = .ok (.aload_n 1, 1) := by decide +kernel
theorem dX2_stepOn_20 : decode cX2_stepOn 20 = .ok (.getfield 117, 3) := by decide +kernel
theorem dX2_stepOn_23 : decode cX2_stepOn 23 = .ok (.goto 12, 3) := by decide +kernel
theorem dX2_stepOn_26 : decode cX2_stepOn 26 = .ok (.aload_n 0, 1) := by decide +kernel
theorem dX2_stepOn_27 : decode cX2_stepOn 27 = .ok (.iload_n 2, 1) := by decide +kernel
theorem dX2_stepOn_28 : decode cX2_stepOn 28 = .ok (.aload_n 1, 1) := by decide +kernel
theorem dX2_stepOn_29 : decode cX2_stepOn 29 = .ok (.getfield 117, 3) := by decide +kernel
theorem dX2_stepOn_32 : decode cX2_stepOn 32 = .ok (.invokevirtual 133, 3) := by decide +kernel
theorem dX2_stepOn_35 : decode cX2_stepOn 35 = .ok (.istore_n 3, 1) := by decide +kernel
theorem dX2_stepOn_36 : decode cX2_stepOn 36 = .ok (.iload_n 3, 1) := by decide +kernel
theorem dX2_stepOn_37 : decode cX2_stepOn 37 = .ok (.iconst (-1), 1) := by decide +kernel
theorem dX2_stepOn_38 : decode cX2_stepOn 38 = .ok (.if_icmp .ne 20, 3) := by decide +kernel
theorem dX2_stepOn_41 : decode cX2_stepOn 41 = .ok (.aload_n 1, 1) := by decide +kernel
theorem dX2_stepOn_42 : decode cX2_stepOn 42 = .ok (.iconst 0, 1) := by decide +kernel
theorem dX2_stepOn_43 : decode cX2_stepOn 43 = .ok (.putfield 104, 3) := by decide +kernel
theorem dX2_stepOn_46 : decode cX2_stepOn 46 = .ok (.aload_n 1, 1) := by decide +kernel
theorem dX2_stepOn_47 : decode cX2_stepOn 47 = .ok (.dup, 1) := by decide +kernel
theorem dX2_stepOn_48 : decode cX2_stepOn 48 = .ok (.getfield 149, 3) := by decide +kernel
theorem dX2_stepOn_51 : decode cX2_stepOn 51 = .ok (.iconst 1, 1) := by decide +kernel
theorem dX2_stepOn_52 : decode cX2_stepOn 52 = .ok (.iadd, 1) := by decide +kernel
theorem dX2_stepOn_53 : decode cX2_stepOn 53 = .ok (.putfield 149, 3) := by decide +kernel
theorem dX2_stepOn_56 : decode cX2_stepOn 56 = .ok (.iconst 0, 1) := by decide +kernel
theorem dX2_stepOn_57 : decode cX2_stepOn 57 = .ok (.ireturn, 1) := by decide +kernel
theorem dX2_stepOn_58 : decode cX2_stepOn 58 = .ok (.aload_n 1, 1) := by decide +kernel
theorem dX2_stepOn_59 : decode cX2_stepOn 59 = .ok (.iload_n 2, 1) := by decide +kernel
theorem dX2_stepOn_60 : decode cX2_stepOn 60 = .ok (.putfield 126, 3) := by decide +kernel
theorem dX2_stepOn_63 : decode cX2_stepOn 63 = .ok (.aload_n 1, 1) := by decide +kernel
theorem dX2_stepOn_64 : decode cX2_stepOn 64 = .ok (.iload_n 3, 1) := by decide +kernel
theorem dX2_stepOn_65 : decode cX2_stepOn 65 = .ok (.putfield 117, 3) := by decide +kernel
theorem dX2_stepOn_68 : decode cX2_stepOn 68 = .ok (.aload_n 0, 1) := by decide +kernel
theorem dX2_stepOn_69 : decode cX2_stepOn 69 = .ok (.aload_n 1, 1) := by decide +kernel
theorem dX2_stepOn_70 : decode cX2_stepOn 70 = .ok (.invokevirtual 152, 3) := by decide +kernel
theorem dX2_stepOn_73 : decode cX2_stepOn 73 = .ok (.istore 4, 2) := by decide +kernel
theorem dX2_stepOn_75 : decode cX2_stepOn 75 = .ok (.iload 4, 2) := by decide +kernel
theorem dX2_stepOn_77 : decode cX2_stepOn 77 = .ok (.ifCond .eq 13, 3) := by decide +kernel
theorem dX2_stepOn_80 : decode cX2_stepOn 80 = .ok (.aload_n 1, 1) := by decide +kernel
theorem dX2_stepOn_81 : decode cX2_stepOn 81 = .ok (.iconst 1, 1) := by decide +kernel
theorem dX2_stepOn_82 : decode cX2_stepOn 82 = .ok (.putfield 95, 3) := by decide +kernel
theorem dX2_stepOn_85 : decode cX2_stepOn 85 = .ok (.aload_n 1, 1) := by decide +kernel
theorem dX2_stepOn_86 : decode cX2_stepOn 86 = .ok (.iconst 1, 1) := by decide +kernel
theorem dX2_stepOn_87 : decode cX2_stepOn 87 = .ok (.putfield 104, 3) := by decide +kernel
theorem dX2_stepOn_90 : decode cX2_stepOn 90 = .ok (.iload_n 2, 1) := by decide +kernel
theorem dX2_stepOn_91 : decode cX2_stepOn 91 = .ok (.aload_n 0, 1) := by decide +kernel
theorem dX2_stepOn_92 : decode cX2_stepOn 92 = .ok (.getfield 59, 3) := by decide +kernel
theorem dX2_stepOn_95 : decode cX2_stepOn 95 = .ok (.aload_n 0, 1) := by decide +kernel
theorem dX2_stepOn_96 : decode cX2_stepOn 96 = .ok (.getfield 9, 3) := by decide +kernel
theorem dX2_stepOn_99 : decode cX2_stepOn 99 = .ok (.imul, 1) := by decide +kernel
theorem dX2_stepOn_100 : decode cX2_stepOn 100 = .ok (.if_icmp .ne 10, 3) := by decide +kernel
theorem dX2_stepOn_103 : decode cX2_stepOn 103 = .ok (.aload_n 0, 1) := by decide +kernel
theorem dX2_stepOn_104 : decode cX2_stepOn 104 = .ok (.aload_n 1, 1) := by decide +kernel
theorem dX2_stepOn_105 : decode cX2_stepOn 105 = .ok (.invokevirtual 155, 3) := by decide +kernel
theorem dX2_stepOn_108 : decode cX2_stepOn 108 = .ok (.iconst 0, 1) := by decide +kernel
theorem dX2_stepOn_109 : decode cX2_stepOn 109 = .ok (.ireturn, 1) := by decide +kernel
theorem dX2_stepOn_110 : decode cX2_stepOn 110 = .ok (.iload 4, 2) := by decide +kernel
theorem dX2_stepOn_112 : decode cX2_stepOn 112 = .ok (.ifCond .ne 7, 3) := by decide +kernel
theorem dX2_stepOn_115 : decode cX2_stepOn 115 = .ok (.iconst 1, 1) := by decide +kernel
theorem dX2_stepOn_116 : decode cX2_stepOn 116 = .ok (.goto 4, 3) := by decide +kernel
theorem dX2_stepOn_119 : decode cX2_stepOn 119 = .ok (.iconst 0, 1) := by decide +kernel
theorem dX2_stepOn_120 : decode cX2_stepOn 120 = .ok (.ireturn, 1) := by decide +kernel
theorem dX2_fallsHere_0 : decode cX2_fallsHere 0 = .ok (.aload_n 0, 1) := by decide +kernel
theorem dX2_fallsHere_1 : decode cX2_fallsHere 1 = .ok (.aload_n 1, 1) := by decide +kernel
theorem dX2_fallsHere_2 : decode cX2_fallsHere 2 = .ok (.getfield 126, 3) := by decide +kernel
theorem dX2_fallsHere_5 : decode cX2_fallsHere 5 = .ok (.invokevirtual 158, 3) := by decide +kernel
theorem dX2_fallsHere_8 : decode cX2_fallsHere 8 = .ok (.ifCond .eq 36, 3) := by decide +kernel
theorem dX2_fallsHere_11 : decode cX2_fallsHere 11 = .ok (.aload_n 1, 1) := by decide +kernel
theorem dX2_fallsHere_12 : decode cX2_fallsHere 12 = .ok (.getfield 95, 3) := by decide +kernel
theorem dX2_fallsHere_15 : decode cX2_fallsHere 15 = .ok (.ifCond .ne 29, 3) := by decide +kernel
theorem dX2_fallsHere_18 : decode cX2_fallsHere 18 = .ok (.aload_n 1, 1) := by decide +kernel
theorem dX2_fallsHere_19 : decode cX2_fallsHere 19 = .ok (.getfield 104, 3) := by decide +kernel
theorem dX2_fallsHere_22 : decode cX2_fallsHere 22 = .ok (.aload_n 0, 1) := by decide +kernel
theorem dX2_fallsHere_23 : decode cX2_fallsHere 23 = .ok (.getfield 62, 3) := by decide +kernel
theorem dX2_fallsHere_26 : decode cX2_fallsHere 26 = .ok (.if_icmp .le 18, 3) := by decide +kernel
theorem dX2_fallsHere_29 : decode cX2_fallsHere 29 = .ok (.aload_n 0, 1) := by decide +kernel
theorem dX2_fallsHere_30 : decode cX2_fallsHere 30 = .ok (.getfield 38, 3) := by decide +kernel
theorem dX2_fallsHere_33 : decode cX2_fallsHere 33 = .ok (.iconst 4, 1) := by decide +kernel
theorem dX2_fallsHere_34 : decode cX2_fallsHere 34 = .ok (.invokevirtual 143, 3) := by decide +kernel
theorem dX2_fallsHere_37 : decode cX2_fallsHere 37 = .ok (.ifCond .ne 7, 3) := by decide +kernel
theorem dX2_fallsHere_40 : decode cX2_fallsHere 40 = .ok (.iconst 1, 1) := by decide +kernel
theorem dX2_fallsHere_41 : decode cX2_fallsHere 41 = .ok (.goto 4, 3) := by decide +kernel
theorem dX2_fallsHere_44 : decode cX2_fallsHere 44 = .ok (.iconst 0, 1) := by decide +kernel
theorem dX2_fallsHere_45 : decode cX2_fallsHere 45 = .ok (.ireturn, 1) := by decide +kernel
theorem dX2_arrive_0 : decode cX2_arrive 0 = .ok (.aload_n 1, 1) := by decide +kernel
theorem dX2_arrive_1 : decode cX2_arrive 1 = .ok (.aload_n 0, 1) := by decide +kernel
theorem dX2_arrive_2 : decode cX2_arrive 2 = .ok (.getfield 56, 3) := by decide +kernel
theorem dX2_arrive_5 : decode cX2_arrive 5 = .ok (.putfield 162, 3) := by decide +kernel
theorem dX2_arrive_8 : decode cX2_arrive 8 = .ok (.aload_n 0, 1) := by decide +kernel
theorem dX2_arrive_9 : decode cX2_arrive 9 = .ok (.dup, 1) := by decide +kernel
theorem dX2_arrive_10 : decode cX2_arrive 10 = .ok (.getfield 56, 3) := by decide +kernel
theorem dX2_arrive_13 : decode cX2_arrive 13 = .ok (.iconst 1, 1) := by decide +kernel
theorem dX2_arrive_14 : decode cX2_arrive 14 = .ok (.iadd, 1) := by decide +kernel
theorem dX2_arrive_15 : decode cX2_arrive 15 = .ok (.putfield 56, 3) := by decide +kernel
theorem dX2_arrive_18 : decode cX2_arrive 18 = .ok (.aload_n 0, 1) := by decide +kernel
theorem dX2_arrive_19 : decode cX2_arrive 19 = .ok (.getfield 42, 3) := by decide +kernel
theorem dX2_arrive_22 : decode cX2_arrive 22 = .ok (.iconst (-1), 1) := by decide +kernel
theorem dX2_arrive_23 : decode cX2_arrive 23 = .ok (.if_icmp .ne 25, 3) := by decide +kernel
theorem dX2_arrive_26 : decode cX2_arrive 26 = .ok (.aload_n 0, 1) := by decide +kernel
theorem dX2_arrive_27 : decode cX2_arrive 27 = .ok (.getfield 65, 3) := by decide +kernel
theorem dX2_arrive_30 : decode cX2_arrive 30 = .ok (.ifCond .ne 10, 3) := by decide +kernel
theorem dX2_arrive_33 : decode cX2_arrive 33 = .ok (.aload_n 1, 1) := by decide +kernel
theorem dX2_arrive_34 : decode cX2_arrive 34 = .ok (.getfield 95, 3) := by decide +kernel
theorem dX2_arrive_37 : decode cX2_arrive 37 = .ok (.ifCond .ne 11, 3) := by decide +kernel
theorem dX2_arrive_40 : decode cX2_arrive 40 = .ok (.aload_n 0, 1) := by decide +kernel
theorem dX2_arrive_41 : decode cX2_arrive 41 = .ok (.aload_n 1, 1) := by decide +kernel
theorem dX2_arrive_42 : decode cX2_arrive 42 = .ok (.getfield 72, 3) := by decide +kernel
theorem dX2_arrive_45 : decode cX2_arrive 45 = .ok (.putfield 42, 3) := by decide +kernel
theorem dX2_arrive_48 : decode cX2_arrive 48 = .ok (.return_, 1) := by decide +kernel
theorem dX2_laneBeside_0 : decode cX2_laneBeside 0 = .ok (.iload_n 2, 1) := by decide +kernel
theorem dX2_laneBeside_1 : decode cX2_laneBeside 1 = .ok (.ifCond .le 18, 3) := by decide +kernel
theorem dX2_laneBeside_4 : decode cX2_laneBeside 4 = .ok (.aload_n 0, 1) := by decide +kernel
theorem dX2_laneBeside_5 : decode cX2_laneBeside 5 = .ok (.iload_n 1, 1) := by decide +kernel
theorem dX2_laneBeside_6 : decode cX2_laneBeside 6 = .ok (.iload_n 2, 1) := by decide +kernel
theorem dX2_laneBeside_7 : decode cX2_laneBeside 7 = .ok (.iconst 1, 1) := by decide +kernel
theorem dX2_laneBeside_8 : decode cX2_laneBeside 8 = .ok (.isub, 1) := by decide +kernel
theorem dX2_laneBeside_9 : decode cX2_laneBeside 9 = .ok (.invokevirtual 129, 3) := by decide +kernel
theorem dX2_laneBeside_12 : decode cX2_laneBeside 12 = .ok (.ifCond .eq 7, 3) := by decide +kernel
theorem dX2_laneBeside_15 : decode cX2_laneBeside 15 = .ok (.iload_n 2, 1) := by decide +kernel
theorem dX2_laneBeside_16 : decode cX2_laneBeside 16 = .ok (.iconst 1, 1) := by decide +kernel
theorem dX2_laneBeside_17 : decode cX2_laneBeside 17 = .ok (.isub, 1) := by decide +kernel
theorem dX2_laneBeside_18 : decode cX2_laneBeside 18 = .ok (.ireturn, 1) := by decide +kernel
theorem dX2_laneBeside_19 : decode cX2_laneBeside 19 = .ok (.iload_n 2, 1) := by decide +kernel
theorem dX2_laneBeside_20 : decode cX2_laneBeside 20 = .ok (.iconst 3, 1) := by decide +kernel
theorem dX2_laneBeside_21 : decode cX2_laneBeside 21 = .ok (.if_icmp .ge 20, 3) := by decide +kernel
theorem dX2_laneBeside_24 : decode cX2_laneBeside 24 = .ok (.aload_n 0, 1) := by decide +kernel
theorem dX2_laneBeside_25 : decode cX2_laneBeside 25 = .ok (.iload_n 1, 1) := by decide +kernel
theorem dX2_laneBeside_26 : decode cX2_laneBeside 26 = .ok (.iload_n 2, 1) := by decide +kernel
theorem dX2_laneBeside_27 : decode cX2_laneBeside 27 = .ok (.iconst 1, 1) := by decide +kernel
theorem dX2_laneBeside_28 : decode cX2_laneBeside 28 = .ok (.iadd, 1) := by decide +kernel
theorem dX2_laneBeside_29 : decode cX2_laneBeside 29 = .ok (.invokevirtual 129, 3) := by decide +kernel
theorem dX2_laneBeside_32 : decode cX2_laneBeside 32 = .ok (.ifCond .eq 9, 3) := by decide +kernel
theorem dX2_laneBeside_35 : decode cX2_laneBeside 35 = .ok (.iload_n 2, 1) := by decide +kernel
theorem dX2_laneBeside_36 : decode cX2_laneBeside 36 = .ok (.iconst 1, 1) := by decide +kernel
theorem dX2_laneBeside_37 : decode cX2_laneBeside 37 = .ok (.iadd, 1) := by decide +kernel
theorem dX2_laneBeside_38 : decode cX2_laneBeside 38 = .ok (.goto 4, 3) := by decide +kernel
theorem dX2_laneBeside_41 : decode cX2_laneBeside 41 = .ok (.iconst (-1), 1) := by decide +kernel
theorem dX2_laneBeside_42 : decode cX2_laneBeside 42 = .ok (.ireturn, 1) := by decide +kernel
theorem dX2_isFree_0 : decode cX2_isFree 0 = .ok (.iconst 0, 1) := by decide +kernel
theorem dX2_isFree_1 : decode cX2_isFree 1 = .ok (.istore_n 3, 1) := by decide +kernel
theorem dX2_isFree_2 : decode cX2_isFree 2 = .ok (.iload_n 3, 1) := by decide +kernel
theorem dX2_isFree_3 : decode cX2_isFree 3 = .ok (.aload_n 0, 1) := by decide +kernel
theorem dX2_isFree_4 : decode cX2_isFree 4 = .ok (.getfield 50, 3) := by decide +kernel
theorem dX2_isFree_7 : decode cX2_isFree 7 = .ok (.if_icmp .ge 58, 3) := by decide +kernel
theorem dX2_isFree_10 : decode cX2_isFree 10 = .ok (.aload_n 0, 1) := by decide +kernel
theorem dX2_isFree_11 : decode cX2_isFree 11 = .ok (.getfield 9, 3) := by decide +kernel
theorem dX2_isFree_14 : decode cX2_isFree 14 = .ok (.ifCond .le 51, 3) := by decide +kernel
theorem dX2_isFree_17 : decode cX2_isFree 17 = .ok (.aload_n 0, 1) := by decide +kernel
theorem dX2_isFree_18 : decode cX2_isFree 18 = .ok (.getfield 28, 3) := by decide +kernel
theorem dX2_isFree_21 : decode cX2_isFree 21 = .ok (.iload_n 3, 1) := by decide +kernel
theorem dX2_isFree_22 : decode cX2_isFree 22 = .ok (.aaload, 1) := by decide +kernel
theorem dX2_isFree_23 : decode cX2_isFree 23 = .ok (.astore 4, 2) := by decide +kernel
theorem dX2_isFree_25 : decode cX2_isFree 25 = .ok (.aload 4, 2) := by decide +kernel
theorem dX2_isFree_27 : decode cX2_isFree 27 = .ok (.invokevirtual 83, 3) := by decide +kernel
theorem dX2_isFree_30 : decode cX2_isFree 30 = .ok (.ifCond .eq 29, 3) := by decide +kernel
theorem dX2_isFree_33 : decode cX2_isFree 33 = .ok (.aload 4, 2) := by decide +kernel
theorem dX2_isFree_35 : decode cX2_isFree 35 = .ok (.getfield 117, 3) := by decide +kernel
theorem dX2_isFree_38 : decode cX2_isFree 38 = .ok (.iload_n 2, 1) := by decide +kernel
theorem dX2_isFree_39 : decode cX2_isFree 39 = .ok (.if_icmp .ne 20, 3) := by decide +kernel
theorem dX2_isFree_42 : decode cX2_isFree 42 = .ok (.aload 4, 2) := by decide +kernel
theorem dX2_isFree_44 : decode cX2_isFree 44 = .ok (.getfield 126, 3) := by decide +kernel
theorem dX2_isFree_47 : decode cX2_isFree 47 = .ok (.iload_n 1, 1) := by decide +kernel
theorem dX2_isFree_48 : decode cX2_isFree 48 = .ok (.isub, 1) := by decide +kernel
theorem dX2_isFree_49 : decode cX2_isFree 49 = .ok (.aload_n 0, 1) := by decide +kernel
theorem dX2_isFree_50 : decode cX2_isFree 50 = .ok (.getfield 9, 3) := by decide +kernel
theorem dX2_isFree_53 : decode cX2_isFree 53 = .ok (.irem, 1) := by decide +kernel
theorem dX2_isFree_54 : decode cX2_isFree 54 = .ok (.ifCond .ne 5, 3) := by decide +kernel
theorem dX2_isFree_57 : decode cX2_isFree 57 = .ok (.iconst 0, 1) := by decide +kernel
theorem dX2_isFree_58 : decode cX2_isFree 58 = .ok (.ireturn, 1) := by decide +kernel
theorem dX2_isFree_59 : decode cX2_isFree 59 = .ok (.iinc 3 1, 3) := by decide +kernel
theorem dX2_isFree_62 : decode cX2_isFree 62 = .ok (.goto (-60), 3) := by decide +kernel
theorem dX2_isFree_65 : decode cX2_isFree 65 = .ok (.iconst 1, 1) := by decide +kernel
theorem dX2_isFree_66 : decode cX2_isFree 66 = .ok (.ireturn, 1) := by decide +kernel
theorem dX2_isBend_0 : decode cX2_isBend 0 = .ok (.aload_n 0, 1) := by decide +kernel
theorem dX2_isBend_1 : decode cX2_isBend 1 = .ok (.getfield 9, 3) := by decide +kernel
theorem dX2_isBend_4 : decode cX2_isBend 4 = .ok (.ifCond .le 14, 3) := by decide +kernel
theorem dX2_isBend_7 : decode cX2_isBend 7 = .ok (.iload_n 1, 1) := by decide +kernel
theorem dX2_isBend_8 : decode cX2_isBend 8 = .ok (.aload_n 0, 1) := by decide +kernel
theorem dX2_isBend_9 : decode cX2_isBend 9 = .ok (.getfield 9, 3) := by decide +kernel
theorem dX2_isBend_12 : decode cX2_isBend 12 = .ok (.invokestatic 165, 3) := by decide +kernel
theorem dX2_isBend_15 : decode cX2_isBend 15 = .ok (.goto 4, 3) := by decide +kernel
theorem dX2_isBend_18 : decode cX2_isBend 18 = .ok (.iconst (-1), 1) := by decide +kernel
theorem dX2_isBend_19 : decode cX2_isBend 19 = .ok (.istore_n 2, 1) := by decide +kernel
theorem dX2_isBend_20 : decode cX2_isBend 20 = .ok (.iload_n 2, 1) := by decide +kernel
theorem dX2_isBend_21 : decode cX2_isBend 21 = .ok (.ifCond .lt 22, 3) := by decide +kernel
theorem dX2_isBend_24 : decode cX2_isBend 24 = .ok (.iload_n 2, 1) := by decide +kernel
theorem dX2_isBend_25 : decode cX2_isBend 25 = .ok (.bipush 60, 2) := by decide +kernel
theorem dX2_isBend_27 : decode cX2_isBend 27 = .ok (.if_icmp .ge 16, 3) := by decide +kernel
theorem dX2_isBend_30 : decode cX2_isBend 30 = .ok (.aload_n 0, 1) := by decide +kernel
theorem dX2_isBend_31 : decode cX2_isBend 31 = .ok (.getfield 15, 3) := by decide +kernel
theorem dX2_isBend_34 : decode cX2_isBend 34 = .ok (.iload_n 2, 1) := by decide +kernel
theorem dX2_isBend_35 : decode cX2_isBend 35 = .ok (.baload, 1) := by decide +kernel
theorem dX2_isBend_36 : decode cX2_isBend 36 = .ok (.ifCond .eq 7, 3) := by decide +kernel
theorem dX2_isBend_39 : decode cX2_isBend 39 = .ok (.iconst 1, 1) := by decide +kernel
theorem dX2_isBend_40 : decode cX2_isBend 40 = .ok (.goto 4, 3) := by decide +kernel
theorem dX2_isBend_43 : decode cX2_isBend 43 = .ok (.iconst 0, 1) := by decide +kernel
theorem dX2_isBend_44 : decode cX2_isBend 44 = .ok (.ireturn, 1) := by decide +kernel
theorem dX7_init_0 : decode cX7_init 0 = .ok (.aload_n 0, 1) := by decide +kernel
theorem dX7_init_1 : decode cX7_init 1 = .ok (.invokespecial 3, 3) := by decide +kernel
theorem dX7_init_4 : decode cX7_init 4 = .ok (.aload_n 0, 1) := by decide +kernel
theorem dX7_init_5 : decode cX7_init 5 = .ok (.sipush 600, 3) := by decide +kernel
theorem dX7_init_8 : decode cX7_init 8 = .ok (.newarray .byte, 2) := by decide +kernel
theorem dX7_init_10 : decode cX7_init 10 = .ok (.putfield 9, 3) := by decide +kernel
theorem dX7_init_13 : decode cX7_init 13 = .ok (.aload_n 0, 1) := by decide +kernel
theorem dX7_init_14 : decode cX7_init 14 = .ok (.bipush 7, 2) := by decide +kernel
theorem dX7_init_16 : decode cX7_init 16 = .ok (.newarray .int, 2) := by decide +kernel
theorem dX7_init_18 : decode cX7_init 18 = .ok (.putfield 15, 3) := by decide +kernel
theorem dX7_init_21 : decode cX7_init 21 = .ok (.aload_n 0, 1) := by decide +kernel
theorem dX7_init_22 : decode cX7_init 22 = .ok (.iconst 0, 1) := by decide +kernel
theorem dX7_init_23 : decode cX7_init 23 = .ok (.putfield 19, 3) := by decide +kernel
theorem dX7_init_26 : decode cX7_init 26 = .ok (.aload_n 0, 1) := by decide +kernel
theorem dX7_init_27 : decode cX7_init 27 = .ok (.iconst (-1), 1) := by decide +kernel
theorem dX7_init_28 : decode cX7_init 28 = .ok (.putfield 23, 3) := by decide +kernel
theorem dX7_init_31 : decode cX7_init 31 = .ok (.return_, 1) := by decide +kernel
theorem dX7_append_0 : decode cX7_append 0 = .ok (.bipush 24, 2) := by decide +kernel
theorem dX7_append_2 : decode cX7_append 2 = .ok (.istore_n 2, 1) := by decide +kernel
theorem dX7_append_3 : decode cX7_append 3 = .ok (.iload_n 2, 1) := by decide +kernel
theorem dX7_append_4 : decode cX7_append 4 = .ok (.ifCond .lt 42, 3) := by decide +kernel
theorem dX7_append_7 : decode cX7_append 7 = .ok (.aload_n 0, 1) := by decide +kernel
theorem dX7_append_8 : decode cX7_append 8 = .ok (.getfield 26, 3) := by decide +kernel
theorem dX7_append_11 : decode cX7_append 11 = .ok (.sipush 600, 3) := by decide +kernel
theorem dX7_append_14 : decode cX7_append 14 = .ok (.if_icmp .ge 32, 3) := by decide +kernel
theorem dX7_append_17 : decode cX7_append 17 = .ok (.aload_n 0, 1) := by decide +kernel
theorem dX7_append_18 : decode cX7_append 18 = .ok (.getfield 9, 3) := by decide +kernel
theorem dX7_append_21 : decode cX7_append 21 = .ok (.aload_n 0, 1) := by decide +kernel
theorem dX7_append_22 : decode cX7_append 22 = .ok (.getfield 26, 3) := by decide +kernel
theorem dX7_append_25 : decode cX7_append 25 = .ok (.iload_n 1, 1) := by decide +kernel
theorem dX7_append_26 : decode cX7_append 26 = .ok (.iload_n 2, 1) := by decide +kernel
theorem dX7_append_27 : decode cX7_append 27 = .ok (.ishr, 1) := by decide +kernel
theorem dX7_append_28 : decode cX7_append 28 = .ok (.i2b, 1) := by decide +kernel
theorem dX7_append_29 : decode cX7_append 29 = .ok (.bastore, 1) := by decide +kernel
theorem dX7_append_30 : decode cX7_append 30 = .ok (.aload_n 0, 1) := by decide +kernel
theorem dX7_append_31 : decode cX7_append 31 = .ok (.dup, 1) := by decide +kernel
theorem dX7_append_32 : decode cX7_append 32 = .ok (.getfield 26, 3) := by decide +kernel
theorem dX7_append_35 : decode cX7_append 35 = .ok (.iconst 1, 1) := by decide +kernel
theorem dX7_append_36 : decode cX7_append 36 = .ok (.iadd, 1) := by decide +kernel
theorem dX7_append_37 : decode cX7_append 37 = .ok (.putfield 26, 3) := by decide +kernel
theorem dX7_append_40 : decode cX7_append 40 = .ok (.iinc 2 (-8), 3) := by decide +kernel
theorem dX7_append_43 : decode cX7_append 43 = .ok (.goto (-40), 3) := by decide +kernel
theorem dX7_append_46 : decode cX7_append 46 = .ok (.return_, 1) := by decide +kernel
theorem dX7_readText_0 : decode cX7_readText 0 = .ok (.aload_n 0, 1) := by decide +kernel
theorem dX7_readText_1 : decode cX7_readText 1 = .ok (.iconst 0, 1) := by decide +kernel
theorem dX7_readText_2 : decode cX7_readText 2 = .ok (.putfield 29, 3) := by decide +kernel
theorem dX7_readText_5 : decode cX7_readText 5 = .ok (.aload_n 0, 1) := by decide +kernel
theorem dX7_readText_6 : decode cX7_readText 6 = .ok (.iload_n 1, 1) := by decide +kernel
theorem dX7_readText_7 : decode cX7_readText 7 = .ok (.aload_n 0, 1) := by decide +kernel
theorem dX7_readText_8 : decode cX7_readText 8 = .ok (.getfield 26, 3) := by decide +kernel
theorem dX7_readText_11 : decode cX7_readText 11 = .ok (.invokestatic 32, 3) := by decide +kernel
theorem dX7_readText_14 : decode cX7_readText 14 = .ok (.putfield 38, 3) := by decide +kernel
theorem dX7_readText_17 : decode cX7_readText 17 = .ok (.aload_n 0, 1) := by decide +kernel
theorem dX7_readText_18 : decode cX7_readText 18 = .ok (.iconst 0, 1) := by decide +kernel
theorem dX7_readText_19 : decode cX7_readText 19 = .ok (.putfield 19, 3) := by decide +kernel
theorem dX7_readText_22 : decode cX7_readText 22 = .ok (.aload_n 0, 1) := by decide +kernel
theorem dX7_readText_23 : decode cX7_readText 23 = .ok (.iconst (-1), 1) := by decide +kernel
theorem dX7_readText_24 : decode cX7_readText 24 = .ok (.putfield 23, 3) := by decide +kernel
theorem dX7_readText_27 : decode cX7_readText 27 = .ok (.aload_n 0, 1) := by decide +kernel
theorem dX7_readText_28 : decode cX7_readText 28 = .ok (.getfield 15, 3) := by decide +kernel
theorem dX7_readText_31 : decode cX7_readText 31 = .ok (.iconst (-1), 1) := by decide +kernel
theorem dX7_readText_32 : decode cX7_readText 32 = .ok (.invokestatic 41, 3) := by decide +kernel
theorem dX7_readText_35 : decode cX7_readText 35 = .ok (.aload_n 0, 1) := by decide +kernel
theorem dX7_readText_36 : decode cX7_readText 36 = .ok (.invokevirtual 47, 3) := by decide +kernel
theorem dX7_readText_39 : decode cX7_readText 39 = .ok (.iconst 0, 1) := by decide +kernel
theorem dX7_readText_40 : decode cX7_readText 40 = .ok (.istore_n 2, 1) := by decide +kernel
theorem dX7_readText_41 : decode cX7_readText 41 = .ok (.iload_n 2, 1) := by decide +kernel
theorem dX7_readText_42 : decode cX7_readText 42 = .ok (.iload_n 1, 1) := by decide +kernel
theorem dX7_readText_43 : decode cX7_readText 43 = .ok (.if_icmp .ge 35, 3) := by decide +kernel
theorem dX7_readText_46 : decode cX7_readText 46 = .ok (.aload_n 0, 1) := by decide +kernel
theorem dX7_readText_47 : decode cX7_readText 47 = .ok (.getfield 29, 3) := by decide +kernel
theorem dX7_readText_50 : decode cX7_readText 50 = .ok (.aload_n 0, 1) := by decide +kernel
theorem dX7_readText_51 : decode cX7_readText 51 = .ok (.getfield 38, 3) := by decide +kernel
theorem dX7_readText_54 : decode cX7_readText 54 = .ok (.if_icmp .ge 24, 3) := by decide +kernel
theorem dX7_readText_57 : decode cX7_readText 57 = .ok (.aload_n 0, 1) := by decide +kernel
theorem dX7_readText_58 : decode cX7_readText 58 = .ok (.getfield 19, 3) := by decide +kernel
theorem dX7_readText_61 : decode cX7_readText 61 = .ok (.ifCond .ne 17, 3) := by decide +kernel
theorem dX7_readText_64 : decode cX7_readText 64 = .ok (.aload_n 0, 1) := by decide +kernel
theorem dX7_readText_65 : decode cX7_readText 65 = .ok (.invokevirtual 50, 3) := by decide +kernel
theorem dX7_readText_68 : decode cX7_readText 68 = .ok (.aload_n 0, 1) := by decide +kernel
theorem dX7_readText_69 : decode cX7_readText 69 = .ok (.invokevirtual 47, 3) := by decide +kernel
theorem dX7_readText_72 : decode cX7_readText 72 = .ok (.iinc 2 1, 3) := by decide +kernel
theorem dX7_readText_75 : decode cX7_readText 75 = .ok (.goto (-34), 3) := by decide +kernel
theorem dX7_readText_78 : decode cX7_readText 78 = .ok (.aload_n 0, 1) := by decide +kernel
theorem dX7_readText_79 : decode cX7_readText 79 = .ok (.iconst 0, 1) := by decide +kernel
theorem dX7_readText_80 : decode cX7_readText 80 = .ok (.putfield 26, 3) := by decide +kernel
theorem dX7_readText_83 : decode cX7_readText 83 = .ok (.return_, 1) := by decide +kernel
theorem dX7_readLine_0 : decode cX7_readLine 0 = .ok (.aload_n 0, 1) := by decide +kernel
theorem dX7_readLine_1 : decode cX7_readLine 1 = .ok (.getfield 29, 3) := by decide +kernel
theorem dX7_readLine_4 : decode cX7_readLine 4 = .ok (.istore_n 1, 1) := by decide +kernel
theorem dX7_readLine_5 : decode cX7_readLine 5 = .ok (.aload_n 0, 1) := by decide +kernel
theorem dX7_readLine_6 : decode cX7_readLine 6 = .ok (.invokevirtual 53, 3) := by decide +kernel
theorem dX7_readLine_9 : decode cX7_readLine 9 = .ok (.istore_n 2, 1) := by decide +kernel
theorem dX7_readLine_10 : decode cX7_readLine 10 = .ok (.iload_n 2, 1) := by decide +kernel
theorem dX7_readLine_11 : decode cX7_readLine 11 = .ok (.iconst (-1), 1) := by decide +kernel
theorem dX7_readLine_12 : decode cX7_readLine 12 = .ok (.if_icmp .ne 10, 3) := by decide +kernel
theorem dX7_readLine_15 : decode cX7_readLine 15 = .ok (.aload_n 0, 1) := by decide +kernel
theorem dX7_readLine_16 : decode cX7_readLine 16 = .ok (.iconst 1, 1) := by decide +kernel
theorem dX7_readLine_17 : decode cX7_readLine 17 = .ok (.iload_n 1, 1) := by decide +kernel
theorem dX7_readLine_18 : decode cX7_readLine 18 = .ok (.invokevirtual 57, 3) := by decide +kernel
theorem dX7_readLine_21 : decode cX7_readLine 21 = .ok (.return_, 1) := by decide +kernel
theorem dX7_readLine_22 : decode cX7_readLine 22 = .ok (.aload_n 0, 1) := by decide +kernel
theorem dX7_readLine_23 : decode cX7_readLine 23 = .ok (.invokevirtual 47, 3) := by decide +kernel
theorem dX7_readLine_26 : decode cX7_readLine 26 = .ok (.aload_n 0, 1) := by decide +kernel
theorem dX7_readLine_27 : decode cX7_readLine 27 = .ok (.getfield 29, 3) := by decide +kernel
theorem dX7_readLine_30 : decode cX7_readLine 30 = .ok (.istore_n 3, 1) := by decide +kernel
theorem dX7_readLine_31 : decode cX7_readLine 31 = .ok (.aload_n 0, 1) := by decide +kernel
theorem dX7_readLine_32 : decode cX7_readLine 32 = .ok (.invokevirtual 61, 3) := by decide +kernel
theorem dX7_readLine_35 : decode cX7_readLine 35 = .ok (.istore 4, 2) := by decide +kernel
theorem dX7_readLine_37 : decode cX7_readLine 37 = .ok (.iload 4, 2) := by decide +kernel
theorem dX7_readLine_39 : decode cX7_readLine 39 = .ok (.iconst (-1), 1) := by decide +kernel
theorem dX7_readLine_40 : decode cX7_readLine 40 = .ok (.if_icmp .ne 12, 3) := by decide +kernel
theorem dX7_readLine_43 : decode cX7_readLine 43 = .ok (.aload_n 0, 1) := by decide +kernel
theorem dX7_readLine_44 : decode cX7_readLine 44 = .ok (.iconst 1, 1) := by decide +kernel
theorem dX7_readLine_45 : decode cX7_readLine 45 = .ok (.iload_n 3, 1) := by decide +kernel
theorem dX7_readLine_46 : decode cX7_readLine 46 = .ok (.invokevirtual 57, 3) := by decide +kernel
theorem dX7_readLine_49 : decode cX7_readLine 49 = .ok (.goto 63, 3) := by decide +kernel
theorem dX7_readLine_52 : decode cX7_readLine 52 = .ok (.iload 4, 2) := by decide +kernel
theorem dX7_readLine_54 : decode cX7_readLine 54 = .ok (.getstatic 64, 3) := by decide +kernel
theorem dX7_readLine_57 : decode cX7_readLine 57 = .ok (.iload_n 2, 1) := by decide +kernel
theorem dX7_readLine_58 : decode cX7_readLine 58 = .ok (.iaload, 1) := by decide +kernel
theorem dX7_readLine_59 : decode cX7_readLine 59 = .ok (.if_icmp .lt 13, 3) := by decide +kernel
theorem dX7_readLine_62 : decode cX7_readLine 62 = .ok (.iload 4, 2) := by decide +kernel
theorem dX7_readLine_64 : decode cX7_readLine 64 = .ok (.getstatic 67, 3) := by decide +kernel
theorem dX7_readLine_67 : decode cX7_readLine 67 = .ok (.iload_n 2, 1) := by decide +kernel
theorem dX7_readLine_68 : decode cX7_readLine 68 = .ok (.iaload, 1) := by decide +kernel
theorem dX7_readLine_69 : decode cX7_readLine 69 = .ok (.if_icmp .le 12, 3) := by decide +kernel
theorem dX7_readLine_72 : decode cX7_readLine 72 = .ok (.aload_n 0, 1) := by decide +kernel
theorem dX7_readLine_73 : decode cX7_readLine 73 = .ok (.iconst 2, 1) := by decide +kernel
theorem dX7_readLine_74 : decode cX7_readLine 74 = .ok (.iload_n 3, 1) := by decide +kernel
theorem dX7_readLine_75 : decode cX7_readLine 75 = .ok (.invokevirtual 57, 3) := by decide +kernel
theorem dX7_readLine_78 : decode cX7_readLine 78 = .ok (.goto 34, 3) := by decide +kernel
theorem dX7_readLine_81 : decode cX7_readLine 81 = .ok (.aload_n 0, 1) := by decide +kernel
theorem dX7_readLine_82 : decode cX7_readLine 82 = .ok (.getfield 15, 3) := by decide +kernel
theorem dX7_readLine_85 : decode cX7_readLine 85 = .ok (.iload_n 2, 1) := by decide +kernel
theorem dX7_readLine_86 : decode cX7_readLine 86 = .ok (.iaload, 1) := by decide +kernel
theorem dX7_readLine_87 : decode cX7_readLine 87 = .ok (.iconst (-1), 1) := by decide +kernel
theorem dX7_readLine_88 : decode cX7_readLine 88 = .ok (.if_icmp .eq 12, 3) := by decide +kernel
theorem dX7_readLine_91 : decode cX7_readLine 91 = .ok (.aload_n 0, 1) := by decide +kernel
theorem dX7_readLine_92 : decode cX7_readLine 92 = .ok (.iconst 3, 1) := by decide +kernel
theorem dX7_readLine_93 : decode cX7_readLine 93 = .ok (.iload_n 1, 1) := by decide +kernel
theorem dX7_readLine_94 : decode cX7_readLine 94 = .ok (.invokevirtual 57, 3) := by decide +kernel
theorem dX7_readLine_97 : decode cX7_readLine 97 = .ok (.goto 15, 3) := by decide +kernel
theorem dX7_readLine_100 : decode cX7_readLine 100 = .ok (.aload_n 0, 1) := by decide +kernel
theorem dX7_readLine_101 : decode cX7_readLine 101 = .ok (.getfield 15, 3) := by decide +kernel
theorem dX7_readLine_104 : decode cX7_readLine 104 = .ok (.iload_n 2, 1) := by decide +kernel
theorem dX7_readLine_105 : decode cX7_readLine 105 = .ok (.iload 4, 2) := by decide +kernel
theorem dX7_readLine_107 : decode cX7_readLine 107 = .ok (.iastore, 1) := by decide +kernel
theorem dX7_readLine_108 : decode cX7_readLine 108 = .ok (.aload_n 0, 1) := by decide +kernel
theorem dX7_readLine_109 : decode cX7_readLine 109 = .ok (.invokevirtual 70, 3) := by decide +kernel
theorem dX7_readLine_112 : decode cX7_readLine 112 = .ok (.return_, 1) := by decide +kernel
theorem dX7_blame_0 : decode cX7_blame 0 = .ok (.aload_n 0, 1) := by decide +kernel
theorem dX7_blame_1 : decode cX7_blame 1 = .ok (.iload_n 1, 1) := by decide +kernel
theorem dX7_blame_2 : decode cX7_blame 2 = .ok (.putfield 19, 3) := by decide +kernel
theorem dX7_blame_5 : decode cX7_blame 5 = .ok (.aload_n 0, 1) := by decide +kernel
theorem dX7_blame_6 : decode cX7_blame 6 = .ok (.iload_n 2, 1) := by decide +kernel
theorem dX7_blame_7 : decode cX7_blame 7 = .ok (.putfield 23, 3) := by decide +kernel
theorem dX7_blame_10 : decode cX7_blame 10 = .ok (.return_, 1) := by decide +kernel
theorem dX7_byteHere_0 : decode cX7_byteHere 0 = .ok (.aload_n 0, 1) := by decide +kernel
theorem dX7_byteHere_1 : decode cX7_byteHere 1 = .ok (.getfield 29, 3) := by decide +kernel
theorem dX7_byteHere_4 : decode cX7_byteHere 4 = .ok (.ifCond .lt 40, 3) := by decide +kernel
theorem dX7_byteHere_7 : decode cX7_byteHere 7 = .ok (.aload_n 0, 1) := by decide +kernel
theorem dX7_byteHere_8 : decode cX7_byteHere 8 = .ok (.getfield 29, 3) := by decide +kernel
theorem dX7_byteHere_11 : decode cX7_byteHere 11 = .ok (.aload_n 0, 1) := by decide +kernel
theorem dX7_byteHere_12 : decode cX7_byteHere 12 = .ok (.getfield 38, 3) := by decide +kernel
theorem dX7_byteHere_15 : decode cX7_byteHere 15 = .ok (.if_icmp .ge 29, 3) := by decide +kernel
theorem dX7_byteHere_18 : decode cX7_byteHere 18 = .ok (.aload_n 0, 1) := by decide +kernel
theorem dX7_byteHere_19 : decode cX7_byteHere 19 = .ok (.getfield 29, 3) := by decide +kernel
theorem dX7_byteHere_22 : decode cX7_byteHere 22 = .ok (.sipush 600, 3) := by decide +kernel
theorem dX7_byteHere_25 : decode cX7_byteHere 25 = .ok (.if_icmp .ge 19, 3) := by decide +kernel
theorem dX7_byteHere_28 : decode cX7_byteHere 28 = .ok (.aload_n 0, 1) := by decide +kernel
theorem dX7_byteHere_29 : decode cX7_byteHere 29 = .ok (.getfield 9, 3) := by decide +kernel
theorem dX7_byteHere_32 : decode cX7_byteHere 32 = .ok (.aload_n 0, 1) := by decide +kernel
theorem dX7_byteHere_33 : decode cX7_byteHere 33 = .ok (.getfield 29, 3) := by decide +kernel
theorem dX7_byteHere_36 : decode cX7_byteHere 36 = .ok (.baload, 1) := by decide +kernel
theorem dX7_byteHere_37 : decode cX7_byteHere 37 = .ok (.sipush 255, 3) := by decide +kernel
theorem dX7_byteHere_40 : decode cX7_byteHere 40 = .ok (.iand, 1) := by decide +kernel
theorem dX7_byteHere_41 : decode cX7_byteHere 41 = .ok (.goto 4, 3) := by decide +kernel
theorem dX7_byteHere_44 : decode cX7_byteHere 44 = .ok (.iconst (-1), 1) := by decide +kernel
theorem dX7_byteHere_45 : decode cX7_byteHere 45 = .ok (.ireturn, 1) := by decide +kernel
theorem dX7_skipBlanks_0 : decode cX7_skipBlanks 0 = .ok (.aload_n 0, 1) := by decide +kernel
theorem dX7_skipBlanks_1 : decode cX7_skipBlanks 1 = .ok (.getfield 29, 3) := by decide +kernel
theorem dX7_skipBlanks_4 : decode cX7_skipBlanks 4 = .ok (.aload_n 0, 1) := by decide +kernel
theorem dX7_skipBlanks_5 : decode cX7_skipBlanks 5 = .ok (.getfield 38, 3) := by decide +kernel
theorem dX7_skipBlanks_8 : decode cX7_skipBlanks 8 = .ok (.if_icmp .ge 34, 3) := by decide +kernel
theorem dX7_skipBlanks_11 : decode cX7_skipBlanks 11 = .ok (.aload_n 0, 1) := by decide +kernel
theorem dX7_skipBlanks_12 : decode cX7_skipBlanks 12 = .ok (.invokevirtual 73, 3) := by decide +kernel
theorem dX7_skipBlanks_15 : decode cX7_skipBlanks 15 = .ok (.bipush 10, 2) := by decide +kernel
theorem dX7_skipBlanks_17 : decode cX7_skipBlanks 17 = .ok (.if_icmp .eq 12, 3) := by decide +kernel
theorem dX7_skipBlanks_20 : decode cX7_skipBlanks 20 = .ok (.aload_n 0, 1) := by decide +kernel
theorem dX7_skipBlanks_21 : decode cX7_skipBlanks 21 = .ok (.invokevirtual 73, 3) := by decide +kernel
theorem dX7_skipBlanks_24 : decode cX7_skipBlanks 24 = .ok (.bipush 32, 2) := by decide +kernel
theorem dX7_skipBlanks_26 : decode cX7_skipBlanks 26 = .ok (.if_icmp .ne 16, 3) := by decide +kernel
theorem dX7_skipBlanks_29 : decode cX7_skipBlanks 29 = .ok (.aload_n 0, 1) := by decide +kernel
theorem dX7_skipBlanks_30 : decode cX7_skipBlanks 30 = .ok (.dup, 1) := by decide +kernel
theorem dX7_skipBlanks_31 : decode cX7_skipBlanks 31 = .ok (.getfield 29, 3) := by decide +kernel
theorem dX7_skipBlanks_34 : decode cX7_skipBlanks 34 = .ok (.iconst 1, 1) := by decide +kernel
theorem dX7_skipBlanks_35 : decode cX7_skipBlanks 35 = .ok (.iadd, 1) := by decide +kernel
theorem dX7_skipBlanks_36 : decode cX7_skipBlanks 36 = .ok (.putfield 29, 3) := by decide +kernel
theorem dX7_skipBlanks_39 : decode cX7_skipBlanks 39 = .ok (.goto (-39), 3) := by decide +kernel
theorem dX7_skipBlanks_42 : decode cX7_skipBlanks 42 = .ok (.return_, 1) := by decide +kernel
theorem dX7_takeWord_0 : decode cX7_takeWord 0 = .ok (.aload_n 0, 1) := by decide +kernel
theorem dX7_takeWord_1 : decode cX7_takeWord 1 = .ok (.getfield 29, 3) := by decide +kernel
theorem dX7_takeWord_4 : decode cX7_takeWord 4 = .ok (.istore_n 1, 1) := by decide +kernel
theorem dX7_takeWord_5 : decode cX7_takeWord 5 = .ok (.aload_n 0, 1) := by decide +kernel
theorem dX7_takeWord_6 : decode cX7_takeWord 6 = .ok (.getfield 29, 3) := by decide +kernel
theorem dX7_takeWord_9 : decode cX7_takeWord 9 = .ok (.aload_n 0, 1) := by decide +kernel
theorem dX7_takeWord_10 : decode cX7_takeWord 10 = .ok (.getfield 38, 3) := by decide +kernel
theorem dX7_takeWord_13 : decode cX7_takeWord 13 = .ok (.if_icmp .ge 34, 3) := by decide +kernel
theorem dX7_takeWord_16 : decode cX7_takeWord 16 = .ok (.aload_n 0, 1) := by decide +kernel
theorem dX7_takeWord_17 : decode cX7_takeWord 17 = .ok (.invokevirtual 73, 3) := by decide +kernel
theorem dX7_takeWord_20 : decode cX7_takeWord 20 = .ok (.bipush 97, 2) := by decide +kernel
theorem dX7_takeWord_22 : decode cX7_takeWord 22 = .ok (.if_icmp .lt 25, 3) := by decide +kernel
theorem dX7_takeWord_25 : decode cX7_takeWord 25 = .ok (.aload_n 0, 1) := by decide +kernel
theorem dX7_takeWord_26 : decode cX7_takeWord 26 = .ok (.invokevirtual 73, 3) := by decide +kernel
theorem dX7_takeWord_29 : decode cX7_takeWord 29 = .ok (.bipush 122, 2) := by decide +kernel
theorem dX7_takeWord_31 : decode cX7_takeWord 31 = .ok (.if_icmp .gt 16, 3) := by decide +kernel
theorem dX7_takeWord_34 : decode cX7_takeWord 34 = .ok (.aload_n 0, 1) := by decide +kernel
theorem dX7_takeWord_35 : decode cX7_takeWord 35 = .ok (.dup, 1) := by decide +kernel
theorem dX7_takeWord_36 : decode cX7_takeWord 36 = .ok (.getfield 29, 3) := by decide +kernel
theorem dX7_takeWord_39 : decode cX7_takeWord 39 = .ok (.iconst 1, 1) := by decide +kernel
theorem dX7_takeWord_40 : decode cX7_takeWord 40 = .ok (.iadd, 1) := by decide +kernel
theorem dX7_takeWord_41 : decode cX7_takeWord 41 = .ok (.putfield 29, 3) := by decide +kernel
theorem dX7_takeWord_44 : decode cX7_takeWord 44 = .ok (.goto (-39), 3) := by decide +kernel
theorem dX7_takeWord_47 : decode cX7_takeWord 47 = .ok (.iconst 0, 1) := by decide +kernel
theorem dX7_takeWord_48 : decode cX7_takeWord 48 = .ok (.istore_n 2, 1) := by decide +kernel
theorem dX7_takeWord_49 : decode cX7_takeWord 49 = .ok (.iload_n 2, 1) := by decide +kernel
theorem dX7_takeWord_50 : decode cX7_takeWord 50 = .ok (.bipush 7, 2) := by decide +kernel
theorem dX7_takeWord_52 : decode cX7_takeWord 52 = .ok (.if_icmp .ge 29, 3) := by decide +kernel
theorem dX7_takeWord_55 : decode cX7_takeWord 55 = .ok (.aload_n 0, 1) := by decide +kernel
theorem dX7_takeWord_56 : decode cX7_takeWord 56 = .ok (.iload_n 2, 1) := by decide +kernel
theorem dX7_takeWord_57 : decode cX7_takeWord 57 = .ok (.invokestatic 76, 3) := by decide +kernel
theorem dX7_takeWord_60 : decode cX7_takeWord 60 = .ok (.iload_n 1, 1) := by decide +kernel
theorem dX7_takeWord_61 : decode cX7_takeWord 61 = .ok (.aload_n 0, 1) := by decide +kernel
theorem dX7_takeWord_62 : decode cX7_takeWord 62 = .ok (.getfield 29, 3) := by decide +kernel
theorem dX7_takeWord_65 : decode cX7_takeWord 65 = .ok (.iload_n 1, 1) := by decide +kernel
theorem dX7_takeWord_66 : decode cX7_takeWord 66 = .ok (.isub, 1) := by decide +kernel
theorem dX7_takeWord_67 : decode cX7_takeWord 67 = .ok (.invokevirtual 80, 3) := by decide +kernel
theorem dX7_takeWord_70 : decode cX7_takeWord 70 = .ok (.ifCond .eq 5, 3) := by decide +kernel
theorem dX7_takeWord_73 : decode cX7_takeWord 73 = .ok (.iload_n 2, 1) := by decide +kernel
theorem dX7_takeWord_74 : decode cX7_takeWord 74 = .ok (.ireturn, 1) := by decide +kernel
theorem dX7_takeWord_75 : decode cX7_takeWord 75 = .ok (.iinc 2 1, 3) := by decide +kernel
theorem dX7_takeWord_78 : decode cX7_takeWord 78 = .ok (.goto (-29), 3) := by decide +kernel
theorem dX7_takeWord_81 : decode cX7_takeWord 81 = .ok (.iconst (-1), 1) := by decide +kernel
theorem dX7_takeWord_82 : decode cX7_takeWord 82 = .ok (.ireturn, 1) := by decide +kernel
theorem dX7_spells_0 : decode cX7_spells 0 = .ok (.iload_n 2, 1) := by decide +kernel
theorem dX7_spells_1 : decode cX7_spells 1 = .ok (.ifCond .lt 20, 3) := by decide +kernel
theorem dX7_spells_4 : decode cX7_spells 4 = .ok (.iload_n 3, 1) := by decide +kernel
theorem dX7_spells_5 : decode cX7_spells 5 = .ok (.aload_n 1, 1) := by decide +kernel
theorem dX7_spells_6 : decode cX7_spells 6 = .ok (.invokevirtual 84, 3) := by decide +kernel
theorem dX7_spells_9 : decode cX7_spells 9 = .ok (.if_icmp .ne 12, 3) := by decide +kernel
theorem dX7_spells_12 : decode cX7_spells 12 = .ok (.iload_n 2, 1) := by decide +kernel
theorem dX7_spells_13 : decode cX7_spells 13 = .ok (.iload_n 3, 1) := by decide +kernel
theorem dX7_spells_14 : decode cX7_spells 14 = .ok (.iadd, 1) := by decide +kernel
theorem dX7_spells_15 : decode cX7_spells 15 = .ok (.sipush 600, 3) := by decide +kernel
theorem dX7_spells_18 : decode cX7_spells 18 = .ok (.if_icmp .le 5, 3) := by decide +kernel
theorem dX7_spells_21 : decode cX7_spells 21 = .ok (.iconst 0, 1) := by decide +kernel
theorem dX7_spells_22 : decode cX7_spells 22 = .ok (.ireturn, 1) := by decide +kernel
theorem dX7_spells_23 : decode cX7_spells 23 = .ok (.iconst 0, 1) := by decide +kernel
theorem dX7_spells_24 : decode cX7_spells 24 = .ok (.istore 4, 2) := by decide +kernel
theorem dX7_spells_26 : decode cX7_spells 26 = .ok (.iload 4, 2) := by decide +kernel
theorem dX7_spells_28 : decode cX7_spells 28 = .ok (.iload_n 3, 1) := by decide +kernel
theorem dX7_spells_29 : decode cX7_spells 29 = .ok (.if_icmp .ge 29, 3) := by decide +kernel
theorem dX7_spells_32 : decode cX7_spells 32 = .ok (.aload_n 0, 1) := by decide +kernel
theorem dX7_spells_33 : decode cX7_spells 33 = .ok (.getfield 9, 3) := by decide +kernel
theorem dX7_spells_36 : decode cX7_spells 36 = .ok (.iload_n 2, 1) := by decide +kernel
theorem dX7_spells_37 : decode cX7_spells 37 = .ok (.iload 4, 2) := by decide +kernel
theorem dX7_spells_39 : decode cX7_spells 39 = .ok (.iadd, 1) := by decide +kernel
theorem dX7_spells_40 : decode cX7_spells 40 = .ok (.baload, 1) := by decide +kernel
theorem dX7_spells_41 : decode cX7_spells 41 = .ok (.aload_n 1, 1) := by decide +kernel
theorem dX7_spells_42 : decode cX7_spells 42 = .ok (.iload 4, 2) := by decide +kernel
theorem dX7_spells_44 : decode cX7_spells 44 = .ok (.invokevirtual 88, 3) := by decide +kernel
theorem dX7_spells_47 : decode cX7_spells 47 = .ok (.if_icmp .eq 5, 3) := by decide +kernel
theorem dX7_spells_50 : decode cX7_spells 50 = .ok (.iconst 0, 1) := by decide +kernel
theorem dX7_spells_51 : decode cX7_spells 51 = .ok (.ireturn, 1) := by decide +kernel
theorem dX7_spells_52 : decode cX7_spells 52 = .ok (.iinc 4 1, 3) := by decide +kernel
theorem dX7_spells_55 : decode cX7_spells 55 = .ok (.goto (-29), 3) := by decide +kernel
theorem dX7_spells_58 : decode cX7_spells 58 = .ok (.iconst 1, 1) := by decide +kernel
theorem dX7_spells_59 : decode cX7_spells 59 = .ok (.ireturn, 1) := by decide +kernel
theorem dX7_spelling_0 : decode cX7_spelling 0 = .ok (.iload_n 0, 1) := by decide +kernel
theorem dX7_spelling_1 : decode cX7_spelling 1 = .ok (.tableswitch 57 0 5 #[39, 42, 45, 48, 51, 54], 39) := by decide +kernel
theorem dX7_spelling_40 : decode cX7_spelling 40 = .ok (.ldc 92, 2) := by decide +kernel
theorem dX7_spelling_42 : decode cX7_spelling 42 = .ok (.areturn, 1) := by decide +kernel
theorem dX7_spelling_43 : decode cX7_spelling 43 = .ok (.ldc 94, 2) := by decide +kernel
theorem dX7_spelling_45 : decode cX7_spelling 45 = .ok (.areturn, 1) := by decide +kernel
theorem dX7_spelling_46 : decode cX7_spelling 46 = .ok (.ldc 96, 2) := by decide +kernel
theorem dX7_spelling_48 : decode cX7_spelling 48 = .ok (.areturn, 1) := by decide +kernel
theorem dX7_spelling_49 : decode cX7_spelling 49 = .ok (.ldc 98, 2) := by decide +kernel
theorem dX7_spelling_51 : decode cX7_spelling 51 = .ok (.areturn, 1) := by decide +kernel
theorem dX7_spelling_52 : decode cX7_spelling 52 = .ok (.ldc 100, 2) := by decide +kernel
theorem dX7_spelling_54 : decode cX7_spelling 54 = .ok (.areturn, 1) := by decide +kernel
theorem dX7_spelling_55 : decode cX7_spelling 55 = .ok (.ldc 102, 2) := by decide +kernel
theorem dX7_spelling_57 : decode cX7_spelling 57 = .ok (.areturn, 1) := by decide +kernel
theorem dX7_spelling_58 : decode cX7_spelling 58 = .ok (.ldc 104, 2) := by decide +kernel
theorem dX7_spelling_60 : decode cX7_spelling 60 = .ok (.areturn, 1) := by decide +kernel
theorem dX7_takeNumber_0 : decode cX7_takeNumber 0 = .ok (.iconst (-1), 1) := by decide +kernel
theorem dX7_takeNumber_1 : decode cX7_takeNumber 1 = .ok (.istore_n 1, 1) := by decide +kernel
theorem dX7_takeNumber_2 : decode cX7_takeNumber 2 = .ok (.aload_n 0, 1) := by decide +kernel
theorem dX7_takeNumber_3 : decode cX7_takeNumber 3 = .ok (.getfield 29, 3) := by decide +kernel
theorem dX7_takeNumber_6 : decode cX7_takeNumber 6 = .ok (.aload_n 0, 1) := by decide +kernel
theorem dX7_takeNumber_7 : decode cX7_takeNumber 7 = .ok (.getfield 38, 3) := by decide +kernel
theorem dX7_takeNumber_10 : decode cX7_takeNumber 10 = .ok (.if_icmp .ge 57, 3) := by decide +kernel
theorem dX7_takeNumber_13 : decode cX7_takeNumber 13 = .ok (.aload_n 0, 1) := by decide +kernel
theorem dX7_takeNumber_14 : decode cX7_takeNumber 14 = .ok (.invokevirtual 73, 3) := by decide +kernel
theorem dX7_takeNumber_17 : decode cX7_takeNumber 17 = .ok (.bipush 48, 2) := by decide +kernel
theorem dX7_takeNumber_19 : decode cX7_takeNumber 19 = .ok (.if_icmp .lt 48, 3) := by decide +kernel
theorem dX7_takeNumber_22 : decode cX7_takeNumber 22 = .ok (.aload_n 0, 1) := by decide +kernel
theorem dX7_takeNumber_23 : decode cX7_takeNumber 23 = .ok (.invokevirtual 73, 3) := by decide +kernel
theorem dX7_takeNumber_26 : decode cX7_takeNumber 26 = .ok (.bipush 57, 2) := by decide +kernel
theorem dX7_takeNumber_28 : decode cX7_takeNumber 28 = .ok (.if_icmp .gt 39, 3) := by decide +kernel
theorem dX7_takeNumber_31 : decode cX7_takeNumber 31 = .ok (.sipush 1000, 3) := by decide +kernel
theorem dX7_takeNumber_34 : decode cX7_takeNumber 34 = .ok (.iload_n 1, 1) := by decide +kernel
theorem dX7_takeNumber_35 : decode cX7_takeNumber 35 = .ok (.iconst 0, 1) := by decide +kernel
theorem dX7_takeNumber_36 : decode cX7_takeNumber 36 = .ok (.invokestatic 106, 3) := by decide +kernel
theorem dX7_takeNumber_39 : decode cX7_takeNumber 39 = .ok (.bipush 10, 2) := by decide +kernel
theorem dX7_takeNumber_41 : decode cX7_takeNumber 41 = .ok (.imul, 1) := by decide +kernel
theorem dX7_takeNumber_42 : decode cX7_takeNumber 42 = .ok (.aload_n 0, 1) := by decide +kernel
theorem dX7_takeNumber_43 : decode cX7_takeNumber 43 = .ok (.invokevirtual 73, 3) := by decide +kernel
theorem dX7_takeNumber_46 : decode cX7_takeNumber 46 = .ok (.iadd, 1) := by decide +kernel
theorem dX7_takeNumber_47 : decode cX7_takeNumber 47 = .ok (.bipush 48, 2) := by decide +kernel
theorem dX7_takeNumber_49 : decode cX7_takeNumber 49 = .ok (.isub, 1) := by decide +kernel
theorem dX7_takeNumber_50 : decode cX7_takeNumber 50 = .ok (.invokestatic 32, 3) := by decide +kernel
theorem dX7_takeNumber_53 : decode cX7_takeNumber 53 = .ok (.istore_n 1, 1) := by decide +kernel
theorem dX7_takeNumber_54 : decode cX7_takeNumber 54 = .ok (.aload_n 0, 1) := by decide +kernel
theorem dX7_takeNumber_55 : decode cX7_takeNumber 55 = .ok (.dup, 1) := by decide +kernel
theorem dX7_takeNumber_56 : decode cX7_takeNumber 56 = .ok (.getfield 29, 3) := by decide +kernel
theorem dX7_takeNumber_59 : decode cX7_takeNumber 59 = .ok (.iconst 1, 1) := by decide +kernel
theorem dX7_takeNumber_60 : decode cX7_takeNumber 60 = .ok (.iadd, 1) := by decide +kernel
theorem dX7_takeNumber_61 : decode cX7_takeNumber 61 = .ok (.putfield 29, 3) := by decide +kernel
theorem dX7_takeNumber_64 : decode cX7_takeNumber 64 = .ok (.goto (-62), 3) := by decide +kernel
theorem dX7_takeNumber_67 : decode cX7_takeNumber 67 = .ok (.iload_n 1, 1) := by decide +kernel
theorem dX7_takeNumber_68 : decode cX7_takeNumber 68 = .ok (.ireturn, 1) := by decide +kernel
theorem dX7_takeLineEnd_0 : decode cX7_takeLineEnd 0 = .ok (.aload_n 0, 1) := by decide +kernel
theorem dX7_takeLineEnd_1 : decode cX7_takeLineEnd 1 = .ok (.invokevirtual 47, 3) := by decide +kernel
theorem dX7_takeLineEnd_4 : decode cX7_takeLineEnd 4 = .ok (.aload_n 0, 1) := by decide +kernel
theorem dX7_takeLineEnd_5 : decode cX7_takeLineEnd 5 = .ok (.invokevirtual 73, 3) := by decide +kernel
theorem dX7_takeLineEnd_8 : decode cX7_takeLineEnd 8 = .ok (.bipush 59, 2) := by decide +kernel
theorem dX7_takeLineEnd_10 : decode cX7_takeLineEnd 10 = .ok (.if_icmp .ne 16, 3) := by decide +kernel
theorem dX7_takeLineEnd_13 : decode cX7_takeLineEnd 13 = .ok (.aload_n 0, 1) := by decide +kernel
theorem dX7_takeLineEnd_14 : decode cX7_takeLineEnd 14 = .ok (.dup, 1) := by decide +kernel
theorem dX7_takeLineEnd_15 : decode cX7_takeLineEnd 15 = .ok (.getfield 29, 3) := by decide +kernel
theorem dX7_takeLineEnd_18 : decode cX7_takeLineEnd 18 = .ok (.iconst 1, 1) := by decide +kernel
theorem dX7_takeLineEnd_19 : decode cX7_takeLineEnd 19 = .ok (.iadd, 1) := by decide +kernel
theorem dX7_takeLineEnd_20 : decode cX7_takeLineEnd 20 = .ok (.putfield 29, 3) := by decide +kernel
theorem dX7_takeLineEnd_23 : decode cX7_takeLineEnd 23 = .ok (.goto 12, 3) := by decide +kernel
theorem dX7_takeLineEnd_26 : decode cX7_takeLineEnd 26 = .ok (.aload_n 0, 1) := by decide +kernel
theorem dX7_takeLineEnd_27 : decode cX7_takeLineEnd 27 = .ok (.iconst 1, 1) := by decide +kernel
theorem dX7_takeLineEnd_28 : decode cX7_takeLineEnd 28 = .ok (.aload_n 0, 1) := by decide +kernel
theorem dX7_takeLineEnd_29 : decode cX7_takeLineEnd 29 = .ok (.getfield 29, 3) := by decide +kernel
theorem dX7_takeLineEnd_32 : decode cX7_takeLineEnd 32 = .ok (.invokevirtual 57, 3) := by decide +kernel
theorem dX7_takeLineEnd_35 : decode cX7_takeLineEnd 35 = .ok (.return_, 1) := by decide +kernel
end
section
theorem dX11_init_0 : decode cX11_init 0 = .ok (.aload_n 0, 1) := by decide +kernel
theorem dX11_init_1 : decode cX11_init 1 = .ok (.invokespecial 1, 3) := by decide +kernel
theorem dX11_init_4 : decode cX11_init 4 = .ok (.aload_n 0, 1) := by decide +kernel
theorem dX11_init_5 : decode cX11_init 5 = .ok (.sipush 600, 3) := by decide +kernel
theorem dX11_init_8 : decode cX11_init 8 = .ok (.newarray .int, 2) := by decide +kernel
theorem dX11_init_10 : decode cX11_init 10 = .ok (.putfield 7, 3) := by decide +kernel
theorem dX11_init_13 : decode cX11_init 13 = .ok (.aload_n 0, 1) := by decide +kernel
theorem dX11_init_14 : decode cX11_init 14 = .ok (.bipush 10, 2) := by decide +kernel
theorem dX11_init_16 : decode cX11_init 16 = .ok (.newarray .int, 2) := by decide +kernel
theorem dX11_init_18 : decode cX11_init 18 = .ok (.putfield 13, 3) := by decide +kernel
theorem dX11_init_21 : decode cX11_init 21 = .ok (.aload_n 0, 1) := by decide +kernel
theorem dX11_init_22 : decode cX11_init 22 = .ok (.bipush 77, 2) := by decide +kernel
theorem dX11_init_24 : decode cX11_init 24 = .ok (.newarray .int, 2) := by decide +kernel
theorem dX11_init_26 : decode cX11_init 26 = .ok (.putfield 16, 3) := by decide +kernel
theorem dX11_init_29 : decode cX11_init 29 = .ok (.aload_n 0, 1) := by decide +kernel
theorem dX11_init_30 : decode cX11_init 30 = .ok (.iconst (-1), 1) := by decide +kernel
theorem dX11_init_31 : decode cX11_init 31 = .ok (.putfield 19, 3) := by decide +kernel
theorem dX11_init_34 : decode cX11_init 34 = .ok (.aload_n 0, 1) := by decide +kernel
theorem dX11_init_35 : decode cX11_init 35 = .ok (.bipush 17, 2) := by decide +kernel
theorem dX11_init_37 : decode cX11_init 37 = .ok (.newarray .int, 2) := by decide +kernel
theorem dX11_init_39 : decode cX11_init 39 = .ok (.putfield 23, 3) := by decide +kernel
theorem dX11_init_42 : decode cX11_init 42 = .ok (.aload_n 0, 1) := by decide +kernel
theorem dX11_init_43 : decode cX11_init 43 = .ok (.bipush 17, 2) := by decide +kernel
theorem dX11_init_45 : decode cX11_init 45 = .ok (.newarray .int, 2) := by decide +kernel
theorem dX11_init_47 : decode cX11_init 47 = .ok (.putfield 26, 3) := by decide +kernel
theorem dX11_init_50 : decode cX11_init 50 = .ok (.aload_n 0, 1) := by decide +kernel
theorem dX11_init_51 : decode cX11_init 51 = .ok (.bipush 17, 2) := by decide +kernel
theorem dX11_init_53 : decode cX11_init 53 = .ok (.newarray .int, 2) := by decide +kernel
theorem dX11_init_55 : decode cX11_init 55 = .ok (.putfield 29, 3) := by decide +kernel
theorem dX11_init_58 : decode cX11_init 58 = .ok (.aload_n 0, 1) := by decide +kernel
theorem dX11_init_59 : decode cX11_init 59 = .ok (.bipush 17, 2) := by decide +kernel
theorem dX11_init_61 : decode cX11_init 61 = .ok (.newarray .int, 2) := by decide +kernel
theorem dX11_init_63 : decode cX11_init 63 = .ok (.putfield 32, 3) := by decide +kernel
theorem dX11_init_66 : decode cX11_init 66 = .ok (.aload_n 0, 1) := by decide +kernel
theorem dX11_init_67 : decode cX11_init 67 = .ok (.bipush 17, 2) := by decide +kernel
theorem dX11_init_69 : decode cX11_init 69 = .ok (.newarray .int, 2) := by decide +kernel
theorem dX11_init_71 : decode cX11_init 71 = .ok (.putfield 35, 3) := by decide +kernel
theorem dX11_init_74 : decode cX11_init 74 = .ok (.aload_n 0, 1) := by decide +kernel
theorem dX11_init_75 : decode cX11_init 75 = .ok (.bipush 17, 2) := by decide +kernel
theorem dX11_init_77 : decode cX11_init 77 = .ok (.newarray .boolean, 2) := by decide +kernel
theorem dX11_init_79 : decode cX11_init 79 = .ok (.putfield 38, 3) := by decide +kernel
theorem dX11_init_82 : decode cX11_init 82 = .ok (.aload_n 0, 1) := by decide +kernel
theorem dX11_init_83 : decode cX11_init 83 = .ok (.bipush 17, 2) := by decide +kernel
theorem dX11_init_85 : decode cX11_init 85 = .ok (.newarray .int, 2) := by decide +kernel
theorem dX11_init_87 : decode cX11_init 87 = .ok (.putfield 42, 3) := by decide +kernel
theorem dX11_init_90 : decode cX11_init 90 = .ok (.aload_n 0, 1) := by decide +kernel
theorem dX11_init_91 : decode cX11_init 91 = .ok (.bipush 17, 2) := by decide +kernel
theorem dX11_init_93 : decode cX11_init 93 = .ok (.newarray .int, 2) := by decide +kernel
theorem dX11_init_95 : decode cX11_init 95 = .ok (.putfield 45, 3) := by decide +kernel
theorem dX11_init_98 : decode cX11_init 98 = .ok (.aload_n 0, 1) := by decide +kernel
theorem dX11_init_99 : decode cX11_init 99 = .ok (.bipush 16, 2) := by decide +kernel
theorem dX11_init_101 : decode cX11_init 101 = .ok (.newarray .int, 2) := by decide +kernel
theorem dX11_init_103 : decode cX11_init 103 = .ok (.putfield 48, 3) := by decide +kernel
theorem dX11_init_106 : decode cX11_init 106 = .ok (.aload_n 0, 1) := by decide +kernel
theorem dX11_init_107 : decode cX11_init 107 = .ok (.bipush 16, 2) := by decide +kernel
theorem dX11_init_109 : decode cX11_init 109 = .ok (.newarray .boolean, 2) := by decide +kernel
theorem dX11_init_111 : decode cX11_init 111 = .ok (.putfield 51, 3) := by decide +kernel
theorem dX11_init_114 : decode cX11_init 114 = .ok (.aload_n 0, 1) := by decide +kernel
theorem dX11_init_115 : decode cX11_init 115 = .ok (.bipush 10, 2) := by decide +kernel
theorem dX11_init_117 : decode cX11_init 117 = .ok (.newarray .int, 2) := by decide +kernel
theorem dX11_init_119 : decode cX11_init 119 = .ok (.putfield 54, 3) := by decide +kernel
theorem dX11_init_122 : decode cX11_init 122 = .ok (.aload_n 0, 1) := by decide +kernel
theorem dX11_init_123 : decode cX11_init 123 = .ok (.bipush 10, 2) := by decide +kernel
theorem dX11_init_125 : decode cX11_init 125 = .ok (.newarray .int, 2) := by decide +kernel
theorem dX11_init_127 : decode cX11_init 127 = .ok (.putfield 57, 3) := by decide +kernel
theorem dX11_init_130 : decode cX11_init 130 = .ok (.aload_n 0, 1) := by decide +kernel
theorem dX11_init_131 : decode cX11_init 131 = .ok (.bipush 10, 2) := by decide +kernel
theorem dX11_init_133 : decode cX11_init 133 = .ok (.newarray .int, 2) := by decide +kernel
theorem dX11_init_135 : decode cX11_init 135 = .ok (.putfield 60, 3) := by decide +kernel
theorem dX11_init_138 : decode cX11_init 138 = .ok (.aload_n 0, 1) := by decide +kernel
theorem dX11_init_139 : decode cX11_init 139 = .ok (.bipush 20, 2) := by decide +kernel
theorem dX11_init_141 : decode cX11_init 141 = .ok (.putfield 63, 3) := by decide +kernel
theorem dX11_init_144 : decode cX11_init 144 = .ok (.aload_n 0, 1) := by decide +kernel
theorem dX11_init_145 : decode cX11_init 145 = .ok (.bipush 60, 2) := by decide +kernel
theorem dX11_init_147 : decode cX11_init 147 = .ok (.newarray .boolean, 2) := by decide +kernel
theorem dX11_init_149 : decode cX11_init 149 = .ok (.putfield 66, 3) := by decide +kernel
theorem dX11_init_152 : decode cX11_init 152 = .ok (.aload_n 0, 1) := by decide +kernel
theorem dX11_init_153 : decode cX11_init 153 = .ok (.bipush 17, 2) := by decide +kernel
theorem dX11_init_155 : decode cX11_init 155 = .ok (.newarray .int, 2) := by decide +kernel
theorem dX11_init_157 : decode cX11_init 157 = .ok (.putfield 69, 3) := by decide +kernel
theorem dX11_init_160 : decode cX11_init 160 = .ok (.aload_n 0, 1) := by decide +kernel
theorem dX11_init_161 : decode cX11_init 161 = .ok (.bipush 17, 2) := by decide +kernel
theorem dX11_init_163 : decode cX11_init 163 = .ok (.newarray .int, 2) := by decide +kernel
theorem dX11_init_165 : decode cX11_init 165 = .ok (.putfield 72, 3) := by decide +kernel
theorem dX11_init_168 : decode cX11_init 168 = .ok (.aload_n 0, 1) := by decide +kernel
theorem dX11_init_169 : decode cX11_init 169 = .ok (.bipush 17, 2) := by decide +kernel
theorem dX11_init_171 : decode cX11_init 171 = .ok (.newarray .int, 2) := by decide +kernel
theorem dX11_init_173 : decode cX11_init 173 = .ok (.putfield 75, 3) := by decide +kernel
theorem dX11_init_176 : decode cX11_init 176 = .ok (.aload_n 0, 1) := by decide +kernel
theorem dX11_init_177 : decode cX11_init 177 = .ok (.bipush 17, 2) := by decide +kernel
theorem dX11_init_179 : decode cX11_init 179 = .ok (.newarray .boolean, 2) := by decide +kernel
theorem dX11_init_181 : decode cX11_init 181 = .ok (.putfield 78, 3) := by decide +kernel
theorem dX11_init_184 : decode cX11_init 184 = .ok (.aload_n 0, 1) := by decide +kernel
theorem dX11_init_185 : decode cX11_init 185 = .ok (.bipush 17, 2) := by decide +kernel
theorem dX11_init_187 : decode cX11_init 187 = .ok (.newarray .int, 2) := by decide +kernel
theorem dX11_init_189 : decode cX11_init 189 = .ok (.putfield 81, 3) := by decide +kernel
theorem dX11_init_192 : decode cX11_init 192 = .ok (.aload_n 0, 1) := by decide +kernel
theorem dX11_init_193 : decode cX11_init 193 = .ok (.bipush 17, 2) := by decide +kernel
theorem dX11_init_195 : decode cX11_init 195 = .ok (.newarray .int, 2) := by decide +kernel
theorem dX11_init_197 : decode cX11_init 197 = .ok (.putfield 84, 3) := by decide +kernel
theorem dX11_init_200 : decode cX11_init 200 = .ok (.aload_n 0, 1) := by decide +kernel
theorem dX11_init_201 : decode cX11_init 201 = .ok (.iconst (-1), 1) := by decide +kernel
theorem dX11_init_202 : decode cX11_init 202 = .ok (.putfield 87, 3) := by decide +kernel
theorem dX11_init_205 : decode cX11_init 205 = .ok (.aload_n 0, 1) := by decide +kernel
theorem dX11_init_206 : decode cX11_init 206 = .ok (.bipush 17, 2) := by decide +kernel
theorem dX11_init_208 : decode cX11_init 208 = .ok (.newarray .int, 2) := by decide +kernel
theorem dX11_init_210 : decode cX11_init 210 = .ok (.putfield 90, 3) := by decide +kernel
theorem dX11_init_213 : decode cX11_init 213 = .ok (.aload_n 0, 1) := by decide +kernel
theorem dX11_init_214 : decode cX11_init 214 = .ok (.bipush 40, 2) := by decide +kernel
theorem dX11_init_216 : decode cX11_init 216 = .ok (.newarray .int, 2) := by decide +kernel
theorem dX11_init_218 : decode cX11_init 218 = .ok (.putfield 93, 3) := by decide +kernel
theorem dX11_init_221 : decode cX11_init 221 = .ok (.aload_n 0, 1) := by decide +kernel
theorem dX11_init_222 : decode cX11_init 222 = .ok (.bipush 40, 2) := by decide +kernel
theorem dX11_init_224 : decode cX11_init 224 = .ok (.newarray .int, 2) := by decide +kernel
theorem dX11_init_226 : decode cX11_init 226 = .ok (.putfield 96, 3) := by decide +kernel
theorem dX11_init_229 : decode cX11_init 229 = .ok (.aload_n 0, 1) := by decide +kernel
theorem dX11_init_230 : decode cX11_init 230 = .ok (.bipush 40, 2) := by decide +kernel
theorem dX11_init_232 : decode cX11_init 232 = .ok (.newarray .int, 2) := by decide +kernel
theorem dX11_init_234 : decode cX11_init 234 = .ok (.putfield 99, 3) := by decide +kernel
theorem dX11_init_237 : decode cX11_init 237 = .ok (.iconst 0, 1) := by decide +kernel
theorem dX11_init_238 : decode cX11_init 238 = .ok (.istore_n 1, 1) := by decide +kernel
theorem dX11_init_239 : decode cX11_init 239 = .ok (.iload_n 1, 1) := by decide +kernel
theorem dX11_init_240 : decode cX11_init 240 = .ok (.bipush 17, 2) := by decide +kernel
theorem dX11_init_242 : decode cX11_init 242 = .ok (.if_icmp .ge 23, 3) := by decide +kernel
theorem dX11_init_245 : decode cX11_init 245 = .ok (.aload_n 0, 1) := by decide +kernel
theorem dX11_init_246 : decode cX11_init 246 = .ok (.getfield 23, 3) := by decide +kernel
theorem dX11_init_249 : decode cX11_init 249 = .ok (.iload_n 1, 1) := by decide +kernel
theorem dX11_init_250 : decode cX11_init 250 = .ok (.iconst (-1), 1) := by decide +kernel
theorem dX11_init_251 : decode cX11_init 251 = .ok (.iastore, 1) := by decide +kernel
theorem dX11_init_252 : decode cX11_init 252 = .ok (.aload_n 0, 1) := by decide +kernel
theorem dX11_init_253 : decode cX11_init 253 = .ok (.getfield 26, 3) := by decide +kernel
theorem dX11_init_256 : decode cX11_init 256 = .ok (.iload_n 1, 1) := by decide +kernel
theorem dX11_init_257 : decode cX11_init 257 = .ok (.iconst (-1), 1) := by decide +kernel
theorem dX11_init_258 : decode cX11_init 258 = .ok (.iastore, 1) := by decide +kernel
theorem dX11_init_259 : decode cX11_init 259 = .ok (.iinc 1 1, 3) := by decide +kernel
theorem dX11_init_262 : decode cX11_init 262 = .ok (.goto (-23), 3) := by decide +kernel
theorem dX11_init_265 : decode cX11_init 265 = .ok (.return_, 1) := by decide +kernel
theorem dX11_feed_0 : decode cX11_feed 0 = .ok (.aload_n 0, 1) := by decide +kernel
theorem dX11_feed_1 : decode cX11_feed 1 = .ok (.iconst 0, 1) := by decide +kernel
theorem dX11_feed_2 : decode cX11_feed 2 = .ok (.putfield 102, 3) := by decide +kernel
theorem dX11_feed_5 : decode cX11_feed 5 = .ok (.aload_n 0, 1) := by decide +kernel
theorem dX11_feed_6 : decode cX11_feed 6 = .ok (.getfield 105, 3) := by decide +kernel
theorem dX11_feed_9 : decode cX11_feed 9 = .ok (.sipush 580, 3) := by decide +kernel
theorem dX11_feed_12 : decode cX11_feed 12 = .ok (.if_icmp .le 5, 3) := by decide +kernel
theorem dX11_feed_15 : decode cX11_feed 15 = .ok (.iconst (-1), 1) := by decide +kernel
theorem dX11_feed_16 : decode cX11_feed 16 = .ok (.ireturn, 1) := by decide +kernel
theorem dX11_feed_17 : decode cX11_feed 17 = .ok (.iconst 0, 1) := by decide +kernel
theorem dX11_feed_18 : decode cX11_feed 18 = .ok (.istore 6, 2) := by decide +kernel
theorem dX11_feed_20 : decode cX11_feed 20 = .ok (.iload 6, 2) := by decide +kernel
theorem dX11_feed_22 : decode cX11_feed 22 = .ok (.bipush 20, 2) := by decide +kernel
theorem dX11_feed_24 : decode cX11_feed 24 = .ok (.if_icmp .ge 86, 3) := by decide +kernel
theorem dX11_feed_27 : decode cX11_feed 27 = .ok (.iload 6, 2) := by decide +kernel
theorem dX11_feed_29 : decode cX11_feed 29 = .ok (.iconst 4, 1) := by decide +kernel
theorem dX11_feed_30 : decode cX11_feed 30 = .ok (.if_icmp .ge 7, 3) := by decide +kernel
theorem dX11_feed_33 : decode cX11_feed 33 = .ok (.iload_n 1, 1) := by decide +kernel
theorem dX11_feed_34 : decode cX11_feed 34 = .ok (.goto 39, 3) := by decide +kernel
theorem dX11_feed_37 : decode cX11_feed 37 = .ok (.iload 6, 2) := by decide +kernel
theorem dX11_feed_39 : decode cX11_feed 39 = .ok (.bipush 8, 2) := by decide +kernel
theorem dX11_feed_41 : decode cX11_feed 41 = .ok (.if_icmp .ge 7, 3) := by decide +kernel
theorem dX11_feed_44 : decode cX11_feed 44 = .ok (.iload_n 2, 1) := by decide +kernel
theorem dX11_feed_45 : decode cX11_feed 45 = .ok (.goto 28, 3) := by decide +kernel
theorem dX11_feed_48 : decode cX11_feed 48 = .ok (.iload 6, 2) := by decide +kernel
theorem dX11_feed_50 : decode cX11_feed 50 = .ok (.bipush 12, 2) := by decide +kernel
theorem dX11_feed_52 : decode cX11_feed 52 = .ok (.if_icmp .ge 7, 3) := by decide +kernel
theorem dX11_feed_55 : decode cX11_feed 55 = .ok (.iload_n 3, 1) := by decide +kernel
theorem dX11_feed_56 : decode cX11_feed 56 = .ok (.goto 17, 3) := by decide +kernel
theorem dX11_feed_59 : decode cX11_feed 59 = .ok (.iload 6, 2) := by decide +kernel
theorem dX11_feed_61 : decode cX11_feed 61 = .ok (.bipush 16, 2) := by decide +kernel
theorem dX11_feed_63 : decode cX11_feed 63 = .ok (.if_icmp .ge 8, 3) := by decide +kernel
theorem dX11_feed_66 : decode cX11_feed 66 = .ok (.iload 4, 2) := by decide +kernel
theorem dX11_feed_68 : decode cX11_feed 68 = .ok (.goto 5, 3) := by decide +kernel
theorem dX11_feed_71 : decode cX11_feed 71 = .ok (.iload 5, 2) := by decide +kernel
theorem dX11_feed_73 : decode cX11_feed 73 = .ok (.istore 7, 2) := by decide +kernel
theorem dX11_feed_75 : decode cX11_feed 75 = .ok (.aload_n 0, 1) := by decide +kernel
theorem dX11_feed_76 : decode cX11_feed 76 = .ok (.getfield 7, 3) := by decide +kernel
theorem dX11_feed_79 : decode cX11_feed 79 = .ok (.aload_n 0, 1) := by decide +kernel
theorem dX11_feed_80 : decode cX11_feed 80 = .ok (.getfield 105, 3) := by decide +kernel
theorem dX11_feed_83 : decode cX11_feed 83 = .ok (.iload 6, 2) := by decide +kernel
theorem dX11_feed_85 : decode cX11_feed 85 = .ok (.iadd, 1) := by decide +kernel
theorem dX11_feed_86 : decode cX11_feed 86 = .ok (.iload 7, 2) := by decide +kernel
theorem dX11_feed_88 : decode cX11_feed 88 = .ok (.bipush 24, 2) := by decide +kernel
theorem dX11_feed_90 : decode cX11_feed 90 = .ok (.bipush 8, 2) := by decide +kernel
theorem dX11_feed_92 : decode cX11_feed 92 = .ok (.iload 6, 2) := by decide +kernel
theorem dX11_feed_94 : decode cX11_feed 94 = .ok (.iconst 4, 1) := by decide +kernel
theorem dX11_feed_95 : decode cX11_feed 95 = .ok (.irem, 1) := by decide +kernel
theorem dX11_feed_96 : decode cX11_feed 96 = .ok (.imul, 1) := by decide +kernel
theorem dX11_feed_97 : decode cX11_feed 97 = .ok (.isub, 1) := by decide +kernel
theorem dX11_feed_98 : decode cX11_feed 98 = .ok (.ishr, 1) := by decide +kernel
theorem dX11_feed_99 : decode cX11_feed 99 = .ok (.sipush 255, 3) := by decide +kernel
theorem dX11_feed_102 : decode cX11_feed 102 = .ok (.iand, 1) := by decide +kernel
theorem dX11_feed_103 : decode cX11_feed 103 = .ok (.iastore, 1) := by decide +kernel
theorem dX11_feed_104 : decode cX11_feed 104 = .ok (.iinc 6 1, 3) := by decide +kernel
theorem dX11_feed_107 : decode cX11_feed 107 = .ok (.goto (-87), 3) := by decide +kernel
theorem dX11_feed_110 : decode cX11_feed 110 = .ok (.aload_n 0, 1) := by decide +kernel
theorem dX11_feed_111 : decode cX11_feed 111 = .ok (.dup, 1) := by decide +kernel
theorem dX11_feed_112 : decode cX11_feed 112 = .ok (.getfield 105, 3) := by decide +kernel
theorem dX11_feed_115 : decode cX11_feed 115 = .ok (.bipush 20, 2) := by decide +kernel
theorem dX11_feed_117 : decode cX11_feed 117 = .ok (.iadd, 1) := by decide +kernel
theorem dX11_feed_118 : decode cX11_feed 118 = .ok (.putfield 105, 3) := by decide +kernel
theorem dX11_feed_121 : decode cX11_feed 121 = .ok (.aload_n 0, 1) := by decide +kernel
theorem dX11_feed_122 : decode cX11_feed 122 = .ok (.getfield 105, 3) := by decide +kernel
theorem dX11_feed_125 : decode cX11_feed 125 = .ok (.ireturn, 1) := by decide +kernel
theorem dX11_here_0 : decode cX11_here 0 = .ok (.aload_n 0, 1) := by decide +kernel
theorem dX11_here_1 : decode cX11_here 1 = .ok (.getfield 108, 3) := by decide +kernel
theorem dX11_here_4 : decode cX11_here 4 = .ok (.aload_n 0, 1) := by decide +kernel
theorem dX11_here_5 : decode cX11_here 5 = .ok (.getfield 111, 3) := by decide +kernel
theorem dX11_here_8 : decode cX11_here 8 = .ok (.if_icmp .ge 15, 3) := by decide +kernel
theorem dX11_here_11 : decode cX11_here 11 = .ok (.aload_n 0, 1) := by decide +kernel
theorem dX11_here_12 : decode cX11_here 12 = .ok (.getfield 7, 3) := by decide +kernel
theorem dX11_here_15 : decode cX11_here 15 = .ok (.aload_n 0, 1) := by decide +kernel
theorem dX11_here_16 : decode cX11_here 16 = .ok (.getfield 108, 3) := by decide +kernel
theorem dX11_here_19 : decode cX11_here 19 = .ok (.iaload, 1) := by decide +kernel
theorem dX11_here_20 : decode cX11_here 20 = .ok (.goto 4, 3) := by decide +kernel
theorem dX11_here_23 : decode cX11_here 23 = .ok (.iconst (-1), 1) := by decide +kernel
theorem dX11_here_24 : decode cX11_here 24 = .ok (.ireturn, 1) := by decide +kernel
theorem dX11_isSmall_0 : decode cX11_isSmall 0 = .ok (.iload_n 0, 1) := by decide +kernel
theorem dX11_isSmall_1 : decode cX11_isSmall 1 = .ok (.bipush 97, 2) := by decide +kernel
theorem dX11_isSmall_3 : decode cX11_isSmall 3 = .ok (.if_icmp .lt 13, 3) := by decide +kernel
theorem dX11_isSmall_6 : decode cX11_isSmall 6 = .ok (.iload_n 0, 1) := by decide +kernel
theorem dX11_isSmall_7 : decode cX11_isSmall 7 = .ok (.bipush 122, 2) := by decide +kernel
theorem dX11_isSmall_9 : decode cX11_isSmall 9 = .ok (.if_icmp .gt 7, 3) := by decide +kernel
theorem dX11_isSmall_12 : decode cX11_isSmall 12 = .ok (.iconst 1, 1) := by decide +kernel
theorem dX11_isSmall_13 : decode cX11_isSmall 13 = .ok (.goto 4, 3) := by decide +kernel
theorem dX11_isSmall_16 : decode cX11_isSmall 16 = .ok (.iconst 0, 1) := by decide +kernel
theorem dX11_isSmall_17 : decode cX11_isSmall 17 = .ok (.ireturn, 1) := by decide +kernel
theorem dX11_isDigit_0 : decode cX11_isDigit 0 = .ok (.iload_n 0, 1) := by decide +kernel
theorem dX11_isDigit_1 : decode cX11_isDigit 1 = .ok (.bipush 48, 2) := by decide +kernel
theorem dX11_isDigit_3 : decode cX11_isDigit 3 = .ok (.if_icmp .lt 13, 3) := by decide +kernel
theorem dX11_isDigit_6 : decode cX11_isDigit 6 = .ok (.iload_n 0, 1) := by decide +kernel
theorem dX11_isDigit_7 : decode cX11_isDigit 7 = .ok (.bipush 57, 2) := by decide +kernel
theorem dX11_isDigit_9 : decode cX11_isDigit 9 = .ok (.if_icmp .gt 7, 3) := by decide +kernel
theorem dX11_isDigit_12 : decode cX11_isDigit 12 = .ok (.iconst 1, 1) := by decide +kernel
theorem dX11_isDigit_13 : decode cX11_isDigit 13 = .ok (.goto 4, 3) := by decide +kernel
theorem dX11_isDigit_16 : decode cX11_isDigit 16 = .ok (.iconst 0, 1) := by decide +kernel
theorem dX11_isDigit_17 : decode cX11_isDigit 17 = .ok (.ireturn, 1) := by decide +kernel
theorem dX11_step_0 : decode cX11_step 0 = .ok (.aload_n 0, 1) := by decide +kernel
theorem dX11_step_1 : decode cX11_step 1 = .ok (.invokevirtual 114, 3) := by decide +kernel
theorem dX11_step_4 : decode cX11_step 4 = .ok (.bipush 10, 2) := by decide +kernel
theorem dX11_step_6 : decode cX11_step 6 = .ok (.if_icmp .eq 12, 3) := by decide +kernel
theorem dX11_step_9 : decode cX11_step 9 = .ok (.aload_n 0, 1) := by decide +kernel
theorem dX11_step_10 : decode cX11_step 10 = .ok (.invokevirtual 114, 3) := by decide +kernel
theorem dX11_step_13 : decode cX11_step 13 = .ok (.bipush 32, 2) := by decide +kernel
theorem dX11_step_15 : decode cX11_step 15 = .ok (.if_icmp .ne 16, 3) := by decide +kernel
theorem dX11_step_18 : decode cX11_step 18 = .ok (.aload_n 0, 1) := by decide +kernel
theorem dX11_step_19 : decode cX11_step 19 = .ok (.dup, 1) := by decide +kernel
theorem dX11_step_20 : decode cX11_step 20 = .ok (.getfield 108, 3) := by decide +kernel
theorem dX11_step_23 : decode cX11_step 23 = .ok (.iconst 1, 1) := by decide +kernel
theorem dX11_step_24 : decode cX11_step 24 = .ok (.iadd, 1) := by decide +kernel
theorem dX11_step_25 : decode cX11_step 25 = .ok (.putfield 108, 3) := by decide +kernel
theorem dX11_step_28 : decode cX11_step 28 = .ok (.goto (-28), 3) := by decide +kernel
theorem dX11_step_31 : decode cX11_step 31 = .ok (.aload_n 0, 1) := by decide +kernel
theorem dX11_step_32 : decode cX11_step 32 = .ok (.aload_n 0, 1) := by decide +kernel
theorem dX11_step_33 : decode cX11_step 33 = .ok (.getfield 108, 3) := by decide +kernel
theorem dX11_step_36 : decode cX11_step 36 = .ok (.putfield 118, 3) := by decide +kernel
theorem dX11_step_39 : decode cX11_step 39 = .ok (.aload_n 0, 1) := by decide +kernel
theorem dX11_step_40 : decode cX11_step 40 = .ok (.invokevirtual 114, 3) := by decide +kernel
theorem dX11_step_43 : decode cX11_step 43 = .ok (.istore_n 1, 1) := by decide +kernel
theorem dX11_step_44 : decode cX11_step 44 = .ok (.iload_n 1, 1) := by decide +kernel
theorem dX11_step_45 : decode cX11_step 45 = .ok (.iconst (-1), 1) := by decide +kernel
theorem dX11_step_46 : decode cX11_step 46 = .ok (.if_icmp .ne 11, 3) := by decide +kernel
theorem dX11_step_49 : decode cX11_step 49 = .ok (.aload_n 0, 1) := by decide +kernel
theorem dX11_step_50 : decode cX11_step 50 = .ok (.iconst 3, 1) := by decide +kernel
theorem dX11_step_51 : decode cX11_step 51 = .ok (.putfield 121, 3) := by decide +kernel
theorem dX11_step_54 : decode cX11_step 54 = .ok (.goto 162, 3) := by decide +kernel
theorem dX11_step_57 : decode cX11_step 57 = .ok (.iload_n 1, 1) := by decide +kernel
theorem dX11_step_58 : decode cX11_step 58 = .ok (.invokestatic 124, 3) := by decide +kernel
theorem dX11_step_61 : decode cX11_step 61 = .ok (.ifCond .eq 54, 3) := by decide +kernel
theorem dX11_step_64 : decode cX11_step 64 = .ok (.aload_n 0, 1) := by decide +kernel
theorem dX11_step_65 : decode cX11_step 65 = .ok (.invokevirtual 114, 3) := by decide +kernel
theorem dX11_step_68 : decode cX11_step 68 = .ok (.invokestatic 124, 3) := by decide +kernel
theorem dX11_step_71 : decode cX11_step 71 = .ok (.ifCond .eq 16, 3) := by decide +kernel
theorem dX11_step_74 : decode cX11_step 74 = .ok (.aload_n 0, 1) := by decide +kernel
theorem dX11_step_75 : decode cX11_step 75 = .ok (.dup, 1) := by decide +kernel
theorem dX11_step_76 : decode cX11_step 76 = .ok (.getfield 108, 3) := by decide +kernel
theorem dX11_step_79 : decode cX11_step 79 = .ok (.iconst 1, 1) := by decide +kernel
theorem dX11_step_80 : decode cX11_step 80 = .ok (.iadd, 1) := by decide +kernel
theorem dX11_step_81 : decode cX11_step 81 = .ok (.putfield 108, 3) := by decide +kernel
theorem dX11_step_84 : decode cX11_step 84 = .ok (.goto (-20), 3) := by decide +kernel
theorem dX11_step_87 : decode cX11_step 87 = .ok (.aload_n 0, 1) := by decide +kernel
theorem dX11_step_88 : decode cX11_step 88 = .ok (.aload_n 0, 1) := by decide +kernel
theorem dX11_step_89 : decode cX11_step 89 = .ok (.invokevirtual 128, 3) := by decide +kernel
theorem dX11_step_92 : decode cX11_step 92 = .ok (.putfield 131, 3) := by decide +kernel
theorem dX11_step_95 : decode cX11_step 95 = .ok (.aload_n 0, 1) := by decide +kernel
theorem dX11_step_96 : decode cX11_step 96 = .ok (.aload_n 0, 1) := by decide +kernel
theorem dX11_step_97 : decode cX11_step 97 = .ok (.getfield 131, 3) := by decide +kernel
theorem dX11_step_100 : decode cX11_step 100 = .ok (.iconst (-1), 1) := by decide +kernel
theorem dX11_step_101 : decode cX11_step 101 = .ok (.if_icmp .ne 7, 3) := by decide +kernel
theorem dX11_step_104 : decode cX11_step 104 = .ok (.iconst 4, 1) := by decide +kernel
theorem dX11_step_105 : decode cX11_step 105 = .ok (.goto 4, 3) := by decide +kernel
theorem dX11_step_108 : decode cX11_step 108 = .ok (.iconst 0, 1) := by decide +kernel
theorem dX11_step_109 : decode cX11_step 109 = .ok (.putfield 121, 3) := by decide +kernel
theorem dX11_step_112 : decode cX11_step 112 = .ok (.goto 104, 3) := by decide +kernel
theorem dX11_step_115 : decode cX11_step 115 = .ok (.iload_n 1, 1) := by decide +kernel
theorem dX11_step_116 : decode cX11_step 116 = .ok (.invokestatic 134, 3) := by decide +kernel
theorem dX11_step_119 : decode cX11_step 119 = .ok (.ifCond .eq 72, 3) := by decide +kernel
theorem dX11_step_122 : decode cX11_step 122 = .ok (.aload_n 0, 1) := by decide +kernel
theorem dX11_step_123 : decode cX11_step 123 = .ok (.iconst 1, 1) := by decide +kernel
theorem dX11_step_124 : decode cX11_step 124 = .ok (.putfield 121, 3) := by decide +kernel
theorem dX11_step_127 : decode cX11_step 127 = .ok (.aload_n 0, 1) := by decide +kernel
theorem dX11_step_128 : decode cX11_step 128 = .ok (.iconst 0, 1) := by decide +kernel
theorem dX11_step_129 : decode cX11_step 129 = .ok (.putfield 131, 3) := by decide +kernel
theorem dX11_step_132 : decode cX11_step 132 = .ok (.aload_n 0, 1) := by decide +kernel
theorem dX11_step_133 : decode cX11_step 133 = .ok (.invokevirtual 114, 3) := by decide +kernel
theorem dX11_step_136 : decode cX11_step 136 = .ok (.invokestatic 134, 3) := by decide +kernel
theorem dX11_step_139 : decode cX11_step 139 = .ok (.ifCond .eq 77, 3) := by decide +kernel
theorem dX11_step_142 : decode cX11_step 142 = .ok (.aload_n 0, 1) := by decide +kernel
theorem dX11_step_143 : decode cX11_step 143 = .ok (.aload_n 0, 1) := by decide +kernel
theorem dX11_step_144 : decode cX11_step 144 = .ok (.getfield 131, 3) := by decide +kernel
theorem dX11_step_147 : decode cX11_step 147 = .ok (.sipush 1000, 3) := by decide +kernel
theorem dX11_step_150 : decode cX11_step 150 = .ok (.if_icmp .le 10, 3) := by decide +kernel
theorem dX11_step_153 : decode cX11_step 153 = .ok (.aload_n 0, 1) := by decide +kernel
theorem dX11_step_154 : decode cX11_step 154 = .ok (.getfield 131, 3) := by decide +kernel
theorem dX11_step_157 : decode cX11_step 157 = .ok (.goto 18, 3) := by decide +kernel
theorem dX11_step_160 : decode cX11_step 160 = .ok (.bipush 10, 2) := by decide +kernel
theorem dX11_step_162 : decode cX11_step 162 = .ok (.aload_n 0, 1) := by decide +kernel
theorem dX11_step_163 : decode cX11_step 163 = .ok (.getfield 131, 3) := by decide +kernel
theorem dX11_step_166 : decode cX11_step 166 = .ok (.imul, 1) := by decide +kernel
theorem dX11_step_167 : decode cX11_step 167 = .ok (.aload_n 0, 1) := by decide +kernel
theorem dX11_step_168 : decode cX11_step 168 = .ok (.invokevirtual 114, 3) := by decide +kernel
theorem dX11_step_171 : decode cX11_step 171 = .ok (.iadd, 1) := by decide +kernel
theorem dX11_step_172 : decode cX11_step 172 = .ok (.bipush 48, 2) := by decide +kernel
theorem dX11_step_174 : decode cX11_step 174 = .ok (.isub, 1) := by decide +kernel
theorem dX11_step_175 : decode cX11_step 175 = .ok (.putfield 131, 3) := by decide +kernel
theorem dX11_step_178 : decode cX11_step 178 = .ok (.aload_n 0, 1) := by decide +kernel
theorem dX11_step_179 : decode cX11_step 179 = .ok (.dup, 1) := by decide +kernel
theorem dX11_step_180 : decode cX11_step 180 = .ok (.getfield 108, 3) := by decide +kernel
theorem dX11_step_183 : decode cX11_step 183 = .ok (.iconst 1, 1) := by decide +kernel
theorem dX11_step_184 : decode cX11_step 184 = .ok (.iadd, 1) := by decide +kernel
theorem dX11_step_185 : decode cX11_step 185 = .ok (.putfield 108, 3) := by decide +kernel
theorem dX11_step_188 : decode cX11_step 188 = .ok (.goto (-56), 3) := by decide +kernel
theorem dX11_step_191 : decode cX11_step 191 = .ok (.aload_n 0, 1) := by decide +kernel
theorem dX11_step_192 : decode cX11_step 192 = .ok (.dup, 1) := by decide +kernel
theorem dX11_step_193 : decode cX11_step 193 = .ok (.getfield 108, 3) := by decide +kernel
theorem dX11_step_196 : decode cX11_step 196 = .ok (.iconst 1, 1) := by decide +kernel
theorem dX11_step_197 : decode cX11_step 197 = .ok (.iadd, 1) := by decide +kernel
theorem dX11_step_198 : decode cX11_step 198 = .ok (.putfield 108, 3) := by decide +kernel
theorem dX11_step_201 : decode cX11_step 201 = .ok (.aload_n 0, 1) := by decide +kernel
theorem dX11_step_202 : decode cX11_step 202 = .ok (.iload_n 1, 1) := by decide +kernel
theorem dX11_step_203 : decode cX11_step 203 = .ok (.bipush 59, 2) := by decide +kernel
theorem dX11_step_205 : decode cX11_step 205 = .ok (.if_icmp .ne 7, 3) := by decide +kernel
theorem dX11_step_208 : decode cX11_step 208 = .ok (.iconst 2, 1) := by decide +kernel
theorem dX11_step_209 : decode cX11_step 209 = .ok (.goto 4, 3) := by decide +kernel
theorem dX11_step_212 : decode cX11_step 212 = .ok (.iconst 4, 1) := by decide +kernel
theorem dX11_step_213 : decode cX11_step 213 = .ok (.putfield 121, 3) := by decide +kernel
theorem dX11_step_216 : decode cX11_step 216 = .ok (.return_, 1) := by decide +kernel
theorem dX11_wordOf_0 : decode cX11_wordOf 0 = .ok (.iconst 0, 1) := by decide +kernel
theorem dX11_wordOf_1 : decode cX11_wordOf 1 = .ok (.istore_n 1, 1) := by decide +kernel
theorem dX11_wordOf_2 : decode cX11_wordOf 2 = .ok (.iconst 0, 1) := by decide +kernel
theorem dX11_wordOf_3 : decode cX11_wordOf 3 = .ok (.istore_n 2, 1) := by decide +kernel
theorem dX11_wordOf_4 : decode cX11_wordOf 4 = .ok (.iload_n 2, 1) := by decide +kernel
theorem dX11_wordOf_5 : decode cX11_wordOf 5 = .ok (.ldc 137, 2) := by decide +kernel
theorem dX11_wordOf_7 : decode cX11_wordOf 7 = .ok (.invokevirtual 139, 3) := by decide +kernel
theorem dX11_wordOf_10 : decode cX11_wordOf 10 = .ok (.if_icmp .ge 113, 3) := by decide +kernel
theorem dX11_wordOf_13 : decode cX11_wordOf 13 = .ok (.iconst 0, 1) := by decide +kernel
theorem dX11_wordOf_14 : decode cX11_wordOf 14 = .ok (.istore_n 3, 1) := by decide +kernel
theorem dX11_wordOf_15 : decode cX11_wordOf 15 = .ok (.ldc 137, 2) := by decide +kernel
theorem dX11_wordOf_17 : decode cX11_wordOf 17 = .ok (.iload_n 2, 1) := by decide +kernel
theorem dX11_wordOf_18 : decode cX11_wordOf 18 = .ok (.iload_n 3, 1) := by decide +kernel
theorem dX11_wordOf_19 : decode cX11_wordOf 19 = .ok (.iadd, 1) := by decide +kernel
theorem dX11_wordOf_20 : decode cX11_wordOf 20 = .ok (.invokevirtual 143, 3) := by decide +kernel
theorem dX11_wordOf_23 : decode cX11_wordOf 23 = .ok (.bipush 32, 2) := by decide +kernel
theorem dX11_wordOf_25 : decode cX11_wordOf 25 = .ok (.if_icmp .eq 44, 3) := by decide +kernel
theorem dX11_wordOf_28 : decode cX11_wordOf 28 = .ok (.aload_n 0, 1) := by decide +kernel
theorem dX11_wordOf_29 : decode cX11_wordOf 29 = .ok (.getfield 118, 3) := by decide +kernel
theorem dX11_wordOf_32 : decode cX11_wordOf 32 = .ok (.iload_n 3, 1) := by decide +kernel
theorem dX11_wordOf_33 : decode cX11_wordOf 33 = .ok (.iadd, 1) := by decide +kernel
theorem dX11_wordOf_34 : decode cX11_wordOf 34 = .ok (.aload_n 0, 1) := by decide +kernel
theorem dX11_wordOf_35 : decode cX11_wordOf 35 = .ok (.getfield 108, 3) := by decide +kernel
theorem dX11_wordOf_38 : decode cX11_wordOf 38 = .ok (.if_icmp .ge 31, 3) := by decide +kernel
theorem dX11_wordOf_41 : decode cX11_wordOf 41 = .ok (.aload_n 0, 1) := by decide +kernel
theorem dX11_wordOf_42 : decode cX11_wordOf 42 = .ok (.getfield 7, 3) := by decide +kernel
theorem dX11_wordOf_45 : decode cX11_wordOf 45 = .ok (.aload_n 0, 1) := by decide +kernel
theorem dX11_wordOf_46 : decode cX11_wordOf 46 = .ok (.getfield 118, 3) := by decide +kernel
theorem dX11_wordOf_49 : decode cX11_wordOf 49 = .ok (.iload_n 3, 1) := by decide +kernel
theorem dX11_wordOf_50 : decode cX11_wordOf 50 = .ok (.iadd, 1) := by decide +kernel
theorem dX11_wordOf_51 : decode cX11_wordOf 51 = .ok (.iaload, 1) := by decide +kernel
theorem dX11_wordOf_52 : decode cX11_wordOf 52 = .ok (.ldc 137, 2) := by decide +kernel
theorem dX11_wordOf_54 : decode cX11_wordOf 54 = .ok (.iload_n 2, 1) := by decide +kernel
theorem dX11_wordOf_55 : decode cX11_wordOf 55 = .ok (.iload_n 3, 1) := by decide +kernel
theorem dX11_wordOf_56 : decode cX11_wordOf 56 = .ok (.iadd, 1) := by decide +kernel
theorem dX11_wordOf_57 : decode cX11_wordOf 57 = .ok (.invokevirtual 143, 3) := by decide +kernel
theorem dX11_wordOf_60 : decode cX11_wordOf 60 = .ok (.if_icmp .ne 9, 3) := by decide +kernel
theorem dX11_wordOf_63 : decode cX11_wordOf 63 = .ok (.iinc 3 1, 3) := by decide +kernel
theorem dX11_wordOf_66 : decode cX11_wordOf 66 = .ok (.goto (-51), 3) := by decide +kernel
theorem dX11_wordOf_69 : decode cX11_wordOf 69 = .ok (.ldc 137, 2) := by decide +kernel
theorem dX11_wordOf_71 : decode cX11_wordOf 71 = .ok (.iload_n 2, 1) := by decide +kernel
theorem dX11_wordOf_72 : decode cX11_wordOf 72 = .ok (.iload_n 3, 1) := by decide +kernel
theorem dX11_wordOf_73 : decode cX11_wordOf 73 = .ok (.iadd, 1) := by decide +kernel
theorem dX11_wordOf_74 : decode cX11_wordOf 74 = .ok (.invokevirtual 143, 3) := by decide +kernel
theorem dX11_wordOf_77 : decode cX11_wordOf 77 = .ok (.bipush 32, 2) := by decide +kernel
theorem dX11_wordOf_79 : decode cX11_wordOf 79 = .ok (.if_icmp .ne 18, 3) := by decide +kernel
theorem dX11_wordOf_82 : decode cX11_wordOf 82 = .ok (.aload_n 0, 1) := by decide +kernel
theorem dX11_wordOf_83 : decode cX11_wordOf 83 = .ok (.getfield 118, 3) := by decide +kernel
theorem dX11_wordOf_86 : decode cX11_wordOf 86 = .ok (.iload_n 3, 1) := by decide +kernel
theorem dX11_wordOf_87 : decode cX11_wordOf 87 = .ok (.iadd, 1) := by decide +kernel
theorem dX11_wordOf_88 : decode cX11_wordOf 88 = .ok (.aload_n 0, 1) := by decide +kernel
theorem dX11_wordOf_89 : decode cX11_wordOf 89 = .ok (.getfield 108, 3) := by decide +kernel
theorem dX11_wordOf_92 : decode cX11_wordOf 92 = .ok (.if_icmp .ne 5, 3) := by decide +kernel
theorem dX11_wordOf_95 : decode cX11_wordOf 95 = .ok (.iload_n 1, 1) := by decide +kernel
theorem dX11_wordOf_96 : decode cX11_wordOf 96 = .ok (.ireturn, 1) := by decide +kernel
theorem dX11_wordOf_97 : decode cX11_wordOf 97 = .ok (.ldc 137, 2) := by decide +kernel
theorem dX11_wordOf_99 : decode cX11_wordOf 99 = .ok (.iload_n 2, 1) := by decide +kernel
theorem dX11_wordOf_100 : decode cX11_wordOf 100 = .ok (.invokevirtual 143, 3) := by decide +kernel
theorem dX11_wordOf_103 : decode cX11_wordOf 103 = .ok (.bipush 32, 2) := by decide +kernel
theorem dX11_wordOf_105 : decode cX11_wordOf 105 = .ok (.if_icmp .eq 9, 3) := by decide +kernel
theorem dX11_wordOf_108 : decode cX11_wordOf 108 = .ok (.iinc 2 1, 3) := by decide +kernel
theorem dX11_wordOf_111 : decode cX11_wordOf 111 = .ok (.goto (-14), 3) := by decide +kernel
theorem dX11_wordOf_114 : decode cX11_wordOf 114 = .ok (.iinc 2 1, 3) := by decide +kernel
theorem dX11_wordOf_117 : decode cX11_wordOf 117 = .ok (.iinc 1 1, 3) := by decide +kernel
theorem dX11_wordOf_120 : decode cX11_wordOf 120 = .ok (.goto (-116), 3) := by decide +kernel
theorem dX11_wordOf_123 : decode cX11_wordOf 123 = .ok (.iconst (-1), 1) := by decide +kernel
theorem dX11_wordOf_124 : decode cX11_wordOf 124 = .ok (.ireturn, 1) := by decide +kernel
theorem dX11_wrong_0 : decode cX11_wrong 0 = .ok (.aload_n 0, 1) := by decide +kernel
theorem dX11_wrong_1 : decode cX11_wrong 1 = .ok (.getfield 147, 3) := by decide +kernel
theorem dX11_wrong_4 : decode cX11_wrong 4 = .ok (.ifCond .eq 4, 3) := by decide +kernel
theorem dX11_wrong_7 : decode cX11_wrong 7 = .ok (.return_, 1) := by decide +kernel
theorem dX11_wrong_8 : decode cX11_wrong 8 = .ok (.aload_n 0, 1) := by decide +kernel
theorem dX11_wrong_9 : decode cX11_wrong 9 = .ok (.iload_n 1, 1) := by decide +kernel
theorem dX11_wrong_10 : decode cX11_wrong 10 = .ok (.putfield 147, 3) := by decide +kernel
theorem dX11_wrong_13 : decode cX11_wrong 13 = .ok (.aload_n 0, 1) := by decide +kernel
theorem dX11_wrong_14 : decode cX11_wrong 14 = .ok (.iload_n 2, 1) := by decide +kernel
theorem dX11_wrong_15 : decode cX11_wrong 15 = .ok (.putfield 150, 3) := by decide +kernel
theorem dX11_wrong_18 : decode cX11_wrong 18 = .ok (.return_, 1) := by decide +kernel
theorem dX11_isWithin_0 : decode cX11_isWithin 0 = .ok (.iload_n 0, 1) := by decide +kernel
theorem dX11_isWithin_1 : decode cX11_isWithin 1 = .ok (.tableswitch 92 0 3 #[31, 48, 64, 81], 31) := by decide +kernel
theorem dX11_isWithin_32 : decode cX11_isWithin 32 = .ok (.iload_n 1, 1) := by decide +kernel
theorem dX11_isWithin_33 : decode cX11_isWithin 33 = .ok (.iconst 2, 1) := by decide +kernel
theorem dX11_isWithin_34 : decode cX11_isWithin 34 = .ok (.if_icmp .lt 13, 3) := by decide +kernel
theorem dX11_isWithin_37 : decode cX11_isWithin 37 = .ok (.iload_n 1, 1) := by decide +kernel
theorem dX11_isWithin_38 : decode cX11_isWithin 38 = .ok (.bipush 10, 2) := by decide +kernel
theorem dX11_isWithin_40 : decode cX11_isWithin 40 = .ok (.if_icmp .gt 7, 3) := by decide +kernel
theorem dX11_isWithin_43 : decode cX11_isWithin 43 = .ok (.iconst 1, 1) := by decide +kernel
theorem dX11_isWithin_44 : decode cX11_isWithin 44 = .ok (.goto 4, 3) := by decide +kernel
theorem dX11_isWithin_47 : decode cX11_isWithin 47 = .ok (.iconst 0, 1) := by decide +kernel
theorem dX11_isWithin_48 : decode cX11_isWithin 48 = .ok (.ireturn, 1) := by decide +kernel
theorem dX11_isWithin_49 : decode cX11_isWithin 49 = .ok (.iload_n 1, 1) := by decide +kernel
theorem dX11_isWithin_50 : decode cX11_isWithin 50 = .ok (.iconst 1, 1) := by decide +kernel
theorem dX11_isWithin_51 : decode cX11_isWithin 51 = .ok (.if_icmp .lt 12, 3) := by decide +kernel
theorem dX11_isWithin_54 : decode cX11_isWithin 54 = .ok (.iload_n 1, 1) := by decide +kernel
theorem dX11_isWithin_55 : decode cX11_isWithin 55 = .ok (.iconst 5, 1) := by decide +kernel
theorem dX11_isWithin_56 : decode cX11_isWithin 56 = .ok (.if_icmp .gt 7, 3) := by decide +kernel
theorem dX11_isWithin_59 : decode cX11_isWithin 59 = .ok (.iconst 1, 1) := by decide +kernel
theorem dX11_isWithin_60 : decode cX11_isWithin 60 = .ok (.goto 4, 3) := by decide +kernel
theorem dX11_isWithin_63 : decode cX11_isWithin 63 = .ok (.iconst 0, 1) := by decide +kernel
theorem dX11_isWithin_64 : decode cX11_isWithin 64 = .ok (.ireturn, 1) := by decide +kernel
theorem dX11_isWithin_65 : decode cX11_isWithin 65 = .ok (.iload_n 1, 1) := by decide +kernel
theorem dX11_isWithin_66 : decode cX11_isWithin 66 = .ok (.iconst 1, 1) := by decide +kernel
theorem dX11_isWithin_67 : decode cX11_isWithin 67 = .ok (.if_icmp .lt 13, 3) := by decide +kernel
theorem dX11_isWithin_70 : decode cX11_isWithin 70 = .ok (.iload_n 1, 1) := by decide +kernel
theorem dX11_isWithin_71 : decode cX11_isWithin 71 = .ok (.bipush 9, 2) := by decide +kernel
theorem dX11_isWithin_73 : decode cX11_isWithin 73 = .ok (.if_icmp .gt 7, 3) := by decide +kernel
theorem dX11_isWithin_76 : decode cX11_isWithin 76 = .ok (.iconst 1, 1) := by decide +kernel
theorem dX11_isWithin_77 : decode cX11_isWithin 77 = .ok (.goto 4, 3) := by decide +kernel
theorem dX11_isWithin_80 : decode cX11_isWithin 80 = .ok (.iconst 0, 1) := by decide +kernel
theorem dX11_isWithin_81 : decode cX11_isWithin 81 = .ok (.ireturn, 1) := by decide +kernel
theorem dX11_isWithin_82 : decode cX11_isWithin 82 = .ok (.iload_n 1, 1) := by decide +kernel
theorem dX11_isWithin_83 : decode cX11_isWithin 83 = .ok (.iconst 1, 1) := by decide +kernel
theorem dX11_isWithin_84 : decode cX11_isWithin 84 = .ok (.if_icmp .gt 7, 3) := by decide +kernel
theorem dX11_isWithin_87 : decode cX11_isWithin 87 = .ok (.iconst 1, 1) := by decide +kernel
theorem dX11_isWithin_88 : decode cX11_isWithin 88 = .ok (.goto 4, 3) := by decide +kernel
theorem dX11_isWithin_91 : decode cX11_isWithin 91 = .ok (.iconst 0, 1) := by decide +kernel
theorem dX11_isWithin_92 : decode cX11_isWithin 92 = .ok (.ireturn, 1) := by decide +kernel
theorem dX11_isWithin_93 : decode cX11_isWithin 93 = .ok (.iload_n 1, 1) := by decide +kernel
theorem dX11_isWithin_94 : decode cX11_isWithin 94 = .ok (.bipush 9, 2) := by decide +kernel
theorem dX11_isWithin_96 : decode cX11_isWithin 96 = .ok (.if_icmp .gt 7, 3) := by decide +kernel
theorem dX11_isWithin_99 : decode cX11_isWithin 99 = .ok (.iconst 1, 1) := by decide +kernel
theorem dX11_isWithin_100 : decode cX11_isWithin 100 = .ok (.goto 4, 3) := by decide +kernel
theorem dX11_isWithin_103 : decode cX11_isWithin 103 = .ok (.iconst 0, 1) := by decide +kernel
theorem dX11_isWithin_104 : decode cX11_isWithin 104 = .ok (.ireturn, 1) := by decide +kernel
theorem dX11_line_0 : decode cX11_line 0 = .ok (.aload_n 0, 1) := by decide +kernel
theorem dX11_line_1 : decode cX11_line 1 = .ok (.getfield 118, 3) := by decide +kernel
theorem dX11_line_4 : decode cX11_line 4 = .ok (.istore_n 1, 1) := by decide +kernel
theorem dX11_line_5 : decode cX11_line 5 = .ok (.aload_n 0, 1) := by decide +kernel
theorem dX11_line_6 : decode cX11_line 6 = .ok (.getfield 121, 3) := by decide +kernel
theorem dX11_line_9 : decode cX11_line 9 = .ok (.ifCond .eq 10, 3) := by decide +kernel
theorem dX11_line_12 : decode cX11_line 12 = .ok (.aload_n 0, 1) := by decide +kernel
theorem dX11_line_13 : decode cX11_line 13 = .ok (.iconst 1, 1) := by decide +kernel
theorem dX11_line_14 : decode cX11_line 14 = .ok (.iload_n 1, 1) := by decide +kernel
theorem dX11_line_15 : decode cX11_line 15 = .ok (.invokevirtual 153, 3) := by decide +kernel
theorem dX11_line_18 : decode cX11_line 18 = .ok (.return_, 1) := by decide +kernel
theorem dX11_line_19 : decode cX11_line 19 = .ok (.aload_n 0, 1) := by decide +kernel
theorem dX11_line_20 : decode cX11_line 20 = .ok (.getfield 131, 3) := by decide +kernel
theorem dX11_line_23 : decode cX11_line 23 = .ok (.istore_n 2, 1) := by decide +kernel
theorem dX11_line_24 : decode cX11_line 24 = .ok (.aload_n 0, 1) := by decide +kernel
theorem dX11_line_25 : decode cX11_line 25 = .ok (.invokevirtual 157, 3) := by decide +kernel
theorem dX11_line_28 : decode cX11_line 28 = .ok (.aload_n 0, 1) := by decide +kernel
theorem dX11_line_29 : decode cX11_line 29 = .ok (.getfield 121, 3) := by decide +kernel
theorem dX11_line_32 : decode cX11_line 32 = .ok (.iconst 1, 1) := by decide +kernel
theorem dX11_line_33 : decode cX11_line 33 = .ok (.if_icmp .eq 15, 3) := by decide +kernel
theorem dX11_line_36 : decode cX11_line 36 = .ok (.aload_n 0, 1) := by decide +kernel
theorem dX11_line_37 : decode cX11_line 37 = .ok (.iconst 1, 1) := by decide +kernel
theorem dX11_line_38 : decode cX11_line 38 = .ok (.aload_n 0, 1) := by decide +kernel
theorem dX11_line_39 : decode cX11_line 39 = .ok (.getfield 118, 3) := by decide +kernel
theorem dX11_line_42 : decode cX11_line 42 = .ok (.invokevirtual 153, 3) := by decide +kernel
theorem dX11_line_45 : decode cX11_line 45 = .ok (.goto 23, 3) := by decide +kernel
theorem dX11_line_48 : decode cX11_line 48 = .ok (.iload_n 2, 1) := by decide +kernel
theorem dX11_line_49 : decode cX11_line 49 = .ok (.aload_n 0, 1) := by decide +kernel
theorem dX11_line_50 : decode cX11_line 50 = .ok (.getfield 131, 3) := by decide +kernel
theorem dX11_line_53 : decode cX11_line 53 = .ok (.invokestatic 160, 3) := by decide +kernel
theorem dX11_line_56 : decode cX11_line 56 = .ok (.ifCond .ne 12, 3) := by decide +kernel
theorem dX11_line_59 : decode cX11_line 59 = .ok (.aload_n 0, 1) := by decide +kernel
theorem dX11_line_60 : decode cX11_line 60 = .ok (.iconst 2, 1) := by decide +kernel
theorem dX11_line_61 : decode cX11_line 61 = .ok (.aload_n 0, 1) := by decide +kernel
theorem dX11_line_62 : decode cX11_line 62 = .ok (.getfield 118, 3) := by decide +kernel
theorem dX11_line_65 : decode cX11_line 65 = .ok (.invokevirtual 153, 3) := by decide +kernel
theorem dX11_line_68 : decode cX11_line 68 = .ok (.aload_n 0, 1) := by decide +kernel
theorem dX11_line_69 : decode cX11_line 69 = .ok (.getfield 147, 3) := by decide +kernel
theorem dX11_line_72 : decode cX11_line 72 = .ok (.ifCond .eq 4, 3) := by decide +kernel
theorem dX11_line_75 : decode cX11_line 75 = .ok (.return_, 1) := by decide +kernel
theorem dX11_line_76 : decode cX11_line 76 = .ok (.aload_n 0, 1) := by decide +kernel
theorem dX11_line_77 : decode cX11_line 77 = .ok (.getfield 131, 3) := by decide +kernel
theorem dX11_line_80 : decode cX11_line 80 = .ok (.istore_n 3, 1) := by decide +kernel
theorem dX11_line_81 : decode cX11_line 81 = .ok (.aload_n 0, 1) := by decide +kernel
theorem dX11_line_82 : decode cX11_line 82 = .ok (.invokevirtual 157, 3) := by decide +kernel
theorem dX11_line_85 : decode cX11_line 85 = .ok (.aload_n 0, 1) := by decide +kernel
theorem dX11_line_86 : decode cX11_line 86 = .ok (.getfield 16, 3) := by decide +kernel
theorem dX11_line_89 : decode cX11_line 89 = .ok (.bipush 70, 2) := by decide +kernel
theorem dX11_line_91 : decode cX11_line 91 = .ok (.iload_n 2, 1) := by decide +kernel
theorem dX11_line_92 : decode cX11_line 92 = .ok (.iadd, 1) := by decide +kernel
theorem dX11_line_93 : decode cX11_line 93 = .ok (.iaload, 1) := by decide +kernel
theorem dX11_line_94 : decode cX11_line 94 = .ok (.iconst (-1), 1) := by decide +kernel
theorem dX11_line_95 : decode cX11_line 95 = .ok (.if_icmp .eq 9, 3) := by decide +kernel
theorem dX11_line_98 : decode cX11_line 98 = .ok (.aload_n 0, 1) := by decide +kernel
theorem dX11_line_99 : decode cX11_line 99 = .ok (.iconst 3, 1) := by decide +kernel
theorem dX11_line_100 : decode cX11_line 100 = .ok (.iload_n 1, 1) := by decide +kernel
theorem dX11_line_101 : decode cX11_line 101 = .ok (.invokevirtual 153, 3) := by decide +kernel
theorem dX11_line_104 : decode cX11_line 104 = .ok (.aload_n 0, 1) := by decide +kernel
theorem dX11_line_105 : decode cX11_line 105 = .ok (.getfield 121, 3) := by decide +kernel
theorem dX11_line_108 : decode cX11_line 108 = .ok (.iconst 2, 1) := by decide +kernel
theorem dX11_line_109 : decode cX11_line 109 = .ok (.if_icmp .eq 12, 3) := by decide +kernel
theorem dX11_line_112 : decode cX11_line 112 = .ok (.aload_n 0, 1) := by decide +kernel
theorem dX11_line_113 : decode cX11_line 113 = .ok (.iconst 1, 1) := by decide +kernel
theorem dX11_line_114 : decode cX11_line 114 = .ok (.aload_n 0, 1) := by decide +kernel
theorem dX11_line_115 : decode cX11_line 115 = .ok (.getfield 118, 3) := by decide +kernel
theorem dX11_line_118 : decode cX11_line 118 = .ok (.invokevirtual 153, 3) := by decide +kernel
theorem dX11_line_121 : decode cX11_line 121 = .ok (.aload_n 0, 1) := by decide +kernel
theorem dX11_line_122 : decode cX11_line 122 = .ok (.getfield 147, 3) := by decide +kernel
theorem dX11_line_125 : decode cX11_line 125 = .ok (.ifCond .eq 4, 3) := by decide +kernel
theorem dX11_line_128 : decode cX11_line 128 = .ok (.return_, 1) := by decide +kernel
theorem dX11_line_129 : decode cX11_line 129 = .ok (.aload_n 0, 1) := by decide +kernel
theorem dX11_line_130 : decode cX11_line 130 = .ok (.getfield 16, 3) := by decide +kernel
theorem dX11_line_133 : decode cX11_line 133 = .ok (.bipush 70, 2) := by decide +kernel
theorem dX11_line_135 : decode cX11_line 135 = .ok (.iload_n 2, 1) := by decide +kernel
theorem dX11_line_136 : decode cX11_line 136 = .ok (.iadd, 1) := by decide +kernel
theorem dX11_line_137 : decode cX11_line 137 = .ok (.iload_n 3, 1) := by decide +kernel
theorem dX11_line_138 : decode cX11_line 138 = .ok (.iastore, 1) := by decide +kernel
theorem dX11_line_139 : decode cX11_line 139 = .ok (.aload_n 0, 1) := by decide +kernel
theorem dX11_line_140 : decode cX11_line 140 = .ok (.invokevirtual 157, 3) := by decide +kernel
theorem dX11_line_143 : decode cX11_line 143 = .ok (.return_, 1) := by decide +kernel
theorem dX11_statute_0 : decode cX11_statute 0 = .ok (.aload_n 0, 1) := by decide +kernel
theorem dX11_statute_1 : decode cX11_statute 1 = .ok (.iconst 0, 1) := by decide +kernel
theorem dX11_statute_2 : decode cX11_statute 2 = .ok (.putfield 102, 3) := by decide +kernel
theorem dX11_statute_5 : decode cX11_statute 5 = .ok (.iload_n 1, 1) := by decide +kernel
theorem dX11_statute_6 : decode cX11_statute 6 = .ok (.ifCond .lt 30, 3) := by decide +kernel
theorem dX11_statute_9 : decode cX11_statute 9 = .ok (.iload_n 1, 1) := by decide +kernel
theorem dX11_statute_10 : decode cX11_statute 10 = .ok (.aload_n 0, 1) := by decide +kernel
theorem dX11_statute_11 : decode cX11_statute 11 = .ok (.getfield 105, 3) := by decide +kernel
theorem dX11_statute_14 : decode cX11_statute 14 = .ok (.if_icmp .gt 22, 3) := by decide +kernel
theorem dX11_statute_17 : decode cX11_statute 17 = .ok (.iload_n 2, 1) := by decide +kernel
theorem dX11_statute_18 : decode cX11_statute 18 = .ok (.ifCond .lt 18, 3) := by decide +kernel
theorem dX11_statute_21 : decode cX11_statute 21 = .ok (.iload_n 2, 1) := by decide +kernel
theorem dX11_statute_22 : decode cX11_statute 22 = .ok (.bipush 99, 2) := by decide +kernel
theorem dX11_statute_24 : decode cX11_statute 24 = .ok (.if_icmp .gt 12, 3) := by decide +kernel
theorem dX11_statute_27 : decode cX11_statute 27 = .ok (.aload_n 0, 1) := by decide +kernel
theorem dX11_statute_28 : decode cX11_statute 28 = .ok (.getfield 164, 3) := by decide +kernel
theorem dX11_statute_31 : decode cX11_statute 31 = .ok (.bipush 10, 2) := by decide +kernel
theorem dX11_statute_33 : decode cX11_statute 33 = .ok (.if_icmp .ne 6, 3) := by decide +kernel
theorem dX11_statute_36 : decode cX11_statute 36 = .ok (.bipush (-2), 2) := by decide +kernel
theorem dX11_statute_38 : decode cX11_statute 38 = .ok (.ireturn, 1) := by decide +kernel
theorem dX11_statute_39 : decode cX11_statute 39 = .ok (.aload_n 0, 1) := by decide +kernel
theorem dX11_statute_40 : decode cX11_statute 40 = .ok (.iload_n 1, 1) := by decide +kernel
theorem dX11_statute_41 : decode cX11_statute 41 = .ok (.putfield 111, 3) := by decide +kernel
theorem dX11_statute_44 : decode cX11_statute 44 = .ok (.aload_n 0, 1) := by decide +kernel
theorem dX11_statute_45 : decode cX11_statute 45 = .ok (.iconst 0, 1) := by decide +kernel
theorem dX11_statute_46 : decode cX11_statute 46 = .ok (.putfield 105, 3) := by decide +kernel
theorem dX11_statute_49 : decode cX11_statute 49 = .ok (.aload_n 0, 1) := by decide +kernel
theorem dX11_statute_50 : decode cX11_statute 50 = .ok (.iconst 0, 1) := by decide +kernel
theorem dX11_statute_51 : decode cX11_statute 51 = .ok (.putfield 108, 3) := by decide +kernel
theorem dX11_statute_54 : decode cX11_statute 54 = .ok (.aload_n 0, 1) := by decide +kernel
theorem dX11_statute_55 : decode cX11_statute 55 = .ok (.iconst 0, 1) := by decide +kernel
theorem dX11_statute_56 : decode cX11_statute 56 = .ok (.putfield 147, 3) := by decide +kernel
theorem dX11_statute_59 : decode cX11_statute 59 = .ok (.aload_n 0, 1) := by decide +kernel
theorem dX11_statute_60 : decode cX11_statute 60 = .ok (.iconst (-1), 1) := by decide +kernel
theorem dX11_statute_61 : decode cX11_statute 61 = .ok (.putfield 150, 3) := by decide +kernel
theorem dX11_statute_64 : decode cX11_statute 64 = .ok (.bipush 70, 2) := by decide +kernel
theorem dX11_statute_66 : decode cX11_statute 66 = .ok (.istore_n 3, 1) := by decide +kernel
theorem dX11_statute_67 : decode cX11_statute 67 = .ok (.iload_n 3, 1) := by decide +kernel
theorem dX11_statute_68 : decode cX11_statute 68 = .ok (.bipush 77, 2) := by decide +kernel
theorem dX11_statute_70 : decode cX11_statute 70 = .ok (.if_icmp .ge 16, 3) := by decide +kernel
theorem dX11_statute_73 : decode cX11_statute 73 = .ok (.aload_n 0, 1) := by decide +kernel
theorem dX11_statute_74 : decode cX11_statute 74 = .ok (.getfield 16, 3) := by decide +kernel
theorem dX11_statute_77 : decode cX11_statute 77 = .ok (.iload_n 3, 1) := by decide +kernel
theorem dX11_statute_78 : decode cX11_statute 78 = .ok (.iconst (-1), 1) := by decide +kernel
theorem dX11_statute_79 : decode cX11_statute 79 = .ok (.iastore, 1) := by decide +kernel
theorem dX11_statute_80 : decode cX11_statute 80 = .ok (.iinc 3 1, 3) := by decide +kernel
theorem dX11_statute_83 : decode cX11_statute 83 = .ok (.goto (-16), 3) := by decide +kernel
theorem dX11_statute_86 : decode cX11_statute 86 = .ok (.aload_n 0, 1) := by decide +kernel
theorem dX11_statute_87 : decode cX11_statute 87 = .ok (.invokevirtual 157, 3) := by decide +kernel
theorem dX11_statute_90 : decode cX11_statute 90 = .ok (.aload_n 0, 1) := by decide +kernel
theorem dX11_statute_91 : decode cX11_statute 91 = .ok (.getfield 147, 3) := by decide +kernel
theorem dX11_statute_94 : decode cX11_statute 94 = .ok (.ifCond .ne 18, 3) := by decide +kernel
theorem dX11_statute_97 : decode cX11_statute 97 = .ok (.aload_n 0, 1) := by decide +kernel
theorem dX11_statute_98 : decode cX11_statute 98 = .ok (.getfield 121, 3) := by decide +kernel
theorem dX11_statute_101 : decode cX11_statute 101 = .ok (.iconst 3, 1) := by decide +kernel
theorem dX11_statute_102 : decode cX11_statute 102 = .ok (.if_icmp .eq 10, 3) := by decide +kernel
theorem dX11_statute_105 : decode cX11_statute 105 = .ok (.aload_n 0, 1) := by decide +kernel
theorem dX11_statute_106 : decode cX11_statute 106 = .ok (.invokevirtual 167, 3) := by decide +kernel
theorem dX11_statute_109 : decode cX11_statute 109 = .ok (.goto (-19), 3) := by decide +kernel
theorem dX11_statute_112 : decode cX11_statute 112 = .ok (.aload_n 0, 1) := by decide +kernel
theorem dX11_statute_113 : decode cX11_statute 113 = .ok (.aload_n 0, 1) := by decide +kernel
theorem dX11_statute_114 : decode cX11_statute 114 = .ok (.getfield 147, 3) := by decide +kernel
theorem dX11_statute_117 : decode cX11_statute 117 = .ok (.putfield 170, 3) := by decide +kernel
theorem dX11_statute_120 : decode cX11_statute 120 = .ok (.aload_n 0, 1) := by decide +kernel
theorem dX11_statute_121 : decode cX11_statute 121 = .ok (.aload_n 0, 1) := by decide +kernel
theorem dX11_statute_122 : decode cX11_statute 122 = .ok (.getfield 150, 3) := by decide +kernel
theorem dX11_statute_125 : decode cX11_statute 125 = .ok (.putfield 19, 3) := by decide +kernel
theorem dX11_statute_128 : decode cX11_statute 128 = .ok (.aload_n 0, 1) := by decide +kernel
theorem dX11_statute_129 : decode cX11_statute 129 = .ok (.getfield 147, 3) := by decide +kernel
theorem dX11_statute_132 : decode cX11_statute 132 = .ok (.ifCond .eq 5, 3) := by decide +kernel
theorem dX11_statute_135 : decode cX11_statute 135 = .ok (.iconst (-1), 1) := by decide +kernel
theorem dX11_statute_136 : decode cX11_statute 136 = .ok (.ireturn, 1) := by decide +kernel
theorem dX11_statute_137 : decode cX11_statute 137 = .ok (.aload_n 0, 1) := by decide +kernel
theorem dX11_statute_138 : decode cX11_statute 138 = .ok (.getfield 13, 3) := by decide +kernel
theorem dX11_statute_141 : decode cX11_statute 141 = .ok (.aload_n 0, 1) := by decide +kernel
theorem dX11_statute_142 : decode cX11_statute 142 = .ok (.getfield 164, 3) := by decide +kernel
theorem dX11_statute_145 : decode cX11_statute 145 = .ok (.iload_n 2, 1) := by decide +kernel
theorem dX11_statute_146 : decode cX11_statute 146 = .ok (.iastore, 1) := by decide +kernel
theorem dX11_statute_147 : decode cX11_statute 147 = .ok (.iconst 0, 1) := by decide +kernel
theorem dX11_statute_148 : decode cX11_statute 148 = .ok (.istore_n 3, 1) := by decide +kernel
theorem dX11_statute_149 : decode cX11_statute 149 = .ok (.iload_n 3, 1) := by decide +kernel
theorem dX11_statute_150 : decode cX11_statute 150 = .ok (.bipush 7, 2) := by decide +kernel
theorem dX11_statute_152 : decode cX11_statute 152 = .ok (.if_icmp .ge 32, 3) := by decide +kernel
theorem dX11_statute_155 : decode cX11_statute 155 = .ok (.aload_n 0, 1) := by decide +kernel
theorem dX11_statute_156 : decode cX11_statute 156 = .ok (.getfield 16, 3) := by decide +kernel
theorem dX11_statute_159 : decode cX11_statute 159 = .ok (.bipush 7, 2) := by decide +kernel
theorem dX11_statute_161 : decode cX11_statute 161 = .ok (.aload_n 0, 1) := by decide +kernel
theorem dX11_statute_162 : decode cX11_statute 162 = .ok (.getfield 164, 3) := by decide +kernel
theorem dX11_statute_165 : decode cX11_statute 165 = .ok (.imul, 1) := by decide +kernel
theorem dX11_statute_166 : decode cX11_statute 166 = .ok (.iload_n 3, 1) := by decide +kernel
theorem dX11_statute_167 : decode cX11_statute 167 = .ok (.iadd, 1) := by decide +kernel
theorem dX11_statute_168 : decode cX11_statute 168 = .ok (.aload_n 0, 1) := by decide +kernel
theorem dX11_statute_169 : decode cX11_statute 169 = .ok (.getfield 16, 3) := by decide +kernel
theorem dX11_statute_172 : decode cX11_statute 172 = .ok (.bipush 70, 2) := by decide +kernel
theorem dX11_statute_174 : decode cX11_statute 174 = .ok (.iload_n 3, 1) := by decide +kernel
theorem dX11_statute_175 : decode cX11_statute 175 = .ok (.iadd, 1) := by decide +kernel
theorem dX11_statute_176 : decode cX11_statute 176 = .ok (.iaload, 1) := by decide +kernel
theorem dX11_statute_177 : decode cX11_statute 177 = .ok (.iastore, 1) := by decide +kernel
theorem dX11_statute_178 : decode cX11_statute 178 = .ok (.iinc 3 1, 3) := by decide +kernel
theorem dX11_statute_181 : decode cX11_statute 181 = .ok (.goto (-32), 3) := by decide +kernel
theorem dX11_statute_184 : decode cX11_statute 184 = .ok (.aload_n 0, 1) := by decide +kernel
theorem dX11_statute_185 : decode cX11_statute 185 = .ok (.dup, 1) := by decide +kernel
theorem dX11_statute_186 : decode cX11_statute 186 = .ok (.getfield 164, 3) := by decide +kernel
theorem dX11_statute_189 : decode cX11_statute 189 = .ok (.iconst 1, 1) := by decide +kernel
theorem dX11_statute_190 : decode cX11_statute 190 = .ok (.iadd, 1) := by decide +kernel
theorem dX11_statute_191 : decode cX11_statute 191 = .ok (.putfield 164, 3) := by decide +kernel
theorem dX11_statute_194 : decode cX11_statute 194 = .ok (.aload_n 0, 1) := by decide +kernel
theorem dX11_statute_195 : decode cX11_statute 195 = .ok (.getfield 164, 3) := by decide +kernel
theorem dX11_statute_198 : decode cX11_statute 198 = .ok (.iconst 1, 1) := by decide +kernel
theorem dX11_statute_199 : decode cX11_statute 199 = .ok (.isub, 1) := by decide +kernel
theorem dX11_statute_200 : decode cX11_statute 200 = .ok (.ireturn, 1) := by decide +kernel
theorem dX11_fault_0 : decode cX11_fault 0 = .ok (.aload_n 0, 1) := by decide +kernel
theorem dX11_fault_1 : decode cX11_fault 1 = .ok (.iconst 0, 1) := by decide +kernel
theorem dX11_fault_2 : decode cX11_fault 2 = .ok (.putfield 102, 3) := by decide +kernel
theorem dX11_fault_5 : decode cX11_fault 5 = .ok (.iload_n 1, 1) := by decide +kernel
theorem dX11_fault_6 : decode cX11_fault 6 = .ok (.ifCond .ne 10, 3) := by decide +kernel
theorem dX11_fault_9 : decode cX11_fault 9 = .ok (.aload_n 0, 1) := by decide +kernel
theorem dX11_fault_10 : decode cX11_fault 10 = .ok (.getfield 170, 3) := by decide +kernel
theorem dX11_fault_13 : decode cX11_fault 13 = .ok (.goto 16, 3) := by decide +kernel
theorem dX11_fault_16 : decode cX11_fault 16 = .ok (.iload_n 1, 1) := by decide +kernel
theorem dX11_fault_17 : decode cX11_fault 17 = .ok (.iconst 1, 1) := by decide +kernel
theorem dX11_fault_18 : decode cX11_fault 18 = .ok (.if_icmp .ne 10, 3) := by decide +kernel
theorem dX11_fault_21 : decode cX11_fault 21 = .ok (.aload_n 0, 1) := by decide +kernel
theorem dX11_fault_22 : decode cX11_fault 22 = .ok (.getfield 19, 3) := by decide +kernel
theorem dX11_fault_25 : decode cX11_fault 25 = .ok (.goto 4, 3) := by decide +kernel
theorem dX11_fault_28 : decode cX11_fault 28 = .ok (.iconst (-1), 1) := by decide +kernel
theorem dX11_fault_29 : decode cX11_fault 29 = .ok (.ireturn, 1) := by decide +kernel
theorem dX11_lawOf_0 : decode cX11_lawOf 0 = .ok (.iload_n 1, 1) := by decide +kernel
theorem dX11_lawOf_1 : decode cX11_lawOf 1 = .ok (.ifCond .ne 7, 3) := by decide +kernel
theorem dX11_lawOf_4 : decode cX11_lawOf 4 = .ok (.iconst 3, 1) := by decide +kernel
theorem dX11_lawOf_5 : decode cX11_lawOf 5 = .ok (.goto 23, 3) := by decide +kernel
theorem dX11_lawOf_8 : decode cX11_lawOf 8 = .ok (.iload_n 1, 1) := by decide +kernel
theorem dX11_lawOf_9 : decode cX11_lawOf 9 = .ok (.iconst 1, 1) := by decide +kernel
theorem dX11_lawOf_10 : decode cX11_lawOf 10 = .ok (.if_icmp .ne 7, 3) := by decide +kernel
theorem dX11_lawOf_13 : decode cX11_lawOf 13 = .ok (.iconst 1, 1) := by decide +kernel
theorem dX11_lawOf_14 : decode cX11_lawOf 14 = .ok (.goto 14, 3) := by decide +kernel
theorem dX11_lawOf_17 : decode cX11_lawOf 17 = .ok (.iload_n 1, 1) := by decide +kernel
theorem dX11_lawOf_18 : decode cX11_lawOf 18 = .ok (.iconst 2, 1) := by decide +kernel
theorem dX11_lawOf_19 : decode cX11_lawOf 19 = .ok (.if_icmp .ne 8, 3) := by decide +kernel
theorem dX11_lawOf_22 : decode cX11_lawOf 22 = .ok (.bipush 9, 2) := by decide +kernel
theorem dX11_lawOf_24 : decode cX11_lawOf 24 = .ok (.goto 4, 3) := by decide +kernel
theorem dX11_lawOf_27 : decode cX11_lawOf 27 = .ok (.iconst 0, 1) := by decide +kernel
theorem dX11_lawOf_28 : decode cX11_lawOf 28 = .ok (.istore_n 3, 1) := by decide +kernel
theorem dX11_lawOf_29 : decode cX11_lawOf 29 = .ok (.iconst (-1), 1) := by decide +kernel
theorem dX11_lawOf_30 : decode cX11_lawOf 30 = .ok (.istore 4, 2) := by decide +kernel
theorem dX11_lawOf_32 : decode cX11_lawOf 32 = .ok (.iconst 0, 1) := by decide +kernel
theorem dX11_lawOf_33 : decode cX11_lawOf 33 = .ok (.istore 5, 2) := by decide +kernel
theorem dX11_lawOf_35 : decode cX11_lawOf 35 = .ok (.iload 5, 2) := by decide +kernel
theorem dX11_lawOf_37 : decode cX11_lawOf 37 = .ok (.aload_n 0, 1) := by decide +kernel
theorem dX11_lawOf_38 : decode cX11_lawOf 38 = .ok (.getfield 164, 3) := by decide +kernel
theorem dX11_lawOf_41 : decode cX11_lawOf 41 = .ok (.if_icmp .ge 73, 3) := by decide +kernel
theorem dX11_lawOf_44 : decode cX11_lawOf 44 = .ok (.aload_n 0, 1) := by decide +kernel
theorem dX11_lawOf_45 : decode cX11_lawOf 45 = .ok (.getfield 13, 3) := by decide +kernel
theorem dX11_lawOf_48 : decode cX11_lawOf 48 = .ok (.iload 5, 2) := by decide +kernel
theorem dX11_lawOf_50 : decode cX11_lawOf 50 = .ok (.iaload, 1) := by decide +kernel
theorem dX11_lawOf_51 : decode cX11_lawOf 51 = .ok (.iload_n 2, 1) := by decide +kernel
theorem dX11_lawOf_52 : decode cX11_lawOf 52 = .ok (.if_icmp .gt 56, 3) := by decide +kernel
theorem dX11_lawOf_55 : decode cX11_lawOf 55 = .ok (.aload_n 0, 1) := by decide +kernel
theorem dX11_lawOf_56 : decode cX11_lawOf 56 = .ok (.getfield 13, 3) := by decide +kernel
theorem dX11_lawOf_59 : decode cX11_lawOf 59 = .ok (.iload 5, 2) := by decide +kernel
theorem dX11_lawOf_61 : decode cX11_lawOf 61 = .ok (.iaload, 1) := by decide +kernel
theorem dX11_lawOf_62 : decode cX11_lawOf 62 = .ok (.iload 4, 2) := by decide +kernel
theorem dX11_lawOf_64 : decode cX11_lawOf 64 = .ok (.if_icmp .lt 44, 3) := by decide +kernel
theorem dX11_lawOf_67 : decode cX11_lawOf 67 = .ok (.aload_n 0, 1) := by decide +kernel
theorem dX11_lawOf_68 : decode cX11_lawOf 68 = .ok (.getfield 16, 3) := by decide +kernel
theorem dX11_lawOf_71 : decode cX11_lawOf 71 = .ok (.bipush 7, 2) := by decide +kernel
theorem dX11_lawOf_73 : decode cX11_lawOf 73 = .ok (.iload 5, 2) := by decide +kernel
theorem dX11_lawOf_75 : decode cX11_lawOf 75 = .ok (.imul, 1) := by decide +kernel
theorem dX11_lawOf_76 : decode cX11_lawOf 76 = .ok (.iload_n 1, 1) := by decide +kernel
theorem dX11_lawOf_77 : decode cX11_lawOf 77 = .ok (.iadd, 1) := by decide +kernel
theorem dX11_lawOf_78 : decode cX11_lawOf 78 = .ok (.iaload, 1) := by decide +kernel
theorem dX11_lawOf_79 : decode cX11_lawOf 79 = .ok (.iconst (-1), 1) := by decide +kernel
theorem dX11_lawOf_80 : decode cX11_lawOf 80 = .ok (.if_icmp .ne 6, 3) := by decide +kernel
theorem dX11_lawOf_83 : decode cX11_lawOf 83 = .ok (.goto 25, 3) := by decide +kernel
theorem dX11_lawOf_86 : decode cX11_lawOf 86 = .ok (.aload_n 0, 1) := by decide +kernel
theorem dX11_lawOf_87 : decode cX11_lawOf 87 = .ok (.getfield 13, 3) := by decide +kernel
theorem dX11_lawOf_90 : decode cX11_lawOf 90 = .ok (.iload 5, 2) := by decide +kernel
theorem dX11_lawOf_92 : decode cX11_lawOf 92 = .ok (.iaload, 1) := by decide +kernel
theorem dX11_lawOf_93 : decode cX11_lawOf 93 = .ok (.istore 4, 2) := by decide +kernel
theorem dX11_lawOf_95 : decode cX11_lawOf 95 = .ok (.aload_n 0, 1) := by decide +kernel
theorem dX11_lawOf_96 : decode cX11_lawOf 96 = .ok (.getfield 16, 3) := by decide +kernel
theorem dX11_lawOf_99 : decode cX11_lawOf 99 = .ok (.bipush 7, 2) := by decide +kernel
theorem dX11_lawOf_101 : decode cX11_lawOf 101 = .ok (.iload 5, 2) := by decide +kernel
theorem dX11_lawOf_103 : decode cX11_lawOf 103 = .ok (.imul, 1) := by decide +kernel
theorem dX11_lawOf_104 : decode cX11_lawOf 104 = .ok (.iload_n 1, 1) := by decide +kernel
theorem dX11_lawOf_105 : decode cX11_lawOf 105 = .ok (.iadd, 1) := by decide +kernel
theorem dX11_lawOf_106 : decode cX11_lawOf 106 = .ok (.iaload, 1) := by decide +kernel
theorem dX11_lawOf_107 : decode cX11_lawOf 107 = .ok (.istore_n 3, 1) := by decide +kernel
theorem dX11_lawOf_108 : decode cX11_lawOf 108 = .ok (.iinc 5 1, 3) := by decide +kernel
theorem dX11_lawOf_111 : decode cX11_lawOf 111 = .ok (.goto (-76), 3) := by decide +kernel
theorem dX11_lawOf_114 : decode cX11_lawOf 114 = .ok (.iload_n 3, 1) := by decide +kernel
theorem dX11_lawOf_115 : decode cX11_lawOf 115 = .ok (.ireturn, 1) := by decide +kernel
theorem dX11_law_0 : decode cX11_law 0 = .ok (.aload_n 0, 1) := by decide +kernel
theorem dX11_law_1 : decode cX11_law 1 = .ok (.iconst 0, 1) := by decide +kernel
theorem dX11_law_2 : decode cX11_law 2 = .ok (.putfield 102, 3) := by decide +kernel
theorem dX11_law_5 : decode cX11_law 5 = .ok (.iload_n 1, 1) := by decide +kernel
theorem dX11_law_6 : decode cX11_law 6 = .ok (.ifCond .lt 19, 3) := by decide +kernel
theorem dX11_law_9 : decode cX11_law 9 = .ok (.iload_n 1, 1) := by decide +kernel
theorem dX11_law_10 : decode cX11_law 10 = .ok (.bipush 6, 2) := by decide +kernel
theorem dX11_law_12 : decode cX11_law 12 = .ok (.if_icmp .gt 13, 3) := by decide +kernel
theorem dX11_law_15 : decode cX11_law 15 = .ok (.iload_n 2, 1) := by decide +kernel
theorem dX11_law_16 : decode cX11_law 16 = .ok (.ifCond .lt 9, 3) := by decide +kernel
theorem dX11_law_19 : decode cX11_law 19 = .ok (.iload_n 2, 1) := by decide +kernel
theorem dX11_law_20 : decode cX11_law 20 = .ok (.bipush 99, 2) := by decide +kernel
theorem dX11_law_22 : decode cX11_law 22 = .ok (.if_icmp .le 7, 3) := by decide +kernel
theorem dX11_law_25 : decode cX11_law 25 = .ok (.iconst (-1), 1) := by decide +kernel
theorem dX11_law_26 : decode cX11_law 26 = .ok (.goto 9, 3) := by decide +kernel
theorem dX11_law_29 : decode cX11_law 29 = .ok (.aload_n 0, 1) := by decide +kernel
theorem dX11_law_30 : decode cX11_law 30 = .ok (.iload_n 1, 1) := by decide +kernel
theorem dX11_law_31 : decode cX11_law 31 = .ok (.iload_n 2, 1) := by decide +kernel
theorem dX11_law_32 : decode cX11_law 32 = .ok (.invokevirtual 173, 3) := by decide +kernel
theorem dX11_law_35 : decode cX11_law 35 = .ok (.ireturn, 1) := by decide +kernel
theorem dX11_isWard_0 : decode cX11_isWard 0 = .ok (.iload_n 1, 1) := by decide +kernel
theorem dX11_isWard_1 : decode cX11_isWard 1 = .ok (.ifCond .lt 15, 3) := by decide +kernel
theorem dX11_isWard_4 : decode cX11_isWard 4 = .ok (.iload_n 1, 1) := by decide +kernel
theorem dX11_isWard_5 : decode cX11_isWard 5 = .ok (.aload_n 0, 1) := by decide +kernel
theorem dX11_isWard_6 : decode cX11_isWard 6 = .ok (.getfield 177, 3) := by decide +kernel
theorem dX11_isWard_9 : decode cX11_isWard 9 = .ok (.if_icmp .ge 7, 3) := by decide +kernel
theorem dX11_isWard_12 : decode cX11_isWard 12 = .ok (.iconst 1, 1) := by decide +kernel
theorem dX11_isWard_13 : decode cX11_isWard 13 = .ok (.goto 4, 3) := by decide +kernel
theorem dX11_isWard_16 : decode cX11_isWard 16 = .ok (.iconst 0, 1) := by decide +kernel
theorem dX11_isWard_17 : decode cX11_isWard 17 = .ok (.ireturn, 1) := by decide +kernel
theorem dX11_ward_0 : decode cX11_ward 0 = .ok (.aload_n 0, 1) := by decide +kernel
theorem dX11_ward_1 : decode cX11_ward 1 = .ok (.iconst 0, 1) := by decide +kernel
theorem dX11_ward_2 : decode cX11_ward 2 = .ok (.putfield 102, 3) := by decide +kernel
theorem dX11_ward_5 : decode cX11_ward 5 = .ok (.aload_n 0, 1) := by decide +kernel
theorem dX11_ward_6 : decode cX11_ward 6 = .ok (.getfield 177, 3) := by decide +kernel
theorem dX11_ward_9 : decode cX11_ward 9 = .ok (.bipush 17, 2) := by decide +kernel
theorem dX11_ward_11 : decode cX11_ward 11 = .ok (.if_icmp .ne 5, 3) := by decide +kernel
theorem dX11_ward_14 : decode cX11_ward 14 = .ok (.iconst (-1), 1) := by decide +kernel
theorem dX11_ward_15 : decode cX11_ward 15 = .ok (.ireturn, 1) := by decide +kernel
theorem dX11_ward_16 : decode cX11_ward 16 = .ok (.aload_n 0, 1) := by decide +kernel
theorem dX11_ward_17 : decode cX11_ward 17 = .ok (.dup, 1) := by decide +kernel
theorem dX11_ward_18 : decode cX11_ward 18 = .ok (.getfield 177, 3) := by decide +kernel
theorem dX11_ward_21 : decode cX11_ward 21 = .ok (.iconst 1, 1) := by decide +kernel
theorem dX11_ward_22 : decode cX11_ward 22 = .ok (.iadd, 1) := by decide +kernel
theorem dX11_ward_23 : decode cX11_ward 23 = .ok (.putfield 177, 3) := by decide +kernel
theorem dX11_ward_26 : decode cX11_ward 26 = .ok (.aload_n 0, 1) := by decide +kernel
theorem dX11_ward_27 : decode cX11_ward 27 = .ok (.getfield 177, 3) := by decide +kernel
theorem dX11_ward_30 : decode cX11_ward 30 = .ok (.iconst 1, 1) := by decide +kernel
theorem dX11_ward_31 : decode cX11_ward 31 = .ok (.isub, 1) := by decide +kernel
theorem dX11_ward_32 : decode cX11_ward 32 = .ok (.ireturn, 1) := by decide +kernel
theorem dX11_horse_0 : decode cX11_horse 0 = .ok (.aload_n 0, 1) := by decide +kernel
theorem dX11_horse_1 : decode cX11_horse 1 = .ok (.iconst 0, 1) := by decide +kernel
theorem dX11_horse_2 : decode cX11_horse 2 = .ok (.putfield 102, 3) := by decide +kernel
theorem dX11_horse_5 : decode cX11_horse 5 = .ok (.iload_n 1, 1) := by decide +kernel
theorem dX11_horse_6 : decode cX11_horse 6 = .ok (.ifCond .lt 19, 3) := by decide +kernel
theorem dX11_horse_9 : decode cX11_horse 9 = .ok (.iload_n 1, 1) := by decide +kernel
theorem dX11_horse_10 : decode cX11_horse 10 = .ok (.sipush 999, 3) := by decide +kernel
theorem dX11_horse_13 : decode cX11_horse 13 = .ok (.if_icmp .gt 12, 3) := by decide +kernel
theorem dX11_horse_16 : decode cX11_horse 16 = .ok (.aload_n 0, 1) := by decide +kernel
theorem dX11_horse_17 : decode cX11_horse 17 = .ok (.getfield 180, 3) := by decide +kernel
theorem dX11_horse_20 : decode cX11_horse 20 = .ok (.bipush 16, 2) := by decide +kernel
theorem dX11_horse_22 : decode cX11_horse 22 = .ok (.if_icmp .ne 5, 3) := by decide +kernel
theorem dX11_horse_25 : decode cX11_horse 25 = .ok (.iconst (-1), 1) := by decide +kernel
theorem dX11_horse_26 : decode cX11_horse 26 = .ok (.ireturn, 1) := by decide +kernel
theorem dX11_horse_27 : decode cX11_horse 27 = .ok (.aload_n 0, 1) := by decide +kernel
theorem dX11_horse_28 : decode cX11_horse 28 = .ok (.getfield 48, 3) := by decide +kernel
theorem dX11_horse_31 : decode cX11_horse 31 = .ok (.aload_n 0, 1) := by decide +kernel
theorem dX11_horse_32 : decode cX11_horse 32 = .ok (.getfield 180, 3) := by decide +kernel
theorem dX11_horse_35 : decode cX11_horse 35 = .ok (.iload_n 1, 1) := by decide +kernel
theorem dX11_horse_36 : decode cX11_horse 36 = .ok (.iastore, 1) := by decide +kernel
theorem dX11_horse_37 : decode cX11_horse 37 = .ok (.aload_n 0, 1) := by decide +kernel
theorem dX11_horse_38 : decode cX11_horse 38 = .ok (.getfield 51, 3) := by decide +kernel
theorem dX11_horse_41 : decode cX11_horse 41 = .ok (.aload_n 0, 1) := by decide +kernel
theorem dX11_horse_42 : decode cX11_horse 42 = .ok (.getfield 180, 3) := by decide +kernel
theorem dX11_horse_45 : decode cX11_horse 45 = .ok (.iconst 1, 1) := by decide +kernel
theorem dX11_horse_46 : decode cX11_horse 46 = .ok (.bastore, 1) := by decide +kernel
theorem dX11_horse_47 : decode cX11_horse 47 = .ok (.aload_n 0, 1) := by decide +kernel
theorem dX11_horse_48 : decode cX11_horse 48 = .ok (.dup, 1) := by decide +kernel
theorem dX11_horse_49 : decode cX11_horse 49 = .ok (.getfield 180, 3) := by decide +kernel
theorem dX11_horse_52 : decode cX11_horse 52 = .ok (.iconst 1, 1) := by decide +kernel
theorem dX11_horse_53 : decode cX11_horse 53 = .ok (.iadd, 1) := by decide +kernel
theorem dX11_horse_54 : decode cX11_horse 54 = .ok (.putfield 180, 3) := by decide +kernel
theorem dX11_horse_57 : decode cX11_horse 57 = .ok (.aload_n 0, 1) := by decide +kernel
theorem dX11_horse_58 : decode cX11_horse 58 = .ok (.getfield 180, 3) := by decide +kernel
theorem dX11_horse_61 : decode cX11_horse 61 = .ok (.iconst 1, 1) := by decide +kernel
theorem dX11_horse_62 : decode cX11_horse 62 = .ok (.isub, 1) := by decide +kernel
theorem dX11_horse_63 : decode cX11_horse 63 = .ok (.ireturn, 1) := by decide +kernel
theorem dX11_sound_0 : decode cX11_sound 0 = .ok (.aload_n 0, 1) := by decide +kernel
theorem dX11_sound_1 : decode cX11_sound 1 = .ok (.iconst 0, 1) := by decide +kernel
theorem dX11_sound_2 : decode cX11_sound 2 = .ok (.putfield 102, 3) := by decide +kernel
theorem dX11_sound_5 : decode cX11_sound 5 = .ok (.iload_n 1, 1) := by decide +kernel
theorem dX11_sound_6 : decode cX11_sound 6 = .ok (.ifCond .lt 11, 3) := by decide +kernel
theorem dX11_sound_9 : decode cX11_sound 9 = .ok (.iload_n 1, 1) := by decide +kernel
theorem dX11_sound_10 : decode cX11_sound 10 = .ok (.aload_n 0, 1) := by decide +kernel
theorem dX11_sound_11 : decode cX11_sound 11 = .ok (.getfield 180, 3) := by decide +kernel
theorem dX11_sound_14 : decode cX11_sound 14 = .ok (.if_icmp .lt 5, 3) := by decide +kernel
theorem dX11_sound_17 : decode cX11_sound 17 = .ok (.iconst 0, 1) := by decide +kernel
theorem dX11_sound_18 : decode cX11_sound 18 = .ok (.ireturn, 1) := by decide +kernel
theorem dX11_sound_19 : decode cX11_sound 19 = .ok (.aload_n 0, 1) := by decide +kernel
theorem dX11_sound_20 : decode cX11_sound 20 = .ok (.getfield 51, 3) := by decide +kernel
theorem dX11_sound_23 : decode cX11_sound 23 = .ok (.iload_n 1, 1) := by decide +kernel
theorem dX11_sound_24 : decode cX11_sound 24 = .ok (.iload_n 2, 1) := by decide +kernel
theorem dX11_sound_25 : decode cX11_sound 25 = .ok (.bastore, 1) := by decide +kernel
theorem dX11_sound_26 : decode cX11_sound 26 = .ok (.iconst 1, 1) := by decide +kernel
theorem dX11_sound_27 : decode cX11_sound 27 = .ok (.ireturn, 1) := by decide +kernel
theorem dX11_draws_0 : decode cX11_draws 0 = .ok (.aload_n 0, 1) := by decide +kernel
theorem dX11_draws_1 : decode cX11_draws 1 = .ok (.ldc 183, 2) := by decide +kernel
theorem dX11_draws_3 : decode cX11_draws 3 = .ok (.aload_n 0, 1) := by decide +kernel
theorem dX11_draws_4 : decode cX11_draws 4 = .ok (.getfield 184, 3) := by decide +kernel
theorem dX11_draws_7 : decode cX11_draws 7 = .ok (.imul, 1) := by decide +kernel
theorem dX11_draws_8 : decode cX11_draws 8 = .ok (.sipush 12345, 3) := by decide +kernel
theorem dX11_draws_11 : decode cX11_draws 11 = .ok (.iadd, 1) := by decide +kernel
theorem dX11_draws_12 : decode cX11_draws 12 = .ok (.putfield 184, 3) := by decide +kernel
theorem dX11_draws_15 : decode cX11_draws 15 = .ok (.aload_n 0, 1) := by decide +kernel
theorem dX11_draws_16 : decode cX11_draws 16 = .ok (.getfield 184, 3) := by decide +kernel
theorem dX11_draws_19 : decode cX11_draws 19 = .ok (.bipush 16, 2) := by decide +kernel
theorem dX11_draws_21 : decode cX11_draws 21 = .ok (.ishr, 1) := by decide +kernel
theorem dX11_draws_22 : decode cX11_draws 22 = .ok (.sipush 32767, 3) := by decide +kernel
theorem dX11_draws_25 : decode cX11_draws 25 = .ok (.iand, 1) := by decide +kernel
theorem dX11_draws_26 : decode cX11_draws 26 = .ok (.iload_n 1, 1) := by decide +kernel
theorem dX11_draws_27 : decode cX11_draws 27 = .ok (.irem, 1) := by decide +kernel
theorem dX11_draws_28 : decode cX11_draws 28 = .ok (.ireturn, 1) := by decide +kernel
theorem dX11_isBarred_0 : decode cX11_isBarred 0 = .ok (.aload_n 0, 1) := by decide +kernel
theorem dX11_isBarred_1 : decode cX11_isBarred 1 = .ok (.getfield 26, 3) := by decide +kernel
theorem dX11_isBarred_4 : decode cX11_isBarred 4 = .ok (.iload_n 1, 1) := by decide +kernel
theorem dX11_isBarred_5 : decode cX11_isBarred 5 = .ok (.iaload, 1) := by decide +kernel
theorem dX11_isBarred_6 : decode cX11_isBarred 6 = .ok (.aload_n 0, 1) := by decide +kernel
theorem dX11_isBarred_7 : decode cX11_isBarred 7 = .ok (.getfield 187, 3) := by decide +kernel
theorem dX11_isBarred_10 : decode cX11_isBarred 10 = .ok (.if_icmp .lt 7, 3) := by decide +kernel
theorem dX11_isBarred_13 : decode cX11_isBarred 13 = .ok (.iconst 1, 1) := by decide +kernel
theorem dX11_isBarred_14 : decode cX11_isBarred 14 = .ok (.goto 4, 3) := by decide +kernel
theorem dX11_isBarred_17 : decode cX11_isBarred 17 = .ok (.iconst 0, 1) := by decide +kernel
theorem dX11_isBarred_18 : decode cX11_isBarred 18 = .ok (.ireturn, 1) := by decide +kernel
theorem dX11_choose_0 : decode cX11_choose 0 = .ok (.aload_n 0, 1) := by decide +kernel
theorem dX11_choose_1 : decode cX11_choose 1 = .ok (.iconst 0, 1) := by decide +kernel
theorem dX11_choose_2 : decode cX11_choose 2 = .ok (.putfield 102, 3) := by decide +kernel
theorem dX11_choose_5 : decode cX11_choose 5 = .ok (.aload_n 0, 1) := by decide +kernel
theorem dX11_choose_6 : decode cX11_choose 6 = .ok (.getfield 190, 3) := by decide +kernel
theorem dX11_choose_9 : decode cX11_choose 9 = .ok (.ifCond .eq 5, 3) := by decide +kernel
theorem dX11_choose_12 : decode cX11_choose 12 = .ok (.iconst (-1), 1) := by decide +kernel
theorem dX11_choose_13 : decode cX11_choose 13 = .ok (.ireturn, 1) := by decide +kernel
theorem dX11_choose_14 : decode cX11_choose 14 = .ok (.iconst 0, 1) := by decide +kernel
theorem dX11_choose_15 : decode cX11_choose 15 = .ok (.istore_n 2, 1) := by decide +kernel
theorem dX11_choose_16 : decode cX11_choose 16 = .ok (.iconst 0, 1) := by decide +kernel
theorem dX11_choose_17 : decode cX11_choose 17 = .ok (.istore_n 3, 1) := by decide +kernel
theorem dX11_choose_18 : decode cX11_choose 18 = .ok (.iload_n 3, 1) := by decide +kernel
theorem dX11_choose_19 : decode cX11_choose 19 = .ok (.aload_n 0, 1) := by decide +kernel
theorem dX11_choose_20 : decode cX11_choose 20 = .ok (.getfield 177, 3) := by decide +kernel
theorem dX11_choose_23 : decode cX11_choose 23 = .ok (.if_icmp .ge 32, 3) := by decide +kernel
theorem dX11_choose_26 : decode cX11_choose 26 = .ok (.iload_n 2, 1) := by decide +kernel
theorem dX11_choose_27 : decode cX11_choose 27 = .ok (.aload_n 0, 1) := by decide +kernel
theorem dX11_choose_28 : decode cX11_choose 28 = .ok (.iload_n 3, 1) := by decide +kernel
theorem dX11_choose_29 : decode cX11_choose 29 = .ok (.invokevirtual 193, 3) := by decide +kernel
theorem dX11_choose_32 : decode cX11_choose 32 = .ok (.ifCond .eq 7, 3) := by decide +kernel
theorem dX11_choose_35 : decode cX11_choose 35 = .ok (.iconst 0, 1) := by decide +kernel
theorem dX11_choose_36 : decode cX11_choose 36 = .ok (.goto 4, 3) := by decide +kernel
theorem dX11_choose_39 : decode cX11_choose 39 = .ok (.iconst 1, 1) := by decide +kernel
theorem dX11_choose_40 : decode cX11_choose 40 = .ok (.iadd, 1) := by decide +kernel
theorem dX11_choose_41 : decode cX11_choose 41 = .ok (.istore_n 2, 1) := by decide +kernel
theorem dX11_choose_42 : decode cX11_choose 42 = .ok (.aload_n 0, 1) := by decide +kernel
theorem dX11_choose_43 : decode cX11_choose 43 = .ok (.getfield 38, 3) := by decide +kernel
theorem dX11_choose_46 : decode cX11_choose 46 = .ok (.iload_n 3, 1) := by decide +kernel
theorem dX11_choose_47 : decode cX11_choose 47 = .ok (.iconst 0, 1) := by decide +kernel
theorem dX11_choose_48 : decode cX11_choose 48 = .ok (.bastore, 1) := by decide +kernel
theorem dX11_choose_49 : decode cX11_choose 49 = .ok (.iinc 3 1, 3) := by decide +kernel
theorem dX11_choose_52 : decode cX11_choose 52 = .ok (.goto (-34), 3) := by decide +kernel
theorem dX11_choose_55 : decode cX11_choose 55 = .ok (.aload_n 0, 1) := by decide +kernel
theorem dX11_choose_56 : decode cX11_choose 56 = .ok (.iload_n 2, 1) := by decide +kernel
theorem dX11_choose_57 : decode cX11_choose 57 = .ok (.aload_n 0, 1) := by decide +kernel
theorem dX11_choose_58 : decode cX11_choose 58 = .ok (.iconst 0, 1) := by decide +kernel
theorem dX11_choose_59 : decode cX11_choose 59 = .ok (.aload_n 0, 1) := by decide +kernel
theorem dX11_choose_60 : decode cX11_choose 60 = .ok (.getfield 187, 3) := by decide +kernel
theorem dX11_choose_63 : decode cX11_choose 63 = .ok (.invokevirtual 173, 3) := by decide +kernel
theorem dX11_choose_66 : decode cX11_choose 66 = .ok (.invokestatic 196, 3) := by decide +kernel
theorem dX11_choose_69 : decode cX11_choose 69 = .ok (.putfield 201, 3) := by decide +kernel
theorem dX11_choose_72 : decode cX11_choose 72 = .ok (.aload_n 0, 1) := by decide +kernel
theorem dX11_choose_73 : decode cX11_choose 73 = .ok (.getfield 201, 3) := by decide +kernel
theorem dX11_choose_76 : decode cX11_choose 76 = .ok (.iconst 2, 1) := by decide +kernel
theorem dX11_choose_77 : decode cX11_choose 77 = .ok (.if_icmp .ge 5, 3) := by decide +kernel
theorem dX11_choose_80 : decode cX11_choose 80 = .ok (.iconst (-1), 1) := by decide +kernel
theorem dX11_choose_81 : decode cX11_choose 81 = .ok (.ireturn, 1) := by decide +kernel
theorem dX11_choose_82 : decode cX11_choose 82 = .ok (.aload_n 0, 1) := by decide +kernel
theorem dX11_choose_83 : decode cX11_choose 83 = .ok (.iload_n 1, 1) := by decide +kernel
theorem dX11_choose_84 : decode cX11_choose 84 = .ok (.putfield 184, 3) := by decide +kernel
theorem dX11_choose_87 : decode cX11_choose 87 = .ok (.iconst 0, 1) := by decide +kernel
theorem dX11_choose_88 : decode cX11_choose 88 = .ok (.istore_n 3, 1) := by decide +kernel
theorem dX11_choose_89 : decode cX11_choose 89 = .ok (.iload_n 3, 1) := by decide +kernel
theorem dX11_choose_90 : decode cX11_choose 90 = .ok (.aload_n 0, 1) := by decide +kernel
theorem dX11_choose_91 : decode cX11_choose 91 = .ok (.getfield 201, 3) := by decide +kernel
theorem dX11_choose_94 : decode cX11_choose 94 = .ok (.if_icmp .ge 48, 3) := by decide +kernel
theorem dX11_choose_97 : decode cX11_choose 97 = .ok (.iload_n 3, 1) := by decide +kernel
theorem dX11_choose_98 : decode cX11_choose 98 = .ok (.aload_n 0, 1) := by decide +kernel
theorem dX11_choose_99 : decode cX11_choose 99 = .ok (.getfield 201, 3) := by decide +kernel
theorem dX11_choose_102 : decode cX11_choose 102 = .ok (.aload_n 0, 1) := by decide +kernel
theorem dX11_choose_103 : decode cX11_choose 103 = .ok (.getfield 201, 3) := by decide +kernel
theorem dX11_choose_106 : decode cX11_choose 106 = .ok (.iconst 3, 1) := by decide +kernel
theorem dX11_choose_107 : decode cX11_choose 107 = .ok (.idiv, 1) := by decide +kernel
theorem dX11_choose_108 : decode cX11_choose 108 = .ok (.isub, 1) := by decide +kernel
theorem dX11_choose_109 : decode cX11_choose 109 = .ok (.if_icmp .ge 10, 3) := by decide +kernel
theorem dX11_choose_112 : decode cX11_choose 112 = .ok (.aload_n 0, 1) := by decide +kernel
theorem dX11_choose_113 : decode cX11_choose 113 = .ok (.invokevirtual 204, 3) := by decide +kernel
theorem dX11_choose_116 : decode cX11_choose 116 = .ok (.goto 10, 3) := by decide +kernel
theorem dX11_choose_119 : decode cX11_choose 119 = .ok (.aload_n 0, 1) := by decide +kernel
theorem dX11_choose_120 : decode cX11_choose 120 = .ok (.iload_n 2, 1) := by decide +kernel
theorem dX11_choose_121 : decode cX11_choose 121 = .ok (.iload_n 3, 1) := by decide +kernel
theorem dX11_choose_122 : decode cX11_choose 122 = .ok (.isub, 1) := by decide +kernel
theorem dX11_choose_123 : decode cX11_choose 123 = .ok (.invokevirtual 207, 3) := by decide +kernel
theorem dX11_choose_126 : decode cX11_choose 126 = .ok (.istore 4, 2) := by decide +kernel
theorem dX11_choose_128 : decode cX11_choose 128 = .ok (.aload_n 0, 1) := by decide +kernel
theorem dX11_choose_129 : decode cX11_choose 129 = .ok (.getfield 38, 3) := by decide +kernel
theorem dX11_choose_132 : decode cX11_choose 132 = .ok (.iload 4, 2) := by decide +kernel
theorem dX11_choose_134 : decode cX11_choose 134 = .ok (.iconst 1, 1) := by decide +kernel
theorem dX11_choose_135 : decode cX11_choose 135 = .ok (.bastore, 1) := by decide +kernel
theorem dX11_choose_136 : decode cX11_choose 136 = .ok (.iinc 3 1, 3) := by decide +kernel
theorem dX11_choose_139 : decode cX11_choose 139 = .ok (.goto (-50), 3) := by decide +kernel
theorem dX11_choose_142 : decode cX11_choose 142 = .ok (.aload_n 0, 1) := by decide +kernel
theorem dX11_choose_143 : decode cX11_choose 143 = .ok (.iconst 1, 1) := by decide +kernel
theorem dX11_choose_144 : decode cX11_choose 144 = .ok (.putfield 190, 3) := by decide +kernel
theorem dX11_choose_147 : decode cX11_choose 147 = .ok (.aload_n 0, 1) := by decide +kernel
theorem dX11_choose_148 : decode cX11_choose 148 = .ok (.getfield 201, 3) := by decide +kernel
theorem dX11_choose_151 : decode cX11_choose 151 = .ok (.ireturn, 1) := by decide +kernel
theorem dX11_longest_0 : decode cX11_longest 0 = .ok (.iconst (-1), 1) := by decide +kernel
theorem dX11_longest_1 : decode cX11_longest 1 = .ok (.istore_n 1, 1) := by decide +kernel
theorem dX11_longest_2 : decode cX11_longest 2 = .ok (.iconst 0, 1) := by decide +kernel
theorem dX11_longest_3 : decode cX11_longest 3 = .ok (.istore_n 2, 1) := by decide +kernel
theorem dX11_longest_4 : decode cX11_longest 4 = .ok (.iload_n 2, 1) := by decide +kernel
theorem dX11_longest_5 : decode cX11_longest 5 = .ok (.aload_n 0, 1) := by decide +kernel
theorem dX11_longest_6 : decode cX11_longest 6 = .ok (.getfield 177, 3) := by decide +kernel
theorem dX11_longest_9 : decode cX11_longest 9 = .ok (.if_icmp .ge 48, 3) := by decide +kernel
theorem dX11_longest_12 : decode cX11_longest 12 = .ok (.aload_n 0, 1) := by decide +kernel
theorem dX11_longest_13 : decode cX11_longest 13 = .ok (.iload_n 2, 1) := by decide +kernel
theorem dX11_longest_14 : decode cX11_longest 14 = .ok (.invokevirtual 193, 3) := by decide +kernel
theorem dX11_longest_17 : decode cX11_longest 17 = .ok (.ifCond .ne 34, 3) := by decide +kernel
theorem dX11_longest_20 : decode cX11_longest 20 = .ok (.aload_n 0, 1) := by decide +kernel
theorem dX11_longest_21 : decode cX11_longest 21 = .ok (.getfield 38, 3) := by decide +kernel
theorem dX11_longest_24 : decode cX11_longest 24 = .ok (.iload_n 2, 1) := by decide +kernel
theorem dX11_longest_25 : decode cX11_longest 25 = .ok (.baload, 1) := by decide +kernel
theorem dX11_longest_26 : decode cX11_longest 26 = .ok (.ifCond .ne 25, 3) := by decide +kernel
theorem dX11_longest_29 : decode cX11_longest 29 = .ok (.iload_n 1, 1) := by decide +kernel
theorem dX11_longest_30 : decode cX11_longest 30 = .ok (.iconst (-1), 1) := by decide +kernel
theorem dX11_longest_31 : decode cX11_longest 31 = .ok (.if_icmp .eq 18, 3) := by decide +kernel
theorem dX11_longest_34 : decode cX11_longest 34 = .ok (.aload_n 0, 1) := by decide +kernel
theorem dX11_longest_35 : decode cX11_longest 35 = .ok (.getfield 23, 3) := by decide +kernel
theorem dX11_longest_38 : decode cX11_longest 38 = .ok (.iload_n 2, 1) := by decide +kernel
theorem dX11_longest_39 : decode cX11_longest 39 = .ok (.iaload, 1) := by decide +kernel
theorem dX11_longest_40 : decode cX11_longest 40 = .ok (.aload_n 0, 1) := by decide +kernel
theorem dX11_longest_41 : decode cX11_longest 41 = .ok (.getfield 23, 3) := by decide +kernel
theorem dX11_longest_44 : decode cX11_longest 44 = .ok (.iload_n 1, 1) := by decide +kernel
theorem dX11_longest_45 : decode cX11_longest 45 = .ok (.iaload, 1) := by decide +kernel
theorem dX11_longest_46 : decode cX11_longest 46 = .ok (.if_icmp .ge 5, 3) := by decide +kernel
theorem dX11_longest_49 : decode cX11_longest 49 = .ok (.iload_n 2, 1) := by decide +kernel
theorem dX11_longest_50 : decode cX11_longest 50 = .ok (.istore_n 1, 1) := by decide +kernel
theorem dX11_longest_51 : decode cX11_longest 51 = .ok (.iinc 2 1, 3) := by decide +kernel
theorem dX11_longest_54 : decode cX11_longest 54 = .ok (.goto (-50), 3) := by decide +kernel
theorem dX11_longest_57 : decode cX11_longest 57 = .ok (.iload_n 1, 1) := by decide +kernel
theorem dX11_longest_58 : decode cX11_longest 58 = .ok (.ireturn, 1) := by decide +kernel
theorem dX11_drawnWard_0 : decode cX11_drawnWard 0 = .ok (.aload_n 0, 1) := by decide +kernel
theorem dX11_drawnWard_1 : decode cX11_drawnWard 1 = .ok (.iload_n 1, 1) := by decide +kernel
theorem dX11_drawnWard_2 : decode cX11_drawnWard 2 = .ok (.invokevirtual 211, 3) := by decide +kernel
theorem dX11_drawnWard_5 : decode cX11_drawnWard 5 = .ok (.istore_n 2, 1) := by decide +kernel
theorem dX11_drawnWard_6 : decode cX11_drawnWard 6 = .ok (.iconst 0, 1) := by decide +kernel
theorem dX11_drawnWard_7 : decode cX11_drawnWard 7 = .ok (.istore_n 3, 1) := by decide +kernel
theorem dX11_drawnWard_8 : decode cX11_drawnWard 8 = .ok (.aload_n 0, 1) := by decide +kernel
theorem dX11_drawnWard_9 : decode cX11_drawnWard 9 = .ok (.iload_n 3, 1) := by decide +kernel
theorem dX11_drawnWard_10 : decode cX11_drawnWard 10 = .ok (.invokevirtual 193, 3) := by decide +kernel
theorem dX11_drawnWard_13 : decode cX11_drawnWard 13 = .ok (.ifCond .ne 16, 3) := by decide +kernel
theorem dX11_drawnWard_16 : decode cX11_drawnWard 16 = .ok (.aload_n 0, 1) := by decide +kernel
theorem dX11_drawnWard_17 : decode cX11_drawnWard 17 = .ok (.getfield 38, 3) := by decide +kernel
theorem dX11_drawnWard_20 : decode cX11_drawnWard 20 = .ok (.iload_n 3, 1) := by decide +kernel
theorem dX11_drawnWard_21 : decode cX11_drawnWard 21 = .ok (.baload, 1) := by decide +kernel
theorem dX11_drawnWard_22 : decode cX11_drawnWard 22 = .ok (.ifCond .ne 7, 3) := by decide +kernel
theorem dX11_drawnWard_25 : decode cX11_drawnWard 25 = .ok (.iload_n 2, 1) := by decide +kernel
theorem dX11_drawnWard_26 : decode cX11_drawnWard 26 = .ok (.ifCond .le 34, 3) := by decide +kernel
theorem dX11_drawnWard_29 : decode cX11_drawnWard 29 = .ok (.iload_n 2, 1) := by decide +kernel
theorem dX11_drawnWard_30 : decode cX11_drawnWard 30 = .ok (.aload_n 0, 1) := by decide +kernel
theorem dX11_drawnWard_31 : decode cX11_drawnWard 31 = .ok (.iload_n 3, 1) := by decide +kernel
theorem dX11_drawnWard_32 : decode cX11_drawnWard 32 = .ok (.invokevirtual 193, 3) := by decide +kernel
theorem dX11_drawnWard_35 : decode cX11_drawnWard 35 = .ok (.ifCond .ne 12, 3) := by decide +kernel
theorem dX11_drawnWard_38 : decode cX11_drawnWard 38 = .ok (.aload_n 0, 1) := by decide +kernel
theorem dX11_drawnWard_39 : decode cX11_drawnWard 39 = .ok (.getfield 38, 3) := by decide +kernel
theorem dX11_drawnWard_42 : decode cX11_drawnWard 42 = .ok (.iload_n 3, 1) := by decide +kernel
theorem dX11_drawnWard_43 : decode cX11_drawnWard 43 = .ok (.baload, 1) := by decide +kernel
theorem dX11_drawnWard_44 : decode cX11_drawnWard 44 = .ok (.ifCond .eq 7, 3) := by decide +kernel
theorem dX11_drawnWard_47 : decode cX11_drawnWard 47 = .ok (.iconst 0, 1) := by decide +kernel
theorem dX11_drawnWard_48 : decode cX11_drawnWard 48 = .ok (.goto 4, 3) := by decide +kernel
theorem dX11_drawnWard_51 : decode cX11_drawnWard 51 = .ok (.iconst 1, 1) := by decide +kernel
theorem dX11_drawnWard_52 : decode cX11_drawnWard 52 = .ok (.isub, 1) := by decide +kernel
theorem dX11_drawnWard_53 : decode cX11_drawnWard 53 = .ok (.istore_n 2, 1) := by decide +kernel
theorem dX11_drawnWard_54 : decode cX11_drawnWard 54 = .ok (.iinc 3 1, 3) := by decide +kernel
theorem dX11_drawnWard_57 : decode cX11_drawnWard 57 = .ok (.goto (-49), 3) := by decide +kernel
theorem dX11_drawnWard_60 : decode cX11_drawnWard 60 = .ok (.iload_n 3, 1) := by decide +kernel
theorem dX11_drawnWard_61 : decode cX11_drawnWard 61 = .ok (.ireturn, 1) := by decide +kernel
theorem dX11_pick_0 : decode cX11_pick 0 = .ok (.aload_n 0, 1) := by decide +kernel
theorem dX11_pick_1 : decode cX11_pick 1 = .ok (.iconst 0, 1) := by decide +kernel
theorem dX11_pick_2 : decode cX11_pick 2 = .ok (.putfield 102, 3) := by decide +kernel
theorem dX11_pick_5 : decode cX11_pick 5 = .ok (.aload_n 0, 1) := by decide +kernel
theorem dX11_pick_6 : decode cX11_pick 6 = .ok (.getfield 190, 3) := by decide +kernel
theorem dX11_pick_9 : decode cX11_pick 9 = .ok (.iconst 1, 1) := by decide +kernel
theorem dX11_pick_10 : decode cX11_pick 10 = .ok (.if_icmp .eq 5, 3) := by decide +kernel
theorem dX11_pick_13 : decode cX11_pick 13 = .ok (.iconst (-1), 1) := by decide +kernel
theorem dX11_pick_14 : decode cX11_pick 14 = .ok (.ireturn, 1) := by decide +kernel
theorem dX11_pick_15 : decode cX11_pick 15 = .ok (.aload_n 0, 1) := by decide +kernel
theorem dX11_pick_16 : decode cX11_pick 16 = .ok (.iconst (-1), 1) := by decide +kernel
theorem dX11_pick_17 : decode cX11_pick 17 = .ok (.putfield 214, 3) := by decide +kernel
theorem dX11_pick_20 : decode cX11_pick 20 = .ok (.iconst 0, 1) := by decide +kernel
theorem dX11_pick_21 : decode cX11_pick 21 = .ok (.istore_n 1, 1) := by decide +kernel
theorem dX11_pick_22 : decode cX11_pick 22 = .ok (.iload_n 1, 1) := by decide +kernel
theorem dX11_pick_23 : decode cX11_pick 23 = .ok (.iconst 1, 1) := by decide +kernel
theorem dX11_pick_24 : decode cX11_pick 24 = .ok (.aload_n 0, 1) := by decide +kernel
theorem dX11_pick_25 : decode cX11_pick 25 = .ok (.getfield 180, 3) := by decide +kernel
theorem dX11_pick_28 : decode cX11_pick 28 = .ok (.ishl, 1) := by decide +kernel
theorem dX11_pick_29 : decode cX11_pick 29 = .ok (.if_icmp .ge 14, 3) := by decide +kernel
theorem dX11_pick_32 : decode cX11_pick 32 = .ok (.aload_n 0, 1) := by decide +kernel
theorem dX11_pick_33 : decode cX11_pick 33 = .ok (.iload_n 1, 1) := by decide +kernel
theorem dX11_pick_34 : decode cX11_pick 34 = .ok (.invokevirtual 217, 3) := by decide +kernel
theorem dX11_pick_37 : decode cX11_pick 37 = .ok (.iinc 1 1, 3) := by decide +kernel
theorem dX11_pick_40 : decode cX11_pick 40 = .ok (.goto (-18), 3) := by decide +kernel
theorem dX11_pick_43 : decode cX11_pick 43 = .ok (.aload_n 0, 1) := by decide +kernel
theorem dX11_pick_44 : decode cX11_pick 44 = .ok (.getfield 214, 3) := by decide +kernel
theorem dX11_pick_47 : decode cX11_pick 47 = .ok (.iconst (-1), 1) := by decide +kernel
theorem dX11_pick_48 : decode cX11_pick 48 = .ok (.if_icmp .ne 5, 3) := by decide +kernel
theorem dX11_pick_51 : decode cX11_pick 51 = .ok (.iconst (-1), 1) := by decide +kernel
theorem dX11_pick_52 : decode cX11_pick 52 = .ok (.ireturn, 1) := by decide +kernel
theorem dX11_pick_53 : decode cX11_pick 53 = .ok (.aload_n 0, 1) := by decide +kernel
theorem dX11_pick_54 : decode cX11_pick 54 = .ok (.iconst 2, 1) := by decide +kernel
theorem dX11_pick_55 : decode cX11_pick 55 = .ok (.putfield 190, 3) := by decide +kernel
theorem dX11_pick_58 : decode cX11_pick 58 = .ok (.aload_n 0, 1) := by decide +kernel
theorem dX11_pick_59 : decode cX11_pick 59 = .ok (.getfield 214, 3) := by decide +kernel
theorem dX11_pick_62 : decode cX11_pick 62 = .ok (.ireturn, 1) := by decide +kernel
theorem dX11_tries_0 : decode cX11_tries 0 = .ok (.iconst 0, 1) := by decide +kernel
theorem dX11_tries_1 : decode cX11_tries 1 = .ok (.istore_n 2, 1) := by decide +kernel
theorem dX11_tries_2 : decode cX11_tries 2 = .ok (.sipush 1000, 3) := by decide +kernel
theorem dX11_tries_5 : decode cX11_tries 5 = .ok (.istore_n 3, 1) := by decide +kernel
theorem dX11_tries_6 : decode cX11_tries 6 = .ok (.iconst (-1), 1) := by decide +kernel
theorem dX11_tries_7 : decode cX11_tries 7 = .ok (.istore 4, 2) := by decide +kernel
theorem dX11_tries_9 : decode cX11_tries 9 = .ok (.iconst 0, 1) := by decide +kernel
theorem dX11_tries_10 : decode cX11_tries 10 = .ok (.istore 5, 2) := by decide +kernel
theorem dX11_tries_12 : decode cX11_tries 12 = .ok (.iload 5, 2) := by decide +kernel
theorem dX11_tries_14 : decode cX11_tries 14 = .ok (.aload_n 0, 1) := by decide +kernel
theorem dX11_tries_15 : decode cX11_tries 15 = .ok (.getfield 180, 3) := by decide +kernel
theorem dX11_tries_18 : decode cX11_tries 18 = .ok (.if_icmp .ge 61, 3) := by decide +kernel
theorem dX11_tries_21 : decode cX11_tries 21 = .ok (.iload_n 1, 1) := by decide +kernel
theorem dX11_tries_22 : decode cX11_tries 22 = .ok (.iload 5, 2) := by decide +kernel
theorem dX11_tries_24 : decode cX11_tries 24 = .ok (.ishr, 1) := by decide +kernel
theorem dX11_tries_25 : decode cX11_tries 25 = .ok (.iconst 1, 1) := by decide +kernel
theorem dX11_tries_26 : decode cX11_tries 26 = .ok (.iand, 1) := by decide +kernel
theorem dX11_tries_27 : decode cX11_tries 27 = .ok (.ifCond .ne 6, 3) := by decide +kernel
theorem dX11_tries_30 : decode cX11_tries 30 = .ok (.goto 43, 3) := by decide +kernel
theorem dX11_tries_33 : decode cX11_tries 33 = .ok (.aload_n 0, 1) := by decide +kernel
theorem dX11_tries_34 : decode cX11_tries 34 = .ok (.getfield 51, 3) := by decide +kernel
theorem dX11_tries_37 : decode cX11_tries 37 = .ok (.iload 5, 2) := by decide +kernel
theorem dX11_tries_39 : decode cX11_tries 39 = .ok (.baload, 1) := by decide +kernel
theorem dX11_tries_40 : decode cX11_tries 40 = .ok (.ifCond .ne 4, 3) := by decide +kernel
theorem dX11_tries_43 : decode cX11_tries 43 = .ok (.return_, 1) := by decide +kernel
theorem dX11_tries_44 : decode cX11_tries 44 = .ok (.iinc 2 1, 3) := by decide +kernel
theorem dX11_tries_47 : decode cX11_tries 47 = .ok (.iload_n 3, 1) := by decide +kernel
theorem dX11_tries_48 : decode cX11_tries 48 = .ok (.aload_n 0, 1) := by decide +kernel
theorem dX11_tries_49 : decode cX11_tries 49 = .ok (.getfield 48, 3) := by decide +kernel
theorem dX11_tries_52 : decode cX11_tries 52 = .ok (.iload 5, 2) := by decide +kernel
theorem dX11_tries_54 : decode cX11_tries 54 = .ok (.iaload, 1) := by decide +kernel
theorem dX11_tries_55 : decode cX11_tries 55 = .ok (.invokestatic 196, 3) := by decide +kernel
theorem dX11_tries_58 : decode cX11_tries 58 = .ok (.istore_n 3, 1) := by decide +kernel
theorem dX11_tries_59 : decode cX11_tries 59 = .ok (.iload 4, 2) := by decide +kernel
theorem dX11_tries_61 : decode cX11_tries 61 = .ok (.aload_n 0, 1) := by decide +kernel
theorem dX11_tries_62 : decode cX11_tries 62 = .ok (.getfield 48, 3) := by decide +kernel
theorem dX11_tries_65 : decode cX11_tries 65 = .ok (.iload 5, 2) := by decide +kernel
theorem dX11_tries_67 : decode cX11_tries 67 = .ok (.iaload, 1) := by decide +kernel
theorem dX11_tries_68 : decode cX11_tries 68 = .ok (.invokestatic 221, 3) := by decide +kernel
theorem dX11_tries_71 : decode cX11_tries 71 = .ok (.istore 4, 2) := by decide +kernel
theorem dX11_tries_73 : decode cX11_tries 73 = .ok (.iinc 5 1, 3) := by decide +kernel
theorem dX11_tries_76 : decode cX11_tries 76 = .ok (.goto (-64), 3) := by decide +kernel
theorem dX11_tries_79 : decode cX11_tries 79 = .ok (.iload_n 2, 1) := by decide +kernel
theorem dX11_tries_80 : decode cX11_tries 80 = .ok (.aload_n 0, 1) := by decide +kernel
theorem dX11_tries_81 : decode cX11_tries 81 = .ok (.getfield 201, 3) := by decide +kernel
theorem dX11_tries_84 : decode cX11_tries 84 = .ok (.if_icmp .ne 41, 3) := by decide +kernel
theorem dX11_tries_87 : decode cX11_tries 87 = .ok (.aload_n 0, 1) := by decide +kernel
theorem dX11_tries_88 : decode cX11_tries 88 = .ok (.getfield 214, 3) := by decide +kernel
theorem dX11_tries_91 : decode cX11_tries 91 = .ok (.iconst (-1), 1) := by decide +kernel
theorem dX11_tries_92 : decode cX11_tries 92 = .ok (.if_icmp .eq 34, 3) := by decide +kernel
theorem dX11_tries_95 : decode cX11_tries 95 = .ok (.iload 4, 2) := by decide +kernel
theorem dX11_tries_97 : decode cX11_tries 97 = .ok (.iload_n 3, 1) := by decide +kernel
theorem dX11_tries_98 : decode cX11_tries 98 = .ok (.isub, 1) := by decide +kernel
theorem dX11_tries_99 : decode cX11_tries 99 = .ok (.aload_n 0, 1) := by decide +kernel
theorem dX11_tries_100 : decode cX11_tries 100 = .ok (.getfield 214, 3) := by decide +kernel
theorem dX11_tries_103 : decode cX11_tries 103 = .ok (.if_icmp .gt 22, 3) := by decide +kernel
theorem dX11_tries_106 : decode cX11_tries 106 = .ok (.iload 4, 2) := by decide +kernel
theorem dX11_tries_108 : decode cX11_tries 108 = .ok (.iload_n 3, 1) := by decide +kernel
theorem dX11_tries_109 : decode cX11_tries 109 = .ok (.isub, 1) := by decide +kernel
theorem dX11_tries_110 : decode cX11_tries 110 = .ok (.aload_n 0, 1) := by decide +kernel
theorem dX11_tries_111 : decode cX11_tries 111 = .ok (.getfield 214, 3) := by decide +kernel
theorem dX11_tries_114 : decode cX11_tries 114 = .ok (.if_icmp .ne 12, 3) := by decide +kernel
theorem dX11_tries_117 : decode cX11_tries 117 = .ok (.aload_n 0, 1) := by decide +kernel
theorem dX11_tries_118 : decode cX11_tries 118 = .ok (.iload_n 1, 1) := by decide +kernel
theorem dX11_tries_119 : decode cX11_tries 119 = .ok (.invokevirtual 224, 3) := by decide +kernel
theorem dX11_tries_122 : decode cX11_tries 122 = .ok (.ifCond .ne 4, 3) := by decide +kernel
theorem dX11_tries_125 : decode cX11_tries 125 = .ok (.return_, 1) := by decide +kernel
theorem dX11_tries_126 : decode cX11_tries 126 = .ok (.aload_n 0, 1) := by decide +kernel
theorem dX11_tries_127 : decode cX11_tries 127 = .ok (.iload 4, 2) := by decide +kernel
theorem dX11_tries_129 : decode cX11_tries 129 = .ok (.iload_n 3, 1) := by decide +kernel
theorem dX11_tries_130 : decode cX11_tries 130 = .ok (.isub, 1) := by decide +kernel
theorem dX11_tries_131 : decode cX11_tries 131 = .ok (.putfield 214, 3) := by decide +kernel
theorem dX11_tries_134 : decode cX11_tries 134 = .ok (.iconst 0, 1) := by decide +kernel
theorem dX11_tries_135 : decode cX11_tries 135 = .ok (.istore 5, 2) := by decide +kernel
theorem dX11_tries_137 : decode cX11_tries 137 = .ok (.iconst 0, 1) := by decide +kernel
theorem dX11_tries_138 : decode cX11_tries 138 = .ok (.istore 6, 2) := by decide +kernel
theorem dX11_tries_140 : decode cX11_tries 140 = .ok (.iload 6, 2) := by decide +kernel
theorem dX11_tries_142 : decode cX11_tries 142 = .ok (.aload_n 0, 1) := by decide +kernel
theorem dX11_tries_143 : decode cX11_tries 143 = .ok (.getfield 180, 3) := by decide +kernel
theorem dX11_tries_146 : decode cX11_tries 146 = .ok (.if_icmp .ge 33, 3) := by decide +kernel
theorem dX11_tries_149 : decode cX11_tries 149 = .ok (.iload_n 1, 1) := by decide +kernel
theorem dX11_tries_150 : decode cX11_tries 150 = .ok (.iload 6, 2) := by decide +kernel
theorem dX11_tries_152 : decode cX11_tries 152 = .ok (.ishr, 1) := by decide +kernel
theorem dX11_tries_153 : decode cX11_tries 153 = .ok (.iconst 1, 1) := by decide +kernel
theorem dX11_tries_154 : decode cX11_tries 154 = .ok (.iand, 1) := by decide +kernel
theorem dX11_tries_155 : decode cX11_tries 155 = .ok (.ifCond .ne 6, 3) := by decide +kernel
theorem dX11_tries_158 : decode cX11_tries 158 = .ok (.goto 15, 3) := by decide +kernel
theorem dX11_tries_161 : decode cX11_tries 161 = .ok (.aload_n 0, 1) := by decide +kernel
theorem dX11_tries_162 : decode cX11_tries 162 = .ok (.getfield 54, 3) := by decide +kernel
theorem dX11_tries_165 : decode cX11_tries 165 = .ok (.iload 5, 2) := by decide +kernel
theorem dX11_tries_167 : decode cX11_tries 167 = .ok (.iload 6, 2) := by decide +kernel
theorem dX11_tries_169 : decode cX11_tries 169 = .ok (.iastore, 1) := by decide +kernel
theorem dX11_tries_170 : decode cX11_tries 170 = .ok (.iinc 5 1, 3) := by decide +kernel
theorem dX11_tries_173 : decode cX11_tries 173 = .ok (.iinc 6 1, 3) := by decide +kernel
theorem dX11_tries_176 : decode cX11_tries 176 = .ok (.goto (-36), 3) := by decide +kernel
theorem dX11_tries_179 : decode cX11_tries 179 = .ok (.return_, 1) := by decide +kernel
theorem dX11_isAhead_0 : decode cX11_isAhead 0 = .ok (.iconst 0, 1) := by decide +kernel
theorem dX11_isAhead_1 : decode cX11_isAhead 1 = .ok (.istore_n 2, 1) := by decide +kernel
theorem dX11_isAhead_2 : decode cX11_isAhead 2 = .ok (.iconst 0, 1) := by decide +kernel
theorem dX11_isAhead_3 : decode cX11_isAhead 3 = .ok (.istore_n 3, 1) := by decide +kernel
theorem dX11_isAhead_4 : decode cX11_isAhead 4 = .ok (.iload_n 3, 1) := by decide +kernel
theorem dX11_isAhead_5 : decode cX11_isAhead 5 = .ok (.aload_n 0, 1) := by decide +kernel
theorem dX11_isAhead_6 : decode cX11_isAhead 6 = .ok (.getfield 180, 3) := by decide +kernel
theorem dX11_isAhead_9 : decode cX11_isAhead 9 = .ok (.if_icmp .ge 49, 3) := by decide +kernel
theorem dX11_isAhead_12 : decode cX11_isAhead 12 = .ok (.iload_n 1, 1) := by decide +kernel
theorem dX11_isAhead_13 : decode cX11_isAhead 13 = .ok (.iload_n 3, 1) := by decide +kernel
theorem dX11_isAhead_14 : decode cX11_isAhead 14 = .ok (.ishr, 1) := by decide +kernel
theorem dX11_isAhead_15 : decode cX11_isAhead 15 = .ok (.iconst 1, 1) := by decide +kernel
theorem dX11_isAhead_16 : decode cX11_isAhead 16 = .ok (.iand, 1) := by decide +kernel
theorem dX11_isAhead_17 : decode cX11_isAhead 17 = .ok (.ifCond .ne 6, 3) := by decide +kernel
theorem dX11_isAhead_20 : decode cX11_isAhead 20 = .ok (.goto 32, 3) := by decide +kernel
theorem dX11_isAhead_23 : decode cX11_isAhead 23 = .ok (.aload_n 0, 1) := by decide +kernel
theorem dX11_isAhead_24 : decode cX11_isAhead 24 = .ok (.getfield 54, 3) := by decide +kernel
theorem dX11_isAhead_27 : decode cX11_isAhead 27 = .ok (.iload_n 2, 1) := by decide +kernel
theorem dX11_isAhead_28 : decode cX11_isAhead 28 = .ok (.iaload, 1) := by decide +kernel
theorem dX11_isAhead_29 : decode cX11_isAhead 29 = .ok (.iload_n 3, 1) := by decide +kernel
theorem dX11_isAhead_30 : decode cX11_isAhead 30 = .ok (.if_icmp .eq 19, 3) := by decide +kernel
theorem dX11_isAhead_33 : decode cX11_isAhead 33 = .ok (.iload_n 3, 1) := by decide +kernel
theorem dX11_isAhead_34 : decode cX11_isAhead 34 = .ok (.aload_n 0, 1) := by decide +kernel
theorem dX11_isAhead_35 : decode cX11_isAhead 35 = .ok (.getfield 54, 3) := by decide +kernel
theorem dX11_isAhead_38 : decode cX11_isAhead 38 = .ok (.iload_n 2, 1) := by decide +kernel
theorem dX11_isAhead_39 : decode cX11_isAhead 39 = .ok (.iaload, 1) := by decide +kernel
theorem dX11_isAhead_40 : decode cX11_isAhead 40 = .ok (.if_icmp .ge 7, 3) := by decide +kernel
theorem dX11_isAhead_43 : decode cX11_isAhead 43 = .ok (.iconst 1, 1) := by decide +kernel
theorem dX11_isAhead_44 : decode cX11_isAhead 44 = .ok (.goto 4, 3) := by decide +kernel
theorem dX11_isAhead_47 : decode cX11_isAhead 47 = .ok (.iconst 0, 1) := by decide +kernel
theorem dX11_isAhead_48 : decode cX11_isAhead 48 = .ok (.ireturn, 1) := by decide +kernel
theorem dX11_isAhead_49 : decode cX11_isAhead 49 = .ok (.iinc 2 1, 3) := by decide +kernel
theorem dX11_isAhead_52 : decode cX11_isAhead 52 = .ok (.iinc 3 1, 3) := by decide +kernel
theorem dX11_isAhead_55 : decode cX11_isAhead 55 = .ok (.goto (-51), 3) := by decide +kernel
theorem dX11_isAhead_58 : decode cX11_isAhead 58 = .ok (.iconst 0, 1) := by decide +kernel
theorem dX11_isAhead_59 : decode cX11_isAhead 59 = .ok (.ireturn, 1) := by decide +kernel
theorem dX11_lots_0 : decode cX11_lots 0 = .ok (.aload_n 0, 1) := by decide +kernel
theorem dX11_lots_1 : decode cX11_lots 1 = .ok (.iconst 0, 1) := by decide +kernel
theorem dX11_lots_2 : decode cX11_lots 2 = .ok (.putfield 102, 3) := by decide +kernel
theorem dX11_lots_5 : decode cX11_lots 5 = .ok (.aload_n 0, 1) := by decide +kernel
theorem dX11_lots_6 : decode cX11_lots 6 = .ok (.getfield 190, 3) := by decide +kernel
theorem dX11_lots_9 : decode cX11_lots 9 = .ok (.iconst 2, 1) := by decide +kernel
theorem dX11_lots_10 : decode cX11_lots 10 = .ok (.if_icmp .eq 5, 3) := by decide +kernel
theorem dX11_lots_13 : decode cX11_lots 13 = .ok (.iconst 0, 1) := by decide +kernel
theorem dX11_lots_14 : decode cX11_lots 14 = .ok (.ireturn, 1) := by decide +kernel
theorem dX11_lots_15 : decode cX11_lots 15 = .ok (.aload_n 0, 1) := by decide +kernel
theorem dX11_lots_16 : decode cX11_lots 16 = .ok (.iload_n 1, 1) := by decide +kernel
theorem dX11_lots_17 : decode cX11_lots 17 = .ok (.putfield 184, 3) := by decide +kernel
theorem dX11_lots_20 : decode cX11_lots 20 = .ok (.iconst 0, 1) := by decide +kernel
theorem dX11_lots_21 : decode cX11_lots 21 = .ok (.istore_n 2, 1) := by decide +kernel
theorem dX11_lots_22 : decode cX11_lots 22 = .ok (.aload_n 0, 1) := by decide +kernel
theorem dX11_lots_23 : decode cX11_lots 23 = .ok (.getfield 201, 3) := by decide +kernel
theorem dX11_lots_26 : decode cX11_lots 26 = .ok (.istore_n 3, 1) := by decide +kernel
theorem dX11_lots_27 : decode cX11_lots 27 = .ok (.iconst 0, 1) := by decide +kernel
theorem dX11_lots_28 : decode cX11_lots 28 = .ok (.istore 4, 2) := by decide +kernel
theorem dX11_lots_30 : decode cX11_lots 30 = .ok (.iload 4, 2) := by decide +kernel
theorem dX11_lots_32 : decode cX11_lots 32 = .ok (.aload_n 0, 1) := by decide +kernel
theorem dX11_lots_33 : decode cX11_lots 33 = .ok (.getfield 177, 3) := by decide +kernel
theorem dX11_lots_36 : decode cX11_lots 36 = .ok (.if_icmp .ge 97, 3) := by decide +kernel
theorem dX11_lots_39 : decode cX11_lots 39 = .ok (.aload_n 0, 1) := by decide +kernel
theorem dX11_lots_40 : decode cX11_lots 40 = .ok (.getfield 38, 3) := by decide +kernel
theorem dX11_lots_43 : decode cX11_lots 43 = .ok (.iload 4, 2) := by decide +kernel
theorem dX11_lots_45 : decode cX11_lots 45 = .ok (.baload, 1) := by decide +kernel
theorem dX11_lots_46 : decode cX11_lots 46 = .ok (.ifCond .ne 6, 3) := by decide +kernel
theorem dX11_lots_49 : decode cX11_lots 49 = .ok (.goto 78, 3) := by decide +kernel
theorem dX11_lots_52 : decode cX11_lots 52 = .ok (.aload_n 0, 1) := by decide +kernel
theorem dX11_lots_53 : decode cX11_lots 53 = .ok (.iload_n 3, 1) := by decide +kernel
theorem dX11_lots_54 : decode cX11_lots 54 = .ok (.invokevirtual 211, 3) := by decide +kernel
theorem dX11_lots_57 : decode cX11_lots 57 = .ok (.istore 5, 2) := by decide +kernel
theorem dX11_lots_59 : decode cX11_lots 59 = .ok (.iconst 0, 1) := by decide +kernel
theorem dX11_lots_60 : decode cX11_lots 60 = .ok (.istore 6, 2) := by decide +kernel
theorem dX11_lots_62 : decode cX11_lots 62 = .ok (.iload_n 2, 1) := by decide +kernel
theorem dX11_lots_63 : decode cX11_lots 63 = .ok (.iload 6, 2) := by decide +kernel
theorem dX11_lots_65 : decode cX11_lots 65 = .ok (.ishr, 1) := by decide +kernel
theorem dX11_lots_66 : decode cX11_lots 66 = .ok (.iconst 1, 1) := by decide +kernel
theorem dX11_lots_67 : decode cX11_lots 67 = .ok (.iand, 1) := by decide +kernel
theorem dX11_lots_68 : decode cX11_lots 68 = .ok (.iconst 1, 1) := by decide +kernel
theorem dX11_lots_69 : decode cX11_lots 69 = .ok (.if_icmp .eq 8, 3) := by decide +kernel
theorem dX11_lots_72 : decode cX11_lots 72 = .ok (.iload 5, 2) := by decide +kernel
theorem dX11_lots_74 : decode cX11_lots 74 = .ok (.ifCond .le 29, 3) := by decide +kernel
theorem dX11_lots_77 : decode cX11_lots 77 = .ok (.iload 5, 2) := by decide +kernel
theorem dX11_lots_79 : decode cX11_lots 79 = .ok (.iload_n 2, 1) := by decide +kernel
theorem dX11_lots_80 : decode cX11_lots 80 = .ok (.iload 6, 2) := by decide +kernel
theorem dX11_lots_82 : decode cX11_lots 82 = .ok (.ishr, 1) := by decide +kernel
theorem dX11_lots_83 : decode cX11_lots 83 = .ok (.iconst 1, 1) := by decide +kernel
theorem dX11_lots_84 : decode cX11_lots 84 = .ok (.iand, 1) := by decide +kernel
theorem dX11_lots_85 : decode cX11_lots 85 = .ok (.iconst 1, 1) := by decide +kernel
theorem dX11_lots_86 : decode cX11_lots 86 = .ok (.if_icmp .ne 7, 3) := by decide +kernel
theorem dX11_lots_89 : decode cX11_lots 89 = .ok (.iconst 0, 1) := by decide +kernel
theorem dX11_lots_90 : decode cX11_lots 90 = .ok (.goto 4, 3) := by decide +kernel
theorem dX11_lots_93 : decode cX11_lots 93 = .ok (.iconst 1, 1) := by decide +kernel
theorem dX11_lots_94 : decode cX11_lots 94 = .ok (.isub, 1) := by decide +kernel
theorem dX11_lots_95 : decode cX11_lots 95 = .ok (.istore 5, 2) := by decide +kernel
theorem dX11_lots_97 : decode cX11_lots 97 = .ok (.iinc 6 1, 3) := by decide +kernel
theorem dX11_lots_100 : decode cX11_lots 100 = .ok (.goto (-38), 3) := by decide +kernel
theorem dX11_lots_103 : decode cX11_lots 103 = .ok (.iload_n 2, 1) := by decide +kernel
theorem dX11_lots_104 : decode cX11_lots 104 = .ok (.iconst 1, 1) := by decide +kernel
theorem dX11_lots_105 : decode cX11_lots 105 = .ok (.iload 6, 2) := by decide +kernel
theorem dX11_lots_107 : decode cX11_lots 107 = .ok (.ishl, 1) := by decide +kernel
theorem dX11_lots_108 : decode cX11_lots 108 = .ok (.ior, 1) := by decide +kernel
theorem dX11_lots_109 : decode cX11_lots 109 = .ok (.istore_n 2, 1) := by decide +kernel
theorem dX11_lots_110 : decode cX11_lots 110 = .ok (.aload_n 0, 1) := by decide +kernel
theorem dX11_lots_111 : decode cX11_lots 111 = .ok (.getfield 35, 3) := by decide +kernel
theorem dX11_lots_114 : decode cX11_lots 114 = .ok (.iload 4, 2) := by decide +kernel
theorem dX11_lots_116 : decode cX11_lots 116 = .ok (.aload_n 0, 1) := by decide +kernel
theorem dX11_lots_117 : decode cX11_lots 117 = .ok (.getfield 54, 3) := by decide +kernel
theorem dX11_lots_120 : decode cX11_lots 120 = .ok (.iload 6, 2) := by decide +kernel
theorem dX11_lots_122 : decode cX11_lots 122 = .ok (.iaload, 1) := by decide +kernel
theorem dX11_lots_123 : decode cX11_lots 123 = .ok (.iastore, 1) := by decide +kernel
theorem dX11_lots_124 : decode cX11_lots 124 = .ok (.iinc 3 (-1), 3) := by decide +kernel
theorem dX11_lots_127 : decode cX11_lots 127 = .ok (.iinc 4 1, 3) := by decide +kernel
theorem dX11_lots_130 : decode cX11_lots 130 = .ok (.goto (-100), 3) := by decide +kernel
theorem dX11_lots_133 : decode cX11_lots 133 = .ok (.iconst 0, 1) := by decide +kernel
theorem dX11_lots_134 : decode cX11_lots 134 = .ok (.istore_n 2, 1) := by decide +kernel
theorem dX11_lots_135 : decode cX11_lots 135 = .ok (.iconst 0, 1) := by decide +kernel
theorem dX11_lots_136 : decode cX11_lots 136 = .ok (.istore 4, 2) := by decide +kernel
theorem dX11_lots_138 : decode cX11_lots 138 = .ok (.iload 4, 2) := by decide +kernel
theorem dX11_lots_140 : decode cX11_lots 140 = .ok (.aload_n 0, 1) := by decide +kernel
theorem dX11_lots_141 : decode cX11_lots 141 = .ok (.getfield 201, 3) := by decide +kernel
theorem dX11_lots_144 : decode cX11_lots 144 = .ok (.if_icmp .ge 111, 3) := by decide +kernel
theorem dX11_lots_147 : decode cX11_lots 147 = .ok (.aload_n 0, 1) := by decide +kernel
theorem dX11_lots_148 : decode cX11_lots 148 = .ok (.aload_n 0, 1) := by decide +kernel
theorem dX11_lots_149 : decode cX11_lots 149 = .ok (.getfield 201, 3) := by decide +kernel
theorem dX11_lots_152 : decode cX11_lots 152 = .ok (.iload 4, 2) := by decide +kernel
theorem dX11_lots_154 : decode cX11_lots 154 = .ok (.isub, 1) := by decide +kernel
theorem dX11_lots_155 : decode cX11_lots 155 = .ok (.invokevirtual 211, 3) := by decide +kernel
theorem dX11_lots_158 : decode cX11_lots 158 = .ok (.istore 5, 2) := by decide +kernel
theorem dX11_lots_160 : decode cX11_lots 160 = .ok (.iconst 0, 1) := by decide +kernel
theorem dX11_lots_161 : decode cX11_lots 161 = .ok (.istore 6, 2) := by decide +kernel
theorem dX11_lots_163 : decode cX11_lots 163 = .ok (.aload_n 0, 1) := by decide +kernel
theorem dX11_lots_164 : decode cX11_lots 164 = .ok (.getfield 38, 3) := by decide +kernel
theorem dX11_lots_167 : decode cX11_lots 167 = .ok (.iload 6, 2) := by decide +kernel
theorem dX11_lots_169 : decode cX11_lots 169 = .ok (.baload, 1) := by decide +kernel
theorem dX11_lots_170 : decode cX11_lots 170 = .ok (.ifCond .eq 18, 3) := by decide +kernel
theorem dX11_lots_173 : decode cX11_lots 173 = .ok (.iload_n 2, 1) := by decide +kernel
theorem dX11_lots_174 : decode cX11_lots 174 = .ok (.iload 6, 2) := by decide +kernel
theorem dX11_lots_176 : decode cX11_lots 176 = .ok (.ishr, 1) := by decide +kernel
theorem dX11_lots_177 : decode cX11_lots 177 = .ok (.iconst 1, 1) := by decide +kernel
theorem dX11_lots_178 : decode cX11_lots 178 = .ok (.iand, 1) := by decide +kernel
theorem dX11_lots_179 : decode cX11_lots 179 = .ok (.iconst 1, 1) := by decide +kernel
theorem dX11_lots_180 : decode cX11_lots 180 = .ok (.if_icmp .eq 8, 3) := by decide +kernel
theorem dX11_lots_183 : decode cX11_lots 183 = .ok (.iload 5, 2) := by decide +kernel
theorem dX11_lots_185 : decode cX11_lots 185 = .ok (.ifCond .le 39, 3) := by decide +kernel
theorem dX11_lots_188 : decode cX11_lots 188 = .ok (.iload 5, 2) := by decide +kernel
theorem dX11_lots_190 : decode cX11_lots 190 = .ok (.aload_n 0, 1) := by decide +kernel
theorem dX11_lots_191 : decode cX11_lots 191 = .ok (.getfield 38, 3) := by decide +kernel
theorem dX11_lots_194 : decode cX11_lots 194 = .ok (.iload 6, 2) := by decide +kernel
theorem dX11_lots_196 : decode cX11_lots 196 = .ok (.baload, 1) := by decide +kernel
theorem dX11_lots_197 : decode cX11_lots 197 = .ok (.ifCond .eq 13, 3) := by decide +kernel
theorem dX11_lots_200 : decode cX11_lots 200 = .ok (.iload_n 2, 1) := by decide +kernel
theorem dX11_lots_201 : decode cX11_lots 201 = .ok (.iload 6, 2) := by decide +kernel
theorem dX11_lots_203 : decode cX11_lots 203 = .ok (.ishr, 1) := by decide +kernel
theorem dX11_lots_204 : decode cX11_lots 204 = .ok (.iconst 1, 1) := by decide +kernel
theorem dX11_lots_205 : decode cX11_lots 205 = .ok (.iand, 1) := by decide +kernel
theorem dX11_lots_206 : decode cX11_lots 206 = .ok (.iconst 1, 1) := by decide +kernel
theorem dX11_lots_207 : decode cX11_lots 207 = .ok (.if_icmp .ne 7, 3) := by decide +kernel
theorem dX11_lots_210 : decode cX11_lots 210 = .ok (.iconst 0, 1) := by decide +kernel
theorem dX11_lots_211 : decode cX11_lots 211 = .ok (.goto 4, 3) := by decide +kernel
theorem dX11_lots_214 : decode cX11_lots 214 = .ok (.iconst 1, 1) := by decide +kernel
theorem dX11_lots_215 : decode cX11_lots 215 = .ok (.isub, 1) := by decide +kernel
theorem dX11_lots_216 : decode cX11_lots 216 = .ok (.istore 5, 2) := by decide +kernel
theorem dX11_lots_218 : decode cX11_lots 218 = .ok (.iinc 6 1, 3) := by decide +kernel
theorem dX11_lots_221 : decode cX11_lots 221 = .ok (.goto (-58), 3) := by decide +kernel
theorem dX11_lots_224 : decode cX11_lots 224 = .ok (.iload_n 2, 1) := by decide +kernel
theorem dX11_lots_225 : decode cX11_lots 225 = .ok (.iconst 1, 1) := by decide +kernel
theorem dX11_lots_226 : decode cX11_lots 226 = .ok (.iload 6, 2) := by decide +kernel
theorem dX11_lots_228 : decode cX11_lots 228 = .ok (.ishl, 1) := by decide +kernel
theorem dX11_lots_229 : decode cX11_lots 229 = .ok (.ior, 1) := by decide +kernel
theorem dX11_lots_230 : decode cX11_lots 230 = .ok (.istore_n 2, 1) := by decide +kernel
theorem dX11_lots_231 : decode cX11_lots 231 = .ok (.aload_n 0, 1) := by decide +kernel
theorem dX11_lots_232 : decode cX11_lots 232 = .ok (.getfield 57, 3) := by decide +kernel
theorem dX11_lots_235 : decode cX11_lots 235 = .ok (.iload 4, 2) := by decide +kernel
theorem dX11_lots_237 : decode cX11_lots 237 = .ok (.iload 6, 2) := by decide +kernel
theorem dX11_lots_239 : decode cX11_lots 239 = .ok (.iastore, 1) := by decide +kernel
theorem dX11_lots_240 : decode cX11_lots 240 = .ok (.aload_n 0, 1) := by decide +kernel
theorem dX11_lots_241 : decode cX11_lots 241 = .ok (.getfield 60, 3) := by decide +kernel
theorem dX11_lots_244 : decode cX11_lots 244 = .ok (.iload 4, 2) := by decide +kernel
theorem dX11_lots_246 : decode cX11_lots 246 = .ok (.iload 6, 2) := by decide +kernel
theorem dX11_lots_248 : decode cX11_lots 248 = .ok (.iastore, 1) := by decide +kernel
theorem dX11_lots_249 : decode cX11_lots 249 = .ok (.iinc 4 1, 3) := by decide +kernel
theorem dX11_lots_252 : decode cX11_lots 252 = .ok (.goto (-114), 3) := by decide +kernel
theorem dX11_lots_255 : decode cX11_lots 255 = .ok (.aload_n 0, 1) := by decide +kernel
theorem dX11_lots_256 : decode cX11_lots 256 = .ok (.iconst 3, 1) := by decide +kernel
theorem dX11_lots_257 : decode cX11_lots 257 = .ok (.putfield 190, 3) := by decide +kernel
theorem dX11_lots_260 : decode cX11_lots 260 = .ok (.iconst 1, 1) := by decide +kernel
theorem dX11_lots_261 : decode cX11_lots 261 = .ok (.ireturn, 1) := by decide +kernel
theorem dX11_drawn_0 : decode cX11_drawn 0 = .ok (.aload_n 0, 1) := by decide +kernel
theorem dX11_drawn_1 : decode cX11_drawn 1 = .ok (.iconst 0, 1) := by decide +kernel
theorem dX11_drawn_2 : decode cX11_drawn 2 = .ok (.putfield 102, 3) := by decide +kernel
theorem dX11_drawn_5 : decode cX11_drawn 5 = .ok (.iload_n 1, 1) := by decide +kernel
theorem dX11_drawn_6 : decode cX11_drawn 6 = .ok (.ifCond .lt 28, 3) := by decide +kernel
theorem dX11_drawn_9 : decode cX11_drawn 9 = .ok (.iload_n 1, 1) := by decide +kernel
theorem dX11_drawn_10 : decode cX11_drawn 10 = .ok (.iconst 2, 1) := by decide +kernel
theorem dX11_drawn_11 : decode cX11_drawn 11 = .ok (.if_icmp .gt 23, 3) := by decide +kernel
theorem dX11_drawn_14 : decode cX11_drawn 14 = .ok (.aload_n 0, 1) := by decide +kernel
theorem dX11_drawn_15 : decode cX11_drawn 15 = .ok (.getfield 190, 3) := by decide +kernel
theorem dX11_drawn_18 : decode cX11_drawn 18 = .ok (.iload_n 1, 1) := by decide +kernel
theorem dX11_drawn_19 : decode cX11_drawn 19 = .ok (.if_icmp .le 15, 3) := by decide +kernel
theorem dX11_drawn_22 : decode cX11_drawn 22 = .ok (.iload_n 2, 1) := by decide +kernel
theorem dX11_drawn_23 : decode cX11_drawn 23 = .ok (.ifCond .lt 11, 3) := by decide +kernel
theorem dX11_drawn_26 : decode cX11_drawn 26 = .ok (.iload_n 2, 1) := by decide +kernel
theorem dX11_drawn_27 : decode cX11_drawn 27 = .ok (.aload_n 0, 1) := by decide +kernel
theorem dX11_drawn_28 : decode cX11_drawn 28 = .ok (.getfield 201, 3) := by decide +kernel
theorem dX11_drawn_31 : decode cX11_drawn 31 = .ok (.if_icmp .lt 5, 3) := by decide +kernel
theorem dX11_drawn_34 : decode cX11_drawn 34 = .ok (.iconst (-1), 1) := by decide +kernel
theorem dX11_drawn_35 : decode cX11_drawn 35 = .ok (.ireturn, 1) := by decide +kernel
theorem dX11_drawn_36 : decode cX11_drawn 36 = .ok (.iload_n 1, 1) := by decide +kernel
theorem dX11_drawn_37 : decode cX11_drawn 37 = .ok (.iconst 1, 1) := by decide +kernel
theorem dX11_drawn_38 : decode cX11_drawn 38 = .ok (.if_icmp .ne 10, 3) := by decide +kernel
theorem dX11_drawn_41 : decode cX11_drawn 41 = .ok (.aload_n 0, 1) := by decide +kernel
theorem dX11_drawn_42 : decode cX11_drawn 42 = .ok (.getfield 54, 3) := by decide +kernel
theorem dX11_drawn_45 : decode cX11_drawn 45 = .ok (.iload_n 2, 1) := by decide +kernel
theorem dX11_drawn_46 : decode cX11_drawn 46 = .ok (.iaload, 1) := by decide +kernel
theorem dX11_drawn_47 : decode cX11_drawn 47 = .ok (.ireturn, 1) := by decide +kernel
theorem dX11_drawn_48 : decode cX11_drawn 48 = .ok (.iload_n 1, 1) := by decide +kernel
theorem dX11_drawn_49 : decode cX11_drawn 49 = .ok (.iconst 2, 1) := by decide +kernel
theorem dX11_drawn_50 : decode cX11_drawn 50 = .ok (.if_icmp .ne 10, 3) := by decide +kernel
theorem dX11_drawn_53 : decode cX11_drawn 53 = .ok (.aload_n 0, 1) := by decide +kernel
theorem dX11_drawn_54 : decode cX11_drawn 54 = .ok (.getfield 57, 3) := by decide +kernel
theorem dX11_drawn_57 : decode cX11_drawn 57 = .ok (.iload_n 2, 1) := by decide +kernel
theorem dX11_drawn_58 : decode cX11_drawn 58 = .ok (.iaload, 1) := by decide +kernel
theorem dX11_drawn_59 : decode cX11_drawn 59 = .ok (.ireturn, 1) := by decide +kernel
theorem dX11_drawn_60 : decode cX11_drawn 60 = .ok (.iload_n 2, 1) := by decide +kernel
theorem dX11_drawn_61 : decode cX11_drawn 61 = .ok (.istore_n 3, 1) := by decide +kernel
theorem dX11_drawn_62 : decode cX11_drawn 62 = .ok (.iconst 0, 1) := by decide +kernel
theorem dX11_drawn_63 : decode cX11_drawn 63 = .ok (.istore 4, 2) := by decide +kernel
theorem dX11_drawn_65 : decode cX11_drawn 65 = .ok (.aload_n 0, 1) := by decide +kernel
theorem dX11_drawn_66 : decode cX11_drawn 66 = .ok (.getfield 38, 3) := by decide +kernel
theorem dX11_drawn_69 : decode cX11_drawn 69 = .ok (.iload 4, 2) := by decide +kernel
theorem dX11_drawn_71 : decode cX11_drawn 71 = .ok (.baload, 1) := by decide +kernel
theorem dX11_drawn_72 : decode cX11_drawn 72 = .ok (.ifCond .eq 7, 3) := by decide +kernel
theorem dX11_drawn_75 : decode cX11_drawn 75 = .ok (.iload_n 3, 1) := by decide +kernel
theorem dX11_drawn_76 : decode cX11_drawn 76 = .ok (.ifCond .le 27, 3) := by decide +kernel
theorem dX11_drawn_79 : decode cX11_drawn 79 = .ok (.iload_n 3, 1) := by decide +kernel
end
section
theorem dX11_drawn_80 : decode cX11_drawn 80 = .ok (.aload_n 0, 1) := by decide +kernel
theorem dX11_drawn_81 : decode cX11_drawn 81 = .ok (.getfield 38, 3) := by decide +kernel
theorem dX11_drawn_84 : decode cX11_drawn 84 = .ok (.iload 4, 2) := by decide +kernel
theorem dX11_drawn_86 : decode cX11_drawn 86 = .ok (.baload, 1) := by decide +kernel
theorem dX11_drawn_87 : decode cX11_drawn 87 = .ok (.ifCond .eq 7, 3) := by decide +kernel
theorem dX11_drawn_90 : decode cX11_drawn 90 = .ok (.iconst 1, 1) := by decide +kernel
theorem dX11_drawn_91 : decode cX11_drawn 91 = .ok (.goto 4, 3) := by decide +kernel
theorem dX11_drawn_94 : decode cX11_drawn 94 = .ok (.iconst 0, 1) := by decide +kernel
theorem dX11_drawn_95 : decode cX11_drawn 95 = .ok (.isub, 1) := by decide +kernel
theorem dX11_drawn_96 : decode cX11_drawn 96 = .ok (.istore_n 3, 1) := by decide +kernel
theorem dX11_drawn_97 : decode cX11_drawn 97 = .ok (.iinc 4 1, 3) := by decide +kernel
theorem dX11_drawn_100 : decode cX11_drawn 100 = .ok (.goto (-35), 3) := by decide +kernel
theorem dX11_drawn_103 : decode cX11_drawn 103 = .ok (.iload 4, 2) := by decide +kernel
theorem dX11_drawn_105 : decode cX11_drawn 105 = .ok (.ireturn, 1) := by decide +kernel
theorem dX11_runs_0 : decode cX11_runs 0 = .ok (.aload_n 0, 1) := by decide +kernel
theorem dX11_runs_1 : decode cX11_runs 1 = .ok (.iload_n 1, 1) := by decide +kernel
theorem dX11_runs_2 : decode cX11_runs 2 = .ok (.invokevirtual 227, 3) := by decide +kernel
theorem dX11_runs_5 : decode cX11_runs 5 = .ok (.ifCond .eq 23, 3) := by decide +kernel
theorem dX11_runs_8 : decode cX11_runs 8 = .ok (.aload_n 0, 1) := by decide +kernel
theorem dX11_runs_9 : decode cX11_runs 9 = .ok (.getfield 190, 3) := by decide +kernel
theorem dX11_runs_12 : decode cX11_runs 12 = .ok (.ifCond .le 16, 3) := by decide +kernel
theorem dX11_runs_15 : decode cX11_runs 15 = .ok (.aload_n 0, 1) := by decide +kernel
theorem dX11_runs_16 : decode cX11_runs 16 = .ok (.getfield 38, 3) := by decide +kernel
theorem dX11_runs_19 : decode cX11_runs 19 = .ok (.iload_n 1, 1) := by decide +kernel
theorem dX11_runs_20 : decode cX11_runs 20 = .ok (.baload, 1) := by decide +kernel
theorem dX11_runs_21 : decode cX11_runs 21 = .ok (.ifCond .eq 7, 3) := by decide +kernel
theorem dX11_runs_24 : decode cX11_runs 24 = .ok (.iconst 1, 1) := by decide +kernel
theorem dX11_runs_25 : decode cX11_runs 25 = .ok (.goto 4, 3) := by decide +kernel
theorem dX11_runs_28 : decode cX11_runs 28 = .ok (.iconst 0, 1) := by decide +kernel
theorem dX11_runs_29 : decode cX11_runs 29 = .ok (.ireturn, 1) := by decide +kernel
theorem dX11_look_0 : decode cX11_look 0 = .ok (.aload_n 0, 1) := by decide +kernel
theorem dX11_look_1 : decode cX11_look 1 = .ok (.iconst 0, 1) := by decide +kernel
theorem dX11_look_2 : decode cX11_look 2 = .ok (.putfield 102, 3) := by decide +kernel
theorem dX11_look_5 : decode cX11_look 5 = .ok (.aload_n 0, 1) := by decide +kernel
theorem dX11_look_6 : decode cX11_look 6 = .ok (.iload_n 1, 1) := by decide +kernel
theorem dX11_look_7 : decode cX11_look 7 = .ok (.invokevirtual 227, 3) := by decide +kernel
theorem dX11_look_10 : decode cX11_look 10 = .ok (.ifCond .ne 5, 3) := by decide +kernel
theorem dX11_look_13 : decode cX11_look 13 = .ok (.iconst (-1), 1) := by decide +kernel
theorem dX11_look_14 : decode cX11_look 14 = .ok (.ireturn, 1) := by decide +kernel
theorem dX11_look_15 : decode cX11_look 15 = .ok (.iload_n 2, 1) := by decide +kernel
theorem dX11_look_16 : decode cX11_look 16 = .ok (.tableswitch 92 0 4 #[36, 64, 71, 78, 85], 36) := by decide +kernel
theorem dX11_look_52 : decode cX11_look 52 = .ok (.aload_n 0, 1) := by decide +kernel
theorem dX11_look_53 : decode cX11_look 53 = .ok (.getfield 190, 3) := by decide +kernel
theorem dX11_look_56 : decode cX11_look 56 = .ok (.iconst 3, 1) := by decide +kernel
theorem dX11_look_57 : decode cX11_look 57 = .ok (.if_icmp .lt 21, 3) := by decide +kernel
theorem dX11_look_60 : decode cX11_look 60 = .ok (.aload_n 0, 1) := by decide +kernel
theorem dX11_look_61 : decode cX11_look 61 = .ok (.getfield 38, 3) := by decide +kernel
theorem dX11_look_64 : decode cX11_look 64 = .ok (.iload_n 1, 1) := by decide +kernel
theorem dX11_look_65 : decode cX11_look 65 = .ok (.baload, 1) := by decide +kernel
theorem dX11_look_66 : decode cX11_look 66 = .ok (.ifCond .eq 12, 3) := by decide +kernel
theorem dX11_look_69 : decode cX11_look 69 = .ok (.aload_n 0, 1) := by decide +kernel
theorem dX11_look_70 : decode cX11_look 70 = .ok (.getfield 35, 3) := by decide +kernel
theorem dX11_look_73 : decode cX11_look 73 = .ok (.iload_n 1, 1) := by decide +kernel
theorem dX11_look_74 : decode cX11_look 74 = .ok (.iaload, 1) := by decide +kernel
theorem dX11_look_75 : decode cX11_look 75 = .ok (.goto 4, 3) := by decide +kernel
theorem dX11_look_78 : decode cX11_look 78 = .ok (.iconst (-1), 1) := by decide +kernel
theorem dX11_look_79 : decode cX11_look 79 = .ok (.ireturn, 1) := by decide +kernel
theorem dX11_look_80 : decode cX11_look 80 = .ok (.aload_n 0, 1) := by decide +kernel
theorem dX11_look_81 : decode cX11_look 81 = .ok (.getfield 23, 3) := by decide +kernel
theorem dX11_look_84 : decode cX11_look 84 = .ok (.iload_n 1, 1) := by decide +kernel
theorem dX11_look_85 : decode cX11_look 85 = .ok (.iaload, 1) := by decide +kernel
theorem dX11_look_86 : decode cX11_look 86 = .ok (.ireturn, 1) := by decide +kernel
theorem dX11_look_87 : decode cX11_look 87 = .ok (.aload_n 0, 1) := by decide +kernel
theorem dX11_look_88 : decode cX11_look 88 = .ok (.getfield 26, 3) := by decide +kernel
theorem dX11_look_91 : decode cX11_look 91 = .ok (.iload_n 1, 1) := by decide +kernel
theorem dX11_look_92 : decode cX11_look 92 = .ok (.iaload, 1) := by decide +kernel
theorem dX11_look_93 : decode cX11_look 93 = .ok (.ireturn, 1) := by decide +kernel
theorem dX11_look_94 : decode cX11_look 94 = .ok (.aload_n 0, 1) := by decide +kernel
theorem dX11_look_95 : decode cX11_look 95 = .ok (.getfield 29, 3) := by decide +kernel
theorem dX11_look_98 : decode cX11_look 98 = .ok (.iload_n 1, 1) := by decide +kernel
theorem dX11_look_99 : decode cX11_look 99 = .ok (.iaload, 1) := by decide +kernel
theorem dX11_look_100 : decode cX11_look 100 = .ok (.ireturn, 1) := by decide +kernel
theorem dX11_look_101 : decode cX11_look 101 = .ok (.aload_n 0, 1) := by decide +kernel
theorem dX11_look_102 : decode cX11_look 102 = .ok (.getfield 32, 3) := by decide +kernel
theorem dX11_look_105 : decode cX11_look 105 = .ok (.iload_n 1, 1) := by decide +kernel
theorem dX11_look_106 : decode cX11_look 106 = .ok (.iaload, 1) := by decide +kernel
theorem dX11_look_107 : decode cX11_look 107 = .ok (.ireturn, 1) := by decide +kernel
theorem dX11_look_108 : decode cX11_look 108 = .ok (.iconst (-1), 1) := by decide +kernel
theorem dX11_look_109 : decode cX11_look 109 = .ok (.ireturn, 1) := by decide +kernel
theorem dX11_ring_0 : decode cX11_ring 0 = .ok (.aload_n 0, 1) := by decide +kernel
theorem dX11_ring_1 : decode cX11_ring 1 = .ok (.iconst 0, 1) := by decide +kernel
theorem dX11_ring_2 : decode cX11_ring 2 = .ok (.putfield 102, 3) := by decide +kernel
theorem dX11_ring_5 : decode cX11_ring 5 = .ok (.iload_n 1, 1) := by decide +kernel
theorem dX11_ring_6 : decode cX11_ring 6 = .ok (.bipush 12, 2) := by decide +kernel
theorem dX11_ring_8 : decode cX11_ring 8 = .ok (.if_icmp .lt 17, 3) := by decide +kernel
theorem dX11_ring_11 : decode cX11_ring 11 = .ok (.iload_n 1, 1) := by decide +kernel
theorem dX11_ring_12 : decode cX11_ring 12 = .ok (.bipush 60, 2) := by decide +kernel
theorem dX11_ring_14 : decode cX11_ring 14 = .ok (.if_icmp .gt 11, 3) := by decide +kernel
theorem dX11_ring_17 : decode cX11_ring 17 = .ok (.aload_n 0, 1) := by decide +kernel
theorem dX11_ring_18 : decode cX11_ring 18 = .ok (.getfield 190, 3) := by decide +kernel
theorem dX11_ring_21 : decode cX11_ring 21 = .ok (.iconst 4, 1) := by decide +kernel
theorem dX11_ring_22 : decode cX11_ring 22 = .ok (.if_icmp .ne 5, 3) := by decide +kernel
theorem dX11_ring_25 : decode cX11_ring 25 = .ok (.iconst 0, 1) := by decide +kernel
theorem dX11_ring_26 : decode cX11_ring 26 = .ok (.ireturn, 1) := by decide +kernel
theorem dX11_ring_27 : decode cX11_ring 27 = .ok (.aload_n 0, 1) := by decide +kernel
theorem dX11_ring_28 : decode cX11_ring 28 = .ok (.iload_n 1, 1) := by decide +kernel
theorem dX11_ring_29 : decode cX11_ring 29 = .ok (.putfield 63, 3) := by decide +kernel
theorem dX11_ring_32 : decode cX11_ring 32 = .ok (.iconst 0, 1) := by decide +kernel
theorem dX11_ring_33 : decode cX11_ring 33 = .ok (.istore_n 2, 1) := by decide +kernel
theorem dX11_ring_34 : decode cX11_ring 34 = .ok (.iload_n 2, 1) := by decide +kernel
theorem dX11_ring_35 : decode cX11_ring 35 = .ok (.bipush 60, 2) := by decide +kernel
theorem dX11_ring_37 : decode cX11_ring 37 = .ok (.if_icmp .ge 16, 3) := by decide +kernel
theorem dX11_ring_40 : decode cX11_ring 40 = .ok (.aload_n 0, 1) := by decide +kernel
theorem dX11_ring_41 : decode cX11_ring 41 = .ok (.getfield 66, 3) := by decide +kernel
theorem dX11_ring_44 : decode cX11_ring 44 = .ok (.iload_n 2, 1) := by decide +kernel
theorem dX11_ring_45 : decode cX11_ring 45 = .ok (.iconst 0, 1) := by decide +kernel
theorem dX11_ring_46 : decode cX11_ring 46 = .ok (.bastore, 1) := by decide +kernel
theorem dX11_ring_47 : decode cX11_ring 47 = .ok (.iinc 2 1, 3) := by decide +kernel
theorem dX11_ring_50 : decode cX11_ring 50 = .ok (.goto (-16), 3) := by decide +kernel
theorem dX11_ring_53 : decode cX11_ring 53 = .ok (.iconst 1, 1) := by decide +kernel
theorem dX11_ring_54 : decode cX11_ring 54 = .ok (.ireturn, 1) := by decide +kernel
theorem dX11_bend_0 : decode cX11_bend 0 = .ok (.aload_n 0, 1) := by decide +kernel
theorem dX11_bend_1 : decode cX11_bend 1 = .ok (.iconst 0, 1) := by decide +kernel
theorem dX11_bend_2 : decode cX11_bend 2 = .ok (.putfield 102, 3) := by decide +kernel
theorem dX11_bend_5 : decode cX11_bend 5 = .ok (.iload_n 1, 1) := by decide +kernel
theorem dX11_bend_6 : decode cX11_bend 6 = .ok (.ifCond .lt 19, 3) := by decide +kernel
theorem dX11_bend_9 : decode cX11_bend 9 = .ok (.iload_n 1, 1) := by decide +kernel
theorem dX11_bend_10 : decode cX11_bend 10 = .ok (.aload_n 0, 1) := by decide +kernel
theorem dX11_bend_11 : decode cX11_bend 11 = .ok (.getfield 63, 3) := by decide +kernel
theorem dX11_bend_14 : decode cX11_bend 14 = .ok (.if_icmp .ge 11, 3) := by decide +kernel
theorem dX11_bend_17 : decode cX11_bend 17 = .ok (.aload_n 0, 1) := by decide +kernel
theorem dX11_bend_18 : decode cX11_bend 18 = .ok (.getfield 190, 3) := by decide +kernel
theorem dX11_bend_21 : decode cX11_bend 21 = .ok (.iconst 4, 1) := by decide +kernel
theorem dX11_bend_22 : decode cX11_bend 22 = .ok (.if_icmp .ne 5, 3) := by decide +kernel
theorem dX11_bend_25 : decode cX11_bend 25 = .ok (.iconst 0, 1) := by decide +kernel
theorem dX11_bend_26 : decode cX11_bend 26 = .ok (.ireturn, 1) := by decide +kernel
theorem dX11_bend_27 : decode cX11_bend 27 = .ok (.aload_n 0, 1) := by decide +kernel
theorem dX11_bend_28 : decode cX11_bend 28 = .ok (.getfield 66, 3) := by decide +kernel
theorem dX11_bend_31 : decode cX11_bend 31 = .ok (.iload_n 1, 1) := by decide +kernel
theorem dX11_bend_32 : decode cX11_bend 32 = .ok (.iload_n 2, 1) := by decide +kernel
theorem dX11_bend_33 : decode cX11_bend 33 = .ok (.bastore, 1) := by decide +kernel
theorem dX11_bend_34 : decode cX11_bend 34 = .ok (.iconst 1, 1) := by decide +kernel
theorem dX11_bend_35 : decode cX11_bend 35 = .ok (.ireturn, 1) := by decide +kernel
theorem dX11_orders_0 : decode cX11_orders 0 = .ok (.aload_n 0, 1) := by decide +kernel
theorem dX11_orders_1 : decode cX11_orders 1 = .ok (.iconst 0, 1) := by decide +kernel
theorem dX11_orders_2 : decode cX11_orders 2 = .ok (.putfield 102, 3) := by decide +kernel
theorem dX11_orders_5 : decode cX11_orders 5 = .ok (.aload_n 0, 1) := by decide +kernel
theorem dX11_orders_6 : decode cX11_orders 6 = .ok (.iload_n 1, 1) := by decide +kernel
theorem dX11_orders_7 : decode cX11_orders 7 = .ok (.invokevirtual 227, 3) := by decide +kernel
theorem dX11_orders_10 : decode cX11_orders 10 = .ok (.ifCond .eq 29, 3) := by decide +kernel
theorem dX11_orders_13 : decode cX11_orders 13 = .ok (.iload_n 2, 1) := by decide +kernel
theorem dX11_orders_14 : decode cX11_orders 14 = .ok (.ifCond .lt 25, 3) := by decide +kernel
theorem dX11_orders_17 : decode cX11_orders 17 = .ok (.iload_n 2, 1) := by decide +kernel
theorem dX11_orders_18 : decode cX11_orders 18 = .ok (.iconst 2, 1) := by decide +kernel
theorem dX11_orders_19 : decode cX11_orders 19 = .ok (.if_icmp .gt 20, 3) := by decide +kernel
theorem dX11_orders_22 : decode cX11_orders 22 = .ok (.iload_n 2, 1) := by decide +kernel
theorem dX11_orders_23 : decode cX11_orders 23 = .ok (.ifCond .le 18, 3) := by decide +kernel
theorem dX11_orders_26 : decode cX11_orders 26 = .ok (.aload_n 0, 1) := by decide +kernel
theorem dX11_orders_27 : decode cX11_orders 27 = .ok (.iload_n 3, 1) := by decide +kernel
theorem dX11_orders_28 : decode cX11_orders 28 = .ok (.invokevirtual 227, 3) := by decide +kernel
theorem dX11_orders_31 : decode cX11_orders 31 = .ok (.ifCond .eq 8, 3) := by decide +kernel
theorem dX11_orders_34 : decode cX11_orders 34 = .ok (.iload_n 3, 1) := by decide +kernel
theorem dX11_orders_35 : decode cX11_orders 35 = .ok (.iload_n 1, 1) := by decide +kernel
theorem dX11_orders_36 : decode cX11_orders 36 = .ok (.if_icmp .ne 5, 3) := by decide +kernel
theorem dX11_orders_39 : decode cX11_orders 39 = .ok (.iconst 0, 1) := by decide +kernel
theorem dX11_orders_40 : decode cX11_orders 40 = .ok (.ireturn, 1) := by decide +kernel
theorem dX11_orders_41 : decode cX11_orders 41 = .ok (.aload_n 0, 1) := by decide +kernel
theorem dX11_orders_42 : decode cX11_orders 42 = .ok (.getfield 42, 3) := by decide +kernel
theorem dX11_orders_45 : decode cX11_orders 45 = .ok (.iload_n 1, 1) := by decide +kernel
theorem dX11_orders_46 : decode cX11_orders 46 = .ok (.iload_n 2, 1) := by decide +kernel
theorem dX11_orders_47 : decode cX11_orders 47 = .ok (.iastore, 1) := by decide +kernel
theorem dX11_orders_48 : decode cX11_orders 48 = .ok (.aload_n 0, 1) := by decide +kernel
theorem dX11_orders_49 : decode cX11_orders 49 = .ok (.getfield 45, 3) := by decide +kernel
theorem dX11_orders_52 : decode cX11_orders 52 = .ok (.iload_n 1, 1) := by decide +kernel
theorem dX11_orders_53 : decode cX11_orders 53 = .ok (.iload_n 3, 1) := by decide +kernel
theorem dX11_orders_54 : decode cX11_orders 54 = .ok (.iastore, 1) := by decide +kernel
theorem dX11_orders_55 : decode cX11_orders 55 = .ok (.iconst 1, 1) := by decide +kernel
theorem dX11_orders_56 : decode cX11_orders 56 = .ok (.ireturn, 1) := by decide +kernel
theorem dX11_seen_0 : decode cX11_seen 0 = .ok (.aload_n 0, 1) := by decide +kernel
theorem dX11_seen_1 : decode cX11_seen 1 = .ok (.iconst 0, 1) := by decide +kernel
theorem dX11_seen_2 : decode cX11_seen 2 = .ok (.putfield 102, 3) := by decide +kernel
theorem dX11_seen_5 : decode cX11_seen 5 = .ok (.aload_n 0, 1) := by decide +kernel
theorem dX11_seen_6 : decode cX11_seen 6 = .ok (.getfield 190, 3) := by decide +kernel
theorem dX11_seen_9 : decode cX11_seen 9 = .ok (.iconst 3, 1) := by decide +kernel
theorem dX11_seen_10 : decode cX11_seen 10 = .ok (.if_icmp .ne 23, 3) := by decide +kernel
theorem dX11_seen_13 : decode cX11_seen 13 = .ok (.iload_n 1, 1) := by decide +kernel
theorem dX11_seen_14 : decode cX11_seen 14 = .ok (.ifCond .lt 19, 3) := by decide +kernel
theorem dX11_seen_17 : decode cX11_seen 17 = .ok (.iload_n 1, 1) := by decide +kernel
theorem dX11_seen_18 : decode cX11_seen 18 = .ok (.aload_n 0, 1) := by decide +kernel
theorem dX11_seen_19 : decode cX11_seen 19 = .ok (.getfield 201, 3) := by decide +kernel
theorem dX11_seen_22 : decode cX11_seen 22 = .ok (.if_icmp .ge 11, 3) := by decide +kernel
theorem dX11_seen_25 : decode cX11_seen 25 = .ok (.aload_n 0, 1) := by decide +kernel
theorem dX11_seen_26 : decode cX11_seen 26 = .ok (.iload_n 2, 1) := by decide +kernel
theorem dX11_seen_27 : decode cX11_seen 27 = .ok (.invokevirtual 230, 3) := by decide +kernel
theorem dX11_seen_30 : decode cX11_seen 30 = .ok (.ifCond .ne 5, 3) := by decide +kernel
theorem dX11_seen_33 : decode cX11_seen 33 = .ok (.iconst 0, 1) := by decide +kernel
theorem dX11_seen_34 : decode cX11_seen 34 = .ok (.ireturn, 1) := by decide +kernel
theorem dX11_seen_35 : decode cX11_seen 35 = .ok (.aload_n 0, 1) := by decide +kernel
theorem dX11_seen_36 : decode cX11_seen 36 = .ok (.getfield 60, 3) := by decide +kernel
theorem dX11_seen_39 : decode cX11_seen 39 = .ok (.iload_n 1, 1) := by decide +kernel
theorem dX11_seen_40 : decode cX11_seen 40 = .ok (.iload_n 2, 1) := by decide +kernel
theorem dX11_seen_41 : decode cX11_seen 41 = .ok (.iastore, 1) := by decide +kernel
theorem dX11_seen_42 : decode cX11_seen 42 = .ok (.iconst 1, 1) := by decide +kernel
theorem dX11_seen_43 : decode cX11_seen 43 = .ok (.ireturn, 1) := by decide +kernel
theorem dX11_drop_0 : decode cX11_drop 0 = .ok (.aload_n 0, 1) := by decide +kernel
theorem dX11_drop_1 : decode cX11_drop 1 = .ok (.iconst 0, 1) := by decide +kernel
theorem dX11_drop_2 : decode cX11_drop 2 = .ok (.putfield 102, 3) := by decide +kernel
theorem dX11_drop_5 : decode cX11_drop 5 = .ok (.aload_n 0, 1) := by decide +kernel
theorem dX11_drop_6 : decode cX11_drop 6 = .ok (.getfield 190, 3) := by decide +kernel
theorem dX11_drop_9 : decode cX11_drop 9 = .ok (.iconst 3, 1) := by decide +kernel
theorem dX11_drop_10 : decode cX11_drop 10 = .ok (.if_icmp .eq 6, 3) := by decide +kernel
theorem dX11_drop_13 : decode cX11_drop 13 = .ok (.bipush (-100), 2) := by decide +kernel
theorem dX11_drop_15 : decode cX11_drop 15 = .ok (.ireturn, 1) := by decide +kernel
theorem dX11_drop_16 : decode cX11_drop 16 = .ok (.iconst 0, 1) := by decide +kernel
theorem dX11_drop_17 : decode cX11_drop 17 = .ok (.istore_n 2, 1) := by decide +kernel
theorem dX11_drop_18 : decode cX11_drop 18 = .ok (.iconst 0, 1) := by decide +kernel
theorem dX11_drop_19 : decode cX11_drop 19 = .ok (.istore_n 3, 1) := by decide +kernel
theorem dX11_drop_20 : decode cX11_drop 20 = .ok (.iload_n 3, 1) := by decide +kernel
theorem dX11_drop_21 : decode cX11_drop 21 = .ok (.aload_n 0, 1) := by decide +kernel
theorem dX11_drop_22 : decode cX11_drop 22 = .ok (.getfield 201, 3) := by decide +kernel
theorem dX11_drop_25 : decode cX11_drop 25 = .ok (.if_icmp .ge 32, 3) := by decide +kernel
theorem dX11_drop_28 : decode cX11_drop 28 = .ok (.iload_n 2, 1) := by decide +kernel
theorem dX11_drop_29 : decode cX11_drop 29 = .ok (.aload_n 0, 1) := by decide +kernel
theorem dX11_drop_30 : decode cX11_drop 30 = .ok (.getfield 60, 3) := by decide +kernel
theorem dX11_drop_33 : decode cX11_drop 33 = .ok (.iload_n 3, 1) := by decide +kernel
theorem dX11_drop_34 : decode cX11_drop 34 = .ok (.iaload, 1) := by decide +kernel
theorem dX11_drop_35 : decode cX11_drop 35 = .ok (.aload_n 0, 1) := by decide +kernel
theorem dX11_drop_36 : decode cX11_drop 36 = .ok (.getfield 57, 3) := by decide +kernel
theorem dX11_drop_39 : decode cX11_drop 39 = .ok (.iload_n 3, 1) := by decide +kernel
theorem dX11_drop_40 : decode cX11_drop 40 = .ok (.iaload, 1) := by decide +kernel
theorem dX11_drop_41 : decode cX11_drop 41 = .ok (.if_icmp .ne 7, 3) := by decide +kernel
theorem dX11_drop_44 : decode cX11_drop 44 = .ok (.iconst 0, 1) := by decide +kernel
theorem dX11_drop_45 : decode cX11_drop 45 = .ok (.goto 4, 3) := by decide +kernel
theorem dX11_drop_48 : decode cX11_drop 48 = .ok (.iconst 1, 1) := by decide +kernel
theorem dX11_drop_49 : decode cX11_drop 49 = .ok (.iadd, 1) := by decide +kernel
theorem dX11_drop_50 : decode cX11_drop 50 = .ok (.istore_n 2, 1) := by decide +kernel
theorem dX11_drop_51 : decode cX11_drop 51 = .ok (.iinc 3 1, 3) := by decide +kernel
theorem dX11_drop_54 : decode cX11_drop 54 = .ok (.goto (-34), 3) := by decide +kernel
theorem dX11_drop_57 : decode cX11_drop 57 = .ok (.iload_n 2, 1) := by decide +kernel
theorem dX11_drop_58 : decode cX11_drop 58 = .ok (.aload_n 0, 1) := by decide +kernel
theorem dX11_drop_59 : decode cX11_drop 59 = .ok (.iconst 5, 1) := by decide +kernel
theorem dX11_drop_60 : decode cX11_drop 60 = .ok (.aload_n 0, 1) := by decide +kernel
theorem dX11_drop_61 : decode cX11_drop 61 = .ok (.getfield 187, 3) := by decide +kernel
theorem dX11_drop_64 : decode cX11_drop 64 = .ok (.invokevirtual 173, 3) := by decide +kernel
theorem dX11_drop_67 : decode cX11_drop 67 = .ok (.if_icmp .le 11, 3) := by decide +kernel
theorem dX11_drop_70 : decode cX11_drop 70 = .ok (.aload_n 0, 1) := by decide +kernel
theorem dX11_drop_71 : decode cX11_drop 71 = .ok (.invokevirtual 233, 3) := by decide +kernel
theorem dX11_drop_74 : decode cX11_drop 74 = .ok (.iconst (-1), 1) := by decide +kernel
theorem dX11_drop_75 : decode cX11_drop 75 = .ok (.iload_n 2, 1) := by decide +kernel
theorem dX11_drop_76 : decode cX11_drop 76 = .ok (.isub, 1) := by decide +kernel
theorem dX11_drop_77 : decode cX11_drop 77 = .ok (.ireturn, 1) := by decide +kernel
theorem dX11_drop_78 : decode cX11_drop 78 = .ok (.aload_n 0, 1) := by decide +kernel
theorem dX11_drop_79 : decode cX11_drop 79 = .ok (.iload_n 1, 1) := by decide +kernel
theorem dX11_drop_80 : decode cX11_drop 80 = .ok (.putfield 184, 3) := by decide +kernel
theorem dX11_drop_83 : decode cX11_drop 83 = .ok (.aload_n 0, 1) := by decide +kernel
theorem dX11_drop_84 : decode cX11_drop 84 = .ok (.aload_n 0, 1) := by decide +kernel
theorem dX11_drop_85 : decode cX11_drop 85 = .ok (.iconst 1, 1) := by decide +kernel
theorem dX11_drop_86 : decode cX11_drop 86 = .ok (.aload_n 0, 1) := by decide +kernel
theorem dX11_drop_87 : decode cX11_drop 87 = .ok (.getfield 187, 3) := by decide +kernel
theorem dX11_drop_90 : decode cX11_drop 90 = .ok (.invokevirtual 173, 3) := by decide +kernel
theorem dX11_drop_93 : decode cX11_drop 93 = .ok (.putfield 236, 3) := by decide +kernel
theorem dX11_drop_96 : decode cX11_drop 96 = .ok (.aload_n 0, 1) := by decide +kernel
theorem dX11_drop_97 : decode cX11_drop 97 = .ok (.aload_n 0, 1) := by decide +kernel
theorem dX11_drop_98 : decode cX11_drop 98 = .ok (.iconst 2, 1) := by decide +kernel
theorem dX11_drop_99 : decode cX11_drop 99 = .ok (.aload_n 0, 1) := by decide +kernel
theorem dX11_drop_100 : decode cX11_drop 100 = .ok (.getfield 187, 3) := by decide +kernel
theorem dX11_drop_103 : decode cX11_drop 103 = .ok (.invokevirtual 173, 3) := by decide +kernel
theorem dX11_drop_106 : decode cX11_drop 106 = .ok (.putfield 239, 3) := by decide +kernel
theorem dX11_drop_109 : decode cX11_drop 109 = .ok (.aload_n 0, 1) := by decide +kernel
theorem dX11_drop_110 : decode cX11_drop 110 = .ok (.aload_n 0, 1) := by decide +kernel
theorem dX11_drop_111 : decode cX11_drop 111 = .ok (.iconst 3, 1) := by decide +kernel
theorem dX11_drop_112 : decode cX11_drop 112 = .ok (.aload_n 0, 1) := by decide +kernel
theorem dX11_drop_113 : decode cX11_drop 113 = .ok (.getfield 187, 3) := by decide +kernel
theorem dX11_drop_116 : decode cX11_drop 116 = .ok (.invokevirtual 173, 3) := by decide +kernel
theorem dX11_drop_119 : decode cX11_drop 119 = .ok (.iconst 1, 1) := by decide +kernel
theorem dX11_drop_120 : decode cX11_drop 120 = .ok (.if_icmp .ne 7, 3) := by decide +kernel
theorem dX11_drop_123 : decode cX11_drop 123 = .ok (.iconst 1, 1) := by decide +kernel
theorem dX11_drop_124 : decode cX11_drop 124 = .ok (.goto 4, 3) := by decide +kernel
theorem dX11_drop_127 : decode cX11_drop 127 = .ok (.iconst 0, 1) := by decide +kernel
theorem dX11_drop_128 : decode cX11_drop 128 = .ok (.putfield 242, 3) := by decide +kernel
theorem dX11_drop_131 : decode cX11_drop 131 = .ok (.aload_n 0, 1) := by decide +kernel
theorem dX11_drop_132 : decode cX11_drop 132 = .ok (.iconst 0, 1) := by decide +kernel
theorem dX11_drop_133 : decode cX11_drop 133 = .ok (.putfield 246, 3) := by decide +kernel
theorem dX11_drop_136 : decode cX11_drop 136 = .ok (.aload_n 0, 1) := by decide +kernel
theorem dX11_drop_137 : decode cX11_drop 137 = .ok (.iconst 0, 1) := by decide +kernel
theorem dX11_drop_138 : decode cX11_drop 138 = .ok (.putfield 249, 3) := by decide +kernel
theorem dX11_drop_141 : decode cX11_drop 141 = .ok (.aload_n 0, 1) := by decide +kernel
theorem dX11_drop_142 : decode cX11_drop 142 = .ok (.iconst (-1), 1) := by decide +kernel
theorem dX11_drop_143 : decode cX11_drop 143 = .ok (.putfield 87, 3) := by decide +kernel
theorem dX11_drop_146 : decode cX11_drop 146 = .ok (.iconst 0, 1) := by decide +kernel
theorem dX11_drop_147 : decode cX11_drop 147 = .ok (.istore_n 3, 1) := by decide +kernel
theorem dX11_drop_148 : decode cX11_drop 148 = .ok (.iload_n 3, 1) := by decide +kernel
theorem dX11_drop_149 : decode cX11_drop 149 = .ok (.aload_n 0, 1) := by decide +kernel
theorem dX11_drop_150 : decode cX11_drop 150 = .ok (.getfield 201, 3) := by decide +kernel
theorem dX11_drop_153 : decode cX11_drop 153 = .ok (.if_icmp .ge 81, 3) := by decide +kernel
theorem dX11_drop_156 : decode cX11_drop 156 = .ok (.aload_n 0, 1) := by decide +kernel
theorem dX11_drop_157 : decode cX11_drop 157 = .ok (.getfield 57, 3) := by decide +kernel
theorem dX11_drop_160 : decode cX11_drop 160 = .ok (.iload_n 3, 1) := by decide +kernel
theorem dX11_drop_161 : decode cX11_drop 161 = .ok (.iaload, 1) := by decide +kernel
theorem dX11_drop_162 : decode cX11_drop 162 = .ok (.istore 4, 2) := by decide +kernel
theorem dX11_drop_164 : decode cX11_drop 164 = .ok (.aload_n 0, 1) := by decide +kernel
theorem dX11_drop_165 : decode cX11_drop 165 = .ok (.getfield 69, 3) := by decide +kernel
theorem dX11_drop_168 : decode cX11_drop 168 = .ok (.iload 4, 2) := by decide +kernel
theorem dX11_drop_170 : decode cX11_drop 170 = .ok (.iload_n 3, 1) := by decide +kernel
theorem dX11_drop_171 : decode cX11_drop 171 = .ok (.iconst 4, 1) := by decide +kernel
theorem dX11_drop_172 : decode cX11_drop 172 = .ok (.idiv, 1) := by decide +kernel
theorem dX11_drop_173 : decode cX11_drop 173 = .ok (.ineg, 1) := by decide +kernel
theorem dX11_drop_174 : decode cX11_drop 174 = .ok (.iastore, 1) := by decide +kernel
theorem dX11_drop_175 : decode cX11_drop 175 = .ok (.aload_n 0, 1) := by decide +kernel
theorem dX11_drop_176 : decode cX11_drop 176 = .ok (.getfield 72, 3) := by decide +kernel
theorem dX11_drop_179 : decode cX11_drop 179 = .ok (.iload 4, 2) := by decide +kernel
theorem dX11_drop_181 : decode cX11_drop 181 = .ok (.iload_n 3, 1) := by decide +kernel
theorem dX11_drop_182 : decode cX11_drop 182 = .ok (.iconst 4, 1) := by decide +kernel
theorem dX11_drop_183 : decode cX11_drop 183 = .ok (.irem, 1) := by decide +kernel
theorem dX11_drop_184 : decode cX11_drop 184 = .ok (.iastore, 1) := by decide +kernel
theorem dX11_drop_185 : decode cX11_drop 185 = .ok (.aload_n 0, 1) := by decide +kernel
theorem dX11_drop_186 : decode cX11_drop 186 = .ok (.getfield 75, 3) := by decide +kernel
theorem dX11_drop_189 : decode cX11_drop 189 = .ok (.iload 4, 2) := by decide +kernel
theorem dX11_drop_191 : decode cX11_drop 191 = .ok (.iconst 0, 1) := by decide +kernel
theorem dX11_drop_192 : decode cX11_drop 192 = .ok (.iastore, 1) := by decide +kernel
theorem dX11_drop_193 : decode cX11_drop 193 = .ok (.aload_n 0, 1) := by decide +kernel
theorem dX11_drop_194 : decode cX11_drop 194 = .ok (.getfield 78, 3) := by decide +kernel
theorem dX11_drop_197 : decode cX11_drop 197 = .ok (.iload 4, 2) := by decide +kernel
theorem dX11_drop_199 : decode cX11_drop 199 = .ok (.iconst 0, 1) := by decide +kernel
theorem dX11_drop_200 : decode cX11_drop 200 = .ok (.bastore, 1) := by decide +kernel
theorem dX11_drop_201 : decode cX11_drop 201 = .ok (.aload_n 0, 1) := by decide +kernel
theorem dX11_drop_202 : decode cX11_drop 202 = .ok (.getfield 81, 3) := by decide +kernel
theorem dX11_drop_205 : decode cX11_drop 205 = .ok (.iload 4, 2) := by decide +kernel
theorem dX11_drop_207 : decode cX11_drop 207 = .ok (.iconst (-1), 1) := by decide +kernel
theorem dX11_drop_208 : decode cX11_drop 208 = .ok (.iastore, 1) := by decide +kernel
theorem dX11_drop_209 : decode cX11_drop 209 = .ok (.aload_n 0, 1) := by decide +kernel
theorem dX11_drop_210 : decode cX11_drop 210 = .ok (.getfield 84, 3) := by decide +kernel
theorem dX11_drop_213 : decode cX11_drop 213 = .ok (.iload 4, 2) := by decide +kernel
theorem dX11_drop_215 : decode cX11_drop 215 = .ok (.iconst 0, 1) := by decide +kernel
theorem dX11_drop_216 : decode cX11_drop 216 = .ok (.iastore, 1) := by decide +kernel
theorem dX11_drop_217 : decode cX11_drop 217 = .ok (.aload_n 0, 1) := by decide +kernel
theorem dX11_drop_218 : decode cX11_drop 218 = .ok (.getfield 23, 3) := by decide +kernel
theorem dX11_drop_221 : decode cX11_drop 221 = .ok (.iload 4, 2) := by decide +kernel
theorem dX11_drop_223 : decode cX11_drop 223 = .ok (.aload_n 0, 1) := by decide +kernel
theorem dX11_drop_224 : decode cX11_drop 224 = .ok (.getfield 187, 3) := by decide +kernel
theorem dX11_drop_227 : decode cX11_drop 227 = .ok (.iastore, 1) := by decide +kernel
theorem dX11_drop_228 : decode cX11_drop 228 = .ok (.iinc 3 1, 3) := by decide +kernel
theorem dX11_drop_231 : decode cX11_drop 231 = .ok (.goto (-83), 3) := by decide +kernel
theorem dX11_drop_234 : decode cX11_drop 234 = .ok (.aload_n 0, 1) := by decide +kernel
theorem dX11_drop_235 : decode cX11_drop 235 = .ok (.iconst 4, 1) := by decide +kernel
theorem dX11_drop_236 : decode cX11_drop 236 = .ok (.putfield 190, 3) := by decide +kernel
theorem dX11_drop_239 : decode cX11_drop 239 = .ok (.iload_n 2, 1) := by decide +kernel
theorem dX11_drop_240 : decode cX11_drop 240 = .ok (.ireturn, 1) := by decide +kernel
theorem dX11_isFalse_0 : decode cX11_isFalse 0 = .ok (.aload_n 0, 1) := by decide +kernel
theorem dX11_isFalse_1 : decode cX11_isFalse 1 = .ok (.bipush 6, 2) := by decide +kernel
theorem dX11_isFalse_3 : decode cX11_isFalse 3 = .ok (.aload_n 0, 1) := by decide +kernel
theorem dX11_isFalse_4 : decode cX11_isFalse 4 = .ok (.getfield 187, 3) := by decide +kernel
theorem dX11_isFalse_7 : decode cX11_isFalse 7 = .ok (.invokevirtual 173, 3) := by decide +kernel
theorem dX11_isFalse_10 : decode cX11_isFalse 10 = .ok (.istore_n 1, 1) := by decide +kernel
theorem dX11_isFalse_11 : decode cX11_isFalse 11 = .ok (.iconst 0, 1) := by decide +kernel
theorem dX11_isFalse_12 : decode cX11_isFalse 12 = .ok (.istore_n 2, 1) := by decide +kernel
theorem dX11_isFalse_13 : decode cX11_isFalse 13 = .ok (.iload_n 2, 1) := by decide +kernel
theorem dX11_isFalse_14 : decode cX11_isFalse 14 = .ok (.aload_n 0, 1) := by decide +kernel
theorem dX11_isFalse_15 : decode cX11_isFalse 15 = .ok (.getfield 201, 3) := by decide +kernel
theorem dX11_isFalse_18 : decode cX11_isFalse 18 = .ok (.if_icmp .ge 39, 3) := by decide +kernel
theorem dX11_isFalse_21 : decode cX11_isFalse 21 = .ok (.aload_n 0, 1) := by decide +kernel
theorem dX11_isFalse_22 : decode cX11_isFalse 22 = .ok (.getfield 60, 3) := by decide +kernel
theorem dX11_isFalse_25 : decode cX11_isFalse 25 = .ok (.iload_n 2, 1) := by decide +kernel
theorem dX11_isFalse_26 : decode cX11_isFalse 26 = .ok (.iaload, 1) := by decide +kernel
theorem dX11_isFalse_27 : decode cX11_isFalse 27 = .ok (.aload_n 0, 1) := by decide +kernel
theorem dX11_isFalse_28 : decode cX11_isFalse 28 = .ok (.getfield 57, 3) := by decide +kernel
theorem dX11_isFalse_31 : decode cX11_isFalse 31 = .ok (.iload_n 2, 1) := by decide +kernel
theorem dX11_isFalse_32 : decode cX11_isFalse 32 = .ok (.iaload, 1) := by decide +kernel
theorem dX11_isFalse_33 : decode cX11_isFalse 33 = .ok (.if_icmp .eq 18, 3) := by decide +kernel
theorem dX11_isFalse_36 : decode cX11_isFalse 36 = .ok (.aload_n 0, 1) := by decide +kernel
theorem dX11_isFalse_37 : decode cX11_isFalse 37 = .ok (.getfield 29, 3) := by decide +kernel
theorem dX11_isFalse_40 : decode cX11_isFalse 40 = .ok (.aload_n 0, 1) := by decide +kernel
theorem dX11_isFalse_41 : decode cX11_isFalse 41 = .ok (.getfield 57, 3) := by decide +kernel
theorem dX11_isFalse_44 : decode cX11_isFalse 44 = .ok (.iload_n 2, 1) := by decide +kernel
theorem dX11_isFalse_45 : decode cX11_isFalse 45 = .ok (.iaload, 1) := by decide +kernel
theorem dX11_isFalse_46 : decode cX11_isFalse 46 = .ok (.dup2, 1) := by decide +kernel
theorem dX11_isFalse_47 : decode cX11_isFalse 47 = .ok (.iaload, 1) := by decide +kernel
theorem dX11_isFalse_48 : decode cX11_isFalse 48 = .ok (.iconst 1, 1) := by decide +kernel
theorem dX11_isFalse_49 : decode cX11_isFalse 49 = .ok (.iadd, 1) := by decide +kernel
theorem dX11_isFalse_50 : decode cX11_isFalse 50 = .ok (.iastore, 1) := by decide +kernel
theorem dX11_isFalse_51 : decode cX11_isFalse 51 = .ok (.iinc 2 1, 3) := by decide +kernel
theorem dX11_isFalse_54 : decode cX11_isFalse 54 = .ok (.goto (-41), 3) := by decide +kernel
theorem dX11_isFalse_57 : decode cX11_isFalse 57 = .ok (.iconst 0, 1) := by decide +kernel
theorem dX11_isFalse_58 : decode cX11_isFalse 58 = .ok (.istore_n 2, 1) := by decide +kernel
theorem dX11_isFalse_59 : decode cX11_isFalse 59 = .ok (.iload_n 2, 1) := by decide +kernel
theorem dX11_isFalse_60 : decode cX11_isFalse 60 = .ok (.aload_n 0, 1) := by decide +kernel
theorem dX11_isFalse_61 : decode cX11_isFalse 61 = .ok (.getfield 177, 3) := by decide +kernel
theorem dX11_isFalse_64 : decode cX11_isFalse 64 = .ok (.if_icmp .ge 99, 3) := by decide +kernel
theorem dX11_isFalse_67 : decode cX11_isFalse 67 = .ok (.iload_n 1, 1) := by decide +kernel
theorem dX11_isFalse_68 : decode cX11_isFalse 68 = .ok (.ifCond .le 95, 3) := by decide +kernel
theorem dX11_isFalse_71 : decode cX11_isFalse 71 = .ok (.aload_n 0, 1) := by decide +kernel
theorem dX11_isFalse_72 : decode cX11_isFalse 72 = .ok (.getfield 38, 3) := by decide +kernel
theorem dX11_isFalse_75 : decode cX11_isFalse 75 = .ok (.iload_n 2, 1) := by decide +kernel
theorem dX11_isFalse_76 : decode cX11_isFalse 76 = .ok (.baload, 1) := by decide +kernel
theorem dX11_isFalse_77 : decode cX11_isFalse 77 = .ok (.ifCond .eq 80, 3) := by decide +kernel
theorem dX11_isFalse_80 : decode cX11_isFalse 80 = .ok (.aload_n 0, 1) := by decide +kernel
theorem dX11_isFalse_81 : decode cX11_isFalse 81 = .ok (.getfield 29, 3) := by decide +kernel
theorem dX11_isFalse_84 : decode cX11_isFalse 84 = .ok (.iload_n 2, 1) := by decide +kernel
theorem dX11_isFalse_85 : decode cX11_isFalse 85 = .ok (.iaload, 1) := by decide +kernel
theorem dX11_isFalse_86 : decode cX11_isFalse 86 = .ok (.iload_n 1, 1) := by decide +kernel
theorem dX11_isFalse_87 : decode cX11_isFalse 87 = .ok (.if_icmp .ge 6, 3) := by decide +kernel
theorem dX11_isFalse_90 : decode cX11_isFalse 90 = .ok (.goto 67, 3) := by decide +kernel
theorem dX11_isFalse_93 : decode cX11_isFalse 93 = .ok (.aload_n 0, 1) := by decide +kernel
theorem dX11_isFalse_94 : decode cX11_isFalse 94 = .ok (.getfield 29, 3) := by decide +kernel
theorem dX11_isFalse_97 : decode cX11_isFalse 97 = .ok (.iload_n 2, 1) := by decide +kernel
theorem dX11_isFalse_98 : decode cX11_isFalse 98 = .ok (.iconst 0, 1) := by decide +kernel
theorem dX11_isFalse_99 : decode cX11_isFalse 99 = .ok (.iastore, 1) := by decide +kernel
theorem dX11_isFalse_100 : decode cX11_isFalse 100 = .ok (.iconst 0, 1) := by decide +kernel
theorem dX11_isFalse_101 : decode cX11_isFalse 101 = .ok (.istore_n 3, 1) := by decide +kernel
theorem dX11_isFalse_102 : decode cX11_isFalse 102 = .ok (.iconst 0, 1) := by decide +kernel
theorem dX11_isFalse_103 : decode cX11_isFalse 103 = .ok (.istore 4, 2) := by decide +kernel
theorem dX11_isFalse_105 : decode cX11_isFalse 105 = .ok (.iload 4, 2) := by decide +kernel
theorem dX11_isFalse_107 : decode cX11_isFalse 107 = .ok (.aload_n 0, 1) := by decide +kernel
theorem dX11_isFalse_108 : decode cX11_isFalse 108 = .ok (.getfield 201, 3) := by decide +kernel
theorem dX11_isFalse_111 : decode cX11_isFalse 111 = .ok (.if_icmp .ge 39, 3) := by decide +kernel
theorem dX11_isFalse_114 : decode cX11_isFalse 114 = .ok (.aload_n 0, 1) := by decide +kernel
theorem dX11_isFalse_115 : decode cX11_isFalse 115 = .ok (.getfield 57, 3) := by decide +kernel
theorem dX11_isFalse_118 : decode cX11_isFalse 118 = .ok (.iload 4, 2) := by decide +kernel
theorem dX11_isFalse_120 : decode cX11_isFalse 120 = .ok (.iaload, 1) := by decide +kernel
theorem dX11_isFalse_121 : decode cX11_isFalse 121 = .ok (.iload_n 2, 1) := by decide +kernel
theorem dX11_isFalse_122 : decode cX11_isFalse 122 = .ok (.if_icmp .ne 6, 3) := by decide +kernel
theorem dX11_isFalse_125 : decode cX11_isFalse 125 = .ok (.goto 19, 3) := by decide +kernel
theorem dX11_isFalse_128 : decode cX11_isFalse 128 = .ok (.aload_n 0, 1) := by decide +kernel
theorem dX11_isFalse_129 : decode cX11_isFalse 129 = .ok (.getfield 57, 3) := by decide +kernel
theorem dX11_isFalse_132 : decode cX11_isFalse 132 = .ok (.iload_n 3, 1) := by decide +kernel
theorem dX11_isFalse_133 : decode cX11_isFalse 133 = .ok (.aload_n 0, 1) := by decide +kernel
theorem dX11_isFalse_134 : decode cX11_isFalse 134 = .ok (.getfield 57, 3) := by decide +kernel
theorem dX11_isFalse_137 : decode cX11_isFalse 137 = .ok (.iload 4, 2) := by decide +kernel
theorem dX11_isFalse_139 : decode cX11_isFalse 139 = .ok (.iaload, 1) := by decide +kernel
theorem dX11_isFalse_140 : decode cX11_isFalse 140 = .ok (.iastore, 1) := by decide +kernel
theorem dX11_isFalse_141 : decode cX11_isFalse 141 = .ok (.iinc 3 1, 3) := by decide +kernel
theorem dX11_isFalse_144 : decode cX11_isFalse 144 = .ok (.iinc 4 1, 3) := by decide +kernel
theorem dX11_isFalse_147 : decode cX11_isFalse 147 = .ok (.goto (-42), 3) := by decide +kernel
theorem dX11_isFalse_150 : decode cX11_isFalse 150 = .ok (.aload_n 0, 1) := by decide +kernel
theorem dX11_isFalse_151 : decode cX11_isFalse 151 = .ok (.getfield 57, 3) := by decide +kernel
theorem dX11_isFalse_154 : decode cX11_isFalse 154 = .ok (.iload_n 3, 1) := by decide +kernel
theorem dX11_isFalse_155 : decode cX11_isFalse 155 = .ok (.iload_n 2, 1) := by decide +kernel
theorem dX11_isFalse_156 : decode cX11_isFalse 156 = .ok (.iastore, 1) := by decide +kernel
theorem dX11_isFalse_157 : decode cX11_isFalse 157 = .ok (.iinc 2 1, 3) := by decide +kernel
theorem dX11_isFalse_160 : decode cX11_isFalse 160 = .ok (.goto (-101), 3) := by decide +kernel
theorem dX11_isFalse_163 : decode cX11_isFalse 163 = .ok (.iconst 0, 1) := by decide +kernel
theorem dX11_isFalse_164 : decode cX11_isFalse 164 = .ok (.istore_n 2, 1) := by decide +kernel
theorem dX11_isFalse_165 : decode cX11_isFalse 165 = .ok (.iload_n 2, 1) := by decide +kernel
theorem dX11_isFalse_166 : decode cX11_isFalse 166 = .ok (.aload_n 0, 1) := by decide +kernel
theorem dX11_isFalse_167 : decode cX11_isFalse 167 = .ok (.getfield 201, 3) := by decide +kernel
theorem dX11_isFalse_170 : decode cX11_isFalse 170 = .ok (.if_icmp .ge 21, 3) := by decide +kernel
theorem dX11_isFalse_173 : decode cX11_isFalse 173 = .ok (.aload_n 0, 1) := by decide +kernel
theorem dX11_isFalse_174 : decode cX11_isFalse 174 = .ok (.getfield 60, 3) := by decide +kernel
theorem dX11_isFalse_177 : decode cX11_isFalse 177 = .ok (.iload_n 2, 1) := by decide +kernel
theorem dX11_isFalse_178 : decode cX11_isFalse 178 = .ok (.aload_n 0, 1) := by decide +kernel
theorem dX11_isFalse_179 : decode cX11_isFalse 179 = .ok (.getfield 57, 3) := by decide +kernel
theorem dX11_isFalse_182 : decode cX11_isFalse 182 = .ok (.iload_n 2, 1) := by decide +kernel
theorem dX11_isFalse_183 : decode cX11_isFalse 183 = .ok (.iaload, 1) := by decide +kernel
theorem dX11_isFalse_184 : decode cX11_isFalse 184 = .ok (.iastore, 1) := by decide +kernel
theorem dX11_isFalse_185 : decode cX11_isFalse 185 = .ok (.iinc 2 1, 3) := by decide +kernel
theorem dX11_isFalse_188 : decode cX11_isFalse 188 = .ok (.goto (-23), 3) := by decide +kernel
theorem dX11_isFalse_191 : decode cX11_isFalse 191 = .ok (.return_, 1) := by decide +kernel
theorem dX11_isOn_0 : decode cX11_isOn 0 = .ok (.aload_n 0, 1) := by decide +kernel
theorem dX11_isOn_1 : decode cX11_isOn 1 = .ok (.getfield 38, 3) := by decide +kernel
theorem dX11_isOn_4 : decode cX11_isOn 4 = .ok (.iload_n 1, 1) := by decide +kernel
theorem dX11_isOn_5 : decode cX11_isOn 5 = .ok (.baload, 1) := by decide +kernel
theorem dX11_isOn_6 : decode cX11_isOn 6 = .ok (.ifCond .eq 17, 3) := by decide +kernel
theorem dX11_isOn_9 : decode cX11_isOn 9 = .ok (.aload_n 0, 1) := by decide +kernel
theorem dX11_isOn_10 : decode cX11_isOn 10 = .ok (.getfield 81, 3) := by decide +kernel
theorem dX11_isOn_13 : decode cX11_isOn 13 = .ok (.iload_n 1, 1) := by decide +kernel
theorem dX11_isOn_14 : decode cX11_isOn 14 = .ok (.iaload, 1) := by decide +kernel
theorem dX11_isOn_15 : decode cX11_isOn 15 = .ok (.iconst (-1), 1) := by decide +kernel
theorem dX11_isOn_16 : decode cX11_isOn 16 = .ok (.if_icmp .ne 7, 3) := by decide +kernel
theorem dX11_isOn_19 : decode cX11_isOn 19 = .ok (.iconst 1, 1) := by decide +kernel
theorem dX11_isOn_20 : decode cX11_isOn 20 = .ok (.goto 4, 3) := by decide +kernel
theorem dX11_isOn_23 : decode cX11_isOn 23 = .ok (.iconst 0, 1) := by decide +kernel
theorem dX11_isOn_24 : decode cX11_isOn 24 = .ok (.ireturn, 1) := by decide +kernel
theorem dX11_cellOf_0 : decode cX11_cellOf 0 = .ok (.iload_n 1, 1) := by decide +kernel
theorem dX11_cellOf_1 : decode cX11_cellOf 1 = .ok (.aload_n 0, 1) := by decide +kernel
theorem dX11_cellOf_2 : decode cX11_cellOf 2 = .ok (.getfield 63, 3) := by decide +kernel
theorem dX11_cellOf_5 : decode cX11_cellOf 5 = .ok (.iadd, 1) := by decide +kernel
theorem dX11_cellOf_6 : decode cX11_cellOf 6 = .ok (.aload_n 0, 1) := by decide +kernel
theorem dX11_cellOf_7 : decode cX11_cellOf 7 = .ok (.getfield 63, 3) := by decide +kernel
theorem dX11_cellOf_10 : decode cX11_cellOf 10 = .ok (.irem, 1) := by decide +kernel
theorem dX11_cellOf_11 : decode cX11_cellOf 11 = .ok (.ireturn, 1) := by decide +kernel
theorem dX11_isFree_0 : decode cX11_isFree 0 = .ok (.iconst 0, 1) := by decide +kernel
theorem dX11_isFree_1 : decode cX11_isFree 1 = .ok (.istore_n 3, 1) := by decide +kernel
theorem dX11_isFree_2 : decode cX11_isFree 2 = .ok (.iload_n 3, 1) := by decide +kernel
theorem dX11_isFree_3 : decode cX11_isFree 3 = .ok (.aload_n 0, 1) := by decide +kernel
theorem dX11_isFree_4 : decode cX11_isFree 4 = .ok (.getfield 177, 3) := by decide +kernel
theorem dX11_isFree_7 : decode cX11_isFree 7 = .ok (.if_icmp .ge 47, 3) := by decide +kernel
theorem dX11_isFree_10 : decode cX11_isFree 10 = .ok (.aload_n 0, 1) := by decide +kernel
theorem dX11_isFree_11 : decode cX11_isFree 11 = .ok (.iload_n 3, 1) := by decide +kernel
theorem dX11_isFree_12 : decode cX11_isFree 12 = .ok (.invokevirtual 252, 3) := by decide +kernel
theorem dX11_isFree_15 : decode cX11_isFree 15 = .ok (.ifCond .eq 33, 3) := by decide +kernel
theorem dX11_isFree_18 : decode cX11_isFree 18 = .ok (.aload_n 0, 1) := by decide +kernel
theorem dX11_isFree_19 : decode cX11_isFree 19 = .ok (.getfield 72, 3) := by decide +kernel
theorem dX11_isFree_22 : decode cX11_isFree 22 = .ok (.iload_n 3, 1) := by decide +kernel
theorem dX11_isFree_23 : decode cX11_isFree 23 = .ok (.iaload, 1) := by decide +kernel
theorem dX11_isFree_24 : decode cX11_isFree 24 = .ok (.iload_n 2, 1) := by decide +kernel
theorem dX11_isFree_25 : decode cX11_isFree 25 = .ok (.if_icmp .ne 23, 3) := by decide +kernel
theorem dX11_isFree_28 : decode cX11_isFree 28 = .ok (.aload_n 0, 1) := by decide +kernel
theorem dX11_isFree_29 : decode cX11_isFree 29 = .ok (.aload_n 0, 1) := by decide +kernel
theorem dX11_isFree_30 : decode cX11_isFree 30 = .ok (.getfield 69, 3) := by decide +kernel
theorem dX11_isFree_33 : decode cX11_isFree 33 = .ok (.iload_n 3, 1) := by decide +kernel
theorem dX11_isFree_34 : decode cX11_isFree 34 = .ok (.iaload, 1) := by decide +kernel
theorem dX11_isFree_35 : decode cX11_isFree 35 = .ok (.invokevirtual 255, 3) := by decide +kernel
theorem dX11_isFree_38 : decode cX11_isFree 38 = .ok (.aload_n 0, 1) := by decide +kernel
theorem dX11_isFree_39 : decode cX11_isFree 39 = .ok (.iload_n 1, 1) := by decide +kernel
theorem dX11_isFree_40 : decode cX11_isFree 40 = .ok (.invokevirtual 255, 3) := by decide +kernel
theorem dX11_isFree_43 : decode cX11_isFree 43 = .ok (.if_icmp .ne 5, 3) := by decide +kernel
theorem dX11_isFree_46 : decode cX11_isFree 46 = .ok (.iconst 0, 1) := by decide +kernel
theorem dX11_isFree_47 : decode cX11_isFree 47 = .ok (.ireturn, 1) := by decide +kernel
theorem dX11_isFree_48 : decode cX11_isFree 48 = .ok (.iinc 3 1, 3) := by decide +kernel
theorem dX11_isFree_51 : decode cX11_isFree 51 = .ok (.goto (-49), 3) := by decide +kernel
theorem dX11_isFree_54 : decode cX11_isFree 54 = .ok (.iconst 1, 1) := by decide +kernel
theorem dX11_isFree_55 : decode cX11_isFree 55 = .ok (.ireturn, 1) := by decide +kernel
theorem dX11_isLane_0 : decode cX11_isLane 0 = .ok (.iload_n 0, 1) := by decide +kernel
theorem dX11_isLane_1 : decode cX11_isLane 1 = .ok (.ifCond .lt 12, 3) := by decide +kernel
theorem dX11_isLane_4 : decode cX11_isLane 4 = .ok (.iload_n 0, 1) := by decide +kernel
theorem dX11_isLane_5 : decode cX11_isLane 5 = .ok (.iconst 3, 1) := by decide +kernel
theorem dX11_isLane_6 : decode cX11_isLane 6 = .ok (.if_icmp .gt 7, 3) := by decide +kernel
theorem dX11_isLane_9 : decode cX11_isLane 9 = .ok (.iconst 1, 1) := by decide +kernel
theorem dX11_isLane_10 : decode cX11_isLane 10 = .ok (.goto 4, 3) := by decide +kernel
theorem dX11_isLane_13 : decode cX11_isLane 13 = .ok (.iconst 0, 1) := by decide +kernel
theorem dX11_isLane_14 : decode cX11_isLane 14 = .ok (.ireturn, 1) := by decide +kernel
theorem dX11_go_0 : decode cX11_go 0 = .ok (.aload_n 0, 1) := by decide +kernel
theorem dX11_go_1 : decode cX11_go 1 = .ok (.iconst 0, 1) := by decide +kernel
theorem dX11_go_2 : decode cX11_go 2 = .ok (.putfield 102, 3) := by decide +kernel
theorem dX11_go_5 : decode cX11_go 5 = .ok (.iload_n 1, 1) := by decide +kernel
theorem dX11_go_6 : decode cX11_go 6 = .ok (.iconst 1, 1) := by decide +kernel
theorem dX11_go_7 : decode cX11_go 7 = .ok (.if_icmp .lt 18, 3) := by decide +kernel
theorem dX11_go_10 : decode cX11_go 10 = .ok (.iload_n 1, 1) := by decide +kernel
theorem dX11_go_11 : decode cX11_go 11 = .ok (.sipush 400, 3) := by decide +kernel
theorem dX11_go_14 : decode cX11_go 14 = .ok (.if_icmp .gt 11, 3) := by decide +kernel
theorem dX11_go_17 : decode cX11_go 17 = .ok (.aload_n 0, 1) := by decide +kernel
theorem dX11_go_18 : decode cX11_go 18 = .ok (.getfield 190, 3) := by decide +kernel
theorem dX11_go_21 : decode cX11_go 21 = .ok (.iconst 4, 1) := by decide +kernel
theorem dX11_go_22 : decode cX11_go 22 = .ok (.if_icmp .eq 5, 3) := by decide +kernel
theorem dX11_go_25 : decode cX11_go 25 = .ok (.iconst (-1), 1) := by decide +kernel
theorem dX11_go_26 : decode cX11_go 26 = .ok (.ireturn, 1) := by decide +kernel
theorem dX11_go_27 : decode cX11_go 27 = .ok (.iconst 0, 1) := by decide +kernel
theorem dX11_go_28 : decode cX11_go 28 = .ok (.istore_n 2, 1) := by decide +kernel
theorem dX11_go_29 : decode cX11_go 29 = .ok (.iload_n 2, 1) := by decide +kernel
theorem dX11_go_30 : decode cX11_go 30 = .ok (.iload_n 1, 1) := by decide +kernel
theorem dX11_go_31 : decode cX11_go 31 = .ok (.if_icmp .ge 21, 3) := by decide +kernel
theorem dX11_go_34 : decode cX11_go 34 = .ok (.aload_n 0, 1) := by decide +kernel
theorem dX11_go_35 : decode cX11_go 35 = .ok (.getfield 190, 3) := by decide +kernel
theorem dX11_go_38 : decode cX11_go 38 = .ok (.iconst 4, 1) := by decide +kernel
theorem dX11_go_39 : decode cX11_go 39 = .ok (.if_icmp .ne 13, 3) := by decide +kernel
theorem dX11_go_42 : decode cX11_go 42 = .ok (.aload_n 0, 1) := by decide +kernel
theorem dX11_go_43 : decode cX11_go 43 = .ok (.invokevirtual 258, 3) := by decide +kernel
theorem dX11_go_46 : decode cX11_go 46 = .ok (.iinc 2 1, 3) := by decide +kernel
theorem dX11_go_49 : decode cX11_go 49 = .ok (.goto (-20), 3) := by decide +kernel
theorem dX11_go_52 : decode cX11_go 52 = .ok (.iload_n 2, 1) := by decide +kernel
theorem dX11_go_53 : decode cX11_go 53 = .ok (.ireturn, 1) := by decide +kernel
theorem dX11_tick_0 : decode cX11_tick 0 = .ok (.iconst 0, 1) := by decide +kernel
theorem dX11_tick_1 : decode cX11_tick 1 = .ok (.istore_n 1, 1) := by decide +kernel
theorem dX11_tick_2 : decode cX11_tick 2 = .ok (.iconst 0, 1) := by decide +kernel
theorem dX11_tick_3 : decode cX11_tick 3 = .ok (.istore_n 2, 1) := by decide +kernel
theorem dX11_tick_4 : decode cX11_tick 4 = .ok (.iload_n 2, 1) := by decide +kernel
theorem dX11_tick_5 : decode cX11_tick 5 = .ok (.aload_n 0, 1) := by decide +kernel
theorem dX11_tick_6 : decode cX11_tick 6 = .ok (.getfield 177, 3) := by decide +kernel
theorem dX11_tick_9 : decode cX11_tick 9 = .ok (.if_icmp .ge 72, 3) := by decide +kernel
theorem dX11_tick_12 : decode cX11_tick 12 = .ok (.aload_n 0, 1) := by decide +kernel
theorem dX11_tick_13 : decode cX11_tick 13 = .ok (.iload_n 2, 1) := by decide +kernel
theorem dX11_tick_14 : decode cX11_tick 14 = .ok (.invokevirtual 252, 3) := by decide +kernel
theorem dX11_tick_17 : decode cX11_tick 17 = .ok (.ifCond .ne 6, 3) := by decide +kernel
theorem dX11_tick_20 : decode cX11_tick 20 = .ok (.goto 55, 3) := by decide +kernel
theorem dX11_tick_23 : decode cX11_tick 23 = .ok (.iload_n 1, 1) := by decide +kernel
theorem dX11_tick_24 : decode cX11_tick 24 = .ok (.istore_n 3, 1) := by decide +kernel
theorem dX11_tick_25 : decode cX11_tick 25 = .ok (.iload_n 3, 1) := by decide +kernel
theorem dX11_tick_26 : decode cX11_tick 26 = .ok (.ifCond .le 39, 3) := by decide +kernel
theorem dX11_tick_29 : decode cX11_tick 29 = .ok (.aload_n 0, 1) := by decide +kernel
theorem dX11_tick_30 : decode cX11_tick 30 = .ok (.aload_n 0, 1) := by decide +kernel
theorem dX11_tick_31 : decode cX11_tick 31 = .ok (.getfield 90, 3) := by decide +kernel
theorem dX11_tick_34 : decode cX11_tick 34 = .ok (.iload_n 3, 1) := by decide +kernel
theorem dX11_tick_35 : decode cX11_tick 35 = .ok (.iconst 1, 1) := by decide +kernel
theorem dX11_tick_36 : decode cX11_tick 36 = .ok (.isub, 1) := by decide +kernel
theorem dX11_tick_37 : decode cX11_tick 37 = .ok (.iaload, 1) := by decide +kernel
theorem dX11_tick_38 : decode cX11_tick 38 = .ok (.iload_n 2, 1) := by decide +kernel
theorem dX11_tick_39 : decode cX11_tick 39 = .ok (.invokevirtual 261, 3) := by decide +kernel
theorem dX11_tick_42 : decode cX11_tick 42 = .ok (.ifCond .eq 23, 3) := by decide +kernel
theorem dX11_tick_45 : decode cX11_tick 45 = .ok (.aload_n 0, 1) := by decide +kernel
theorem dX11_tick_46 : decode cX11_tick 46 = .ok (.getfield 90, 3) := by decide +kernel
theorem dX11_tick_49 : decode cX11_tick 49 = .ok (.iload_n 3, 1) := by decide +kernel
theorem dX11_tick_50 : decode cX11_tick 50 = .ok (.aload_n 0, 1) := by decide +kernel
theorem dX11_tick_51 : decode cX11_tick 51 = .ok (.getfield 90, 3) := by decide +kernel
theorem dX11_tick_54 : decode cX11_tick 54 = .ok (.iload_n 3, 1) := by decide +kernel
theorem dX11_tick_55 : decode cX11_tick 55 = .ok (.iconst 1, 1) := by decide +kernel
theorem dX11_tick_56 : decode cX11_tick 56 = .ok (.isub, 1) := by decide +kernel
theorem dX11_tick_57 : decode cX11_tick 57 = .ok (.iaload, 1) := by decide +kernel
theorem dX11_tick_58 : decode cX11_tick 58 = .ok (.iastore, 1) := by decide +kernel
theorem dX11_tick_59 : decode cX11_tick 59 = .ok (.iinc 3 (-1), 3) := by decide +kernel
theorem dX11_tick_62 : decode cX11_tick 62 = .ok (.goto (-37), 3) := by decide +kernel
theorem dX11_tick_65 : decode cX11_tick 65 = .ok (.aload_n 0, 1) := by decide +kernel
theorem dX11_tick_66 : decode cX11_tick 66 = .ok (.getfield 90, 3) := by decide +kernel
theorem dX11_tick_69 : decode cX11_tick 69 = .ok (.iload_n 3, 1) := by decide +kernel
theorem dX11_tick_70 : decode cX11_tick 70 = .ok (.iload_n 2, 1) := by decide +kernel
theorem dX11_tick_71 : decode cX11_tick 71 = .ok (.iastore, 1) := by decide +kernel
theorem dX11_tick_72 : decode cX11_tick 72 = .ok (.iinc 1 1, 3) := by decide +kernel
theorem dX11_tick_75 : decode cX11_tick 75 = .ok (.iinc 2 1, 3) := by decide +kernel
theorem dX11_tick_78 : decode cX11_tick 78 = .ok (.goto (-74), 3) := by decide +kernel
theorem dX11_tick_81 : decode cX11_tick 81 = .ok (.iconst 0, 1) := by decide +kernel
theorem dX11_tick_82 : decode cX11_tick 82 = .ok (.istore_n 2, 1) := by decide +kernel
theorem dX11_tick_83 : decode cX11_tick 83 = .ok (.iload_n 2, 1) := by decide +kernel
theorem dX11_tick_84 : decode cX11_tick 84 = .ok (.iload_n 1, 1) := by decide +kernel
theorem dX11_tick_85 : decode cX11_tick 85 = .ok (.if_icmp .ge 19, 3) := by decide +kernel
theorem dX11_tick_88 : decode cX11_tick 88 = .ok (.aload_n 0, 1) := by decide +kernel
theorem dX11_tick_89 : decode cX11_tick 89 = .ok (.aload_n 0, 1) := by decide +kernel
theorem dX11_tick_90 : decode cX11_tick 90 = .ok (.getfield 90, 3) := by decide +kernel
theorem dX11_tick_93 : decode cX11_tick 93 = .ok (.iload_n 2, 1) := by decide +kernel
theorem dX11_tick_94 : decode cX11_tick 94 = .ok (.iaload, 1) := by decide +kernel
theorem dX11_tick_95 : decode cX11_tick 95 = .ok (.invokevirtual 264, 3) := by decide +kernel
theorem dX11_tick_98 : decode cX11_tick 98 = .ok (.iinc 2 1, 3) := by decide +kernel
theorem dX11_tick_101 : decode cX11_tick 101 = .ok (.goto (-18), 3) := by decide +kernel
theorem dX11_tick_104 : decode cX11_tick 104 = .ok (.aload_n 0, 1) := by decide +kernel
theorem dX11_tick_105 : decode cX11_tick 105 = .ok (.dup, 1) := by decide +kernel
theorem dX11_tick_106 : decode cX11_tick 106 = .ok (.getfield 249, 3) := by decide +kernel
theorem dX11_tick_109 : decode cX11_tick 109 = .ok (.iconst 1, 1) := by decide +kernel
theorem dX11_tick_110 : decode cX11_tick 110 = .ok (.iadd, 1) := by decide +kernel
theorem dX11_tick_111 : decode cX11_tick 111 = .ok (.putfield 249, 3) := by decide +kernel
theorem dX11_tick_114 : decode cX11_tick 114 = .ok (.aload_n 0, 1) := by decide +kernel
theorem dX11_tick_115 : decode cX11_tick 115 = .ok (.getfield 246, 3) := by decide +kernel
theorem dX11_tick_118 : decode cX11_tick 118 = .ok (.aload_n 0, 1) := by decide +kernel
theorem dX11_tick_119 : decode cX11_tick 119 = .ok (.getfield 201, 3) := by decide +kernel
theorem dX11_tick_122 : decode cX11_tick 122 = .ok (.if_icmp .eq 13, 3) := by decide +kernel
theorem dX11_tick_125 : decode cX11_tick 125 = .ok (.aload_n 0, 1) := by decide +kernel
theorem dX11_tick_126 : decode cX11_tick 126 = .ok (.getfield 249, 3) := by decide +kernel
theorem dX11_tick_129 : decode cX11_tick 129 = .ok (.sipush 400, 3) := by decide +kernel
theorem dX11_tick_132 : decode cX11_tick 132 = .ok (.if_icmp .ne 7, 3) := by decide +kernel
theorem dX11_tick_135 : decode cX11_tick 135 = .ok (.aload_n 0, 1) := by decide +kernel
theorem dX11_tick_136 : decode cX11_tick 136 = .ok (.invokevirtual 267, 3) := by decide +kernel
theorem dX11_tick_139 : decode cX11_tick 139 = .ok (.return_, 1) := by decide +kernel
theorem dX11_isBehind_0 : decode cX11_isBehind 0 = .ok (.aload_n 0, 1) := by decide +kernel
theorem dX11_isBehind_1 : decode cX11_isBehind 1 = .ok (.getfield 69, 3) := by decide +kernel
theorem dX11_isBehind_4 : decode cX11_isBehind 4 = .ok (.iload_n 1, 1) := by decide +kernel
theorem dX11_isBehind_5 : decode cX11_isBehind 5 = .ok (.iaload, 1) := by decide +kernel
theorem dX11_isBehind_6 : decode cX11_isBehind 6 = .ok (.aload_n 0, 1) := by decide +kernel
theorem dX11_isBehind_7 : decode cX11_isBehind 7 = .ok (.getfield 69, 3) := by decide +kernel
theorem dX11_isBehind_10 : decode cX11_isBehind 10 = .ok (.iload_n 2, 1) := by decide +kernel
theorem dX11_isBehind_11 : decode cX11_isBehind 11 = .ok (.iaload, 1) := by decide +kernel
theorem dX11_isBehind_12 : decode cX11_isBehind 12 = .ok (.if_icmp .lt 33, 3) := by decide +kernel
theorem dX11_isBehind_15 : decode cX11_isBehind 15 = .ok (.aload_n 0, 1) := by decide +kernel
theorem dX11_isBehind_16 : decode cX11_isBehind 16 = .ok (.getfield 69, 3) := by decide +kernel
theorem dX11_isBehind_19 : decode cX11_isBehind 19 = .ok (.iload_n 1, 1) := by decide +kernel
theorem dX11_isBehind_20 : decode cX11_isBehind 20 = .ok (.iaload, 1) := by decide +kernel
theorem dX11_isBehind_21 : decode cX11_isBehind 21 = .ok (.aload_n 0, 1) := by decide +kernel
theorem dX11_isBehind_22 : decode cX11_isBehind 22 = .ok (.getfield 69, 3) := by decide +kernel
theorem dX11_isBehind_25 : decode cX11_isBehind 25 = .ok (.iload_n 2, 1) := by decide +kernel
theorem dX11_isBehind_26 : decode cX11_isBehind 26 = .ok (.iaload, 1) := by decide +kernel
theorem dX11_isBehind_27 : decode cX11_isBehind 27 = .ok (.if_icmp .ne 22, 3) := by decide +kernel
theorem dX11_isBehind_30 : decode cX11_isBehind 30 = .ok (.aload_n 0, 1) := by decide +kernel
theorem dX11_isBehind_31 : decode cX11_isBehind 31 = .ok (.getfield 72, 3) := by decide +kernel
theorem dX11_isBehind_34 : decode cX11_isBehind 34 = .ok (.iload_n 1, 1) := by decide +kernel
theorem dX11_isBehind_35 : decode cX11_isBehind 35 = .ok (.iaload, 1) := by decide +kernel
theorem dX11_isBehind_36 : decode cX11_isBehind 36 = .ok (.aload_n 0, 1) := by decide +kernel
theorem dX11_isBehind_37 : decode cX11_isBehind 37 = .ok (.getfield 72, 3) := by decide +kernel
theorem dX11_isBehind_40 : decode cX11_isBehind 40 = .ok (.iload_n 2, 1) := by decide +kernel
theorem dX11_isBehind_41 : decode cX11_isBehind 41 = .ok (.iaload, 1) := by decide +kernel
theorem dX11_isBehind_42 : decode cX11_isBehind 42 = .ok (.if_icmp .le 7, 3) := by decide +kernel
theorem dX11_isBehind_45 : decode cX11_isBehind 45 = .ok (.iconst 1, 1) := by decide +kernel
theorem dX11_isBehind_46 : decode cX11_isBehind 46 = .ok (.goto 4, 3) := by decide +kernel
theorem dX11_isBehind_49 : decode cX11_isBehind 49 = .ok (.iconst 0, 1) := by decide +kernel
theorem dX11_isBehind_50 : decode cX11_isBehind 50 = .ok (.ireturn, 1) := by decide +kernel
theorem dX11_turns_0 : decode cX11_turns 0 = .ok (.aload_n 0, 1) := by decide +kernel
theorem dX11_turns_1 : decode cX11_turns 1 = .ok (.getfield 78, 3) := by decide +kernel
theorem dX11_turns_4 : decode cX11_turns 4 = .ok (.iload_n 1, 1) := by decide +kernel
theorem dX11_turns_5 : decode cX11_turns 5 = .ok (.baload, 1) := by decide +kernel
theorem dX11_turns_6 : decode cX11_turns 6 = .ok (.ifCond .ne 17, 3) := by decide +kernel
theorem dX11_turns_9 : decode cX11_turns 9 = .ok (.aload_n 0, 1) := by decide +kernel
theorem dX11_turns_10 : decode cX11_turns 10 = .ok (.getfield 42, 3) := by decide +kernel
theorem dX11_turns_13 : decode cX11_turns 13 = .ok (.iload_n 1, 1) := by decide +kernel
theorem dX11_turns_14 : decode cX11_turns 14 = .ok (.iaload, 1) := by decide +kernel
theorem dX11_turns_15 : decode cX11_turns 15 = .ok (.ifCond .le 8, 3) := by decide +kernel
theorem dX11_turns_18 : decode cX11_turns 18 = .ok (.aload_n 0, 1) := by decide +kernel
theorem dX11_turns_19 : decode cX11_turns 19 = .ok (.iload_n 1, 1) := by decide +kernel
theorem dX11_turns_20 : decode cX11_turns 20 = .ok (.invokevirtual 270, 3) := by decide +kernel
theorem dX11_turns_23 : decode cX11_turns 23 = .ok (.aload_n 0, 1) := by decide +kernel
theorem dX11_turns_24 : decode cX11_turns 24 = .ok (.getfield 75, 3) := by decide +kernel
theorem dX11_turns_27 : decode cX11_turns 27 = .ok (.iload_n 1, 1) := by decide +kernel
theorem dX11_turns_28 : decode cX11_turns 28 = .ok (.aload_n 0, 1) := by decide +kernel
theorem dX11_turns_29 : decode cX11_turns 29 = .ok (.getfield 75, 3) := by decide +kernel
theorem dX11_turns_32 : decode cX11_turns 32 = .ok (.iload_n 1, 1) := by decide +kernel
theorem dX11_turns_33 : decode cX11_turns 33 = .ok (.iaload, 1) := by decide +kernel
theorem dX11_turns_34 : decode cX11_turns 34 = .ok (.iconst 1, 1) := by decide +kernel
theorem dX11_turns_35 : decode cX11_turns 35 = .ok (.iadd, 1) := by decide +kernel
theorem dX11_turns_36 : decode cX11_turns 36 = .ok (.iconst 3, 1) := by decide +kernel
theorem dX11_turns_37 : decode cX11_turns 37 = .ok (.aload_n 0, 1) := by decide +kernel
theorem dX11_turns_38 : decode cX11_turns 38 = .ok (.getfield 48, 3) := by decide +kernel
theorem dX11_turns_41 : decode cX11_turns 41 = .ok (.aload_n 0, 1) := by decide +kernel
theorem dX11_turns_42 : decode cX11_turns 42 = .ok (.getfield 35, 3) := by decide +kernel
theorem dX11_turns_45 : decode cX11_turns 45 = .ok (.iload_n 1, 1) := by decide +kernel
theorem dX11_turns_46 : decode cX11_turns 46 = .ok (.iaload, 1) := by decide +kernel
theorem dX11_turns_47 : decode cX11_turns 47 = .ok (.iaload, 1) := by decide +kernel
theorem dX11_turns_48 : decode cX11_turns 48 = .ok (.sipush 250, 3) := by decide +kernel
theorem dX11_turns_51 : decode cX11_turns 51 = .ok (.idiv, 1) := by decide +kernel
theorem dX11_turns_52 : decode cX11_turns 52 = .ok (.iadd, 1) := by decide +kernel
theorem dX11_turns_53 : decode cX11_turns 53 = .ok (.invokestatic 196, 3) := by decide +kernel
theorem dX11_turns_56 : decode cX11_turns 56 = .ok (.iastore, 1) := by decide +kernel
theorem dX11_turns_57 : decode cX11_turns 57 = .ok (.aload_n 0, 1) := by decide +kernel
theorem dX11_turns_58 : decode cX11_turns 58 = .ok (.bipush 8, 2) := by decide +kernel
theorem dX11_turns_60 : decode cX11_turns 60 = .ok (.invokevirtual 211, 3) := by decide +kernel
theorem dX11_turns_63 : decode cX11_turns 63 = .ok (.ifCond .ne 13, 3) := by decide +kernel
theorem dX11_turns_66 : decode cX11_turns 66 = .ok (.aload_n 0, 1) := by decide +kernel
theorem dX11_turns_67 : decode cX11_turns 67 = .ok (.getfield 75, 3) := by decide +kernel
theorem dX11_turns_70 : decode cX11_turns 70 = .ok (.iload_n 1, 1) := by decide +kernel
theorem dX11_turns_71 : decode cX11_turns 71 = .ok (.dup2, 1) := by decide +kernel
theorem dX11_turns_72 : decode cX11_turns 72 = .ok (.iaload, 1) := by decide +kernel
theorem dX11_turns_73 : decode cX11_turns 73 = .ok (.iconst 1, 1) := by decide +kernel
theorem dX11_turns_74 : decode cX11_turns 74 = .ok (.isub, 1) := by decide +kernel
theorem dX11_turns_75 : decode cX11_turns 75 = .ok (.iastore, 1) := by decide +kernel
theorem dX11_turns_76 : decode cX11_turns 76 = .ok (.aload_n 0, 1) := by decide +kernel
theorem dX11_turns_77 : decode cX11_turns 77 = .ok (.getfield 75, 3) := by decide +kernel
theorem dX11_turns_80 : decode cX11_turns 80 = .ok (.iload_n 1, 1) := by decide +kernel
theorem dX11_turns_81 : decode cX11_turns 81 = .ok (.iconst 1, 1) := by decide +kernel
theorem dX11_turns_82 : decode cX11_turns 82 = .ok (.aload_n 0, 1) := by decide +kernel
theorem dX11_turns_83 : decode cX11_turns 83 = .ok (.getfield 75, 3) := by decide +kernel
theorem dX11_turns_86 : decode cX11_turns 86 = .ok (.iload_n 1, 1) := by decide +kernel
theorem dX11_turns_87 : decode cX11_turns 87 = .ok (.iaload, 1) := by decide +kernel
theorem dX11_turns_88 : decode cX11_turns 88 = .ok (.invokestatic 221, 3) := by decide +kernel
theorem dX11_turns_91 : decode cX11_turns 91 = .ok (.iastore, 1) := by decide +kernel
theorem dX11_turns_92 : decode cX11_turns 92 = .ok (.aload_n 0, 1) := by decide +kernel
theorem dX11_turns_93 : decode cX11_turns 93 = .ok (.getfield 75, 3) := by decide +kernel
theorem dX11_turns_96 : decode cX11_turns 96 = .ok (.iload_n 1, 1) := by decide +kernel
theorem dX11_turns_97 : decode cX11_turns 97 = .ok (.iaload, 1) := by decide +kernel
theorem dX11_turns_98 : decode cX11_turns 98 = .ok (.istore_n 2, 1) := by decide +kernel
theorem dX11_turns_99 : decode cX11_turns 99 = .ok (.iconst 1, 1) := by decide +kernel
theorem dX11_turns_100 : decode cX11_turns 100 = .ok (.istore_n 3, 1) := by decide +kernel
theorem dX11_turns_101 : decode cX11_turns 101 = .ok (.iconst 0, 1) := by decide +kernel
theorem dX11_turns_102 : decode cX11_turns 102 = .ok (.istore 4, 2) := by decide +kernel
theorem dX11_turns_104 : decode cX11_turns 104 = .ok (.iload 4, 2) := by decide +kernel
theorem dX11_turns_106 : decode cX11_turns 106 = .ok (.iload_n 2, 1) := by decide +kernel
theorem dX11_turns_107 : decode cX11_turns 107 = .ok (.if_icmp .ge 19, 3) := by decide +kernel
theorem dX11_turns_110 : decode cX11_turns 110 = .ok (.iload_n 3, 1) := by decide +kernel
theorem dX11_turns_111 : decode cX11_turns 111 = .ok (.ifCond .eq 15, 3) := by decide +kernel
theorem dX11_turns_114 : decode cX11_turns 114 = .ok (.aload_n 0, 1) := by decide +kernel
theorem dX11_turns_115 : decode cX11_turns 115 = .ok (.iload_n 1, 1) := by decide +kernel
theorem dX11_turns_116 : decode cX11_turns 116 = .ok (.invokevirtual 273, 3) := by decide +kernel
theorem dX11_turns_119 : decode cX11_turns 119 = .ok (.istore_n 3, 1) := by decide +kernel
theorem dX11_turns_120 : decode cX11_turns 120 = .ok (.iinc 4 1, 3) := by decide +kernel
theorem dX11_turns_123 : decode cX11_turns 123 = .ok (.goto (-19), 3) := by decide +kernel
theorem dX11_turns_126 : decode cX11_turns 126 = .ok (.return_, 1) := by decide +kernel
theorem dX11_obeys_0 : decode cX11_obeys 0 = .ok (.aload_n 0, 1) := by decide +kernel
theorem dX11_obeys_1 : decode cX11_obeys 1 = .ok (.getfield 45, 3) := by decide +kernel
theorem dX11_obeys_4 : decode cX11_obeys 4 = .ok (.iload_n 1, 1) := by decide +kernel
theorem dX11_obeys_5 : decode cX11_obeys 5 = .ok (.iaload, 1) := by decide +kernel
theorem dX11_obeys_6 : decode cX11_obeys 6 = .ok (.istore_n 2, 1) := by decide +kernel
theorem dX11_obeys_7 : decode cX11_obeys 7 = .ok (.aload_n 0, 1) := by decide +kernel
theorem dX11_obeys_8 : decode cX11_obeys 8 = .ok (.iload_n 2, 1) := by decide +kernel
theorem dX11_obeys_9 : decode cX11_obeys 9 = .ok (.invokevirtual 252, 3) := by decide +kernel
theorem dX11_obeys_12 : decode cX11_obeys 12 = .ok (.ifCond .eq 37, 3) := by decide +kernel
theorem dX11_obeys_15 : decode cX11_obeys 15 = .ok (.aload_n 0, 1) := by decide +kernel
theorem dX11_obeys_16 : decode cX11_obeys 16 = .ok (.getfield 69, 3) := by decide +kernel
theorem dX11_obeys_19 : decode cX11_obeys 19 = .ok (.iload_n 2, 1) := by decide +kernel
theorem dX11_obeys_20 : decode cX11_obeys 20 = .ok (.iaload, 1) := by decide +kernel
theorem dX11_obeys_21 : decode cX11_obeys 21 = .ok (.aload_n 0, 1) := by decide +kernel
theorem dX11_obeys_22 : decode cX11_obeys 22 = .ok (.getfield 69, 3) := by decide +kernel
theorem dX11_obeys_25 : decode cX11_obeys 25 = .ok (.iload_n 1, 1) := by decide +kernel
theorem dX11_obeys_26 : decode cX11_obeys 26 = .ok (.iaload, 1) := by decide +kernel
theorem dX11_obeys_27 : decode cX11_obeys 27 = .ok (.iconst 1, 1) := by decide +kernel
theorem dX11_obeys_28 : decode cX11_obeys 28 = .ok (.isub, 1) := by decide +kernel
theorem dX11_obeys_29 : decode cX11_obeys 29 = .ok (.if_icmp .eq 21, 3) := by decide +kernel
theorem dX11_obeys_32 : decode cX11_obeys 32 = .ok (.aload_n 0, 1) := by decide +kernel
theorem dX11_obeys_33 : decode cX11_obeys 33 = .ok (.getfield 69, 3) := by decide +kernel
theorem dX11_obeys_36 : decode cX11_obeys 36 = .ok (.iload_n 2, 1) := by decide +kernel
theorem dX11_obeys_37 : decode cX11_obeys 37 = .ok (.iaload, 1) := by decide +kernel
theorem dX11_obeys_38 : decode cX11_obeys 38 = .ok (.aload_n 0, 1) := by decide +kernel
theorem dX11_obeys_39 : decode cX11_obeys 39 = .ok (.getfield 69, 3) := by decide +kernel
theorem dX11_obeys_42 : decode cX11_obeys 42 = .ok (.iload_n 1, 1) := by decide +kernel
theorem dX11_obeys_43 : decode cX11_obeys 43 = .ok (.iaload, 1) := by decide +kernel
theorem dX11_obeys_44 : decode cX11_obeys 44 = .ok (.iconst 2, 1) := by decide +kernel
theorem dX11_obeys_45 : decode cX11_obeys 45 = .ok (.isub, 1) := by decide +kernel
theorem dX11_obeys_46 : decode cX11_obeys 46 = .ok (.if_icmp .eq 4, 3) := by decide +kernel
theorem dX11_obeys_49 : decode cX11_obeys 49 = .ok (.return_, 1) := by decide +kernel
theorem dX11_obeys_50 : decode cX11_obeys 50 = .ok (.aload_n 0, 1) := by decide +kernel
theorem dX11_obeys_51 : decode cX11_obeys 51 = .ok (.getfield 42, 3) := by decide +kernel
theorem dX11_obeys_54 : decode cX11_obeys 54 = .ok (.iload_n 1, 1) := by decide +kernel
theorem dX11_obeys_55 : decode cX11_obeys 55 = .ok (.iaload, 1) := by decide +kernel
theorem dX11_obeys_56 : decode cX11_obeys 56 = .ok (.iconst 1, 1) := by decide +kernel
theorem dX11_obeys_57 : decode cX11_obeys 57 = .ok (.if_icmp .ne 79, 3) := by decide +kernel
theorem dX11_obeys_60 : decode cX11_obeys 60 = .ok (.aload_n 0, 1) := by decide +kernel
theorem dX11_obeys_61 : decode cX11_obeys 61 = .ok (.getfield 72, 3) := by decide +kernel
theorem dX11_obeys_64 : decode cX11_obeys 64 = .ok (.iload_n 2, 1) := by decide +kernel
theorem dX11_obeys_65 : decode cX11_obeys 65 = .ok (.iaload, 1) := by decide +kernel
theorem dX11_obeys_66 : decode cX11_obeys 66 = .ok (.aload_n 0, 1) := by decide +kernel
theorem dX11_obeys_67 : decode cX11_obeys 67 = .ok (.getfield 72, 3) := by decide +kernel
theorem dX11_obeys_70 : decode cX11_obeys 70 = .ok (.iload_n 1, 1) := by decide +kernel
theorem dX11_obeys_71 : decode cX11_obeys 71 = .ok (.iaload, 1) := by decide +kernel
theorem dX11_obeys_72 : decode cX11_obeys 72 = .ok (.iconst 1, 1) := by decide +kernel
theorem dX11_obeys_73 : decode cX11_obeys 73 = .ok (.iadd, 1) := by decide +kernel
theorem dX11_obeys_74 : decode cX11_obeys 74 = .ok (.if_icmp .eq 20, 3) := by decide +kernel
theorem dX11_obeys_77 : decode cX11_obeys 77 = .ok (.aload_n 0, 1) := by decide +kernel
theorem dX11_obeys_78 : decode cX11_obeys 78 = .ok (.getfield 72, 3) := by decide +kernel
theorem dX11_obeys_81 : decode cX11_obeys 81 = .ok (.iload_n 2, 1) := by decide +kernel
theorem dX11_obeys_82 : decode cX11_obeys 82 = .ok (.iaload, 1) := by decide +kernel
theorem dX11_obeys_83 : decode cX11_obeys 83 = .ok (.aload_n 0, 1) := by decide +kernel
theorem dX11_obeys_84 : decode cX11_obeys 84 = .ok (.getfield 72, 3) := by decide +kernel
theorem dX11_obeys_87 : decode cX11_obeys 87 = .ok (.iload_n 1, 1) := by decide +kernel
theorem dX11_obeys_88 : decode cX11_obeys 88 = .ok (.iaload, 1) := by decide +kernel
theorem dX11_obeys_89 : decode cX11_obeys 89 = .ok (.iconst 1, 1) := by decide +kernel
theorem dX11_obeys_90 : decode cX11_obeys 90 = .ok (.isub, 1) := by decide +kernel
theorem dX11_obeys_91 : decode cX11_obeys 91 = .ok (.if_icmp .ne 7, 3) := by decide +kernel
theorem dX11_obeys_94 : decode cX11_obeys 94 = .ok (.iconst 1, 1) := by decide +kernel
theorem dX11_obeys_95 : decode cX11_obeys 95 = .ok (.goto 4, 3) := by decide +kernel
theorem dX11_obeys_98 : decode cX11_obeys 98 = .ok (.iconst 0, 1) := by decide +kernel
theorem dX11_obeys_99 : decode cX11_obeys 99 = .ok (.istore_n 3, 1) := by decide +kernel
theorem dX11_obeys_100 : decode cX11_obeys 100 = .ok (.iload_n 3, 1) := by decide +kernel
theorem dX11_obeys_101 : decode cX11_obeys 101 = .ok (.ifCond .eq 34, 3) := by decide +kernel
theorem dX11_obeys_104 : decode cX11_obeys 104 = .ok (.aload_n 0, 1) := by decide +kernel
theorem dX11_obeys_105 : decode cX11_obeys 105 = .ok (.aload_n 0, 1) := by decide +kernel
theorem dX11_obeys_106 : decode cX11_obeys 106 = .ok (.getfield 69, 3) := by decide +kernel
theorem dX11_obeys_109 : decode cX11_obeys 109 = .ok (.iload_n 1, 1) := by decide +kernel
theorem dX11_obeys_110 : decode cX11_obeys 110 = .ok (.iaload, 1) := by decide +kernel
theorem dX11_obeys_111 : decode cX11_obeys 111 = .ok (.aload_n 0, 1) := by decide +kernel
theorem dX11_obeys_112 : decode cX11_obeys 112 = .ok (.getfield 72, 3) := by decide +kernel
theorem dX11_obeys_115 : decode cX11_obeys 115 = .ok (.iload_n 2, 1) := by decide +kernel
theorem dX11_obeys_116 : decode cX11_obeys 116 = .ok (.iaload, 1) := by decide +kernel
theorem dX11_obeys_117 : decode cX11_obeys 117 = .ok (.invokevirtual 276, 3) := by decide +kernel
theorem dX11_obeys_120 : decode cX11_obeys 120 = .ok (.ifCond .eq 15, 3) := by decide +kernel
theorem dX11_obeys_123 : decode cX11_obeys 123 = .ok (.aload_n 0, 1) := by decide +kernel
theorem dX11_obeys_124 : decode cX11_obeys 124 = .ok (.getfield 72, 3) := by decide +kernel
theorem dX11_obeys_127 : decode cX11_obeys 127 = .ok (.iload_n 1, 1) := by decide +kernel
theorem dX11_obeys_128 : decode cX11_obeys 128 = .ok (.aload_n 0, 1) := by decide +kernel
theorem dX11_obeys_129 : decode cX11_obeys 129 = .ok (.getfield 72, 3) := by decide +kernel
theorem dX11_obeys_132 : decode cX11_obeys 132 = .ok (.iload_n 2, 1) := by decide +kernel
theorem dX11_obeys_133 : decode cX11_obeys 133 = .ok (.iaload, 1) := by decide +kernel
theorem dX11_obeys_134 : decode cX11_obeys 134 = .ok (.iastore, 1) := by decide +kernel
theorem dX11_obeys_135 : decode cX11_obeys 135 = .ok (.return_, 1) := by decide +kernel
theorem dX11_obeys_136 : decode cX11_obeys 136 = .ok (.aload_n 0, 1) := by decide +kernel
theorem dX11_obeys_137 : decode cX11_obeys 137 = .ok (.getfield 72, 3) := by decide +kernel
theorem dX11_obeys_140 : decode cX11_obeys 140 = .ok (.iload_n 2, 1) := by decide +kernel
theorem dX11_obeys_141 : decode cX11_obeys 141 = .ok (.iaload, 1) := by decide +kernel
theorem dX11_obeys_142 : decode cX11_obeys 142 = .ok (.aload_n 0, 1) := by decide +kernel
theorem dX11_obeys_143 : decode cX11_obeys 143 = .ok (.getfield 72, 3) := by decide +kernel
theorem dX11_obeys_146 : decode cX11_obeys 146 = .ok (.iload_n 1, 1) := by decide +kernel
theorem dX11_obeys_147 : decode cX11_obeys 147 = .ok (.iaload, 1) := by decide +kernel
theorem dX11_obeys_148 : decode cX11_obeys 148 = .ok (.if_icmp .eq 4, 3) := by decide +kernel
theorem dX11_obeys_151 : decode cX11_obeys 151 = .ok (.return_, 1) := by decide +kernel
theorem dX11_obeys_152 : decode cX11_obeys 152 = .ok (.aload_n 0, 1) := by decide +kernel
theorem dX11_obeys_153 : decode cX11_obeys 153 = .ok (.getfield 72, 3) := by decide +kernel
theorem dX11_obeys_156 : decode cX11_obeys 156 = .ok (.iload_n 1, 1) := by decide +kernel
theorem dX11_obeys_157 : decode cX11_obeys 157 = .ok (.iaload, 1) := by decide +kernel
theorem dX11_obeys_158 : decode cX11_obeys 158 = .ok (.iconst 1, 1) := by decide +kernel
theorem dX11_obeys_159 : decode cX11_obeys 159 = .ok (.isub, 1) := by decide +kernel
theorem dX11_obeys_160 : decode cX11_obeys 160 = .ok (.invokestatic 279, 3) := by decide +kernel
theorem dX11_obeys_163 : decode cX11_obeys 163 = .ok (.ifCond .eq 37, 3) := by decide +kernel
theorem dX11_obeys_166 : decode cX11_obeys 166 = .ok (.aload_n 0, 1) := by decide +kernel
theorem dX11_obeys_167 : decode cX11_obeys 167 = .ok (.aload_n 0, 1) := by decide +kernel
theorem dX11_obeys_168 : decode cX11_obeys 168 = .ok (.getfield 69, 3) := by decide +kernel
theorem dX11_obeys_171 : decode cX11_obeys 171 = .ok (.iload_n 1, 1) := by decide +kernel
theorem dX11_obeys_172 : decode cX11_obeys 172 = .ok (.iaload, 1) := by decide +kernel
theorem dX11_obeys_173 : decode cX11_obeys 173 = .ok (.aload_n 0, 1) := by decide +kernel
theorem dX11_obeys_174 : decode cX11_obeys 174 = .ok (.getfield 72, 3) := by decide +kernel
theorem dX11_obeys_177 : decode cX11_obeys 177 = .ok (.iload_n 1, 1) := by decide +kernel
theorem dX11_obeys_178 : decode cX11_obeys 178 = .ok (.iaload, 1) := by decide +kernel
theorem dX11_obeys_179 : decode cX11_obeys 179 = .ok (.iconst 1, 1) := by decide +kernel
theorem dX11_obeys_180 : decode cX11_obeys 180 = .ok (.isub, 1) := by decide +kernel
theorem dX11_obeys_181 : decode cX11_obeys 181 = .ok (.invokevirtual 276, 3) := by decide +kernel
theorem dX11_obeys_184 : decode cX11_obeys 184 = .ok (.ifCond .eq 16, 3) := by decide +kernel
theorem dX11_obeys_187 : decode cX11_obeys 187 = .ok (.aload_n 0, 1) := by decide +kernel
theorem dX11_obeys_188 : decode cX11_obeys 188 = .ok (.getfield 72, 3) := by decide +kernel
theorem dX11_obeys_191 : decode cX11_obeys 191 = .ok (.iload_n 1, 1) := by decide +kernel
theorem dX11_obeys_192 : decode cX11_obeys 192 = .ok (.dup2, 1) := by decide +kernel
theorem dX11_obeys_193 : decode cX11_obeys 193 = .ok (.iaload, 1) := by decide +kernel
theorem dX11_obeys_194 : decode cX11_obeys 194 = .ok (.iconst 1, 1) := by decide +kernel
theorem dX11_obeys_195 : decode cX11_obeys 195 = .ok (.isub, 1) := by decide +kernel
theorem dX11_obeys_196 : decode cX11_obeys 196 = .ok (.iastore, 1) := by decide +kernel
theorem dX11_obeys_197 : decode cX11_obeys 197 = .ok (.goto 48, 3) := by decide +kernel
theorem dX11_obeys_200 : decode cX11_obeys 200 = .ok (.aload_n 0, 1) := by decide +kernel
theorem dX11_obeys_201 : decode cX11_obeys 201 = .ok (.getfield 72, 3) := by decide +kernel
theorem dX11_obeys_204 : decode cX11_obeys 204 = .ok (.iload_n 1, 1) := by decide +kernel
theorem dX11_obeys_205 : decode cX11_obeys 205 = .ok (.iaload, 1) := by decide +kernel
theorem dX11_obeys_206 : decode cX11_obeys 206 = .ok (.iconst 1, 1) := by decide +kernel
theorem dX11_obeys_207 : decode cX11_obeys 207 = .ok (.iadd, 1) := by decide +kernel
theorem dX11_obeys_208 : decode cX11_obeys 208 = .ok (.invokestatic 279, 3) := by decide +kernel
theorem dX11_obeys_211 : decode cX11_obeys 211 = .ok (.ifCond .eq 34, 3) := by decide +kernel
theorem dX11_obeys_214 : decode cX11_obeys 214 = .ok (.aload_n 0, 1) := by decide +kernel
theorem dX11_obeys_215 : decode cX11_obeys 215 = .ok (.aload_n 0, 1) := by decide +kernel
theorem dX11_obeys_216 : decode cX11_obeys 216 = .ok (.getfield 69, 3) := by decide +kernel
theorem dX11_obeys_219 : decode cX11_obeys 219 = .ok (.iload_n 1, 1) := by decide +kernel
theorem dX11_obeys_220 : decode cX11_obeys 220 = .ok (.iaload, 1) := by decide +kernel
theorem dX11_obeys_221 : decode cX11_obeys 221 = .ok (.aload_n 0, 1) := by decide +kernel
theorem dX11_obeys_222 : decode cX11_obeys 222 = .ok (.getfield 72, 3) := by decide +kernel
theorem dX11_obeys_225 : decode cX11_obeys 225 = .ok (.iload_n 1, 1) := by decide +kernel
theorem dX11_obeys_226 : decode cX11_obeys 226 = .ok (.iaload, 1) := by decide +kernel
theorem dX11_obeys_227 : decode cX11_obeys 227 = .ok (.iconst 1, 1) := by decide +kernel
theorem dX11_obeys_228 : decode cX11_obeys 228 = .ok (.iadd, 1) := by decide +kernel
theorem dX11_obeys_229 : decode cX11_obeys 229 = .ok (.invokevirtual 276, 3) := by decide +kernel
theorem dX11_obeys_232 : decode cX11_obeys 232 = .ok (.ifCond .eq 13, 3) := by decide +kernel
theorem dX11_obeys_235 : decode cX11_obeys 235 = .ok (.aload_n 0, 1) := by decide +kernel
theorem dX11_obeys_236 : decode cX11_obeys 236 = .ok (.getfield 72, 3) := by decide +kernel
theorem dX11_obeys_239 : decode cX11_obeys 239 = .ok (.iload_n 1, 1) := by decide +kernel
theorem dX11_obeys_240 : decode cX11_obeys 240 = .ok (.dup2, 1) := by decide +kernel
theorem dX11_obeys_241 : decode cX11_obeys 241 = .ok (.iaload, 1) := by decide +kernel
theorem dX11_obeys_242 : decode cX11_obeys 242 = .ok (.iconst 1, 1) := by decide +kernel
theorem dX11_obeys_243 : decode cX11_obeys 243 = .ok (.iadd, 1) := by decide +kernel
theorem dX11_obeys_244 : decode cX11_obeys 244 = .ok (.iastore, 1) := by decide +kernel
theorem dX11_obeys_245 : decode cX11_obeys 245 = .ok (.return_, 1) := by decide +kernel
theorem dX11_moves_0 : decode cX11_moves 0 = .ok (.aload_n 0, 1) := by decide +kernel
theorem dX11_moves_1 : decode cX11_moves 1 = .ok (.getfield 72, 3) := by decide +kernel
theorem dX11_moves_4 : decode cX11_moves 4 = .ok (.iload_n 1, 1) := by decide +kernel
theorem dX11_moves_5 : decode cX11_moves 5 = .ok (.iaload, 1) := by decide +kernel
theorem dX11_moves_6 : decode cX11_moves 6 = .ok (.istore_n 2, 1) := by decide +kernel
theorem dX11_moves_7 : decode cX11_moves 7 = .ok (.aload_n 0, 1) := by decide +kernel
theorem dX11_moves_8 : decode cX11_moves 8 = .ok (.aload_n 0, 1) := by decide +kernel
theorem dX11_moves_9 : decode cX11_moves 9 = .ok (.getfield 69, 3) := by decide +kernel
theorem dX11_moves_12 : decode cX11_moves 12 = .ok (.iload_n 1, 1) := by decide +kernel
theorem dX11_moves_13 : decode cX11_moves 13 = .ok (.iaload, 1) := by decide +kernel
theorem dX11_moves_14 : decode cX11_moves 14 = .ok (.iconst 1, 1) := by decide +kernel
theorem dX11_moves_15 : decode cX11_moves 15 = .ok (.iadd, 1) := by decide +kernel
theorem dX11_moves_16 : decode cX11_moves 16 = .ok (.iload_n 2, 1) := by decide +kernel
theorem dX11_moves_17 : decode cX11_moves 17 = .ok (.invokevirtual 276, 3) := by decide +kernel
theorem dX11_moves_20 : decode cX11_moves 20 = .ok (.ifCond .ne 71, 3) := by decide +kernel
theorem dX11_moves_23 : decode cX11_moves 23 = .ok (.iload_n 2, 1) := by decide +kernel
theorem dX11_moves_24 : decode cX11_moves 24 = .ok (.iconst 1, 1) := by decide +kernel
theorem dX11_moves_25 : decode cX11_moves 25 = .ok (.isub, 1) := by decide +kernel
theorem dX11_moves_26 : decode cX11_moves 26 = .ok (.invokestatic 279, 3) := by decide +kernel
theorem dX11_moves_29 : decode cX11_moves 29 = .ok (.ifCond .eq 27, 3) := by decide +kernel
theorem dX11_moves_32 : decode cX11_moves 32 = .ok (.aload_n 0, 1) := by decide +kernel
theorem dX11_moves_33 : decode cX11_moves 33 = .ok (.aload_n 0, 1) := by decide +kernel
theorem dX11_moves_34 : decode cX11_moves 34 = .ok (.getfield 69, 3) := by decide +kernel
theorem dX11_moves_37 : decode cX11_moves 37 = .ok (.iload_n 1, 1) := by decide +kernel
theorem dX11_moves_38 : decode cX11_moves 38 = .ok (.iaload, 1) := by decide +kernel
theorem dX11_moves_39 : decode cX11_moves 39 = .ok (.iconst 1, 1) := by decide +kernel
theorem dX11_moves_40 : decode cX11_moves 40 = .ok (.iadd, 1) := by decide +kernel
theorem dX11_moves_41 : decode cX11_moves 41 = .ok (.iload_n 2, 1) := by decide +kernel
theorem dX11_moves_42 : decode cX11_moves 42 = .ok (.iconst 1, 1) := by decide +kernel
theorem dX11_moves_43 : decode cX11_moves 43 = .ok (.isub, 1) := by decide +kernel
theorem dX11_moves_44 : decode cX11_moves 44 = .ok (.invokevirtual 276, 3) := by decide +kernel
theorem dX11_moves_47 : decode cX11_moves 47 = .ok (.ifCond .eq 9, 3) := by decide +kernel
theorem dX11_moves_50 : decode cX11_moves 50 = .ok (.iinc 2 (-1), 3) := by decide +kernel
theorem dX11_moves_53 : decode cX11_moves 53 = .ok (.goto 38, 3) := by decide +kernel
theorem dX11_moves_56 : decode cX11_moves 56 = .ok (.iload_n 2, 1) := by decide +kernel
theorem dX11_moves_57 : decode cX11_moves 57 = .ok (.iconst 1, 1) := by decide +kernel
theorem dX11_moves_58 : decode cX11_moves 58 = .ok (.iadd, 1) := by decide +kernel
theorem dX11_moves_59 : decode cX11_moves 59 = .ok (.invokestatic 279, 3) := by decide +kernel
theorem dX11_moves_62 : decode cX11_moves 62 = .ok (.ifCond .eq 27, 3) := by decide +kernel
theorem dX11_moves_65 : decode cX11_moves 65 = .ok (.aload_n 0, 1) := by decide +kernel
theorem dX11_moves_66 : decode cX11_moves 66 = .ok (.aload_n 0, 1) := by decide +kernel
theorem dX11_moves_67 : decode cX11_moves 67 = .ok (.getfield 69, 3) := by decide +kernel
theorem dX11_moves_70 : decode cX11_moves 70 = .ok (.iload_n 1, 1) := by decide +kernel
theorem dX11_moves_71 : decode cX11_moves 71 = .ok (.iaload, 1) := by decide +kernel
theorem dX11_moves_72 : decode cX11_moves 72 = .ok (.iconst 1, 1) := by decide +kernel
theorem dX11_moves_73 : decode cX11_moves 73 = .ok (.iadd, 1) := by decide +kernel
theorem dX11_moves_74 : decode cX11_moves 74 = .ok (.iload_n 2, 1) := by decide +kernel
theorem dX11_moves_75 : decode cX11_moves 75 = .ok (.iconst 1, 1) := by decide +kernel
theorem dX11_moves_76 : decode cX11_moves 76 = .ok (.iadd, 1) := by decide +kernel
theorem dX11_moves_77 : decode cX11_moves 77 = .ok (.invokevirtual 276, 3) := by decide +kernel
theorem dX11_moves_80 : decode cX11_moves 80 = .ok (.ifCond .eq 9, 3) := by decide +kernel
theorem dX11_moves_83 : decode cX11_moves 83 = .ok (.iinc 2 1, 3) := by decide +kernel
theorem dX11_moves_86 : decode cX11_moves 86 = .ok (.goto 5, 3) := by decide +kernel
theorem dX11_moves_89 : decode cX11_moves 89 = .ok (.iconst (-1), 1) := by decide +kernel
theorem dX11_moves_90 : decode cX11_moves 90 = .ok (.istore_n 2, 1) := by decide +kernel
theorem dX11_moves_91 : decode cX11_moves 91 = .ok (.iload_n 2, 1) := by decide +kernel
theorem dX11_moves_92 : decode cX11_moves 92 = .ok (.iconst (-1), 1) := by decide +kernel
theorem dX11_moves_93 : decode cX11_moves 93 = .ok (.if_icmp .ne 22, 3) := by decide +kernel
theorem dX11_moves_96 : decode cX11_moves 96 = .ok (.aload_n 0, 1) := by decide +kernel
theorem dX11_moves_97 : decode cX11_moves 97 = .ok (.getfield 75, 3) := by decide +kernel
theorem dX11_moves_100 : decode cX11_moves 100 = .ok (.iload_n 1, 1) := by decide +kernel
theorem dX11_moves_101 : decode cX11_moves 101 = .ok (.iconst 0, 1) := by decide +kernel
theorem dX11_moves_102 : decode cX11_moves 102 = .ok (.iastore, 1) := by decide +kernel
theorem dX11_moves_103 : decode cX11_moves 103 = .ok (.aload_n 0, 1) := by decide +kernel
theorem dX11_moves_104 : decode cX11_moves 104 = .ok (.getfield 84, 3) := by decide +kernel
theorem dX11_moves_107 : decode cX11_moves 107 = .ok (.iload_n 1, 1) := by decide +kernel
theorem dX11_moves_108 : decode cX11_moves 108 = .ok (.dup2, 1) := by decide +kernel
theorem dX11_moves_109 : decode cX11_moves 109 = .ok (.iaload, 1) := by decide +kernel
theorem dX11_moves_110 : decode cX11_moves 110 = .ok (.iconst 1, 1) := by decide +kernel
theorem dX11_moves_111 : decode cX11_moves 111 = .ok (.iadd, 1) := by decide +kernel
theorem dX11_moves_112 : decode cX11_moves 112 = .ok (.iastore, 1) := by decide +kernel
theorem dX11_moves_113 : decode cX11_moves 113 = .ok (.iconst 0, 1) := by decide +kernel
theorem dX11_moves_114 : decode cX11_moves 114 = .ok (.ireturn, 1) := by decide +kernel
theorem dX11_moves_115 : decode cX11_moves 115 = .ok (.aload_n 0, 1) := by decide +kernel
theorem dX11_moves_116 : decode cX11_moves 116 = .ok (.getfield 72, 3) := by decide +kernel
theorem dX11_moves_119 : decode cX11_moves 119 = .ok (.iload_n 1, 1) := by decide +kernel
theorem dX11_moves_120 : decode cX11_moves 120 = .ok (.iload_n 2, 1) := by decide +kernel
theorem dX11_moves_121 : decode cX11_moves 121 = .ok (.iastore, 1) := by decide +kernel
theorem dX11_moves_122 : decode cX11_moves 122 = .ok (.aload_n 0, 1) := by decide +kernel
theorem dX11_moves_123 : decode cX11_moves 123 = .ok (.getfield 69, 3) := by decide +kernel
theorem dX11_moves_126 : decode cX11_moves 126 = .ok (.iload_n 1, 1) := by decide +kernel
theorem dX11_moves_127 : decode cX11_moves 127 = .ok (.dup2, 1) := by decide +kernel
theorem dX11_moves_128 : decode cX11_moves 128 = .ok (.iaload, 1) := by decide +kernel
theorem dX11_moves_129 : decode cX11_moves 129 = .ok (.iconst 1, 1) := by decide +kernel
theorem dX11_moves_130 : decode cX11_moves 130 = .ok (.iadd, 1) := by decide +kernel
theorem dX11_moves_131 : decode cX11_moves 131 = .ok (.iastore, 1) := by decide +kernel
theorem dX11_moves_132 : decode cX11_moves 132 = .ok (.iconst 1, 1) := by decide +kernel
theorem dX11_moves_133 : decode cX11_moves 133 = .ok (.istore_n 3, 1) := by decide +kernel
theorem dX11_moves_134 : decode cX11_moves 134 = .ok (.aload_n 0, 1) := by decide +kernel
theorem dX11_moves_135 : decode cX11_moves 135 = .ok (.getfield 66, 3) := by decide +kernel
theorem dX11_moves_138 : decode cX11_moves 138 = .ok (.aload_n 0, 1) := by decide +kernel
theorem dX11_moves_139 : decode cX11_moves 139 = .ok (.aload_n 0, 1) := by decide +kernel
theorem dX11_moves_140 : decode cX11_moves 140 = .ok (.getfield 69, 3) := by decide +kernel
theorem dX11_moves_143 : decode cX11_moves 143 = .ok (.iload_n 1, 1) := by decide +kernel
theorem dX11_moves_144 : decode cX11_moves 144 = .ok (.iaload, 1) := by decide +kernel
theorem dX11_moves_145 : decode cX11_moves 145 = .ok (.invokevirtual 255, 3) := by decide +kernel
theorem dX11_moves_148 : decode cX11_moves 148 = .ok (.baload, 1) := by decide +kernel
theorem dX11_moves_149 : decode cX11_moves 149 = .ok (.ifCond .eq 49, 3) := by decide +kernel
theorem dX11_moves_152 : decode cX11_moves 152 = .ok (.aload_n 0, 1) := by decide +kernel
theorem dX11_moves_153 : decode cX11_moves 153 = .ok (.getfield 78, 3) := by decide +kernel
theorem dX11_moves_156 : decode cX11_moves 156 = .ok (.iload_n 1, 1) := by decide +kernel
theorem dX11_moves_157 : decode cX11_moves 157 = .ok (.baload, 1) := by decide +kernel
theorem dX11_moves_158 : decode cX11_moves 158 = .ok (.ifCond .ne 40, 3) := by decide +kernel
theorem dX11_moves_161 : decode cX11_moves 161 = .ok (.aload_n 0, 1) := by decide +kernel
theorem dX11_moves_162 : decode cX11_moves 162 = .ok (.getfield 75, 3) := by decide +kernel
theorem dX11_moves_165 : decode cX11_moves 165 = .ok (.iload_n 1, 1) := by decide +kernel
theorem dX11_moves_166 : decode cX11_moves 166 = .ok (.iaload, 1) := by decide +kernel
theorem dX11_moves_167 : decode cX11_moves 167 = .ok (.aload_n 0, 1) := by decide +kernel
theorem dX11_moves_168 : decode cX11_moves 168 = .ok (.getfield 239, 3) := by decide +kernel
theorem dX11_moves_171 : decode cX11_moves 171 = .ok (.if_icmp .le 27, 3) := by decide +kernel
theorem dX11_moves_174 : decode cX11_moves 174 = .ok (.aload_n 0, 1) := by decide +kernel
theorem dX11_moves_175 : decode cX11_moves 175 = .ok (.iconst 4, 1) := by decide +kernel
theorem dX11_moves_176 : decode cX11_moves 176 = .ok (.invokevirtual 211, 3) := by decide +kernel
theorem dX11_moves_179 : decode cX11_moves 179 = .ok (.ifCond .ne 19, 3) := by decide +kernel
theorem dX11_moves_182 : decode cX11_moves 182 = .ok (.aload_n 0, 1) := by decide +kernel
theorem dX11_moves_183 : decode cX11_moves 183 = .ok (.getfield 78, 3) := by decide +kernel
theorem dX11_moves_186 : decode cX11_moves 186 = .ok (.iload_n 1, 1) := by decide +kernel
theorem dX11_moves_187 : decode cX11_moves 187 = .ok (.iconst 1, 1) := by decide +kernel
theorem dX11_moves_188 : decode cX11_moves 188 = .ok (.bastore, 1) := by decide +kernel
theorem dX11_moves_189 : decode cX11_moves 189 = .ok (.aload_n 0, 1) := by decide +kernel
theorem dX11_moves_190 : decode cX11_moves 190 = .ok (.getfield 75, 3) := by decide +kernel
theorem dX11_moves_193 : decode cX11_moves 193 = .ok (.iload_n 1, 1) := by decide +kernel
theorem dX11_moves_194 : decode cX11_moves 194 = .ok (.iconst 1, 1) := by decide +kernel
theorem dX11_moves_195 : decode cX11_moves 195 = .ok (.iastore, 1) := by decide +kernel
theorem dX11_moves_196 : decode cX11_moves 196 = .ok (.iconst 0, 1) := by decide +kernel
theorem dX11_moves_197 : decode cX11_moves 197 = .ok (.istore_n 3, 1) := by decide +kernel
theorem dX11_moves_198 : decode cX11_moves 198 = .ok (.aload_n 0, 1) := by decide +kernel
theorem dX11_moves_199 : decode cX11_moves 199 = .ok (.getfield 69, 3) := by decide +kernel
theorem dX11_moves_202 : decode cX11_moves 202 = .ok (.iload_n 1, 1) := by decide +kernel
theorem dX11_moves_203 : decode cX11_moves 203 = .ok (.iaload, 1) := by decide +kernel
theorem dX11_moves_204 : decode cX11_moves 204 = .ok (.aload_n 0, 1) := by decide +kernel
theorem dX11_moves_205 : decode cX11_moves 205 = .ok (.getfield 236, 3) := by decide +kernel
theorem dX11_moves_208 : decode cX11_moves 208 = .ok (.aload_n 0, 1) := by decide +kernel
theorem dX11_moves_209 : decode cX11_moves 209 = .ok (.getfield 63, 3) := by decide +kernel
theorem dX11_moves_212 : decode cX11_moves 212 = .ok (.imul, 1) := by decide +kernel
theorem dX11_moves_213 : decode cX11_moves 213 = .ok (.if_icmp .ge 5, 3) := by decide +kernel
theorem dX11_moves_216 : decode cX11_moves 216 = .ok (.iload_n 3, 1) := by decide +kernel
theorem dX11_moves_217 : decode cX11_moves 217 = .ok (.ireturn, 1) := by decide +kernel
theorem dX11_moves_218 : decode cX11_moves 218 = .ok (.aload_n 0, 1) := by decide +kernel
theorem dX11_moves_219 : decode cX11_moves 219 = .ok (.getfield 81, 3) := by decide +kernel
theorem dX11_moves_222 : decode cX11_moves 222 = .ok (.iload_n 1, 1) := by decide +kernel
theorem dX11_moves_223 : decode cX11_moves 223 = .ok (.aload_n 0, 1) := by decide +kernel
theorem dX11_moves_224 : decode cX11_moves 224 = .ok (.getfield 246, 3) := by decide +kernel
theorem dX11_moves_227 : decode cX11_moves 227 = .ok (.iastore, 1) := by decide +kernel
theorem dX11_moves_228 : decode cX11_moves 228 = .ok (.aload_n 0, 1) := by decide +kernel
theorem dX11_moves_229 : decode cX11_moves 229 = .ok (.dup, 1) := by decide +kernel
theorem dX11_moves_230 : decode cX11_moves 230 = .ok (.getfield 246, 3) := by decide +kernel
theorem dX11_moves_233 : decode cX11_moves 233 = .ok (.iconst 1, 1) := by decide +kernel
theorem dX11_moves_234 : decode cX11_moves 234 = .ok (.iadd, 1) := by decide +kernel
theorem dX11_moves_235 : decode cX11_moves 235 = .ok (.putfield 246, 3) := by decide +kernel
theorem dX11_moves_238 : decode cX11_moves 238 = .ok (.aload_n 0, 1) := by decide +kernel
theorem dX11_moves_239 : decode cX11_moves 239 = .ok (.getfield 87, 3) := by decide +kernel
theorem dX11_moves_242 : decode cX11_moves 242 = .ok (.iconst (-1), 1) := by decide +kernel
theorem dX11_moves_243 : decode cX11_moves 243 = .ok (.if_icmp .ne 24, 3) := by decide +kernel
theorem dX11_moves_246 : decode cX11_moves 246 = .ok (.aload_n 0, 1) := by decide +kernel
theorem dX11_moves_247 : decode cX11_moves 247 = .ok (.getfield 78, 3) := by decide +kernel
theorem dX11_moves_250 : decode cX11_moves 250 = .ok (.iload_n 1, 1) := by decide +kernel
theorem dX11_moves_251 : decode cX11_moves 251 = .ok (.baload, 1) := by decide +kernel
theorem dX11_moves_252 : decode cX11_moves 252 = .ok (.ifCond .eq 10, 3) := by decide +kernel
theorem dX11_moves_255 : decode cX11_moves 255 = .ok (.aload_n 0, 1) := by decide +kernel
theorem dX11_moves_256 : decode cX11_moves 256 = .ok (.getfield 242, 3) := by decide +kernel
theorem dX11_moves_259 : decode cX11_moves 259 = .ok (.ifCond .eq 8, 3) := by decide +kernel
theorem dX11_moves_262 : decode cX11_moves 262 = .ok (.aload_n 0, 1) := by decide +kernel
theorem dX11_moves_263 : decode cX11_moves 263 = .ok (.iload_n 1, 1) := by decide +kernel
theorem dX11_moves_264 : decode cX11_moves 264 = .ok (.putfield 87, 3) := by decide +kernel
theorem dX11_moves_267 : decode cX11_moves 267 = .ok (.iconst 0, 1) := by decide +kernel
theorem dX11_moves_268 : decode cX11_moves 268 = .ok (.ireturn, 1) := by decide +kernel
theorem dX11_ends_0 : decode cX11_ends 0 = .ok (.aload_n 0, 1) := by decide +kernel
theorem dX11_ends_1 : decode cX11_ends 1 = .ok (.iconst 5, 1) := by decide +kernel
theorem dX11_ends_2 : decode cX11_ends 2 = .ok (.putfield 190, 3) := by decide +kernel
theorem dX11_ends_5 : decode cX11_ends 5 = .ok (.iconst 0, 1) := by decide +kernel
theorem dX11_ends_6 : decode cX11_ends 6 = .ok (.istore_n 1, 1) := by decide +kernel
theorem dX11_ends_7 : decode cX11_ends 7 = .ok (.iload_n 1, 1) := by decide +kernel
theorem dX11_ends_8 : decode cX11_ends 8 = .ok (.aload_n 0, 1) := by decide +kernel
theorem dX11_ends_9 : decode cX11_ends 9 = .ok (.getfield 282, 3) := by decide +kernel
theorem dX11_ends_12 : decode cX11_ends 12 = .ok (.if_icmp .ge 65, 3) := by decide +kernel
theorem dX11_ends_15 : decode cX11_ends 15 = .ok (.aload_n 0, 1) := by decide +kernel
theorem dX11_ends_16 : decode cX11_ends 16 = .ok (.getfield 93, 3) := by decide +kernel
theorem dX11_ends_19 : decode cX11_ends 19 = .ok (.iload_n 1, 1) := by decide +kernel
theorem dX11_ends_20 : decode cX11_ends 20 = .ok (.iaload, 1) := by decide +kernel
theorem dX11_ends_21 : decode cX11_ends 21 = .ok (.aload_n 0, 1) := by decide +kernel
theorem dX11_ends_22 : decode cX11_ends 22 = .ok (.getfield 87, 3) := by decide +kernel
theorem dX11_ends_25 : decode cX11_ends 25 = .ok (.if_icmp .eq 6, 3) := by decide +kernel
theorem dX11_ends_28 : decode cX11_ends 28 = .ok (.goto 43, 3) := by decide +kernel
theorem dX11_ends_31 : decode cX11_ends 31 = .ok (.aload_n 0, 1) := by decide +kernel
theorem dX11_ends_32 : decode cX11_ends 32 = .ok (.getfield 32, 3) := by decide +kernel
theorem dX11_ends_35 : decode cX11_ends 35 = .ok (.aload_n 0, 1) := by decide +kernel
theorem dX11_ends_36 : decode cX11_ends 36 = .ok (.getfield 93, 3) := by decide +kernel
theorem dX11_ends_39 : decode cX11_ends 39 = .ok (.iload_n 1, 1) := by decide +kernel
theorem dX11_ends_40 : decode cX11_ends 40 = .ok (.iaload, 1) := by decide +kernel
theorem dX11_ends_41 : decode cX11_ends 41 = .ok (.dup2, 1) := by decide +kernel
theorem dX11_ends_42 : decode cX11_ends 42 = .ok (.iaload, 1) := by decide +kernel
theorem dX11_ends_43 : decode cX11_ends 43 = .ok (.aload_n 0, 1) := by decide +kernel
theorem dX11_ends_44 : decode cX11_ends 44 = .ok (.getfield 99, 3) := by decide +kernel
theorem dX11_ends_47 : decode cX11_ends 47 = .ok (.iload_n 1, 1) := by decide +kernel
theorem dX11_ends_48 : decode cX11_ends 48 = .ok (.iaload, 1) := by decide +kernel
theorem dX11_ends_49 : decode cX11_ends 49 = .ok (.isub, 1) := by decide +kernel
theorem dX11_ends_50 : decode cX11_ends 50 = .ok (.iastore, 1) := by decide +kernel
theorem dX11_ends_51 : decode cX11_ends 51 = .ok (.aload_n 0, 1) := by decide +kernel
theorem dX11_ends_52 : decode cX11_ends 52 = .ok (.getfield 32, 3) := by decide +kernel
theorem dX11_ends_55 : decode cX11_ends 55 = .ok (.aload_n 0, 1) := by decide +kernel
theorem dX11_ends_56 : decode cX11_ends 56 = .ok (.getfield 96, 3) := by decide +kernel
theorem dX11_ends_59 : decode cX11_ends 59 = .ok (.iload_n 1, 1) := by decide +kernel
theorem dX11_ends_60 : decode cX11_ends 60 = .ok (.iaload, 1) := by decide +kernel
theorem dX11_ends_61 : decode cX11_ends 61 = .ok (.dup2, 1) := by decide +kernel
theorem dX11_ends_62 : decode cX11_ends 62 = .ok (.iaload, 1) := by decide +kernel
theorem dX11_ends_63 : decode cX11_ends 63 = .ok (.aload_n 0, 1) := by decide +kernel
theorem dX11_ends_64 : decode cX11_ends 64 = .ok (.getfield 99, 3) := by decide +kernel
theorem dX11_ends_67 : decode cX11_ends 67 = .ok (.iload_n 1, 1) := by decide +kernel
theorem dX11_ends_68 : decode cX11_ends 68 = .ok (.iaload, 1) := by decide +kernel
theorem dX11_ends_69 : decode cX11_ends 69 = .ok (.iadd, 1) := by decide +kernel
theorem dX11_ends_70 : decode cX11_ends 70 = .ok (.iastore, 1) := by decide +kernel
theorem dX11_ends_71 : decode cX11_ends 71 = .ok (.iinc 1 1, 3) := by decide +kernel
theorem dX11_ends_74 : decode cX11_ends 74 = .ok (.goto (-67), 3) := by decide +kernel
theorem dX11_ends_77 : decode cX11_ends 77 = .ok (.aload_n 0, 1) := by decide +kernel
theorem dX11_ends_78 : decode cX11_ends 78 = .ok (.iconst 0, 1) := by decide +kernel
theorem dX11_ends_79 : decode cX11_ends 79 = .ok (.putfield 282, 3) := by decide +kernel
theorem dX11_ends_82 : decode cX11_ends 82 = .ok (.return_, 1) := by decide +kernel
theorem dX11_race_0 : decode cX11_race 0 = .ok (.aload_n 0, 1) := by decide +kernel
theorem dX11_race_1 : decode cX11_race 1 = .ok (.iconst 0, 1) := by decide +kernel
theorem dX11_race_2 : decode cX11_race 2 = .ok (.putfield 102, 3) := by decide +kernel
theorem dX11_race_5 : decode cX11_race 5 = .ok (.aload_n 0, 1) := by decide +kernel
theorem dX11_race_6 : decode cX11_race 6 = .ok (.getfield 190, 3) := by decide +kernel
theorem dX11_race_9 : decode cX11_race 9 = .ok (.iconst 4, 1) := by decide +kernel
theorem dX11_race_10 : decode cX11_race 10 = .ok (.if_icmp .lt 11, 3) := by decide +kernel
theorem dX11_race_13 : decode cX11_race 13 = .ok (.aload_n 0, 1) := by decide +kernel
theorem dX11_race_14 : decode cX11_race 14 = .ok (.iload_n 1, 1) := by decide +kernel
theorem dX11_race_15 : decode cX11_race 15 = .ok (.invokevirtual 230, 3) := by decide +kernel
theorem dX11_race_18 : decode cX11_race 18 = .ok (.ifCond .ne 6, 3) := by decide +kernel
theorem dX11_race_21 : decode cX11_race 21 = .ok (.bipush (-100), 2) := by decide +kernel
theorem dX11_race_23 : decode cX11_race 23 = .ok (.ireturn, 1) := by decide +kernel
theorem dX11_race_24 : decode cX11_race 24 = .ok (.iload_n 2, 1) := by decide +kernel
theorem dX11_race_25 : decode cX11_race 25 = .ok (.tableswitch 89 0 5 #[39, 46, 53, 60, 75, 82], 39) := by decide +kernel
theorem dX11_race_64 : decode cX11_race 64 = .ok (.aload_n 0, 1) := by decide +kernel
theorem dX11_race_65 : decode cX11_race 65 = .ok (.getfield 69, 3) := by decide +kernel
theorem dX11_race_68 : decode cX11_race 68 = .ok (.iload_n 1, 1) := by decide +kernel
theorem dX11_race_69 : decode cX11_race 69 = .ok (.iaload, 1) := by decide +kernel
theorem dX11_race_70 : decode cX11_race 70 = .ok (.ireturn, 1) := by decide +kernel
theorem dX11_race_71 : decode cX11_race 71 = .ok (.aload_n 0, 1) := by decide +kernel
theorem dX11_race_72 : decode cX11_race 72 = .ok (.getfield 72, 3) := by decide +kernel
theorem dX11_race_75 : decode cX11_race 75 = .ok (.iload_n 1, 1) := by decide +kernel
theorem dX11_race_76 : decode cX11_race 76 = .ok (.iaload, 1) := by decide +kernel
theorem dX11_race_77 : decode cX11_race 77 = .ok (.ireturn, 1) := by decide +kernel
theorem dX11_race_78 : decode cX11_race 78 = .ok (.aload_n 0, 1) := by decide +kernel
theorem dX11_race_79 : decode cX11_race 79 = .ok (.getfield 75, 3) := by decide +kernel
theorem dX11_race_82 : decode cX11_race 82 = .ok (.iload_n 1, 1) := by decide +kernel
theorem dX11_race_83 : decode cX11_race 83 = .ok (.iaload, 1) := by decide +kernel
theorem dX11_race_84 : decode cX11_race 84 = .ok (.ireturn, 1) := by decide +kernel
theorem dX11_race_85 : decode cX11_race 85 = .ok (.aload_n 0, 1) := by decide +kernel
theorem dX11_race_86 : decode cX11_race 86 = .ok (.getfield 78, 3) := by decide +kernel
theorem dX11_race_89 : decode cX11_race 89 = .ok (.iload_n 1, 1) := by decide +kernel
theorem dX11_race_90 : decode cX11_race 90 = .ok (.baload, 1) := by decide +kernel
theorem dX11_race_91 : decode cX11_race 91 = .ok (.ifCond .eq 7, 3) := by decide +kernel
theorem dX11_race_94 : decode cX11_race 94 = .ok (.iconst 1, 1) := by decide +kernel
theorem dX11_race_95 : decode cX11_race 95 = .ok (.goto 4, 3) := by decide +kernel
theorem dX11_race_98 : decode cX11_race 98 = .ok (.iconst 0, 1) := by decide +kernel
theorem dX11_race_99 : decode cX11_race 99 = .ok (.ireturn, 1) := by decide +kernel
theorem dX11_race_100 : decode cX11_race 100 = .ok (.aload_n 0, 1) := by decide +kernel
theorem dX11_race_101 : decode cX11_race 101 = .ok (.getfield 81, 3) := by decide +kernel
theorem dX11_race_104 : decode cX11_race 104 = .ok (.iload_n 1, 1) := by decide +kernel
theorem dX11_race_105 : decode cX11_race 105 = .ok (.iaload, 1) := by decide +kernel
theorem dX11_race_106 : decode cX11_race 106 = .ok (.ireturn, 1) := by decide +kernel
theorem dX11_race_107 : decode cX11_race 107 = .ok (.aload_n 0, 1) := by decide +kernel
theorem dX11_race_108 : decode cX11_race 108 = .ok (.getfield 84, 3) := by decide +kernel
theorem dX11_race_111 : decode cX11_race 111 = .ok (.iload_n 1, 1) := by decide +kernel
theorem dX11_race_112 : decode cX11_race 112 = .ok (.iaload, 1) := by decide +kernel
theorem dX11_race_113 : decode cX11_race 113 = .ok (.ireturn, 1) := by decide +kernel
theorem dX11_race_114 : decode cX11_race 114 = .ok (.bipush (-100), 2) := by decide +kernel
theorem dX11_race_116 : decode cX11_race 116 = .ok (.ireturn, 1) := by decide +kernel
theorem dX11_won_0 : decode cX11_won 0 = .ok (.aload_n 0, 1) := by decide +kernel
theorem dX11_won_1 : decode cX11_won 1 = .ok (.iconst 0, 1) := by decide +kernel
theorem dX11_won_2 : decode cX11_won 2 = .ok (.putfield 102, 3) := by decide +kernel
theorem dX11_won_5 : decode cX11_won 5 = .ok (.aload_n 0, 1) := by decide +kernel
theorem dX11_won_6 : decode cX11_won 6 = .ok (.getfield 190, 3) := by decide +kernel
theorem dX11_won_9 : decode cX11_won 9 = .ok (.iconst 4, 1) := by decide +kernel
theorem dX11_won_10 : decode cX11_won 10 = .ok (.if_icmp .lt 10, 3) := by decide +kernel
theorem dX11_won_13 : decode cX11_won 13 = .ok (.aload_n 0, 1) := by decide +kernel
theorem dX11_won_14 : decode cX11_won 14 = .ok (.getfield 87, 3) := by decide +kernel
theorem dX11_won_17 : decode cX11_won 17 = .ok (.goto 4, 3) := by decide +kernel
theorem dX11_won_20 : decode cX11_won 20 = .ok (.iconst (-1), 1) := by decide +kernel
theorem dX11_won_21 : decode cX11_won 21 = .ok (.ireturn, 1) := by decide +kernel
theorem dX11_pact_0 : decode cX11_pact 0 = .ok (.aload_n 0, 1) := by decide +kernel
theorem dX11_pact_1 : decode cX11_pact 1 = .ok (.iconst 0, 1) := by decide +kernel
theorem dX11_pact_2 : decode cX11_pact 2 = .ok (.putfield 102, 3) := by decide +kernel
theorem dX11_pact_5 : decode cX11_pact 5 = .ok (.aload_n 0, 1) := by decide +kernel
theorem dX11_pact_6 : decode cX11_pact 6 = .ok (.iload_n 1, 1) := by decide +kernel
theorem dX11_pact_7 : decode cX11_pact 7 = .ok (.invokevirtual 227, 3) := by decide +kernel
theorem dX11_pact_10 : decode cX11_pact 10 = .ok (.ifCond .eq 37, 3) := by decide +kernel
theorem dX11_pact_13 : decode cX11_pact 13 = .ok (.aload_n 0, 1) := by decide +kernel
theorem dX11_pact_14 : decode cX11_pact 14 = .ok (.iload_n 2, 1) := by decide +kernel
theorem dX11_pact_15 : decode cX11_pact 15 = .ok (.invokevirtual 227, 3) := by decide +kernel
theorem dX11_pact_18 : decode cX11_pact 18 = .ok (.ifCond .eq 29, 3) := by decide +kernel
theorem dX11_pact_21 : decode cX11_pact 21 = .ok (.iload_n 1, 1) := by decide +kernel
theorem dX11_pact_22 : decode cX11_pact 22 = .ok (.iload_n 2, 1) := by decide +kernel
theorem dX11_pact_23 : decode cX11_pact 23 = .ok (.if_icmp .eq 24, 3) := by decide +kernel
theorem dX11_pact_26 : decode cX11_pact 26 = .ok (.iload_n 3, 1) := by decide +kernel
theorem dX11_pact_27 : decode cX11_pact 27 = .ok (.iconst 1, 1) := by decide +kernel
theorem dX11_pact_28 : decode cX11_pact 28 = .ok (.if_icmp .lt 19, 3) := by decide +kernel
theorem dX11_pact_31 : decode cX11_pact 31 = .ok (.iload_n 3, 1) := by decide +kernel
theorem dX11_pact_32 : decode cX11_pact 32 = .ok (.sipush 9999, 3) := by decide +kernel
theorem dX11_pact_35 : decode cX11_pact 35 = .ok (.if_icmp .gt 12, 3) := by decide +kernel
theorem dX11_pact_38 : decode cX11_pact 38 = .ok (.aload_n 0, 1) := by decide +kernel
theorem dX11_pact_39 : decode cX11_pact 39 = .ok (.getfield 282, 3) := by decide +kernel
theorem dX11_pact_42 : decode cX11_pact 42 = .ok (.bipush 40, 2) := by decide +kernel
theorem dX11_pact_44 : decode cX11_pact 44 = .ok (.if_icmp .ne 5, 3) := by decide +kernel
theorem dX11_pact_47 : decode cX11_pact 47 = .ok (.iconst (-1), 1) := by decide +kernel
theorem dX11_pact_48 : decode cX11_pact 48 = .ok (.ireturn, 1) := by decide +kernel
theorem dX11_pact_49 : decode cX11_pact 49 = .ok (.aload_n 0, 1) := by decide +kernel
theorem dX11_pact_50 : decode cX11_pact 50 = .ok (.getfield 93, 3) := by decide +kernel
theorem dX11_pact_53 : decode cX11_pact 53 = .ok (.aload_n 0, 1) := by decide +kernel
theorem dX11_pact_54 : decode cX11_pact 54 = .ok (.getfield 282, 3) := by decide +kernel
theorem dX11_pact_57 : decode cX11_pact 57 = .ok (.iload_n 1, 1) := by decide +kernel
theorem dX11_pact_58 : decode cX11_pact 58 = .ok (.iastore, 1) := by decide +kernel
theorem dX11_pact_59 : decode cX11_pact 59 = .ok (.aload_n 0, 1) := by decide +kernel
theorem dX11_pact_60 : decode cX11_pact 60 = .ok (.getfield 96, 3) := by decide +kernel
theorem dX11_pact_63 : decode cX11_pact 63 = .ok (.aload_n 0, 1) := by decide +kernel
theorem dX11_pact_64 : decode cX11_pact 64 = .ok (.getfield 282, 3) := by decide +kernel
theorem dX11_pact_67 : decode cX11_pact 67 = .ok (.iload_n 2, 1) := by decide +kernel
theorem dX11_pact_68 : decode cX11_pact 68 = .ok (.iastore, 1) := by decide +kernel
theorem dX11_pact_69 : decode cX11_pact 69 = .ok (.aload_n 0, 1) := by decide +kernel
theorem dX11_pact_70 : decode cX11_pact 70 = .ok (.getfield 99, 3) := by decide +kernel
theorem dX11_pact_73 : decode cX11_pact 73 = .ok (.aload_n 0, 1) := by decide +kernel
theorem dX11_pact_74 : decode cX11_pact 74 = .ok (.getfield 282, 3) := by decide +kernel
theorem dX11_pact_77 : decode cX11_pact 77 = .ok (.iload_n 3, 1) := by decide +kernel
theorem dX11_pact_78 : decode cX11_pact 78 = .ok (.iastore, 1) := by decide +kernel
theorem dX11_pact_79 : decode cX11_pact 79 = .ok (.aload_n 0, 1) := by decide +kernel
theorem dX11_pact_80 : decode cX11_pact 80 = .ok (.dup, 1) := by decide +kernel
theorem dX11_pact_81 : decode cX11_pact 81 = .ok (.getfield 282, 3) := by decide +kernel
theorem dX11_pact_84 : decode cX11_pact 84 = .ok (.iconst 1, 1) := by decide +kernel
theorem dX11_pact_85 : decode cX11_pact 85 = .ok (.iadd, 1) := by decide +kernel
theorem dX11_pact_86 : decode cX11_pact 86 = .ok (.putfield 282, 3) := by decide +kernel
theorem dX11_pact_89 : decode cX11_pact 89 = .ok (.aload_n 0, 1) := by decide +kernel
theorem dX11_pact_90 : decode cX11_pact 90 = .ok (.getfield 282, 3) := by decide +kernel
theorem dX11_pact_93 : decode cX11_pact 93 = .ok (.ireturn, 1) := by decide +kernel
theorem dX11_punish_0 : decode cX11_punish 0 = .ok (.aload_n 0, 1) := by decide +kernel
theorem dX11_punish_1 : decode cX11_punish 1 = .ok (.iconst 0, 1) := by decide +kernel
theorem dX11_punish_2 : decode cX11_punish 2 = .ok (.putfield 102, 3) := by decide +kernel
theorem dX11_punish_5 : decode cX11_punish 5 = .ok (.aload_n 0, 1) := by decide +kernel
theorem dX11_punish_6 : decode cX11_punish 6 = .ok (.getfield 190, 3) := by decide +kernel
theorem dX11_punish_9 : decode cX11_punish 9 = .ok (.iconst 5, 1) := by decide +kernel
theorem dX11_punish_10 : decode cX11_punish 10 = .ok (.if_icmp .ne 11, 3) := by decide +kernel
theorem dX11_punish_13 : decode cX11_punish 13 = .ok (.aload_n 0, 1) := by decide +kernel
theorem dX11_punish_14 : decode cX11_punish 14 = .ok (.iload_n 1, 1) := by decide +kernel
theorem dX11_punish_15 : decode cX11_punish 15 = .ok (.invokevirtual 230, 3) := by decide +kernel
theorem dX11_punish_18 : decode cX11_punish 18 = .ok (.ifCond .ne 6, 3) := by decide +kernel
theorem dX11_punish_21 : decode cX11_punish 21 = .ok (.bipush (-2), 2) := by decide +kernel
theorem dX11_punish_23 : decode cX11_punish 23 = .ok (.ireturn, 1) := by decide +kernel
theorem dX11_punish_24 : decode cX11_punish 24 = .ok (.aload_n 0, 1) := by decide +kernel
theorem dX11_punish_25 : decode cX11_punish 25 = .ok (.iconst 4, 1) := by decide +kernel
theorem dX11_punish_26 : decode cX11_punish 26 = .ok (.aload_n 0, 1) := by decide +kernel
theorem dX11_punish_27 : decode cX11_punish 27 = .ok (.getfield 187, 3) := by decide +kernel
theorem dX11_punish_30 : decode cX11_punish 30 = .ok (.invokevirtual 173, 3) := by decide +kernel
theorem dX11_punish_33 : decode cX11_punish 33 = .ok (.istore_n 2, 1) := by decide +kernel
theorem dX11_punish_34 : decode cX11_punish 34 = .ok (.iload_n 2, 1) := by decide +kernel
theorem dX11_punish_35 : decode cX11_punish 35 = .ok (.ifCond .le 24, 3) := by decide +kernel
theorem dX11_punish_38 : decode cX11_punish 38 = .ok (.aload_n 0, 1) := by decide +kernel
theorem dX11_punish_39 : decode cX11_punish 39 = .ok (.getfield 26, 3) := by decide +kernel
theorem dX11_punish_42 : decode cX11_punish 42 = .ok (.iload_n 1, 1) := by decide +kernel
theorem dX11_punish_43 : decode cX11_punish 43 = .ok (.aload_n 0, 1) := by decide +kernel
theorem dX11_punish_44 : decode cX11_punish 44 = .ok (.getfield 26, 3) := by decide +kernel
theorem dX11_punish_47 : decode cX11_punish 47 = .ok (.iload_n 1, 1) := by decide +kernel
theorem dX11_punish_48 : decode cX11_punish 48 = .ok (.iaload, 1) := by decide +kernel
theorem dX11_punish_49 : decode cX11_punish 49 = .ok (.aload_n 0, 1) := by decide +kernel
theorem dX11_punish_50 : decode cX11_punish 50 = .ok (.getfield 187, 3) := by decide +kernel
theorem dX11_punish_53 : decode cX11_punish 53 = .ok (.iload_n 2, 1) := by decide +kernel
theorem dX11_punish_54 : decode cX11_punish 54 = .ok (.iadd, 1) := by decide +kernel
theorem dX11_punish_55 : decode cX11_punish 55 = .ok (.invokestatic 221, 3) := by decide +kernel
theorem dX11_punish_58 : decode cX11_punish 58 = .ok (.iastore, 1) := by decide +kernel
theorem dX11_punish_59 : decode cX11_punish 59 = .ok (.aload_n 0, 1) := by decide +kernel
theorem dX11_punish_60 : decode cX11_punish 60 = .ok (.getfield 26, 3) := by decide +kernel
theorem dX11_punish_63 : decode cX11_punish 63 = .ok (.iload_n 1, 1) := by decide +kernel
theorem dX11_punish_64 : decode cX11_punish 64 = .ok (.iaload, 1) := by decide +kernel
theorem dX11_punish_65 : decode cX11_punish 65 = .ok (.ireturn, 1) := by decide +kernel
theorem dX11_next_0 : decode cX11_next 0 = .ok (.aload_n 0, 1) := by decide +kernel
theorem dX11_next_1 : decode cX11_next 1 = .ok (.iconst 0, 1) := by decide +kernel
theorem dX11_next_2 : decode cX11_next 2 = .ok (.putfield 102, 3) := by decide +kernel
theorem dX11_next_5 : decode cX11_next 5 = .ok (.aload_n 0, 1) := by decide +kernel
theorem dX11_next_6 : decode cX11_next 6 = .ok (.getfield 190, 3) := by decide +kernel
theorem dX11_next_9 : decode cX11_next 9 = .ok (.iconst 4, 1) := by decide +kernel
theorem dX11_next_10 : decode cX11_next 10 = .ok (.if_icmp .eq 12, 3) := by decide +kernel
theorem dX11_next_13 : decode cX11_next 13 = .ok (.aload_n 0, 1) := by decide +kernel
theorem dX11_next_14 : decode cX11_next 14 = .ok (.getfield 187, 3) := by decide +kernel
theorem dX11_next_17 : decode cX11_next 17 = .ok (.bipush 99, 2) := by decide +kernel
theorem dX11_next_19 : decode cX11_next 19 = .ok (.if_icmp .ne 5, 3) := by decide +kernel
theorem dX11_next_22 : decode cX11_next 22 = .ok (.iconst (-1), 1) := by decide +kernel
theorem dX11_next_23 : decode cX11_next 23 = .ok (.ireturn, 1) := by decide +kernel
theorem dX11_next_24 : decode cX11_next 24 = .ok (.aload_n 0, 1) := by decide +kernel
theorem dX11_next_25 : decode cX11_next 25 = .ok (.dup, 1) := by decide +kernel
theorem dX11_next_26 : decode cX11_next 26 = .ok (.getfield 187, 3) := by decide +kernel
theorem dX11_next_29 : decode cX11_next 29 = .ok (.iconst 1, 1) := by decide +kernel
theorem dX11_next_30 : decode cX11_next 30 = .ok (.iadd, 1) := by decide +kernel
theorem dX11_next_31 : decode cX11_next 31 = .ok (.putfield 187, 3) := by decide +kernel
theorem dX11_next_34 : decode cX11_next 34 = .ok (.aload_n 0, 1) := by decide +kernel
theorem dX11_next_35 : decode cX11_next 35 = .ok (.iconst 0, 1) := by decide +kernel
theorem dX11_next_36 : decode cX11_next 36 = .ok (.putfield 190, 3) := by decide +kernel
theorem dX11_next_39 : decode cX11_next 39 = .ok (.aload_n 0, 1) := by decide +kernel
theorem dX11_next_40 : decode cX11_next 40 = .ok (.iconst 0, 1) := by decide +kernel
theorem dX11_next_41 : decode cX11_next 41 = .ok (.putfield 249, 3) := by decide +kernel
theorem dX11_next_44 : decode cX11_next 44 = .ok (.iconst 0, 1) := by decide +kernel
theorem dX11_next_45 : decode cX11_next 45 = .ok (.istore_n 1, 1) := by decide +kernel
theorem dX11_next_46 : decode cX11_next 46 = .ok (.iload_n 1, 1) := by decide +kernel
theorem dX11_next_47 : decode cX11_next 47 = .ok (.bipush 17, 2) := by decide +kernel
theorem dX11_next_49 : decode cX11_next 49 = .ok (.if_icmp .ge 23, 3) := by decide +kernel
theorem dX11_next_52 : decode cX11_next 52 = .ok (.aload_n 0, 1) := by decide +kernel
theorem dX11_next_53 : decode cX11_next 53 = .ok (.getfield 29, 3) := by decide +kernel
theorem dX11_next_56 : decode cX11_next 56 = .ok (.iload_n 1, 1) := by decide +kernel
theorem dX11_next_57 : decode cX11_next 57 = .ok (.iconst 0, 1) := by decide +kernel
theorem dX11_next_58 : decode cX11_next 58 = .ok (.iastore, 1) := by decide +kernel
theorem dX11_next_59 : decode cX11_next 59 = .ok (.aload_n 0, 1) := by decide +kernel
theorem dX11_next_60 : decode cX11_next 60 = .ok (.getfield 38, 3) := by decide +kernel
theorem dX11_next_63 : decode cX11_next 63 = .ok (.iload_n 1, 1) := by decide +kernel
theorem dX11_next_64 : decode cX11_next 64 = .ok (.iconst 0, 1) := by decide +kernel
theorem dX11_next_65 : decode cX11_next 65 = .ok (.bastore, 1) := by decide +kernel
theorem dX11_next_66 : decode cX11_next 66 = .ok (.iinc 1 1, 3) := by decide +kernel
theorem dX11_next_69 : decode cX11_next 69 = .ok (.goto (-23), 3) := by decide +kernel
theorem dX11_next_72 : decode cX11_next 72 = .ok (.aload_n 0, 1) := by decide +kernel
theorem dX11_next_73 : decode cX11_next 73 = .ok (.getfield 187, 3) := by decide +kernel
theorem dX11_next_76 : decode cX11_next 76 = .ok (.ireturn, 1) := by decide +kernel
theorem dX11_count_0 : decode cX11_count 0 = .ok (.aload_n 0, 1) := by decide +kernel
theorem dX11_count_1 : decode cX11_count 1 = .ok (.iconst 0, 1) := by decide +kernel
theorem dX11_count_2 : decode cX11_count 2 = .ok (.putfield 102, 3) := by decide +kernel
theorem dX11_count_5 : decode cX11_count 5 = .ok (.iload_n 1, 1) := by decide +kernel
theorem dX11_count_6 : decode cX11_count 6 = .ok (.tableswitch 86 0 7 #[46, 51, 56, 61, 66, 71, 76, 81], 46) := by decide +kernel
theorem dX11_count_52 : decode cX11_count 52 = .ok (.aload_n 0, 1) := by decide +kernel
theorem dX11_count_53 : decode cX11_count 53 = .ok (.getfield 187, 3) := by decide +kernel
theorem dX11_count_56 : decode cX11_count 56 = .ok (.ireturn, 1) := by decide +kernel
theorem dX11_count_57 : decode cX11_count 57 = .ok (.aload_n 0, 1) := by decide +kernel
theorem dX11_count_58 : decode cX11_count 58 = .ok (.getfield 190, 3) := by decide +kernel
theorem dX11_count_61 : decode cX11_count 61 = .ok (.ireturn, 1) := by decide +kernel
theorem dX11_count_62 : decode cX11_count 62 = .ok (.aload_n 0, 1) := by decide +kernel
theorem dX11_count_63 : decode cX11_count 63 = .ok (.getfield 249, 3) := by decide +kernel
theorem dX11_count_66 : decode cX11_count 66 = .ok (.ireturn, 1) := by decide +kernel
theorem dX11_count_67 : decode cX11_count 67 = .ok (.aload_n 0, 1) := by decide +kernel
theorem dX11_count_68 : decode cX11_count 68 = .ok (.getfield 177, 3) := by decide +kernel
theorem dX11_count_71 : decode cX11_count 71 = .ok (.ireturn, 1) := by decide +kernel
theorem dX11_count_72 : decode cX11_count 72 = .ok (.aload_n 0, 1) := by decide +kernel
theorem dX11_count_73 : decode cX11_count 73 = .ok (.getfield 180, 3) := by decide +kernel
theorem dX11_count_76 : decode cX11_count 76 = .ok (.ireturn, 1) := by decide +kernel
theorem dX11_count_77 : decode cX11_count 77 = .ok (.aload_n 0, 1) := by decide +kernel
theorem dX11_count_78 : decode cX11_count 78 = .ok (.getfield 282, 3) := by decide +kernel
theorem dX11_count_81 : decode cX11_count 81 = .ok (.ireturn, 1) := by decide +kernel
theorem dX11_count_82 : decode cX11_count 82 = .ok (.aload_n 0, 1) := by decide +kernel
theorem dX11_count_83 : decode cX11_count 83 = .ok (.getfield 164, 3) := by decide +kernel
theorem dX11_count_86 : decode cX11_count 86 = .ok (.ireturn, 1) := by decide +kernel
theorem dX11_count_87 : decode cX11_count 87 = .ok (.aload_n 0, 1) := by decide +kernel
theorem dX11_count_88 : decode cX11_count 88 = .ok (.getfield 63, 3) := by decide +kernel
theorem dX11_count_91 : decode cX11_count 91 = .ok (.ireturn, 1) := by decide +kernel
theorem dX11_count_92 : decode cX11_count 92 = .ok (.iconst (-1), 1) := by decide +kernel
theorem dX11_count_93 : decode cX11_count 93 = .ok (.ireturn, 1) := by decide +kernel
end
section
theorem dL_law_0 : decode cL_law 0 = .ok (.new 7, 3) := by decide +kernel
theorem dL_law_3 : decode cL_law 3 = .ok (.dup, 1) := by decide +kernel
theorem dL_law_4 : decode cL_law 4 = .ok (.invokespecial 9, 3) := by decide +kernel
theorem dL_law_7 : decode cL_law 7 = .ok (.astore_n 1, 1) := by decide +kernel
theorem dL_law_8 : decode cL_law 8 = .ok (.new 10, 3) := by decide +kernel
theorem dL_law_11 : decode cL_law 11 = .ok (.dup, 1) := by decide +kernel
theorem dL_law_12 : decode cL_law 12 = .ok (.invokespecial 12, 3) := by decide +kernel
theorem dL_law_15 : decode cL_law 15 = .ok (.astore_n 2, 1) := by decide +kernel
theorem dL_law_16 : decode cL_law 16 = .ok (.iconst 0, 1) := by decide +kernel
theorem dL_law_17 : decode cL_law 17 = .ok (.istore_n 3, 1) := by decide +kernel
theorem dL_law_18 : decode cL_law 18 = .ok (.iload_n 3, 1) := by decide +kernel
theorem dL_law_19 : decode cL_law 19 = .ok (.aload_n 0, 1) := by decide +kernel
theorem dL_law_20 : decode cL_law 20 = .ok (.arraylength, 1) := by decide +kernel
theorem dL_law_21 : decode cL_law 21 = .ok (.bipush 6, 2) := by decide +kernel
theorem dL_law_23 : decode cL_law 23 = .ok (.isub, 1) := by decide +kernel
theorem dL_law_24 : decode cL_law 24 = .ok (.if_icmp .gt 830, 3) := by decide +kernel
theorem dL_law_27 : decode cL_law 27 = .ok (.aload_n 0, 1) := by decide +kernel
theorem dL_law_28 : decode cL_law 28 = .ok (.iload_n 3, 1) := by decide +kernel
theorem dL_law_29 : decode cL_law 29 = .ok (.iaload, 1) := by decide +kernel
theorem dL_law_30 : decode cL_law 30 = .ok (.bipush 31, 2) := by decide +kernel
theorem dL_law_32 : decode cL_law 32 = .ok (.iand, 1) := by decide +kernel
theorem dL_law_33 : decode cL_law 33 = .ok (.tableswitch 815 0 23 #[111, 174, 207, 230, 263, 276, 299, 348, 371, 384, 407, 440, 473, 496, 545, 588, 621, 644, 667, 700, 713, 756, 779, 792], 111) := by decide +kernel
theorem dL_law_144 : decode cL_law 144 = .ok (.aload_n 1, 1) := by decide +kernel
theorem dL_law_145 : decode cL_law 145 = .ok (.aload_n 0, 1) := by decide +kernel
theorem dL_law_146 : decode cL_law 146 = .ok (.iload_n 3, 1) := by decide +kernel
theorem dL_law_147 : decode cL_law 147 = .ok (.iconst 1, 1) := by decide +kernel
theorem dL_law_148 : decode cL_law 148 = .ok (.iadd, 1) := by decide +kernel
theorem dL_law_149 : decode cL_law 149 = .ok (.iaload, 1) := by decide +kernel
theorem dL_law_150 : decode cL_law 150 = .ok (.aload_n 0, 1) := by decide +kernel
theorem dL_law_151 : decode cL_law 151 = .ok (.iload_n 3, 1) := by decide +kernel
theorem dL_law_152 : decode cL_law 152 = .ok (.iconst 2, 1) := by decide +kernel
theorem dL_law_153 : decode cL_law 153 = .ok (.iadd, 1) := by decide +kernel
theorem dL_law_154 : decode cL_law 154 = .ok (.iaload, 1) := by decide +kernel
theorem dL_law_155 : decode cL_law 155 = .ok (.aload_n 0, 1) := by decide +kernel
theorem dL_law_156 : decode cL_law 156 = .ok (.iload_n 3, 1) := by decide +kernel
theorem dL_law_157 : decode cL_law 157 = .ok (.iconst 3, 1) := by decide +kernel
theorem dL_law_158 : decode cL_law 158 = .ok (.iadd, 1) := by decide +kernel
theorem dL_law_159 : decode cL_law 159 = .ok (.iaload, 1) := by decide +kernel
theorem dL_law_160 : decode cL_law 160 = .ok (.aload_n 0, 1) := by decide +kernel
theorem dL_law_161 : decode cL_law 161 = .ok (.iload_n 3, 1) := by decide +kernel
theorem dL_law_162 : decode cL_law 162 = .ok (.iconst 4, 1) := by decide +kernel
theorem dL_law_163 : decode cL_law 163 = .ok (.iadd, 1) := by decide +kernel
theorem dL_law_164 : decode cL_law 164 = .ok (.iaload, 1) := by decide +kernel
theorem dL_law_165 : decode cL_law 165 = .ok (.aload_n 0, 1) := by decide +kernel
theorem dL_law_166 : decode cL_law 166 = .ok (.iload_n 3, 1) := by decide +kernel
theorem dL_law_167 : decode cL_law 167 = .ok (.iconst 5, 1) := by decide +kernel
theorem dL_law_168 : decode cL_law 168 = .ok (.iadd, 1) := by decide +kernel
theorem dL_law_169 : decode cL_law 169 = .ok (.iaload, 1) := by decide +kernel
theorem dL_law_170 : decode cL_law 170 = .ok (.invokevirtual 13, 3) := by decide +kernel
theorem dL_law_173 : decode cL_law 173 = .ok (.aload_n 2, 1) := by decide +kernel
theorem dL_law_174 : decode cL_law 174 = .ok (.aload_n 0, 1) := by decide +kernel
theorem dL_law_175 : decode cL_law 175 = .ok (.iload_n 3, 1) := by decide +kernel
theorem dL_law_176 : decode cL_law 176 = .ok (.iconst 1, 1) := by decide +kernel
theorem dL_law_177 : decode cL_law 177 = .ok (.iadd, 1) := by decide +kernel
theorem dL_law_178 : decode cL_law 178 = .ok (.iaload, 1) := by decide +kernel
theorem dL_law_179 : decode cL_law 179 = .ok (.aload_n 0, 1) := by decide +kernel
theorem dL_law_180 : decode cL_law 180 = .ok (.iload_n 3, 1) := by decide +kernel
theorem dL_law_181 : decode cL_law 181 = .ok (.iconst 2, 1) := by decide +kernel
theorem dL_law_182 : decode cL_law 182 = .ok (.iadd, 1) := by decide +kernel
theorem dL_law_183 : decode cL_law 183 = .ok (.iaload, 1) := by decide +kernel
theorem dL_law_184 : decode cL_law 184 = .ok (.aload_n 0, 1) := by decide +kernel
theorem dL_law_185 : decode cL_law 185 = .ok (.iload_n 3, 1) := by decide +kernel
theorem dL_law_186 : decode cL_law 186 = .ok (.iconst 3, 1) := by decide +kernel
theorem dL_law_187 : decode cL_law 187 = .ok (.iadd, 1) := by decide +kernel
theorem dL_law_188 : decode cL_law 188 = .ok (.iaload, 1) := by decide +kernel
theorem dL_law_189 : decode cL_law 189 = .ok (.aload_n 0, 1) := by decide +kernel
theorem dL_law_190 : decode cL_law 190 = .ok (.iload_n 3, 1) := by decide +kernel
theorem dL_law_191 : decode cL_law 191 = .ok (.iconst 4, 1) := by decide +kernel
theorem dL_law_192 : decode cL_law 192 = .ok (.iadd, 1) := by decide +kernel
theorem dL_law_193 : decode cL_law 193 = .ok (.iaload, 1) := by decide +kernel
theorem dL_law_194 : decode cL_law 194 = .ok (.aload_n 0, 1) := by decide +kernel
theorem dL_law_195 : decode cL_law 195 = .ok (.iload_n 3, 1) := by decide +kernel
theorem dL_law_196 : decode cL_law 196 = .ok (.iconst 5, 1) := by decide +kernel
theorem dL_law_197 : decode cL_law 197 = .ok (.iadd, 1) := by decide +kernel
theorem dL_law_198 : decode cL_law 198 = .ok (.iaload, 1) := by decide +kernel
theorem dL_law_199 : decode cL_law 199 = .ok (.invokevirtual 17, 3) := by decide +kernel
theorem dL_law_202 : decode cL_law 202 = .ok (.if_icmp .eq 646, 3) := by decide +kernel
theorem dL_law_205 : decode cL_law 205 = .ok (.iconst 0, 1) := by decide +kernel
theorem dL_law_206 : decode cL_law 206 = .ok (.ireturn, 1) := by decide +kernel
theorem dL_law_207 : decode cL_law 207 = .ok (.aload_n 1, 1) := by decide +kernel
theorem dL_law_208 : decode cL_law 208 = .ok (.aload_n 0, 1) := by decide +kernel
theorem dL_law_209 : decode cL_law 209 = .ok (.iload_n 3, 1) := by decide +kernel
theorem dL_law_210 : decode cL_law 210 = .ok (.iconst 1, 1) := by decide +kernel
theorem dL_law_211 : decode cL_law 211 = .ok (.iadd, 1) := by decide +kernel
theorem dL_law_212 : decode cL_law 212 = .ok (.iaload, 1) := by decide +kernel
theorem dL_law_213 : decode cL_law 213 = .ok (.aload_n 0, 1) := by decide +kernel
theorem dL_law_214 : decode cL_law 214 = .ok (.iload_n 3, 1) := by decide +kernel
theorem dL_law_215 : decode cL_law 215 = .ok (.iconst 2, 1) := by decide +kernel
theorem dL_law_216 : decode cL_law 216 = .ok (.iadd, 1) := by decide +kernel
theorem dL_law_217 : decode cL_law 217 = .ok (.iaload, 1) := by decide +kernel
theorem dL_law_218 : decode cL_law 218 = .ok (.invokevirtual 18, 3) := by decide +kernel
theorem dL_law_221 : decode cL_law 221 = .ok (.aload_n 2, 1) := by decide +kernel
theorem dL_law_222 : decode cL_law 222 = .ok (.aload_n 0, 1) := by decide +kernel
theorem dL_law_223 : decode cL_law 223 = .ok (.iload_n 3, 1) := by decide +kernel
theorem dL_law_224 : decode cL_law 224 = .ok (.iconst 1, 1) := by decide +kernel
theorem dL_law_225 : decode cL_law 225 = .ok (.iadd, 1) := by decide +kernel
theorem dL_law_226 : decode cL_law 226 = .ok (.iaload, 1) := by decide +kernel
theorem dL_law_227 : decode cL_law 227 = .ok (.aload_n 0, 1) := by decide +kernel
theorem dL_law_228 : decode cL_law 228 = .ok (.iload_n 3, 1) := by decide +kernel
theorem dL_law_229 : decode cL_law 229 = .ok (.iconst 2, 1) := by decide +kernel
theorem dL_law_230 : decode cL_law 230 = .ok (.iadd, 1) := by decide +kernel
theorem dL_law_231 : decode cL_law 231 = .ok (.iaload, 1) := by decide +kernel
theorem dL_law_232 : decode cL_law 232 = .ok (.invokevirtual 22, 3) := by decide +kernel
theorem dL_law_235 : decode cL_law 235 = .ok (.if_icmp .eq 613, 3) := by decide +kernel
theorem dL_law_238 : decode cL_law 238 = .ok (.iconst 0, 1) := by decide +kernel
theorem dL_law_239 : decode cL_law 239 = .ok (.ireturn, 1) := by decide +kernel
theorem dL_law_240 : decode cL_law 240 = .ok (.aload_n 1, 1) := by decide +kernel
theorem dL_law_241 : decode cL_law 241 = .ok (.aload_n 0, 1) := by decide +kernel
theorem dL_law_242 : decode cL_law 242 = .ok (.iload_n 3, 1) := by decide +kernel
theorem dL_law_243 : decode cL_law 243 = .ok (.iconst 1, 1) := by decide +kernel
theorem dL_law_244 : decode cL_law 244 = .ok (.iadd, 1) := by decide +kernel
theorem dL_law_245 : decode cL_law 245 = .ok (.iaload, 1) := by decide +kernel
theorem dL_law_246 : decode cL_law 246 = .ok (.invokevirtual 23, 3) := by decide +kernel
theorem dL_law_249 : decode cL_law 249 = .ok (.aload_n 2, 1) := by decide +kernel
theorem dL_law_250 : decode cL_law 250 = .ok (.aload_n 0, 1) := by decide +kernel
theorem dL_law_251 : decode cL_law 251 = .ok (.iload_n 3, 1) := by decide +kernel
theorem dL_law_252 : decode cL_law 252 = .ok (.iconst 1, 1) := by decide +kernel
theorem dL_law_253 : decode cL_law 253 = .ok (.iadd, 1) := by decide +kernel
theorem dL_law_254 : decode cL_law 254 = .ok (.iaload, 1) := by decide +kernel
theorem dL_law_255 : decode cL_law 255 = .ok (.invokevirtual 27, 3) := by decide +kernel
theorem dL_law_258 : decode cL_law 258 = .ok (.if_icmp .eq 590, 3) := by decide +kernel
theorem dL_law_261 : decode cL_law 261 = .ok (.iconst 0, 1) := by decide +kernel
theorem dL_law_262 : decode cL_law 262 = .ok (.ireturn, 1) := by decide +kernel
theorem dL_law_263 : decode cL_law 263 = .ok (.aload_n 1, 1) := by decide +kernel
theorem dL_law_264 : decode cL_law 264 = .ok (.aload_n 0, 1) := by decide +kernel
theorem dL_law_265 : decode cL_law 265 = .ok (.iload_n 3, 1) := by decide +kernel
theorem dL_law_266 : decode cL_law 266 = .ok (.iconst 1, 1) := by decide +kernel
theorem dL_law_267 : decode cL_law 267 = .ok (.iadd, 1) := by decide +kernel
theorem dL_law_268 : decode cL_law 268 = .ok (.iaload, 1) := by decide +kernel
theorem dL_law_269 : decode cL_law 269 = .ok (.aload_n 0, 1) := by decide +kernel
theorem dL_law_270 : decode cL_law 270 = .ok (.iload_n 3, 1) := by decide +kernel
theorem dL_law_271 : decode cL_law 271 = .ok (.iconst 2, 1) := by decide +kernel
theorem dL_law_272 : decode cL_law 272 = .ok (.iadd, 1) := by decide +kernel
theorem dL_law_273 : decode cL_law 273 = .ok (.iaload, 1) := by decide +kernel
theorem dL_law_274 : decode cL_law 274 = .ok (.invokevirtual 28, 3) := by decide +kernel
theorem dL_law_277 : decode cL_law 277 = .ok (.aload_n 2, 1) := by decide +kernel
theorem dL_law_278 : decode cL_law 278 = .ok (.aload_n 0, 1) := by decide +kernel
theorem dL_law_279 : decode cL_law 279 = .ok (.iload_n 3, 1) := by decide +kernel
theorem dL_law_280 : decode cL_law 280 = .ok (.iconst 1, 1) := by decide +kernel
theorem dL_law_281 : decode cL_law 281 = .ok (.iadd, 1) := by decide +kernel
theorem dL_law_282 : decode cL_law 282 = .ok (.iaload, 1) := by decide +kernel
theorem dL_law_283 : decode cL_law 283 = .ok (.aload_n 0, 1) := by decide +kernel
theorem dL_law_284 : decode cL_law 284 = .ok (.iload_n 3, 1) := by decide +kernel
theorem dL_law_285 : decode cL_law 285 = .ok (.iconst 2, 1) := by decide +kernel
theorem dL_law_286 : decode cL_law 286 = .ok (.iadd, 1) := by decide +kernel
theorem dL_law_287 : decode cL_law 287 = .ok (.iaload, 1) := by decide +kernel
theorem dL_law_288 : decode cL_law 288 = .ok (.invokevirtual 31, 3) := by decide +kernel
theorem dL_law_291 : decode cL_law 291 = .ok (.if_icmp .eq 557, 3) := by decide +kernel
theorem dL_law_294 : decode cL_law 294 = .ok (.iconst 0, 1) := by decide +kernel
theorem dL_law_295 : decode cL_law 295 = .ok (.ireturn, 1) := by decide +kernel
theorem dL_law_296 : decode cL_law 296 = .ok (.aload_n 1, 1) := by decide +kernel
theorem dL_law_297 : decode cL_law 297 = .ok (.invokevirtual 32, 3) := by decide +kernel
theorem dL_law_300 : decode cL_law 300 = .ok (.aload_n 2, 1) := by decide +kernel
theorem dL_law_301 : decode cL_law 301 = .ok (.invokevirtual 36, 3) := by decide +kernel
theorem dL_law_304 : decode cL_law 304 = .ok (.if_icmp .eq 544, 3) := by decide +kernel
theorem dL_law_307 : decode cL_law 307 = .ok (.iconst 0, 1) := by decide +kernel
theorem dL_law_308 : decode cL_law 308 = .ok (.ireturn, 1) := by decide +kernel
theorem dL_law_309 : decode cL_law 309 = .ok (.aload_n 1, 1) := by decide +kernel
theorem dL_law_310 : decode cL_law 310 = .ok (.aload_n 0, 1) := by decide +kernel
theorem dL_law_311 : decode cL_law 311 = .ok (.iload_n 3, 1) := by decide +kernel
theorem dL_law_312 : decode cL_law 312 = .ok (.iconst 1, 1) := by decide +kernel
theorem dL_law_313 : decode cL_law 313 = .ok (.iadd, 1) := by decide +kernel
theorem dL_law_314 : decode cL_law 314 = .ok (.iaload, 1) := by decide +kernel
theorem dL_law_315 : decode cL_law 315 = .ok (.invokevirtual 37, 3) := by decide +kernel
theorem dL_law_318 : decode cL_law 318 = .ok (.aload_n 2, 1) := by decide +kernel
theorem dL_law_319 : decode cL_law 319 = .ok (.aload_n 0, 1) := by decide +kernel
theorem dL_law_320 : decode cL_law 320 = .ok (.iload_n 3, 1) := by decide +kernel
theorem dL_law_321 : decode cL_law 321 = .ok (.iconst 1, 1) := by decide +kernel
theorem dL_law_322 : decode cL_law 322 = .ok (.iadd, 1) := by decide +kernel
theorem dL_law_323 : decode cL_law 323 = .ok (.iaload, 1) := by decide +kernel
theorem dL_law_324 : decode cL_law 324 = .ok (.invokevirtual 40, 3) := by decide +kernel
theorem dL_law_327 : decode cL_law 327 = .ok (.if_icmp .eq 521, 3) := by decide +kernel
theorem dL_law_330 : decode cL_law 330 = .ok (.iconst 0, 1) := by decide +kernel
theorem dL_law_331 : decode cL_law 331 = .ok (.ireturn, 1) := by decide +kernel
theorem dL_law_332 : decode cL_law 332 = .ok (.aload_n 1, 1) := by decide +kernel
theorem dL_law_333 : decode cL_law 333 = .ok (.aload_n 0, 1) := by decide +kernel
theorem dL_law_334 : decode cL_law 334 = .ok (.iload_n 3, 1) := by decide +kernel
theorem dL_law_335 : decode cL_law 335 = .ok (.iconst 1, 1) := by decide +kernel
theorem dL_law_336 : decode cL_law 336 = .ok (.iadd, 1) := by decide +kernel
theorem dL_law_337 : decode cL_law 337 = .ok (.iaload, 1) := by decide +kernel
theorem dL_law_338 : decode cL_law 338 = .ok (.aload_n 0, 1) := by decide +kernel
theorem dL_law_339 : decode cL_law 339 = .ok (.iload_n 3, 1) := by decide +kernel
theorem dL_law_340 : decode cL_law 340 = .ok (.iconst 2, 1) := by decide +kernel
theorem dL_law_341 : decode cL_law 341 = .ok (.iadd, 1) := by decide +kernel
theorem dL_law_342 : decode cL_law 342 = .ok (.iaload, 1) := by decide +kernel
theorem dL_law_343 : decode cL_law 343 = .ok (.ifCond .eq 7, 3) := by decide +kernel
theorem dL_law_346 : decode cL_law 346 = .ok (.iconst 1, 1) := by decide +kernel
theorem dL_law_347 : decode cL_law 347 = .ok (.goto 4, 3) := by decide +kernel
theorem dL_law_350 : decode cL_law 350 = .ok (.iconst 0, 1) := by decide +kernel
theorem dL_law_351 : decode cL_law 351 = .ok (.invokevirtual 41, 3) := by decide +kernel
theorem dL_law_354 : decode cL_law 354 = .ok (.aload_n 2, 1) := by decide +kernel
theorem dL_law_355 : decode cL_law 355 = .ok (.aload_n 0, 1) := by decide +kernel
theorem dL_law_356 : decode cL_law 356 = .ok (.iload_n 3, 1) := by decide +kernel
theorem dL_law_357 : decode cL_law 357 = .ok (.iconst 1, 1) := by decide +kernel
theorem dL_law_358 : decode cL_law 358 = .ok (.iadd, 1) := by decide +kernel
theorem dL_law_359 : decode cL_law 359 = .ok (.iaload, 1) := by decide +kernel
theorem dL_law_360 : decode cL_law 360 = .ok (.aload_n 0, 1) := by decide +kernel
theorem dL_law_361 : decode cL_law 361 = .ok (.iload_n 3, 1) := by decide +kernel
theorem dL_law_362 : decode cL_law 362 = .ok (.iconst 2, 1) := by decide +kernel
theorem dL_law_363 : decode cL_law 363 = .ok (.iadd, 1) := by decide +kernel
theorem dL_law_364 : decode cL_law 364 = .ok (.iaload, 1) := by decide +kernel
theorem dL_law_365 : decode cL_law 365 = .ok (.ifCond .eq 7, 3) := by decide +kernel
theorem dL_law_368 : decode cL_law 368 = .ok (.iconst 1, 1) := by decide +kernel
theorem dL_law_369 : decode cL_law 369 = .ok (.goto 4, 3) := by decide +kernel
theorem dL_law_372 : decode cL_law 372 = .ok (.iconst 0, 1) := by decide +kernel
theorem dL_law_373 : decode cL_law 373 = .ok (.invokevirtual 45, 3) := by decide +kernel
theorem dL_law_376 : decode cL_law 376 = .ok (.if_icmp .eq 472, 3) := by decide +kernel
theorem dL_law_379 : decode cL_law 379 = .ok (.iconst 0, 1) := by decide +kernel
theorem dL_law_380 : decode cL_law 380 = .ok (.ireturn, 1) := by decide +kernel
theorem dL_law_381 : decode cL_law 381 = .ok (.aload_n 1, 1) := by decide +kernel
theorem dL_law_382 : decode cL_law 382 = .ok (.aload_n 0, 1) := by decide +kernel
theorem dL_law_383 : decode cL_law 383 = .ok (.iload_n 3, 1) := by decide +kernel
theorem dL_law_384 : decode cL_law 384 = .ok (.iconst 1, 1) := by decide +kernel
theorem dL_law_385 : decode cL_law 385 = .ok (.iadd, 1) := by decide +kernel
theorem dL_law_386 : decode cL_law 386 = .ok (.iaload, 1) := by decide +kernel
theorem dL_law_387 : decode cL_law 387 = .ok (.invokevirtual 46, 3) := by decide +kernel
theorem dL_law_390 : decode cL_law 390 = .ok (.aload_n 2, 1) := by decide +kernel
theorem dL_law_391 : decode cL_law 391 = .ok (.aload_n 0, 1) := by decide +kernel
theorem dL_law_392 : decode cL_law 392 = .ok (.iload_n 3, 1) := by decide +kernel
theorem dL_law_393 : decode cL_law 393 = .ok (.iconst 1, 1) := by decide +kernel
theorem dL_law_394 : decode cL_law 394 = .ok (.iadd, 1) := by decide +kernel
theorem dL_law_395 : decode cL_law 395 = .ok (.iaload, 1) := by decide +kernel
theorem dL_law_396 : decode cL_law 396 = .ok (.invokevirtual 49, 3) := by decide +kernel
theorem dL_law_399 : decode cL_law 399 = .ok (.if_icmp .eq 449, 3) := by decide +kernel
theorem dL_law_402 : decode cL_law 402 = .ok (.iconst 0, 1) := by decide +kernel
theorem dL_law_403 : decode cL_law 403 = .ok (.ireturn, 1) := by decide +kernel
theorem dL_law_404 : decode cL_law 404 = .ok (.aload_n 1, 1) := by decide +kernel
theorem dL_law_405 : decode cL_law 405 = .ok (.invokevirtual 50, 3) := by decide +kernel
theorem dL_law_408 : decode cL_law 408 = .ok (.aload_n 2, 1) := by decide +kernel
theorem dL_law_409 : decode cL_law 409 = .ok (.invokevirtual 53, 3) := by decide +kernel
theorem dL_law_412 : decode cL_law 412 = .ok (.if_icmp .eq 436, 3) := by decide +kernel
theorem dL_law_415 : decode cL_law 415 = .ok (.iconst 0, 1) := by decide +kernel
theorem dL_law_416 : decode cL_law 416 = .ok (.ireturn, 1) := by decide +kernel
theorem dL_law_417 : decode cL_law 417 = .ok (.aload_n 1, 1) := by decide +kernel
theorem dL_law_418 : decode cL_law 418 = .ok (.aload_n 0, 1) := by decide +kernel
theorem dL_law_419 : decode cL_law 419 = .ok (.iload_n 3, 1) := by decide +kernel
theorem dL_law_420 : decode cL_law 420 = .ok (.iconst 1, 1) := by decide +kernel
theorem dL_law_421 : decode cL_law 421 = .ok (.iadd, 1) := by decide +kernel
theorem dL_law_422 : decode cL_law 422 = .ok (.iaload, 1) := by decide +kernel
theorem dL_law_423 : decode cL_law 423 = .ok (.invokevirtual 54, 3) := by decide +kernel
theorem dL_law_426 : decode cL_law 426 = .ok (.aload_n 2, 1) := by decide +kernel
theorem dL_law_427 : decode cL_law 427 = .ok (.aload_n 0, 1) := by decide +kernel
theorem dL_law_428 : decode cL_law 428 = .ok (.iload_n 3, 1) := by decide +kernel
theorem dL_law_429 : decode cL_law 429 = .ok (.iconst 1, 1) := by decide +kernel
theorem dL_law_430 : decode cL_law 430 = .ok (.iadd, 1) := by decide +kernel
theorem dL_law_431 : decode cL_law 431 = .ok (.iaload, 1) := by decide +kernel
theorem dL_law_432 : decode cL_law 432 = .ok (.invokevirtual 58, 3) := by decide +kernel
theorem dL_law_435 : decode cL_law 435 = .ok (.if_icmp .eq 413, 3) := by decide +kernel
theorem dL_law_438 : decode cL_law 438 = .ok (.iconst 0, 1) := by decide +kernel
theorem dL_law_439 : decode cL_law 439 = .ok (.ireturn, 1) := by decide +kernel
theorem dL_law_440 : decode cL_law 440 = .ok (.aload_n 1, 1) := by decide +kernel
theorem dL_law_441 : decode cL_law 441 = .ok (.aload_n 0, 1) := by decide +kernel
theorem dL_law_442 : decode cL_law 442 = .ok (.iload_n 3, 1) := by decide +kernel
theorem dL_law_443 : decode cL_law 443 = .ok (.iconst 1, 1) := by decide +kernel
theorem dL_law_444 : decode cL_law 444 = .ok (.iadd, 1) := by decide +kernel
theorem dL_law_445 : decode cL_law 445 = .ok (.iaload, 1) := by decide +kernel
theorem dL_law_446 : decode cL_law 446 = .ok (.aload_n 0, 1) := by decide +kernel
theorem dL_law_447 : decode cL_law 447 = .ok (.iload_n 3, 1) := by decide +kernel
theorem dL_law_448 : decode cL_law 448 = .ok (.iconst 2, 1) := by decide +kernel
theorem dL_law_449 : decode cL_law 449 = .ok (.iadd, 1) := by decide +kernel
theorem dL_law_450 : decode cL_law 450 = .ok (.iaload, 1) := by decide +kernel
theorem dL_law_451 : decode cL_law 451 = .ok (.invokevirtual 59, 3) := by decide +kernel
theorem dL_law_454 : decode cL_law 454 = .ok (.aload_n 2, 1) := by decide +kernel
theorem dL_law_455 : decode cL_law 455 = .ok (.aload_n 0, 1) := by decide +kernel
theorem dL_law_456 : decode cL_law 456 = .ok (.iload_n 3, 1) := by decide +kernel
theorem dL_law_457 : decode cL_law 457 = .ok (.iconst 1, 1) := by decide +kernel
theorem dL_law_458 : decode cL_law 458 = .ok (.iadd, 1) := by decide +kernel
theorem dL_law_459 : decode cL_law 459 = .ok (.iaload, 1) := by decide +kernel
theorem dL_law_460 : decode cL_law 460 = .ok (.aload_n 0, 1) := by decide +kernel
theorem dL_law_461 : decode cL_law 461 = .ok (.iload_n 3, 1) := by decide +kernel
theorem dL_law_462 : decode cL_law 462 = .ok (.iconst 2, 1) := by decide +kernel
theorem dL_law_463 : decode cL_law 463 = .ok (.iadd, 1) := by decide +kernel
theorem dL_law_464 : decode cL_law 464 = .ok (.iaload, 1) := by decide +kernel
theorem dL_law_465 : decode cL_law 465 = .ok (.invokevirtual 62, 3) := by decide +kernel
theorem dL_law_468 : decode cL_law 468 = .ok (.if_icmp .eq 380, 3) := by decide +kernel
theorem dL_law_471 : decode cL_law 471 = .ok (.iconst 0, 1) := by decide +kernel
theorem dL_law_472 : decode cL_law 472 = .ok (.ireturn, 1) := by decide +kernel
theorem dL_law_473 : decode cL_law 473 = .ok (.aload_n 1, 1) := by decide +kernel
theorem dL_law_474 : decode cL_law 474 = .ok (.aload_n 0, 1) := by decide +kernel
theorem dL_law_475 : decode cL_law 475 = .ok (.iload_n 3, 1) := by decide +kernel
theorem dL_law_476 : decode cL_law 476 = .ok (.iconst 1, 1) := by decide +kernel
theorem dL_law_477 : decode cL_law 477 = .ok (.iadd, 1) := by decide +kernel
theorem dL_law_478 : decode cL_law 478 = .ok (.iaload, 1) := by decide +kernel
theorem dL_law_479 : decode cL_law 479 = .ok (.aload_n 0, 1) := by decide +kernel
theorem dL_law_480 : decode cL_law 480 = .ok (.iload_n 3, 1) := by decide +kernel
theorem dL_law_481 : decode cL_law 481 = .ok (.iconst 2, 1) := by decide +kernel
theorem dL_law_482 : decode cL_law 482 = .ok (.iadd, 1) := by decide +kernel
theorem dL_law_483 : decode cL_law 483 = .ok (.iaload, 1) := by decide +kernel
theorem dL_law_484 : decode cL_law 484 = .ok (.invokevirtual 63, 3) := by decide +kernel
theorem dL_law_487 : decode cL_law 487 = .ok (.aload_n 2, 1) := by decide +kernel
theorem dL_law_488 : decode cL_law 488 = .ok (.aload_n 0, 1) := by decide +kernel
theorem dL_law_489 : decode cL_law 489 = .ok (.iload_n 3, 1) := by decide +kernel
theorem dL_law_490 : decode cL_law 490 = .ok (.iconst 1, 1) := by decide +kernel
theorem dL_law_491 : decode cL_law 491 = .ok (.iadd, 1) := by decide +kernel
theorem dL_law_492 : decode cL_law 492 = .ok (.iaload, 1) := by decide +kernel
theorem dL_law_493 : decode cL_law 493 = .ok (.aload_n 0, 1) := by decide +kernel
theorem dL_law_494 : decode cL_law 494 = .ok (.iload_n 3, 1) := by decide +kernel
theorem dL_law_495 : decode cL_law 495 = .ok (.iconst 2, 1) := by decide +kernel
theorem dL_law_496 : decode cL_law 496 = .ok (.iadd, 1) := by decide +kernel
theorem dL_law_497 : decode cL_law 497 = .ok (.iaload, 1) := by decide +kernel
theorem dL_law_498 : decode cL_law 498 = .ok (.invokevirtual 66, 3) := by decide +kernel
theorem dL_law_501 : decode cL_law 501 = .ok (.if_icmp .eq 347, 3) := by decide +kernel
theorem dL_law_504 : decode cL_law 504 = .ok (.iconst 0, 1) := by decide +kernel
theorem dL_law_505 : decode cL_law 505 = .ok (.ireturn, 1) := by decide +kernel
theorem dL_law_506 : decode cL_law 506 = .ok (.aload_n 1, 1) := by decide +kernel
theorem dL_law_507 : decode cL_law 507 = .ok (.aload_n 0, 1) := by decide +kernel
theorem dL_law_508 : decode cL_law 508 = .ok (.iload_n 3, 1) := by decide +kernel
theorem dL_law_509 : decode cL_law 509 = .ok (.iconst 1, 1) := by decide +kernel
theorem dL_law_510 : decode cL_law 510 = .ok (.iadd, 1) := by decide +kernel
theorem dL_law_511 : decode cL_law 511 = .ok (.iaload, 1) := by decide +kernel
theorem dL_law_512 : decode cL_law 512 = .ok (.invokevirtual 67, 3) := by decide +kernel
theorem dL_law_515 : decode cL_law 515 = .ok (.aload_n 2, 1) := by decide +kernel
theorem dL_law_516 : decode cL_law 516 = .ok (.aload_n 0, 1) := by decide +kernel
theorem dL_law_517 : decode cL_law 517 = .ok (.iload_n 3, 1) := by decide +kernel
theorem dL_law_518 : decode cL_law 518 = .ok (.iconst 1, 1) := by decide +kernel
theorem dL_law_519 : decode cL_law 519 = .ok (.iadd, 1) := by decide +kernel
theorem dL_law_520 : decode cL_law 520 = .ok (.iaload, 1) := by decide +kernel
theorem dL_law_521 : decode cL_law 521 = .ok (.invokevirtual 70, 3) := by decide +kernel
theorem dL_law_524 : decode cL_law 524 = .ok (.if_icmp .eq 324, 3) := by decide +kernel
theorem dL_law_527 : decode cL_law 527 = .ok (.iconst 0, 1) := by decide +kernel
theorem dL_law_528 : decode cL_law 528 = .ok (.ireturn, 1) := by decide +kernel
theorem dL_law_529 : decode cL_law 529 = .ok (.aload_n 1, 1) := by decide +kernel
theorem dL_law_530 : decode cL_law 530 = .ok (.aload_n 0, 1) := by decide +kernel
theorem dL_law_531 : decode cL_law 531 = .ok (.iload_n 3, 1) := by decide +kernel
theorem dL_law_532 : decode cL_law 532 = .ok (.iconst 1, 1) := by decide +kernel
theorem dL_law_533 : decode cL_law 533 = .ok (.iadd, 1) := by decide +kernel
theorem dL_law_534 : decode cL_law 534 = .ok (.iaload, 1) := by decide +kernel
theorem dL_law_535 : decode cL_law 535 = .ok (.aload_n 0, 1) := by decide +kernel
theorem dL_law_536 : decode cL_law 536 = .ok (.iload_n 3, 1) := by decide +kernel
theorem dL_law_537 : decode cL_law 537 = .ok (.iconst 2, 1) := by decide +kernel
theorem dL_law_538 : decode cL_law 538 = .ok (.iadd, 1) := by decide +kernel
theorem dL_law_539 : decode cL_law 539 = .ok (.iaload, 1) := by decide +kernel
theorem dL_law_540 : decode cL_law 540 = .ok (.ifCond .eq 7, 3) := by decide +kernel
theorem dL_law_543 : decode cL_law 543 = .ok (.iconst 1, 1) := by decide +kernel
theorem dL_law_544 : decode cL_law 544 = .ok (.goto 4, 3) := by decide +kernel
theorem dL_law_547 : decode cL_law 547 = .ok (.iconst 0, 1) := by decide +kernel
theorem dL_law_548 : decode cL_law 548 = .ok (.invokevirtual 71, 3) := by decide +kernel
theorem dL_law_551 : decode cL_law 551 = .ok (.aload_n 2, 1) := by decide +kernel
theorem dL_law_552 : decode cL_law 552 = .ok (.aload_n 0, 1) := by decide +kernel
theorem dL_law_553 : decode cL_law 553 = .ok (.iload_n 3, 1) := by decide +kernel
theorem dL_law_554 : decode cL_law 554 = .ok (.iconst 1, 1) := by decide +kernel
theorem dL_law_555 : decode cL_law 555 = .ok (.iadd, 1) := by decide +kernel
theorem dL_law_556 : decode cL_law 556 = .ok (.iaload, 1) := by decide +kernel
theorem dL_law_557 : decode cL_law 557 = .ok (.aload_n 0, 1) := by decide +kernel
theorem dL_law_558 : decode cL_law 558 = .ok (.iload_n 3, 1) := by decide +kernel
theorem dL_law_559 : decode cL_law 559 = .ok (.iconst 2, 1) := by decide +kernel
theorem dL_law_560 : decode cL_law 560 = .ok (.iadd, 1) := by decide +kernel
theorem dL_law_561 : decode cL_law 561 = .ok (.iaload, 1) := by decide +kernel
theorem dL_law_562 : decode cL_law 562 = .ok (.ifCond .eq 7, 3) := by decide +kernel
theorem dL_law_565 : decode cL_law 565 = .ok (.iconst 1, 1) := by decide +kernel
theorem dL_law_566 : decode cL_law 566 = .ok (.goto 4, 3) := by decide +kernel
theorem dL_law_569 : decode cL_law 569 = .ok (.iconst 0, 1) := by decide +kernel
theorem dL_law_570 : decode cL_law 570 = .ok (.invokevirtual 74, 3) := by decide +kernel
theorem dL_law_573 : decode cL_law 573 = .ok (.if_icmp .eq 275, 3) := by decide +kernel
theorem dL_law_576 : decode cL_law 576 = .ok (.iconst 0, 1) := by decide +kernel
theorem dL_law_577 : decode cL_law 577 = .ok (.ireturn, 1) := by decide +kernel
theorem dL_law_578 : decode cL_law 578 = .ok (.aload_n 1, 1) := by decide +kernel
theorem dL_law_579 : decode cL_law 579 = .ok (.aload_n 0, 1) := by decide +kernel
theorem dL_law_580 : decode cL_law 580 = .ok (.iload_n 3, 1) := by decide +kernel
theorem dL_law_581 : decode cL_law 581 = .ok (.iconst 1, 1) := by decide +kernel
theorem dL_law_582 : decode cL_law 582 = .ok (.iadd, 1) := by decide +kernel
theorem dL_law_583 : decode cL_law 583 = .ok (.iaload, 1) := by decide +kernel
theorem dL_law_584 : decode cL_law 584 = .ok (.aload_n 0, 1) := by decide +kernel
theorem dL_law_585 : decode cL_law 585 = .ok (.iload_n 3, 1) := by decide +kernel
theorem dL_law_586 : decode cL_law 586 = .ok (.iconst 2, 1) := by decide +kernel
theorem dL_law_587 : decode cL_law 587 = .ok (.iadd, 1) := by decide +kernel
theorem dL_law_588 : decode cL_law 588 = .ok (.iaload, 1) := by decide +kernel
theorem dL_law_589 : decode cL_law 589 = .ok (.aload_n 0, 1) := by decide +kernel
theorem dL_law_590 : decode cL_law 590 = .ok (.iload_n 3, 1) := by decide +kernel
theorem dL_law_591 : decode cL_law 591 = .ok (.iconst 3, 1) := by decide +kernel
theorem dL_law_592 : decode cL_law 592 = .ok (.iadd, 1) := by decide +kernel
theorem dL_law_593 : decode cL_law 593 = .ok (.iaload, 1) := by decide +kernel
theorem dL_law_594 : decode cL_law 594 = .ok (.invokevirtual 75, 3) := by decide +kernel
theorem dL_law_597 : decode cL_law 597 = .ok (.aload_n 2, 1) := by decide +kernel
theorem dL_law_598 : decode cL_law 598 = .ok (.aload_n 0, 1) := by decide +kernel
theorem dL_law_599 : decode cL_law 599 = .ok (.iload_n 3, 1) := by decide +kernel
theorem dL_law_600 : decode cL_law 600 = .ok (.iconst 1, 1) := by decide +kernel
theorem dL_law_601 : decode cL_law 601 = .ok (.iadd, 1) := by decide +kernel
theorem dL_law_602 : decode cL_law 602 = .ok (.iaload, 1) := by decide +kernel
theorem dL_law_603 : decode cL_law 603 = .ok (.aload_n 0, 1) := by decide +kernel
theorem dL_law_604 : decode cL_law 604 = .ok (.iload_n 3, 1) := by decide +kernel
theorem dL_law_605 : decode cL_law 605 = .ok (.iconst 2, 1) := by decide +kernel
theorem dL_law_606 : decode cL_law 606 = .ok (.iadd, 1) := by decide +kernel
theorem dL_law_607 : decode cL_law 607 = .ok (.iaload, 1) := by decide +kernel
theorem dL_law_608 : decode cL_law 608 = .ok (.aload_n 0, 1) := by decide +kernel
theorem dL_law_609 : decode cL_law 609 = .ok (.iload_n 3, 1) := by decide +kernel
theorem dL_law_610 : decode cL_law 610 = .ok (.iconst 3, 1) := by decide +kernel
theorem dL_law_611 : decode cL_law 611 = .ok (.iadd, 1) := by decide +kernel
theorem dL_law_612 : decode cL_law 612 = .ok (.iaload, 1) := by decide +kernel
theorem dL_law_613 : decode cL_law 613 = .ok (.invokevirtual 79, 3) := by decide +kernel
theorem dL_law_616 : decode cL_law 616 = .ok (.if_icmp .eq 232, 3) := by decide +kernel
theorem dL_law_619 : decode cL_law 619 = .ok (.iconst 0, 1) := by decide +kernel
theorem dL_law_620 : decode cL_law 620 = .ok (.ireturn, 1) := by decide +kernel
theorem dL_law_621 : decode cL_law 621 = .ok (.aload_n 1, 1) := by decide +kernel
theorem dL_law_622 : decode cL_law 622 = .ok (.aload_n 0, 1) := by decide +kernel
theorem dL_law_623 : decode cL_law 623 = .ok (.iload_n 3, 1) := by decide +kernel
theorem dL_law_624 : decode cL_law 624 = .ok (.iconst 1, 1) := by decide +kernel
theorem dL_law_625 : decode cL_law 625 = .ok (.iadd, 1) := by decide +kernel
theorem dL_law_626 : decode cL_law 626 = .ok (.iaload, 1) := by decide +kernel
theorem dL_law_627 : decode cL_law 627 = .ok (.aload_n 0, 1) := by decide +kernel
theorem dL_law_628 : decode cL_law 628 = .ok (.iload_n 3, 1) := by decide +kernel
theorem dL_law_629 : decode cL_law 629 = .ok (.iconst 2, 1) := by decide +kernel
theorem dL_law_630 : decode cL_law 630 = .ok (.iadd, 1) := by decide +kernel
theorem dL_law_631 : decode cL_law 631 = .ok (.iaload, 1) := by decide +kernel
theorem dL_law_632 : decode cL_law 632 = .ok (.invokevirtual 80, 3) := by decide +kernel
theorem dL_law_635 : decode cL_law 635 = .ok (.aload_n 2, 1) := by decide +kernel
theorem dL_law_636 : decode cL_law 636 = .ok (.aload_n 0, 1) := by decide +kernel
theorem dL_law_637 : decode cL_law 637 = .ok (.iload_n 3, 1) := by decide +kernel
theorem dL_law_638 : decode cL_law 638 = .ok (.iconst 1, 1) := by decide +kernel
theorem dL_law_639 : decode cL_law 639 = .ok (.iadd, 1) := by decide +kernel
theorem dL_law_640 : decode cL_law 640 = .ok (.iaload, 1) := by decide +kernel
theorem dL_law_641 : decode cL_law 641 = .ok (.aload_n 0, 1) := by decide +kernel
theorem dL_law_642 : decode cL_law 642 = .ok (.iload_n 3, 1) := by decide +kernel
theorem dL_law_643 : decode cL_law 643 = .ok (.iconst 2, 1) := by decide +kernel
theorem dL_law_644 : decode cL_law 644 = .ok (.iadd, 1) := by decide +kernel
theorem dL_law_645 : decode cL_law 645 = .ok (.iaload, 1) := by decide +kernel
theorem dL_law_646 : decode cL_law 646 = .ok (.invokevirtual 84, 3) := by decide +kernel
theorem dL_law_649 : decode cL_law 649 = .ok (.if_icmp .eq 199, 3) := by decide +kernel
theorem dL_law_652 : decode cL_law 652 = .ok (.iconst 0, 1) := by decide +kernel
theorem dL_law_653 : decode cL_law 653 = .ok (.ireturn, 1) := by decide +kernel
theorem dL_law_654 : decode cL_law 654 = .ok (.aload_n 1, 1) := by decide +kernel
theorem dL_law_655 : decode cL_law 655 = .ok (.aload_n 0, 1) := by decide +kernel
theorem dL_law_656 : decode cL_law 656 = .ok (.iload_n 3, 1) := by decide +kernel
theorem dL_law_657 : decode cL_law 657 = .ok (.iconst 1, 1) := by decide +kernel
theorem dL_law_658 : decode cL_law 658 = .ok (.iadd, 1) := by decide +kernel
theorem dL_law_659 : decode cL_law 659 = .ok (.iaload, 1) := by decide +kernel
theorem dL_law_660 : decode cL_law 660 = .ok (.invokevirtual 85, 3) := by decide +kernel
theorem dL_law_663 : decode cL_law 663 = .ok (.aload_n 2, 1) := by decide +kernel
theorem dL_law_664 : decode cL_law 664 = .ok (.aload_n 0, 1) := by decide +kernel
theorem dL_law_665 : decode cL_law 665 = .ok (.iload_n 3, 1) := by decide +kernel
theorem dL_law_666 : decode cL_law 666 = .ok (.iconst 1, 1) := by decide +kernel
theorem dL_law_667 : decode cL_law 667 = .ok (.iadd, 1) := by decide +kernel
theorem dL_law_668 : decode cL_law 668 = .ok (.iaload, 1) := by decide +kernel
theorem dL_law_669 : decode cL_law 669 = .ok (.invokevirtual 88, 3) := by decide +kernel
theorem dL_law_672 : decode cL_law 672 = .ok (.if_icmp .eq 176, 3) := by decide +kernel
theorem dL_law_675 : decode cL_law 675 = .ok (.iconst 0, 1) := by decide +kernel
theorem dL_law_676 : decode cL_law 676 = .ok (.ireturn, 1) := by decide +kernel
theorem dL_law_677 : decode cL_law 677 = .ok (.aload_n 1, 1) := by decide +kernel
theorem dL_law_678 : decode cL_law 678 = .ok (.aload_n 0, 1) := by decide +kernel
theorem dL_law_679 : decode cL_law 679 = .ok (.iload_n 3, 1) := by decide +kernel
theorem dL_law_680 : decode cL_law 680 = .ok (.iconst 1, 1) := by decide +kernel
theorem dL_law_681 : decode cL_law 681 = .ok (.iadd, 1) := by decide +kernel
theorem dL_law_682 : decode cL_law 682 = .ok (.iaload, 1) := by decide +kernel
theorem dL_law_683 : decode cL_law 683 = .ok (.invokevirtual 89, 3) := by decide +kernel
theorem dL_law_686 : decode cL_law 686 = .ok (.aload_n 2, 1) := by decide +kernel
theorem dL_law_687 : decode cL_law 687 = .ok (.aload_n 0, 1) := by decide +kernel
theorem dL_law_688 : decode cL_law 688 = .ok (.iload_n 3, 1) := by decide +kernel
theorem dL_law_689 : decode cL_law 689 = .ok (.iconst 1, 1) := by decide +kernel
theorem dL_law_690 : decode cL_law 690 = .ok (.iadd, 1) := by decide +kernel
theorem dL_law_691 : decode cL_law 691 = .ok (.iaload, 1) := by decide +kernel
theorem dL_law_692 : decode cL_law 692 = .ok (.invokevirtual 92, 3) := by decide +kernel
theorem dL_law_695 : decode cL_law 695 = .ok (.if_icmp .eq 153, 3) := by decide +kernel
theorem dL_law_698 : decode cL_law 698 = .ok (.iconst 0, 1) := by decide +kernel
theorem dL_law_699 : decode cL_law 699 = .ok (.ireturn, 1) := by decide +kernel
theorem dL_law_700 : decode cL_law 700 = .ok (.aload_n 1, 1) := by decide +kernel
theorem dL_law_701 : decode cL_law 701 = .ok (.aload_n 0, 1) := by decide +kernel
theorem dL_law_702 : decode cL_law 702 = .ok (.iload_n 3, 1) := by decide +kernel
theorem dL_law_703 : decode cL_law 703 = .ok (.iconst 1, 1) := by decide +kernel
theorem dL_law_704 : decode cL_law 704 = .ok (.iadd, 1) := by decide +kernel
theorem dL_law_705 : decode cL_law 705 = .ok (.iaload, 1) := by decide +kernel
theorem dL_law_706 : decode cL_law 706 = .ok (.aload_n 0, 1) := by decide +kernel
theorem dL_law_707 : decode cL_law 707 = .ok (.iload_n 3, 1) := by decide +kernel
theorem dL_law_708 : decode cL_law 708 = .ok (.iconst 2, 1) := by decide +kernel
theorem dL_law_709 : decode cL_law 709 = .ok (.iadd, 1) := by decide +kernel
theorem dL_law_710 : decode cL_law 710 = .ok (.iaload, 1) := by decide +kernel
theorem dL_law_711 : decode cL_law 711 = .ok (.invokevirtual 93, 3) := by decide +kernel
theorem dL_law_714 : decode cL_law 714 = .ok (.aload_n 2, 1) := by decide +kernel
theorem dL_law_715 : decode cL_law 715 = .ok (.aload_n 0, 1) := by decide +kernel
theorem dL_law_716 : decode cL_law 716 = .ok (.iload_n 3, 1) := by decide +kernel
theorem dL_law_717 : decode cL_law 717 = .ok (.iconst 1, 1) := by decide +kernel
theorem dL_law_718 : decode cL_law 718 = .ok (.iadd, 1) := by decide +kernel
theorem dL_law_719 : decode cL_law 719 = .ok (.iaload, 1) := by decide +kernel
theorem dL_law_720 : decode cL_law 720 = .ok (.aload_n 0, 1) := by decide +kernel
theorem dL_law_721 : decode cL_law 721 = .ok (.iload_n 3, 1) := by decide +kernel
theorem dL_law_722 : decode cL_law 722 = .ok (.iconst 2, 1) := by decide +kernel
theorem dL_law_723 : decode cL_law 723 = .ok (.iadd, 1) := by decide +kernel
theorem dL_law_724 : decode cL_law 724 = .ok (.iaload, 1) := by decide +kernel
theorem dL_law_725 : decode cL_law 725 = .ok (.invokevirtual 96, 3) := by decide +kernel
theorem dL_law_728 : decode cL_law 728 = .ok (.if_icmp .eq 120, 3) := by decide +kernel
theorem dL_law_731 : decode cL_law 731 = .ok (.iconst 0, 1) := by decide +kernel
theorem dL_law_732 : decode cL_law 732 = .ok (.ireturn, 1) := by decide +kernel
theorem dL_law_733 : decode cL_law 733 = .ok (.aload_n 1, 1) := by decide +kernel
theorem dL_law_734 : decode cL_law 734 = .ok (.invokevirtual 97, 3) := by decide +kernel
theorem dL_law_737 : decode cL_law 737 = .ok (.aload_n 2, 1) := by decide +kernel
theorem dL_law_738 : decode cL_law 738 = .ok (.invokevirtual 100, 3) := by decide +kernel
theorem dL_law_741 : decode cL_law 741 = .ok (.if_icmp .eq 107, 3) := by decide +kernel
theorem dL_law_744 : decode cL_law 744 = .ok (.iconst 0, 1) := by decide +kernel
theorem dL_law_745 : decode cL_law 745 = .ok (.ireturn, 1) := by decide +kernel
theorem dL_law_746 : decode cL_law 746 = .ok (.aload_n 1, 1) := by decide +kernel
theorem dL_law_747 : decode cL_law 747 = .ok (.aload_n 0, 1) := by decide +kernel
theorem dL_law_748 : decode cL_law 748 = .ok (.iload_n 3, 1) := by decide +kernel
theorem dL_law_749 : decode cL_law 749 = .ok (.iconst 1, 1) := by decide +kernel
theorem dL_law_750 : decode cL_law 750 = .ok (.iadd, 1) := by decide +kernel
theorem dL_law_751 : decode cL_law 751 = .ok (.iaload, 1) := by decide +kernel
theorem dL_law_752 : decode cL_law 752 = .ok (.aload_n 0, 1) := by decide +kernel
theorem dL_law_753 : decode cL_law 753 = .ok (.iload_n 3, 1) := by decide +kernel
theorem dL_law_754 : decode cL_law 754 = .ok (.iconst 2, 1) := by decide +kernel
theorem dL_law_755 : decode cL_law 755 = .ok (.iadd, 1) := by decide +kernel
theorem dL_law_756 : decode cL_law 756 = .ok (.iaload, 1) := by decide +kernel
theorem dL_law_757 : decode cL_law 757 = .ok (.aload_n 0, 1) := by decide +kernel
theorem dL_law_758 : decode cL_law 758 = .ok (.iload_n 3, 1) := by decide +kernel
theorem dL_law_759 : decode cL_law 759 = .ok (.iconst 3, 1) := by decide +kernel
theorem dL_law_760 : decode cL_law 760 = .ok (.iadd, 1) := by decide +kernel
theorem dL_law_761 : decode cL_law 761 = .ok (.iaload, 1) := by decide +kernel
theorem dL_law_762 : decode cL_law 762 = .ok (.invokevirtual 101, 3) := by decide +kernel
theorem dL_law_765 : decode cL_law 765 = .ok (.aload_n 2, 1) := by decide +kernel
theorem dL_law_766 : decode cL_law 766 = .ok (.aload_n 0, 1) := by decide +kernel
theorem dL_law_767 : decode cL_law 767 = .ok (.iload_n 3, 1) := by decide +kernel
theorem dL_law_768 : decode cL_law 768 = .ok (.iconst 1, 1) := by decide +kernel
theorem dL_law_769 : decode cL_law 769 = .ok (.iadd, 1) := by decide +kernel
theorem dL_law_770 : decode cL_law 770 = .ok (.iaload, 1) := by decide +kernel
theorem dL_law_771 : decode cL_law 771 = .ok (.aload_n 0, 1) := by decide +kernel
theorem dL_law_772 : decode cL_law 772 = .ok (.iload_n 3, 1) := by decide +kernel
theorem dL_law_773 : decode cL_law 773 = .ok (.iconst 2, 1) := by decide +kernel
theorem dL_law_774 : decode cL_law 774 = .ok (.iadd, 1) := by decide +kernel
theorem dL_law_775 : decode cL_law 775 = .ok (.iaload, 1) := by decide +kernel
theorem dL_law_776 : decode cL_law 776 = .ok (.aload_n 0, 1) := by decide +kernel
theorem dL_law_777 : decode cL_law 777 = .ok (.iload_n 3, 1) := by decide +kernel
theorem dL_law_778 : decode cL_law 778 = .ok (.iconst 3, 1) := by decide +kernel
theorem dL_law_779 : decode cL_law 779 = .ok (.iadd, 1) := by decide +kernel
theorem dL_law_780 : decode cL_law 780 = .ok (.iaload, 1) := by decide +kernel
theorem dL_law_781 : decode cL_law 781 = .ok (.invokevirtual 105, 3) := by decide +kernel
theorem dL_law_784 : decode cL_law 784 = .ok (.if_icmp .eq 64, 3) := by decide +kernel
theorem dL_law_787 : decode cL_law 787 = .ok (.iconst 0, 1) := by decide +kernel
theorem dL_law_788 : decode cL_law 788 = .ok (.ireturn, 1) := by decide +kernel
theorem dL_law_789 : decode cL_law 789 = .ok (.aload_n 1, 1) := by decide +kernel
theorem dL_law_790 : decode cL_law 790 = .ok (.aload_n 0, 1) := by decide +kernel
theorem dL_law_791 : decode cL_law 791 = .ok (.iload_n 3, 1) := by decide +kernel
theorem dL_law_792 : decode cL_law 792 = .ok (.iconst 1, 1) := by decide +kernel
theorem dL_law_793 : decode cL_law 793 = .ok (.iadd, 1) := by decide +kernel
theorem dL_law_794 : decode cL_law 794 = .ok (.iaload, 1) := by decide +kernel
theorem dL_law_795 : decode cL_law 795 = .ok (.invokevirtual 106, 3) := by decide +kernel
theorem dL_law_798 : decode cL_law 798 = .ok (.aload_n 2, 1) := by decide +kernel
theorem dL_law_799 : decode cL_law 799 = .ok (.aload_n 0, 1) := by decide +kernel
theorem dL_law_800 : decode cL_law 800 = .ok (.iload_n 3, 1) := by decide +kernel
theorem dL_law_801 : decode cL_law 801 = .ok (.iconst 1, 1) := by decide +kernel
theorem dL_law_802 : decode cL_law 802 = .ok (.iadd, 1) := by decide +kernel
theorem dL_law_803 : decode cL_law 803 = .ok (.iaload, 1) := by decide +kernel
theorem dL_law_804 : decode cL_law 804 = .ok (.invokevirtual 109, 3) := by decide +kernel
theorem dL_law_807 : decode cL_law 807 = .ok (.if_icmp .eq 41, 3) := by decide +kernel
theorem dL_law_810 : decode cL_law 810 = .ok (.iconst 0, 1) := by decide +kernel
theorem dL_law_811 : decode cL_law 811 = .ok (.ireturn, 1) := by decide +kernel
theorem dL_law_812 : decode cL_law 812 = .ok (.aload_n 1, 1) := by decide +kernel
theorem dL_law_813 : decode cL_law 813 = .ok (.invokevirtual 110, 3) := by decide +kernel
theorem dL_law_816 : decode cL_law 816 = .ok (.aload_n 2, 1) := by decide +kernel
theorem dL_law_817 : decode cL_law 817 = .ok (.invokevirtual 113, 3) := by decide +kernel
theorem dL_law_820 : decode cL_law 820 = .ok (.if_icmp .eq 28, 3) := by decide +kernel
theorem dL_law_823 : decode cL_law 823 = .ok (.iconst 0, 1) := by decide +kernel
theorem dL_law_824 : decode cL_law 824 = .ok (.ireturn, 1) := by decide +kernel
theorem dL_law_825 : decode cL_law 825 = .ok (.aload_n 1, 1) := by decide +kernel
theorem dL_law_826 : decode cL_law 826 = .ok (.aload_n 0, 1) := by decide +kernel
theorem dL_law_827 : decode cL_law 827 = .ok (.iload_n 3, 1) := by decide +kernel
theorem dL_law_828 : decode cL_law 828 = .ok (.iconst 1, 1) := by decide +kernel
theorem dL_law_829 : decode cL_law 829 = .ok (.iadd, 1) := by decide +kernel
theorem dL_law_830 : decode cL_law 830 = .ok (.iaload, 1) := by decide +kernel
theorem dL_law_831 : decode cL_law 831 = .ok (.invokevirtual 114, 3) := by decide +kernel
theorem dL_law_834 : decode cL_law 834 = .ok (.aload_n 2, 1) := by decide +kernel
theorem dL_law_835 : decode cL_law 835 = .ok (.aload_n 0, 1) := by decide +kernel
theorem dL_law_836 : decode cL_law 836 = .ok (.iload_n 3, 1) := by decide +kernel
theorem dL_law_837 : decode cL_law 837 = .ok (.iconst 1, 1) := by decide +kernel
theorem dL_law_838 : decode cL_law 838 = .ok (.iadd, 1) := by decide +kernel
theorem dL_law_839 : decode cL_law 839 = .ok (.iaload, 1) := by decide +kernel
theorem dL_law_840 : decode cL_law 840 = .ok (.invokevirtual 117, 3) := by decide +kernel
theorem dL_law_843 : decode cL_law 843 = .ok (.if_icmp .eq 5, 3) := by decide +kernel
theorem dL_law_846 : decode cL_law 846 = .ok (.iconst 0, 1) := by decide +kernel
theorem dL_law_847 : decode cL_law 847 = .ok (.ireturn, 1) := by decide +kernel
theorem dL_law_848 : decode cL_law 848 = .ok (.iinc 3 6, 3) := by decide +kernel
theorem dL_law_851 : decode cL_law 851 = .ok (.goto (-833), 3) := by decide +kernel
theorem dL_law_854 : decode cL_law 854 = .ok (.iconst 1, 1) := by decide +kernel
theorem dL_law_855 : decode cL_law 855 = .ok (.ireturn, 1) := by decide +kernel
end
section
/-! memory of the two sides: a field (or a row) by its number, a member (or a place) by its number -/
abbrev Me : Type := Nat → Nat → Int32
def mu (x : Me) (f i : Nat) (v : Int32) : Me := fun f' i' => if f' = f then (if i' = i then v else x f i') else x f' i'
def inb (i : Int32) (n : Nat) : Bool := !(decide (i < 0) || decide (n ≤ i.toNatClampNeg))
theorem inb_in {i : Int32} {n : Nat} (h : inb i n = true) : vp_in i n := by
  intro q
  rcases q with q | q
  · simp [inb, q] at h
  · simp [inb, q] at h
theorem inb_lt {i : Int32} {n : Nat} (h : inb i n = true) : i.toNatClampNeg < n := Nat.not_le.mp fun q => inb_in h (Or.inr q)
def ob {α ρ : Type} (o : Option (Me × α)) (k : Me → α → Option ρ) : Option ρ := match o with
  | none => none
  | some q => k q.1 q.2
theorem ob_some {α ρ : Type} {o : Option (Me × α)} {k : Me → α → Option ρ} {v : ρ} (h : ob o k = some v) : ∃ (x : Me) (a : α), o = some (x, a) ∧ k x a = some v := by
  cases o with
  | none => cases h
  | some q => exact ⟨q.1, q.2, rfl, h⟩
def jn {α ρ : Type} (j : α) (k : α → ρ) : ρ := k j
theorem i_t {c : Prop} [Decidable c] {ρ : Type} {a b v : ρ} (h : (if c then a else b) = v) (hc : c) : a = v := by rw [if_pos hc] at h; exact h
theorem i_f {c : Prop} [Decidable c] {ρ : Type} {a b v : ρ} (h : (if c then a else b) = v) (hc : ¬ c) : b = v := by rw [if_neg hc] at h; exact h
theorem i_n {c : Prop} [Decidable c] {ρ : Type} {a : Option ρ} {v : ρ} (h : (if c then a else none) = some v) : c ∧ a = some v := by
  by_cases hc : c
  · rw [if_pos hc] at h; exact ⟨hc, h⟩
  · rw [if_neg hc] at h; cases h
/-- what is fixed of the worlds: the cells that are ours, the classes' numbers, the cells' addresses, the rows' classes, static rows, text constants -/
abbrev GG : Type := (Nat → Prop) × va_G × (Nat → Nat) × (Nat → ClassId) × (Nat → Nat) × (Nat → Nat) × (Nat → Nat)
def gA (G : GG) : Nat → Prop := G.1
def gD (G : GG) : va_G := G.2.1
def ga (G : GG) : Nat → Nat := G.2.2.1
def gc (G : GG) : Nat → ClassId := G.2.2.2.1
def gs (G : GG) : Nat → Nat := G.2.2.2.2.1
def gk (G : GG) : Nat → Nat := G.2.2.2.2.2.1
def gv (G : GG) : Nat → Nat := G.2.2.2.2.2.2
/-- the objects' fields -/
def oX10 (G : GG) (x : Me) : List Value := [.ref (ga G 1), .ref (ga G 4), .ref (ga G 7), .ref (ga G 9), .ref (ga G 14), .ref (ga G 19), .ref (ga G 36), .ref (ga G 40), .int (x 1 0), .int (x 2 0)]
def oX7 (G : GG) (x : Me) : List Value := [.ref (ga G 2), .int (x 4 0), .int (x 5 0), .int (x 6 0), .ref (ga G 3), .int (x 8 0), .int (x 9 0)]
def oX6 (G : GG) (x : Me) : List Value := [.int (x 10 0), .ref (ga G 5), .ref (ga G 6)]
def oX8 (G : GG) (x : Me) : List Value := [.int (x 13 0), .ref (ga G 8)]
def oX5 (G : GG) (x : Me) : List Value := [.int (x 15 0), .ref (ga G 10), .ref (ga G 11), .ref (ga G 12), .ref (ga G 13)]
def oX3 (G : GG) (x : Me) : List Value := [.int (x 20 0), .ref (ga G 15), .ref (ga G 16), .ref (ga G 17), .ref (ga G 18)]
def oX1 (G : GG) (x : Me) : List Value := [.int (x 45 0), .ref (ga G 37), .ref (ga G 38), .ref (ga G 39)]
def oX2 (G : GG) (x : Me) : List Value := [.int (x 25 0), .ref (ga G 20), .ref (ga G 21), .ref (ga G 22), .int (x 29 0), .ref (ga G 23), .ref (ga G 24), .ref (ga G 25), .int (x 31 0), .int (x 32 0), .int (x 33 0), .int (x 34 0), .int (x 35 0), .int (x 36 0)]
def oX0 (x : Me) (i : Nat) : List Value := [.int (x 49 i)]
def oX4 (x : Me) (i : Nat) : List Value := [.int (x 37 i), .int (x 38 i), .int (x 39 i), .int (x 40 i), .int (x 41 i), .int (x 42 i), .int (x 43 i), .int (x 44 i)]
def oX9 (x : Me) (i : Nat) : List Value := [.int (x 50 i), .int (x 51 i), .int (x 52 i), .int (x 53 i), .int (x 54 i), .int (x 55 i)]
def oX11 (G : GG) (x : Me) : List Value := [.int (x 0 0), .ref (ga G 42), .int (x 2 0), .int (x 3 0), .int (x 4 0), .ref (ga G 43), .ref (ga G 44), .int (x 7 0), .int (x 8 0), .int (x 9 0), .int (x 10 0), .int (x 11 0), .int (x 12 0), .int (x 13 0), .int (x 14 0), .int (x 15 0), .int (x 16 0), .int (x 17 0), .ref (ga G 45), .ref (ga G 46), .ref (ga G 47), .ref (ga G 48), .ref (ga G 49), .ref (ga G 50), .ref (ga G 51), .ref (ga G 52), .int (x 26 0), .ref (ga G 53), .ref (ga G 54), .int (x 29 0), .int (x 30 0), .ref (ga G 55), .ref (ga G 56), .ref (ga G 57), .int (x 34 0), .int (x 35 0), .ref (ga G 58), .ref (ga G 59), .ref (ga G 60), .ref (ga G 61), .ref (ga G 62), .ref (ga G 63), .ref (ga G 64), .int (x 43 0), .int (x 44 0), .int (x 45 0), .int (x 46 0), .int (x 47 0), .int (x 48 0), .ref (ga G 65), .ref (ga G 66), .ref (ga G 67), .ref (ga G 68), .int (x 53 0)]
/-- the cells of the first, of the second, the wards -/
def mwX (G : GG) (nw : Nat) (x : Me) : va_W := [(ga G 0, .inr (10, oX10 G x)), (ga G 1, .inr (7, oX7 G x)), (ga G 2, .inl (gc G 0, 600, .inl (x 3))), (ga G 3, .inl (gc G 1, 7, .inl (x 7))), (ga G 4, .inr (6, oX6 G x)), (ga G 5, .inl (gc G 1, 10, .inl (x 11))), (ga G 6, .inl (gc G 1, 70, .inl (x 12))), (ga G 7, .inr (8, oX8 G x)), (ga G 8, .inl (gc G 4, 17, .inr (.inr (.inr (.inr (fun j => if j < nw then some (ga G (69 + j)) else none)))))), (ga G 9, .inr (5, oX5 G x)), (ga G 10, .inl (gc G 1, 16, .inl (x 16))), (ga G 11, .inl (gc G 2, 16, .inl (x 17))), (ga G 12, .inl (gc G 1, 10, .inl (x 18))), (ga G 13, .inl (gc G 1, 10, .inl (x 19))), (ga G 14, .inr (3, oX3 G x)), (ga G 15, .inl (gc G 1, 10, .inl (x 21))), (ga G 16, .inl (gc G 1, 10, .inl (x 22))), (ga G 17, .inl (gc G 1, 10, .inl (x 23))), (ga G 18, .inl (gc G 1, 10, .inl (x 24))), (ga G 19, .inr (2, oX2 G x)), (ga G 20, .inl (gc G 2, 60, .inl (x 26))), (ga G 21, .inl (gc G 1, 17, .inl (x 27))), (ga G 22, .inl (gc G 1, 17, .inl (x 28))), (ga G 23, .inl (gc G 3, 10, .inr (.inr (.inr (.inr (fun j => some (ga G (26 + j)))))))), (ga G 24, .inl (gc G 1, 10, .inl (x 30))), (ga G 25, .inr (0, oX0 x 1)), (ga G 26, .inr (4, oX4 x 0)), (ga G 27, .inr (4, oX4 x 1)), (ga G 28, .inr (4, oX4 x 2)), (ga G 29, .inr (4, oX4 x 3)), (ga G 30, .inr (4, oX4 x 4)), (ga G 31, .inr (4, oX4 x 5)), (ga G 32, .inr (4, oX4 x 6)), (ga G 33, .inr (4, oX4 x 7)), (ga G 34, .inr (4, oX4 x 8)), (ga G 35, .inr (4, oX4 x 9)), (ga G 36, .inr (1, oX1 G x)), (ga G 37, .inl (gc G 1, 40, .inl (x 46))), (ga G 38, .inl (gc G 1, 40, .inl (x 47))), (ga G 39, .inl (gc G 1, 40, .inl (x 48))), (ga G 40, .inr (0, oX0 x 0))]
def mwM (G : GG) (m : Me) : va_W := [(ga G 41, .inr (11, oX11 G m)), (ga G 42, .inl (gc G 1, 600, .inl (m 1))), (ga G 43, .inl (gc G 1, 10, .inl (m 5))), (ga G 44, .inl (gc G 1, 77, .inl (m 6))), (ga G 45, .inl (gc G 1, 17, .inl (m 18))), (ga G 46, .inl (gc G 1, 17, .inl (m 19))), (ga G 47, .inl (gc G 1, 17, .inl (m 20))), (ga G 48, .inl (gc G 1, 17, .inl (m 21))), (ga G 49, .inl (gc G 1, 17, .inl (m 22))), (ga G 50, .inl (gc G 2, 17, .inl (m 23))), (ga G 51, .inl (gc G 1, 17, .inl (m 24))), (ga G 52, .inl (gc G 1, 17, .inl (m 25))), (ga G 53, .inl (gc G 1, 16, .inl (m 27))), (ga G 54, .inl (gc G 2, 16, .inl (m 28))), (ga G 55, .inl (gc G 1, 10, .inl (m 31))), (ga G 56, .inl (gc G 1, 10, .inl (m 32))), (ga G 57, .inl (gc G 1, 10, .inl (m 33))), (ga G 58, .inl (gc G 2, 60, .inl (m 36))), (ga G 59, .inl (gc G 1, 17, .inl (m 37))), (ga G 60, .inl (gc G 1, 17, .inl (m 38))), (ga G 61, .inl (gc G 1, 17, .inl (m 39))), (ga G 62, .inl (gc G 2, 17, .inl (m 40))), (ga G 63, .inl (gc G 1, 17, .inl (m 41))), (ga G 64, .inl (gc G 1, 17, .inl (m 42))), (ga G 65, .inl (gc G 1, 17, .inl (m 49))), (ga G 66, .inl (gc G 1, 40, .inl (m 50))), (ga G 67, .inl (gc G 1, 40, .inl (m 51))), (ga G 68, .inl (gc G 1, 40, .inl (m 52)))]
def mwW (G : GG) (nw : Nat) (x : Me) : va_W := (List.range nw).map (fun j => (ga G (69 + j), .inr (9, oX9 x j)))
def mw (G : GG) (nw : Nat) (x m : Me) : va_W := mwX G nw x ++ (mwM G m ++ mwW G nw x)
def tyL (G : GG) : List (ClassId × FieldType) := [(gc G 0, .byte), (gc G 1, .int), (gc G 2, .boolean), (gc G 3, .object "RopeRace$Runner"), (gc G 4, .object "RopeRace$Ward")]
def MemP (G : GG) (nw : Nat) (x m : Me) (H : Heap) : Prop := va_P (gD G) vwCl (mw G nw x m) H ∧ va_D (gA G) (mw G nw x m)
def isNest : Cond → Bool
  | .fieldLinkNest _ _ _ _ _ _ => true
  | .methodLinkNest _ _ _ _ => true
  | _ => false
/-- the static rows -/
def tS : Nat → List Int32
  | 0 => [2, 1, 1, 0, 0, 0, 0]
  | 1 => [10, 5, 9, 1, 9, 9, 9]
  | _ => [3, 1, 9, 0, 0, 0, 0]
def nS : Nat → String
  | 0 => "LEAST_SAID"
  | 1 => "MOST_SAID"
  | _ => "UNTOLD"
/-- the texts -/
def txS : List String := ["run", "laps", "bend", "loose", "bar", "apart", "false", "run laps bend loose bar apart false "]
def bytS : List (List Int32) := [[114, 117, 110], [108, 97, 112, 115], [98, 101, 110, 100], [108, 111, 111, 115, 101], [98, 97, 114], [97, 112, 97, 114, 116], [102, 97, 108, 115, 101], [114, 117, 110, 32, 108, 97, 112, 115, 32, 98, 101, 110, 100, 32, 108, 111, 111, 115, 101, 32, 98, 97, 114, 32, 97, 112, 97, 114, 116, 32, 102, 97, 108, 115, 101, 32]]
def lenS : List Nat := [3, 4, 4, 5, 3, 5, 5, 36]
def EnvP (G : GG) (s : State) : Prop :=
  va_K (gD G) vwCl (tyL G) s ∧ (∀ w ∈ lw_tbl, (goodWord w || isNest w) = true → va_Nw w s) ∧ (∀ q, s.heap.size ≤ q → gA G q) ∧
  (∀ i, i < 3 → va_Z "RopeRace" (nS i) "[I" (.ref (gs G i)) (gA G) s s.heap ∧ va_T .int (gs G i) 7 (fun j => .int ((tS i).getD j 0)) (gA G) s s.heap) ∧
  va_Z "java/lang/String" "COMPACT_STRINGS" "Z" (.int 1) (gA G) s s.heap ∧ va_Zq "jdk/internal/util/Preconditions" "SIOOBE_FORMATTER" "Ljava/util/function/BiFunction;" (gA G) s s.heap ∧
  vk_S 8 lenS bytS (gk G) (gv G) (gA G) s s.heap ∧ (∀ i, i < 7 → vk_R "RopeRace$Tape" (92 + 2 * i) (txS.getD i "") (gk G i) s) ∧ vk_R "RopeRaceModel" 137 "run laps bend loose bar apart false " (gk G 7) s
theorem ew {G : GG} {s : State} {args : Array Value} {w : Cond} (hE : EnvP G s) (h : w ∈ lw_tbl) (hg : goodWord w = true) : w.before args s = true :=
  word_at (State.WarmedH.refl s) (good_of_word hg) (hE.2.1 w h (by rw [hg]; rfl))
theorem en_F {G : GG} {s : State} {args : Array Value} {a : String} {i : Nat} {b n d h : String} (hE : EnvP G s) (hw : Cond.fieldLinkNest a i b n d h ∈ lw_tbl) : (Cond.fieldLinkNest a i b n d h).before args s = true :=
  va_Nw.use rfl (hE.2.1 _ hw (by simp [isNest]))
theorem en_M {G : GG} {s : State} {a : String} {i : Nat} {y : MethodName} {h : String} (hE : EnvP G s) (hw : Cond.methodLinkNest a i y h ∈ lw_tbl) : va_Nw (Cond.methodLinkNest a i y h) s :=
  hE.2.1 _ hw (by simp [isNest])
theorem EnvP.move {G : GG} {s U : State} {H : Heap} {locs : List Loc} (hE : EnvP G s) (hW : s.WarmedH U.vm) (hU : U.heap = H) (hS : va_S (gA G) s.heap H locs) : EnvP G U := by
  obtain ⟨h1, h2, h3, h4, h5, h6, h7, h8, h9⟩ := hE
  have hk : ∀ a : Nat, a < s.heap.size → ¬ gA G a → U.heap[a]? = s.heap[a]? := fun a q r => by rw [hU]; exact hS.2.1 a q r
  refine ⟨va_K.moved hW.alike h1, fun w hw hg => ?_, fun q hq => h3 q (Nat.le_trans hS.1 (by rw [← hU]; exact hq)), fun i hi => ⟨va_Z.moved hW.alike ((h4 i hi).1.kept hk), va_T.moved hW.alike ((h4 i hi).2.kept hk)⟩, va_Z.moved hW.alike (h5.kept hk), va_Zq.moved hW.alike (h6.kept hk), vk_S.moved hW.alike (h7.kept hk), fun i hi => vk_R.warm hW (h8 i hi), vk_R.warm hW h9⟩
  cases hgw : goodWord w with
  | true => exact word_at hW (good_of_word hgw) (h2 w hw hg)
  | false =>
    rw [hgw] at hg
    have h0 := h2 w hw (by rw [hgw]; exact hg)
    cases w with
    | fieldLinkNest a i b n d h => exact va_Nw.warmF hW h0
    | methodLinkNest a i y h => exact va_Nw.warmM hW h0
    | _ => simp [isNest] at hg
theorem EnvP.calling {G : GG} {U : State} {g : JFrame} {mk : MethodId} {a : Array Value} (h : EnvP G U) : EnvP G (U.calling g mk a) := EnvP.move (U := U.calling g mk a) h (State.WarmedH.refl U) rfl va_S.rf
def Pre (G : GG) (nw : Nat) (x m : Me) : State → Prop := fun U => EnvP G U ∧ MemP G nw x m U.heap
abbrev PI (G : GG) (nw : Nat) (x m : Me) (r : Int32) : Array Value → State → Outcome → State → Prop := va_Qi (fun r' (_ : Unit) => r' = r) (fun _ t => MemP G nw x m t.heap) (gA G)
abbrev PV (G : GG) (nw : Nat) (x m : Me) : Array Value → State → Outcome → State → Prop := va_Qv (fun (_ : Unit) => True) (fun _ t => MemP G nw x m t.heap) (gA G)
abbrev PQ (G : GG) (nw : Nat) (x m : Me) (r : Option Nat) : Array Value → State → Outcome → State → Prop := va_Qq (fun r' (_ : Unit) => r' = r) (fun _ t => MemP G nw x m t.heap) (gA G)
end
