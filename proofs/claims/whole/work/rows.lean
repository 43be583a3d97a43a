section
-- ===== PART A: goes FIRST, ahead of the names: the tables' words, and 'selects' of the private methods out of them =====
/-- a private method of a class that the tables say can be made, by its rows of tables_1 -/
def lw_okq (q : MethodName × Nat) : Prop := (q.1.cls ≠ "java/lang/invoke/MethodHandle" ∧ q.1.cls ≠ "java/lang/invoke/VarHandle") ∧ Cond.instantiable q.1.cls q.2 ∈ tables_1 ∧ Cond.privateMethod q.1 ∈ tables_1 ∧ Cond.instanceMethod q.1 ∈ tables_1
theorem lw_p0 : lw_okq (⟨"RopeRace$Tape", "skipBlanks", "()V"⟩, 7) := ⟨⟨by decide +kernel, by decide +kernel⟩, List.mem_of_getElem? (i := 29) (by decide +kernel), List.mem_of_getElem? (i := 338) (by decide +kernel), List.mem_of_getElem? (i := 339) (by decide +kernel)⟩
theorem lw_p1 : lw_okq (⟨"RopeRace$Tape", "byteHere", "()I"⟩, 7) := ⟨⟨by decide +kernel, by decide +kernel⟩, List.mem_of_getElem? (i := 29) (by decide +kernel), List.mem_of_getElem? (i := 342) (by decide +kernel), List.mem_of_getElem? (i := 343) (by decide +kernel)⟩
theorem lw_p2 : lw_okq (⟨"RopeRace$Tape", "readLine", "()V"⟩, 7) := ⟨⟨by decide +kernel, by decide +kernel⟩, List.mem_of_getElem? (i := 29) (by decide +kernel), List.mem_of_getElem? (i := 346) (by decide +kernel), List.mem_of_getElem? (i := 347) (by decide +kernel)⟩
theorem lw_p3 : lw_okq (⟨"RopeRace$Tape", "takeWord", "()I"⟩, 7) := ⟨⟨by decide +kernel, by decide +kernel⟩, List.mem_of_getElem? (i := 29) (by decide +kernel), List.mem_of_getElem? (i := 350) (by decide +kernel), List.mem_of_getElem? (i := 351) (by decide +kernel)⟩
theorem lw_p4 : lw_okq (⟨"RopeRace$Tape", "spells", "(Ljava/lang/String;II)Z"⟩, 7) := ⟨⟨by decide +kernel, by decide +kernel⟩, List.mem_of_getElem? (i := 29) (by decide +kernel), List.mem_of_getElem? (i := 364) (by decide +kernel), List.mem_of_getElem? (i := 365) (by decide +kernel)⟩
theorem lw_p5 : lw_okq (⟨"RopeRace$Tape", "blame", "(II)V"⟩, 7) := ⟨⟨by decide +kernel, by decide +kernel⟩, List.mem_of_getElem? (i := 29) (by decide +kernel), List.mem_of_getElem? (i := 416) (by decide +kernel), List.mem_of_getElem? (i := 417) (by decide +kernel)⟩
theorem lw_p6 : lw_okq (⟨"RopeRace$Tape", "takeNumber", "()I"⟩, 7) := ⟨⟨by decide +kernel, by decide +kernel⟩, List.mem_of_getElem? (i := 29) (by decide +kernel), List.mem_of_getElem? (i := 420) (by decide +kernel), List.mem_of_getElem? (i := 421) (by decide +kernel)⟩
theorem lw_p7 : lw_okq (⟨"RopeRace$Tape", "takeLineEnd", "()V"⟩, 7) := ⟨⟨by decide +kernel, by decide +kernel⟩, List.mem_of_getElem? (i := 29) (by decide +kernel), List.mem_of_getElem? (i := 431) (by decide +kernel), List.mem_of_getElem? (i := 432) (by decide +kernel)⟩
theorem lw_p8 : lw_okq (⟨"RopeRace$Town", "longestAgo", "(I)I"⟩, 2) := ⟨⟨by decide +kernel, by decide +kernel⟩, List.mem_of_getElem? (i := 80) (by decide +kernel), List.mem_of_getElem? (i := 536) (by decide +kernel), List.mem_of_getElem? (i := 537) (by decide +kernel)⟩
theorem lw_p9 : lw_okq (⟨"RopeRace$Town", "freeAt", "(II)I"⟩, 2) := ⟨⟨by decide +kernel, by decide +kernel⟩, List.mem_of_getElem? (i := 80) (by decide +kernel), List.mem_of_getElem? (i := 545) (by decide +kernel), List.mem_of_getElem? (i := 546) (by decide +kernel)⟩
theorem lw_p10 : lw_okq (⟨"RopeRace$Stable", "fillTried", "(III)Z"⟩, 5) := ⟨⟨by decide +kernel, by decide +kernel⟩, List.mem_of_getElem? (i := 97) (by decide +kernel), List.mem_of_getElem? (i := 573) (by decide +kernel), List.mem_of_getElem? (i := 574) (by decide +kernel)⟩
theorem lw_p11 : lw_okq (⟨"RopeRace$Stable", "triedIsAhead", "(I)Z"⟩, 5) := ⟨⟨by decide +kernel, by decide +kernel⟩, List.mem_of_getElem? (i := 97) (by decide +kernel), List.mem_of_getElem? (i := 577) (by decide +kernel), List.mem_of_getElem? (i := 578) (by decide +kernel)⟩
theorem lw_p12 : lw_okq (⟨"RopeRace$Rope", "layOut", "([I)V"⟩, 5) := ⟨⟨by decide +kernel, by decide +kernel⟩, List.mem_of_getElem? (i := 123) (by decide +kernel), List.mem_of_getElem? (i := 590) (by decide +kernel), List.mem_of_getElem? (i := 591) (by decide +kernel)⟩
theorem lw_p13 : lw_okq (⟨"RopeRace$Rope", "takeLeft", "(I)I"⟩, 5) := ⟨⟨by decide +kernel, by decide +kernel⟩, List.mem_of_getElem? (i := 123) (by decide +kernel), List.mem_of_getElem? (i := 595) (by decide +kernel), List.mem_of_getElem? (i := 596) (by decide +kernel)⟩
theorem lw_p14 : lw_okq (⟨"RopeRace$Rope", "closeGap", "([II)V"⟩, 5) := ⟨⟨by decide +kernel, by decide +kernel⟩, List.mem_of_getElem? (i := 123) (by decide +kernel), List.mem_of_getElem? (i := 599) (by decide +kernel), List.mem_of_getElem? (i := 600) (by decide +kernel)⟩
theorem lw_p15 : lw_okq (⟨"RopeRace$Rope", "hasOther", "(I)Z"⟩, 5) := ⟨⟨by decide +kernel, by decide +kernel⟩, List.mem_of_getElem? (i := 123) (by decide +kernel), List.mem_of_getElem? (i := 652) (by decide +kernel), List.mem_of_getElem? (i := 653) (by decide +kernel)⟩
def lw_privs_1 : List (MethodName × Nat) := [(⟨"RopeRace$Tape", "skipBlanks", "()V"⟩, 7), (⟨"RopeRace$Tape", "byteHere", "()I"⟩, 7), (⟨"RopeRace$Tape", "readLine", "()V"⟩, 7), (⟨"RopeRace$Tape", "takeWord", "()I"⟩, 7), (⟨"RopeRace$Tape", "spells", "(Ljava/lang/String;II)Z"⟩, 7), (⟨"RopeRace$Tape", "blame", "(II)V"⟩, 7), (⟨"RopeRace$Tape", "takeNumber", "()I"⟩, 7), (⟨"RopeRace$Tape", "takeLineEnd", "()V"⟩, 7), (⟨"RopeRace$Town", "longestAgo", "(I)I"⟩, 2), (⟨"RopeRace$Town", "freeAt", "(II)I"⟩, 2), (⟨"RopeRace$Stable", "fillTried", "(III)Z"⟩, 5), (⟨"RopeRace$Stable", "triedIsAhead", "(I)Z"⟩, 5), (⟨"RopeRace$Rope", "layOut", "([I)V"⟩, 5), (⟨"RopeRace$Rope", "takeLeft", "(I)I"⟩, 5), (⟨"RopeRace$Rope", "closeGap", "([II)V"⟩, 5), (⟨"RopeRace$Rope", "hasOther", "(I)Z"⟩, 5)]
theorem lw_r1 : ∀ q ∈ lw_privs_1, lw_okq q := List.forall_mem_cons.mpr ⟨lw_p0, List.forall_mem_cons.mpr ⟨lw_p1, List.forall_mem_cons.mpr ⟨lw_p2, List.forall_mem_cons.mpr ⟨lw_p3, List.forall_mem_cons.mpr ⟨lw_p4, List.forall_mem_cons.mpr ⟨lw_p5, List.forall_mem_cons.mpr ⟨lw_p6, List.forall_mem_cons.mpr ⟨lw_p7, List.forall_mem_cons.mpr ⟨lw_p8, List.forall_mem_cons.mpr ⟨lw_p9, List.forall_mem_cons.mpr ⟨lw_p10, List.forall_mem_cons.mpr ⟨lw_p11, List.forall_mem_cons.mpr ⟨lw_p12, List.forall_mem_cons.mpr ⟨lw_p13, List.forall_mem_cons.mpr ⟨lw_p14, List.forall_mem_cons.mpr ⟨lw_p15, fun _ h => absurd h List.not_mem_nil⟩⟩⟩⟩⟩⟩⟩⟩⟩⟩⟩⟩⟩⟩⟩⟩
theorem lw_p16 : lw_okq (⟨"RopeRace$Rope", "moveToEnd", "(I)V"⟩, 5) := ⟨⟨by decide +kernel, by decide +kernel⟩, List.mem_of_getElem? (i := 123) (by decide +kernel), List.mem_of_getElem? (i := 665) (by decide +kernel), List.mem_of_getElem? (i := 666) (by decide +kernel)⟩
theorem lw_p17 : lw_okq (⟨"RopeRace", "startRace", "(I)V"⟩, 10) := ⟨⟨by decide +kernel, by decide +kernel⟩, List.mem_of_getElem? (i := 21) (by decide +kernel), List.mem_of_getElem? (i := 669) (by decide +kernel), List.mem_of_getElem? (i := 670) (by decide +kernel)⟩
theorem lw_p18 : lw_okq (⟨"RopeRace$Race", "lineUp", "()I"⟩, 14) := ⟨⟨by decide +kernel, by decide +kernel⟩, List.mem_of_getElem? (i := 149) (by decide +kernel), List.mem_of_getElem? (i := 707) (by decide +kernel), List.mem_of_getElem? (i := 708) (by decide +kernel)⟩
theorem lw_p19 : lw_okq (⟨"RopeRace$Race", "insertTurn", "(II)V"⟩, 14) := ⟨⟨by decide +kernel, by decide +kernel⟩, List.mem_of_getElem? (i := 149) (by decide +kernel), List.mem_of_getElem? (i := 715) (by decide +kernel), List.mem_of_getElem? (i := 716) (by decide +kernel)⟩
theorem lw_p20 : lw_okq (⟨"RopeRace$Race", "takeTurn", "(LRopeRace$Runner;)V"⟩, 14) := ⟨⟨by decide +kernel, by decide +kernel⟩, List.mem_of_getElem? (i := 149) (by decide +kernel), List.mem_of_getElem? (i := 723) (by decide +kernel), List.mem_of_getElem? (i := 724) (by decide +kernel)⟩
theorem lw_p21 : lw_okq (⟨"RopeRace$Race", "followOrders", "(LRopeRace$Runner;)V"⟩, 14) := ⟨⟨by decide +kernel, by decide +kernel⟩, List.mem_of_getElem? (i := 149) (by decide +kernel), List.mem_of_getElem? (i := 727) (by decide +kernel), List.mem_of_getElem? (i := 728) (by decide +kernel)⟩
theorem lw_p22 : lw_okq (⟨"RopeRace$Race", "isFree", "(II)Z"⟩, 14) := ⟨⟨by decide +kernel, by decide +kernel⟩, List.mem_of_getElem? (i := 149) (by decide +kernel), List.mem_of_getElem? (i := 742) (by decide +kernel), List.mem_of_getElem? (i := 743) (by decide +kernel)⟩
theorem lw_p23 : lw_okq (⟨"RopeRace$Race", "laneBeside", "(II)I"⟩, 14) := ⟨⟨by decide +kernel, by decide +kernel⟩, List.mem_of_getElem? (i := 149) (by decide +kernel), List.mem_of_getElem? (i := 746) (by decide +kernel), List.mem_of_getElem? (i := 747) (by decide +kernel)⟩
theorem lw_p24 : lw_okq (⟨"RopeRace$Race", "setPace", "(LRopeRace$Runner;)V"⟩, 14) := ⟨⟨by decide +kernel, by decide +kernel⟩, List.mem_of_getElem? (i := 149) (by decide +kernel), List.mem_of_getElem? (i := 750) (by decide +kernel), List.mem_of_getElem? (i := 751) (by decide +kernel)⟩
theorem lw_p25 : lw_okq (⟨"RopeRace$Race", "stepOn", "(LRopeRace$Runner;)Z"⟩, 14) := ⟨⟨by decide +kernel, by decide +kernel⟩, List.mem_of_getElem? (i := 149) (by decide +kernel), List.mem_of_getElem? (i := 757) (by decide +kernel), List.mem_of_getElem? (i := 758) (by decide +kernel)⟩
theorem lw_p26 : lw_okq (⟨"RopeRace$Race", "fallsHere", "(LRopeRace$Runner;)Z"⟩, 14) := ⟨⟨by decide +kernel, by decide +kernel⟩, List.mem_of_getElem? (i := 149) (by decide +kernel), List.mem_of_getElem? (i := 761) (by decide +kernel), List.mem_of_getElem? (i := 762) (by decide +kernel)⟩
theorem lw_p27 : lw_okq (⟨"RopeRace$Race", "isBend", "(I)Z"⟩, 14) := ⟨⟨by decide +kernel, by decide +kernel⟩, List.mem_of_getElem? (i := 149) (by decide +kernel), List.mem_of_getElem? (i := 765) (by decide +kernel), List.mem_of_getElem? (i := 766) (by decide +kernel)⟩
theorem lw_p28 : lw_okq (⟨"RopeRace$Race", "arrive", "(LRopeRace$Runner;)V"⟩, 14) := ⟨⟨by decide +kernel, by decide +kernel⟩, List.mem_of_getElem? (i := 149) (by decide +kernel), List.mem_of_getElem? (i := 772) (by decide +kernel), List.mem_of_getElem? (i := 773) (by decide +kernel)⟩
theorem lw_p29 : lw_okq (⟨"RopeRaceModel", "step", "()V"⟩, 54) := ⟨⟨by decide +kernel, by decide +kernel⟩, List.mem_of_getElem? (i := 815) (by decide +kernel), List.mem_of_getElem? (i := 992) (by decide +kernel), List.mem_of_getElem? (i := 993) (by decide +kernel)⟩
theorem lw_p30 : lw_okq (⟨"RopeRaceModel", "here", "()I"⟩, 54) := ⟨⟨by decide +kernel, by decide +kernel⟩, List.mem_of_getElem? (i := 815) (by decide +kernel), List.mem_of_getElem? (i := 996) (by decide +kernel), List.mem_of_getElem? (i := 997) (by decide +kernel)⟩
theorem lw_p31 : lw_okq (⟨"RopeRaceModel", "wordOf", "()I"⟩, 54) := ⟨⟨by decide +kernel, by decide +kernel⟩, List.mem_of_getElem? (i := 815) (by decide +kernel), List.mem_of_getElem? (i := 1003) (by decide +kernel), List.mem_of_getElem? (i := 1004) (by decide +kernel)⟩
def lw_privs_2 : List (MethodName × Nat) := [(⟨"RopeRace$Rope", "moveToEnd", "(I)V"⟩, 5), (⟨"RopeRace", "startRace", "(I)V"⟩, 10), (⟨"RopeRace$Race", "lineUp", "()I"⟩, 14), (⟨"RopeRace$Race", "insertTurn", "(II)V"⟩, 14), (⟨"RopeRace$Race", "takeTurn", "(LRopeRace$Runner;)V"⟩, 14), (⟨"RopeRace$Race", "followOrders", "(LRopeRace$Runner;)V"⟩, 14), (⟨"RopeRace$Race", "isFree", "(II)Z"⟩, 14), (⟨"RopeRace$Race", "laneBeside", "(II)I"⟩, 14), (⟨"RopeRace$Race", "setPace", "(LRopeRace$Runner;)V"⟩, 14), (⟨"RopeRace$Race", "stepOn", "(LRopeRace$Runner;)Z"⟩, 14), (⟨"RopeRace$Race", "fallsHere", "(LRopeRace$Runner;)Z"⟩, 14), (⟨"RopeRace$Race", "isBend", "(I)Z"⟩, 14), (⟨"RopeRace$Race", "arrive", "(LRopeRace$Runner;)V"⟩, 14), (⟨"RopeRaceModel", "step", "()V"⟩, 54), (⟨"RopeRaceModel", "here", "()I"⟩, 54), (⟨"RopeRaceModel", "wordOf", "()I"⟩, 54)]
theorem lw_r2 : ∀ q ∈ lw_privs_2, lw_okq q := List.forall_mem_cons.mpr ⟨lw_p16, List.forall_mem_cons.mpr ⟨lw_p17, List.forall_mem_cons.mpr ⟨lw_p18, List.forall_mem_cons.mpr ⟨lw_p19, List.forall_mem_cons.mpr ⟨lw_p20, List.forall_mem_cons.mpr ⟨lw_p21, List.forall_mem_cons.mpr ⟨lw_p22, List.forall_mem_cons.mpr ⟨lw_p23, List.forall_mem_cons.mpr ⟨lw_p24, List.forall_mem_cons.mpr ⟨lw_p25, List.forall_mem_cons.mpr ⟨lw_p26, List.forall_mem_cons.mpr ⟨lw_p27, List.forall_mem_cons.mpr ⟨lw_p28, List.forall_mem_cons.mpr ⟨lw_p29, List.forall_mem_cons.mpr ⟨lw_p30, List.forall_mem_cons.mpr ⟨lw_p31, fun _ h => absurd h List.not_mem_nil⟩⟩⟩⟩⟩⟩⟩⟩⟩⟩⟩⟩⟩⟩⟩⟩
theorem lw_p32 : lw_okq (⟨"RopeRaceModel", "line", "()V"⟩, 54) := ⟨⟨by decide +kernel, by decide +kernel⟩, List.mem_of_getElem? (i := 815) (by decide +kernel), List.mem_of_getElem? (i := 1013) (by decide +kernel), List.mem_of_getElem? (i := 1014) (by decide +kernel)⟩
theorem lw_p33 : lw_okq (⟨"RopeRaceModel", "wrong", "(II)V"⟩, 54) := ⟨⟨by decide +kernel, by decide +kernel⟩, List.mem_of_getElem? (i := 815) (by decide +kernel), List.mem_of_getElem? (i := 1017) (by decide +kernel), List.mem_of_getElem? (i := 1018) (by decide +kernel)⟩
theorem lw_p34 : lw_okq (⟨"RopeRaceModel", "lawOf", "(II)I"⟩, 54) := ⟨⟨by decide +kernel, by decide +kernel⟩, List.mem_of_getElem? (i := 815) (by decide +kernel), List.mem_of_getElem? (i := 1032) (by decide +kernel), List.mem_of_getElem? (i := 1033) (by decide +kernel)⟩
theorem lw_p35 : lw_okq (⟨"RopeRaceModel", "isBarred", "(I)Z"⟩, 54) := ⟨⟨by decide +kernel, by decide +kernel⟩, List.mem_of_getElem? (i := 815) (by decide +kernel), List.mem_of_getElem? (i := 1052) (by decide +kernel), List.mem_of_getElem? (i := 1053) (by decide +kernel)⟩
theorem lw_p36 : lw_okq (⟨"RopeRaceModel", "longest", "()I"⟩, 54) := ⟨⟨by decide +kernel, by decide +kernel⟩, List.mem_of_getElem? (i := 815) (by decide +kernel), List.mem_of_getElem? (i := 1057) (by decide +kernel), List.mem_of_getElem? (i := 1058) (by decide +kernel)⟩
theorem lw_p37 : lw_okq (⟨"RopeRaceModel", "drawnWard", "(I)I"⟩, 54) := ⟨⟨by decide +kernel, by decide +kernel⟩, List.mem_of_getElem? (i := 815) (by decide +kernel), List.mem_of_getElem? (i := 1061) (by decide +kernel), List.mem_of_getElem? (i := 1062) (by decide +kernel)⟩
theorem lw_p38 : lw_okq (⟨"RopeRaceModel", "draws", "(I)I"⟩, 54) := ⟨⟨by decide +kernel, by decide +kernel⟩, List.mem_of_getElem? (i := 815) (by decide +kernel), List.mem_of_getElem? (i := 1065) (by decide +kernel), List.mem_of_getElem? (i := 1066) (by decide +kernel)⟩
theorem lw_p39 : lw_okq (⟨"RopeRaceModel", "tries", "(I)V"⟩, 54) := ⟨⟨by decide +kernel, by decide +kernel⟩, List.mem_of_getElem? (i := 815) (by decide +kernel), List.mem_of_getElem? (i := 1074) (by decide +kernel), List.mem_of_getElem? (i := 1075) (by decide +kernel)⟩
theorem lw_p40 : lw_okq (⟨"RopeRaceModel", "isAhead", "(I)Z"⟩, 54) := ⟨⟨by decide +kernel, by decide +kernel⟩, List.mem_of_getElem? (i := 815) (by decide +kernel), List.mem_of_getElem? (i := 1079) (by decide +kernel), List.mem_of_getElem? (i := 1080) (by decide +kernel)⟩
theorem lw_p41 : lw_okq (⟨"RopeRaceModel", "isWard", "(I)Z"⟩, 54) := ⟨⟨by decide +kernel, by decide +kernel⟩, List.mem_of_getElem? (i := 815) (by decide +kernel), List.mem_of_getElem? (i := 1095) (by decide +kernel), List.mem_of_getElem? (i := 1096) (by decide +kernel)⟩
theorem lw_p42 : lw_okq (⟨"RopeRaceModel", "runs", "(I)Z"⟩, 54) := ⟨⟨by decide +kernel, by decide +kernel⟩, List.mem_of_getElem? (i := 815) (by decide +kernel), List.mem_of_getElem? (i := 1115) (by decide +kernel), List.mem_of_getElem? (i := 1116) (by decide +kernel)⟩
theorem lw_p43 : lw_okq (⟨"RopeRaceModel", "isFalse", "()V"⟩, 54) := ⟨⟨by decide +kernel, by decide +kernel⟩, List.mem_of_getElem? (i := 815) (by decide +kernel), List.mem_of_getElem? (i := 1123) (by decide +kernel), List.mem_of_getElem? (i := 1124) (by decide +kernel)⟩
theorem lw_p44 : lw_okq (⟨"RopeRaceModel", "tick", "()V"⟩, 54) := ⟨⟨by decide +kernel, by decide +kernel⟩, List.mem_of_getElem? (i := 815) (by decide +kernel), List.mem_of_getElem? (i := 1131) (by decide +kernel), List.mem_of_getElem? (i := 1132) (by decide +kernel)⟩
theorem lw_p45 : lw_okq (⟨"RopeRaceModel", "isOn", "(I)Z"⟩, 54) := ⟨⟨by decide +kernel, by decide +kernel⟩, List.mem_of_getElem? (i := 815) (by decide +kernel), List.mem_of_getElem? (i := 1135) (by decide +kernel), List.mem_of_getElem? (i := 1136) (by decide +kernel)⟩
theorem lw_p46 : lw_okq (⟨"RopeRaceModel", "isBehind", "(II)Z"⟩, 54) := ⟨⟨by decide +kernel, by decide +kernel⟩, List.mem_of_getElem? (i := 815) (by decide +kernel), List.mem_of_getElem? (i := 1139) (by decide +kernel), List.mem_of_getElem? (i := 1140) (by decide +kernel)⟩
theorem lw_p47 : lw_okq (⟨"RopeRaceModel", "turns", "(I)V"⟩, 54) := ⟨⟨by decide +kernel, by decide +kernel⟩, List.mem_of_getElem? (i := 815) (by decide +kernel), List.mem_of_getElem? (i := 1143) (by decide +kernel), List.mem_of_getElem? (i := 1144) (by decide +kernel)⟩
def lw_privs_3 : List (MethodName × Nat) := [(⟨"RopeRaceModel", "line", "()V"⟩, 54), (⟨"RopeRaceModel", "wrong", "(II)V"⟩, 54), (⟨"RopeRaceModel", "lawOf", "(II)I"⟩, 54), (⟨"RopeRaceModel", "isBarred", "(I)Z"⟩, 54), (⟨"RopeRaceModel", "longest", "()I"⟩, 54), (⟨"RopeRaceModel", "drawnWard", "(I)I"⟩, 54), (⟨"RopeRaceModel", "draws", "(I)I"⟩, 54), (⟨"RopeRaceModel", "tries", "(I)V"⟩, 54), (⟨"RopeRaceModel", "isAhead", "(I)Z"⟩, 54), (⟨"RopeRaceModel", "isWard", "(I)Z"⟩, 54), (⟨"RopeRaceModel", "runs", "(I)Z"⟩, 54), (⟨"RopeRaceModel", "isFalse", "()V"⟩, 54), (⟨"RopeRaceModel", "tick", "()V"⟩, 54), (⟨"RopeRaceModel", "isOn", "(I)Z"⟩, 54), (⟨"RopeRaceModel", "isBehind", "(II)Z"⟩, 54), (⟨"RopeRaceModel", "turns", "(I)V"⟩, 54)]
theorem lw_r3 : ∀ q ∈ lw_privs_3, lw_okq q := List.forall_mem_cons.mpr ⟨lw_p32, List.forall_mem_cons.mpr ⟨lw_p33, List.forall_mem_cons.mpr ⟨lw_p34, List.forall_mem_cons.mpr ⟨lw_p35, List.forall_mem_cons.mpr ⟨lw_p36, List.forall_mem_cons.mpr ⟨lw_p37, List.forall_mem_cons.mpr ⟨lw_p38, List.forall_mem_cons.mpr ⟨lw_p39, List.forall_mem_cons.mpr ⟨lw_p40, List.forall_mem_cons.mpr ⟨lw_p41, List.forall_mem_cons.mpr ⟨lw_p42, List.forall_mem_cons.mpr ⟨lw_p43, List.forall_mem_cons.mpr ⟨lw_p44, List.forall_mem_cons.mpr ⟨lw_p45, List.forall_mem_cons.mpr ⟨lw_p46, List.forall_mem_cons.mpr ⟨lw_p47, fun _ h => absurd h List.not_mem_nil⟩⟩⟩⟩⟩⟩⟩⟩⟩⟩⟩⟩⟩⟩⟩⟩
theorem lw_p48 : lw_okq (⟨"RopeRaceModel", "obeys", "(I)V"⟩, 54) := ⟨⟨by decide +kernel, by decide +kernel⟩, List.mem_of_getElem? (i := 815) (by decide +kernel), List.mem_of_getElem? (i := 1147) (by decide +kernel), List.mem_of_getElem? (i := 1148) (by decide +kernel)⟩
theorem lw_p49 : lw_okq (⟨"RopeRaceModel", "isFree", "(II)Z"⟩, 54) := ⟨⟨by decide +kernel, by decide +kernel⟩, List.mem_of_getElem? (i := 815) (by decide +kernel), List.mem_of_getElem? (i := 1151) (by decide +kernel), List.mem_of_getElem? (i := 1152) (by decide +kernel)⟩
theorem lw_p50 : lw_okq (⟨"RopeRaceModel", "cellOf", "(I)I"⟩, 54) := ⟨⟨by decide +kernel, by decide +kernel⟩, List.mem_of_getElem? (i := 815) (by decide +kernel), List.mem_of_getElem? (i := 1155) (by decide +kernel), List.mem_of_getElem? (i := 1156) (by decide +kernel)⟩
theorem lw_p51 : lw_okq (⟨"RopeRaceModel", "moves", "(I)Z"⟩, 54) := ⟨⟨by decide +kernel, by decide +kernel⟩, List.mem_of_getElem? (i := 815) (by decide +kernel), List.mem_of_getElem? (i := 1162) (by decide +kernel), List.mem_of_getElem? (i := 1163) (by decide +kernel)⟩
theorem lw_p52 : lw_okq (⟨"RopeRaceModel", "ends", "()V"⟩, 54) := ⟨⟨by decide +kernel, by decide +kernel⟩, List.mem_of_getElem? (i := 815) (by decide +kernel), List.mem_of_getElem? (i := 1166) (by decide +kernel), List.mem_of_getElem? (i := 1167) (by decide +kernel)⟩
def lw_privs_4 : List (MethodName × Nat) := [(⟨"RopeRaceModel", "obeys", "(I)V"⟩, 54), (⟨"RopeRaceModel", "isFree", "(II)Z"⟩, 54), (⟨"RopeRaceModel", "cellOf", "(I)I"⟩, 54), (⟨"RopeRaceModel", "moves", "(I)Z"⟩, 54), (⟨"RopeRaceModel", "ends", "()V"⟩, 54)]
theorem lw_r4 : ∀ q ∈ lw_privs_4, lw_okq q := List.forall_mem_cons.mpr ⟨lw_p48, List.forall_mem_cons.mpr ⟨lw_p49, List.forall_mem_cons.mpr ⟨lw_p50, List.forall_mem_cons.mpr ⟨lw_p51, List.forall_mem_cons.mpr ⟨lw_p52, fun _ h => absurd h List.not_mem_nil⟩⟩⟩⟩⟩
def lw_privs : List (MethodName × Nat) := lw_privs_1 ++ (lw_privs_2 ++ (lw_privs_3 ++ (lw_privs_4)))
def lw_tbl : List Cond := k2_sels lw_privs ++ tables_1
theorem lw_privs_ok : ∀ q ∈ lw_privs, lw_okq q := by
  show ∀ q ∈ lw_privs_1 ++ (lw_privs_2 ++ (lw_privs_3 ++ (lw_privs_4))), lw_okq q
  exact List.forall_mem_append.mpr ⟨lw_r1, List.forall_mem_append.mpr ⟨lw_r2, List.forall_mem_append.mpr ⟨lw_r3, lw_r4⟩⟩⟩
end
section
def RX0 : String := "RopeRace$Draws"
def TX0 : u_T := fun k => match k with
  | _ => ("RopeRace$Draws", "x", "I", false)
def tyX0 : Nat → FieldType := fun k => match k with
  | _ => .int
theorem nmX0 : ∀ a, a < 1 → ∀ b, b < 1 → a ≠ b → (TX0 a).2.1 ≠ (TX0 b).2.1 := by decide +kernel
theorem tyX0_ok : ∀ k, k < 1 → parseFieldDescriptor (TX0 k).2.2.1 = some (tyX0 k) := by decide +kernel
abbrev cX0_init : ByteArray := prog_2_method_1_code
def yX0_init : MethodName := ⟨RX0, "<init>", "()V"⟩
abbrev cX0_begin : ByteArray := prog_2_method_2_code
def yX0_begin : MethodName := ⟨RX0, "begin", "(I)V"⟩
abbrev cX0_below : ByteArray := prog_2_method_3_code
def yX0_below : MethodName := ⟨RX0, "below", "(I)I"⟩
def RX1 : String := "RopeRace$Pacts"
def TX1 : u_T := fun k => match k with
  | 0 => ("RopeRace$Pacts", "size", "I", false)
  | 1 => ("RopeRace$Pacts", "payers", "[I", true)
  | 2 => ("RopeRace$Pacts", "payees", "[I", true)
  | _ => ("RopeRace$Pacts", "sums", "[I", true)
def tyX1 : Nat → FieldType := fun k => match k with
  | 0 => .int
  | 1 => .array .int
  | 2 => .array .int
  | _ => .array .int
theorem nmX1 : ∀ a, a < 4 → ∀ b, b < 4 → a ≠ b → (TX1 a).2.1 ≠ (TX1 b).2.1 := by decide +kernel
theorem tyX1_ok : ∀ k, k < 4 → parseFieldDescriptor (TX1 k).2.2.1 = some (tyX1 k) := by decide +kernel
abbrev cX1_init : ByteArray := prog_3_method_1_code
def yX1_init : MethodName := ⟨RX1, "<init>", "()V"⟩
abbrev cX1_add : ByteArray := prog_3_method_2_code
def yX1_add : MethodName := ⟨RX1, "add", "(III)I"⟩
abbrev cX1_settle : ByteArray := prog_3_method_3_code
def yX1_settle : MethodName := ⟨RX1, "settle", "(LRopeRace$Town;I)V"⟩
def RX2 : String := "RopeRace$Race"
def TX2 : u_T := fun k => match k with
  | 0 => ("RopeRace$Race", "cells", "I", false)
  | 1 => ("RopeRace$Race", "bends", "[Z", true)
  | 2 => ("RopeRace$Race", "orderHow", "[I", true)
  | 3 => ("RopeRace$Race", "orderOther", "[I", true)
  | 4 => ("RopeRace$Race", "size", "I", false)
  | 5 => ("RopeRace$Race", "runners", "[LRopeRace$Runner;", true)
  | 6 => ("RopeRace$Race", "turns", "[I", true)
  | 7 => ("RopeRace$Race", "draws", "LRopeRace$Draws;", true)
  | 8 => ("RopeRace$Race", "laps", "I", false)
  | 9 => ("RopeRace$Race", "safePace", "I", false)
  | 10 => ("RopeRace$Race", "looseWins", "Z", false)
  | 11 => ("RopeRace$Race", "ticks", "I", false)
  | 12 => ("RopeRace$Race", "arrived", "I", false)
  | _ => ("RopeRace$Race", "winner", "I", false)
def tyX2 : Nat → FieldType := fun k => match k with
  | 0 => .int
  | 1 => .array .boolean
  | 2 => .array .int
  | 3 => .array .int
  | 4 => .int
  | 5 => .array (.object "RopeRace$Runner")
  | 6 => .array .int
  | 7 => .object "RopeRace$Draws"
  | 8 => .int
  | 9 => .int
  | 10 => .boolean
  | 11 => .int
  | 12 => .int
  | _ => .int
theorem nmX2 : ∀ a, a < 14 → ∀ b, b < 14 → a ≠ b → (TX2 a).2.1 ≠ (TX2 b).2.1 := by decide +kernel
theorem tyX2_ok : ∀ k, k < 14 → parseFieldDescriptor (TX2 k).2.2.1 = some (tyX2 k) := by decide +kernel
abbrev cX2_init : ByteArray := prog_4_method_1_code
def yX2_init : MethodName := ⟨RX2, "<init>", "()V"⟩
abbrev cX2_layRing : ByteArray := prog_4_method_2_code
def yX2_layRing : MethodName := ⟨RX2, "layRing", "(I)V"⟩
abbrev cX2_begin : ByteArray := prog_4_method_3_code
def yX2_begin : MethodName := ⟨RX2, "begin", "(I)V"⟩
abbrev cX2_setLaws : ByteArray := prog_4_method_4_code
def yX2_setLaws : MethodName := ⟨RX2, "setLaws", "(III)V"⟩
abbrev cX2_enter : ByteArray := prog_4_method_5_code
def yX2_enter : MethodName := ⟨RX2, "enter", "(II)V"⟩
abbrev cX2_find : ByteArray := prog_4_method_6_code
def yX2_find : MethodName := ⟨RX2, "find", "(I)LRopeRace$Runner;"⟩
abbrev cX2_isOver : ByteArray := prog_4_method_7_code
def yX2_isOver : MethodName := ⟨RX2, "isOver", "()Z"⟩
abbrev cX2_tick : ByteArray := prog_4_method_8_code
def yX2_tick : MethodName := ⟨RX2, "tick", "()V"⟩
abbrev cX2_lineUp : ByteArray := prog_4_method_9_code
def yX2_lineUp : MethodName := ⟨RX2, "lineUp", "()I"⟩
abbrev cX2_insertTurn : ByteArray := prog_4_method_10_code
def yX2_insertTurn : MethodName := ⟨RX2, "insertTurn", "(II)V"⟩
abbrev cX2_takeTurn : ByteArray := prog_4_method_11_code
def yX2_takeTurn : MethodName := ⟨RX2, "takeTurn", "(LRopeRace$Runner;)V"⟩
abbrev cX2_followOrders : ByteArray := prog_4_method_12_code
def yX2_followOrders : MethodName := ⟨RX2, "followOrders", "(LRopeRace$Runner;)V"⟩
abbrev cX2_setPace : ByteArray := prog_4_method_13_code
def yX2_setPace : MethodName := ⟨RX2, "setPace", "(LRopeRace$Runner;)V"⟩
abbrev cX2_stepOn : ByteArray := prog_4_method_14_code
def yX2_stepOn : MethodName := ⟨RX2, "stepOn", "(LRopeRace$Runner;)Z"⟩
abbrev cX2_fallsHere : ByteArray := prog_4_method_15_code
def yX2_fallsHere : MethodName := ⟨RX2, "fallsHere", "(LRopeRace$Runner;)Z"⟩
abbrev cX2_arrive : ByteArray := prog_4_method_16_code
def yX2_arrive : MethodName := ⟨RX2, "arrive", "(LRopeRace$Runner;)V"⟩
abbrev cX2_laneBeside : ByteArray := prog_4_method_17_code
def yX2_laneBeside : MethodName := ⟨RX2, "laneBeside", "(II)I"⟩
abbrev cX2_isFree : ByteArray := prog_4_method_18_code
def yX2_isFree : MethodName := ⟨RX2, "isFree", "(II)Z"⟩
abbrev cX2_isBend : ByteArray := prog_4_method_19_code
def yX2_isBend : MethodName := ⟨RX2, "isBend", "(I)Z"⟩
def RX3 : String := "RopeRace$Rope"
def TX3 : u_T := fun k => match k with
  | 0 => ("RopeRace$Rope", "run", "I", false)
  | 1 => ("RopeRace$Rope", "runners", "[I", true)
  | 2 => ("RopeRace$Rope", "places", "[I", true)
  | 3 => ("RopeRace$Rope", "seenAt", "[I", true)
  | _ => ("RopeRace$Rope", "left", "[I", true)
def tyX3 : Nat → FieldType := fun k => match k with
  | 0 => .int
  | 1 => .array .int
  | 2 => .array .int
  | 3 => .array .int
  | _ => .array .int
theorem nmX3 : ∀ a, a < 5 → ∀ b, b < 5 → a ≠ b → (TX3 a).2.1 ≠ (TX3 b).2.1 := by decide +kernel
theorem tyX3_ok : ∀ k, k < 5 → parseFieldDescriptor (TX3 k).2.2.1 = some (tyX3 k) := by decide +kernel
abbrev cX3_init : ByteArray := prog_5_method_1_code
def yX3_init : MethodName := ⟨RX3, "<init>", "()V"⟩
abbrev cX3_listRunners : ByteArray := prog_5_method_2_code
def yX3_listRunners : MethodName := ⟨RX3, "listRunners", "(LRopeRace$Town;)V"⟩
abbrev cX3_drawHorses : ByteArray := prog_5_method_3_code
def yX3_drawHorses : MethodName := ⟨RX3, "drawHorses", "(LRopeRace$Town;[ILRopeRace$Draws;)V"⟩
abbrev cX3_drawPlaces : ByteArray := prog_5_method_4_code
def yX3_drawPlaces : MethodName := ⟨RX3, "drawPlaces", "(LRopeRace$Draws;)V"⟩
abbrev cX3_layOut : ByteArray := prog_5_method_5_code
def yX3_layOut : MethodName := ⟨RX3, "layOut", "([I)V"⟩
abbrev cX3_takeLeft : ByteArray := prog_5_method_6_code
def yX3_takeLeft : MethodName := ⟨RX3, "takeLeft", "(I)I"⟩
abbrev cX3_closeGap : ByteArray := prog_5_method_7_code
def yX3_closeGap : MethodName := ⟨RX3, "closeGap", "([II)V"⟩
abbrev cX3_forgetSeen : ByteArray := prog_5_method_8_code
def yX3_forgetSeen : MethodName := ⟨RX3, "forgetSeen", "()V"⟩
abbrev cX3_hasOther : ByteArray := prog_5_method_9_code
def yX3_hasOther : MethodName := ⟨RX3, "hasOther", "(I)Z"⟩
abbrev cX3_countOthers : ByteArray := prog_5_method_10_code
def yX3_countOthers : MethodName := ⟨RX3, "countOthers", "()I"⟩
abbrev cX3_addFalseStarts : ByteArray := prog_5_method_11_code
def yX3_addFalseStarts : MethodName := ⟨RX3, "addFalseStarts", "(LRopeRace$Town;)V"⟩
abbrev cX3_sendBack : ByteArray := prog_5_method_12_code
def yX3_sendBack : MethodName := ⟨RX3, "sendBack", "(LRopeRace$Town;I)V"⟩
abbrev cX3_moveToEnd : ByteArray := prog_5_method_13_code
def yX3_moveToEnd : MethodName := ⟨RX3, "moveToEnd", "(I)V"⟩
def RX4 : String := "RopeRace$Runner"
def TX4 : u_T := fun k => match k with
  | 0 => ("RopeRace$Runner", "ward", "I", false)
  | 1 => ("RopeRace$Runner", "topPace", "I", false)
  | 2 => ("RopeRace$Runner", "dist", "I", false)
  | 3 => ("RopeRace$Runner", "lane", "I", false)
  | 4 => ("RopeRace$Runner", "pace", "I", false)
  | 5 => ("RopeRace$Runner", "riderless", "Z", false)
  | 6 => ("RopeRace$Runner", "arrivedAs", "I", false)
  | _ => ("RopeRace$Runner", "bumps", "I", false)
def tyX4 : Nat → FieldType := fun k => match k with
  | 0 => .int
  | 1 => .int
  | 2 => .int
  | 3 => .int
  | 4 => .int
  | 5 => .boolean
  | 6 => .int
  | _ => .int
theorem nmX4 : ∀ a, a < 8 → ∀ b, b < 8 → a ≠ b → (TX4 a).2.1 ≠ (TX4 b).2.1 := by decide +kernel
theorem tyX4_ok : ∀ k, k < 8 → parseFieldDescriptor (TX4 k).2.2.1 = some (tyX4 k) := by decide +kernel
abbrev cX4_init : ByteArray := prog_6_method_1_code
def yX4_init : MethodName := ⟨RX4, "<init>", "()V"⟩
abbrev cX4_begin : ByteArray := prog_6_method_2_code
def yX4_begin : MethodName := ⟨RX4, "begin", "(III)V"⟩
abbrev cX4_onRing : ByteArray := prog_6_method_3_code
def yX4_onRing : MethodName := ⟨RX4, "onRing", "()Z"⟩
abbrev cX4_isCloseAheadOf : ByteArray := prog_6_method_4_code
def yX4_isCloseAheadOf : MethodName := ⟨RX4, "isCloseAheadOf", "(LRopeRace$Runner;)Z"⟩
abbrev cX4_goesAheadOf : ByteArray := prog_6_method_5_code
def yX4_goesAheadOf : MethodName := ⟨RX4, "goesAheadOf", "(LRopeRace$Runner;)Z"⟩
def RX5 : String := "RopeRace$Stable"
def TX5 : u_T := fun k => match k with
  | 0 => ("RopeRace$Stable", "size", "I", false)
  | 1 => ("RopeRace$Stable", "marks", "[I", true)
  | 2 => ("RopeRace$Stable", "isSound", "[Z", true)
  | 3 => ("RopeRace$Stable", "picked", "[I", true)
  | _ => ("RopeRace$Stable", "tried", "[I", true)
def tyX5 : Nat → FieldType := fun k => match k with
  | 0 => .int
  | 1 => .array .int
  | 2 => .array .boolean
  | 3 => .array .int
  | _ => .array .int
theorem nmX5 : ∀ a, a < 5 → ∀ b, b < 5 → a ≠ b → (TX5 a).2.1 ≠ (TX5 b).2.1 := by decide +kernel
theorem tyX5_ok : ∀ k, k < 5 → parseFieldDescriptor (TX5 k).2.2.1 = some (tyX5 k) := by decide +kernel
abbrev cX5_init : ByteArray := prog_7_method_1_code
def yX5_init : MethodName := ⟨RX5, "<init>", "()V"⟩
abbrev cX5_addHorse : ByteArray := prog_7_method_2_code
def yX5_addHorse : MethodName := ⟨RX5, "addHorse", "(I)I"⟩
abbrev cX5_has : ByteArray := prog_7_method_3_code
def yX5_has : MethodName := ⟨RX5, "has", "(I)Z"⟩
abbrev cX5_markOf : ByteArray := prog_7_method_4_code
def yX5_markOf : MethodName := ⟨RX5, "markOf", "(I)I"⟩
abbrev cX5_pickEven : ByteArray := prog_7_method_5_code
def yX5_pickEven : MethodName := ⟨RX5, "pickEven", "(I)I"⟩
abbrev cX5_fillTried : ByteArray := prog_7_method_6_code
def yX5_fillTried : MethodName := ⟨RX5, "fillTried", "(III)Z"⟩
abbrev cX5_triedIsAhead : ByteArray := prog_7_method_7_code
def yX5_triedIsAhead : MethodName := ⟨RX5, "triedIsAhead", "(I)Z"⟩
def RX6 : String := "RopeRace$Statutes"
def TX6 : u_T := fun k => match k with
  | 0 => ("RopeRace$Statutes", "told", "I", false)
  | 1 => ("RopeRace$Statutes", "fromYear", "[I", true)
  | _ => ("RopeRace$Statutes", "lines", "[I", true)
def tyX6 : Nat → FieldType := fun k => match k with
  | 0 => .int
  | 1 => .array .int
  | _ => .array .int
theorem nmX6 : ∀ a, a < 3 → ∀ b, b < 3 → a ≠ b → (TX6 a).2.1 ≠ (TX6 b).2.1 := by decide +kernel
theorem tyX6_ok : ∀ k, k < 3 → parseFieldDescriptor (TX6 k).2.2.1 = some (tyX6 k) := by decide +kernel
abbrev cX6_init : ByteArray := prog_8_method_1_code
def yX6_init : MethodName := ⟨RX6, "<init>", "()V"⟩
abbrev cX6_keep : ByteArray := prog_8_method_2_code
def yX6_keep : MethodName := ⟨RX6, "keep", "(I[I)I"⟩
abbrev cX6_inForce : ByteArray := prog_8_method_3_code
def yX6_inForce : MethodName := ⟨RX6, "inForce", "(II)I"⟩
def RX7 : String := "RopeRace$Tape"
def TX7 : u_T := fun k => match k with
  | 0 => ("RopeRace$Tape", "bytes", "[B", true)
  | 1 => ("RopeRace$Tape", "length", "I", false)
  | 2 => ("RopeRace$Tape", "at", "I", false)
  | 3 => ("RopeRace$Tape", "end", "I", false)
  | 4 => ("RopeRace$Tape", "said", "[I", true)
  | 5 => ("RopeRace$Tape", "fault", "I", false)
  | _ => ("RopeRace$Tape", "place", "I", false)
def tyX7 : Nat → FieldType := fun k => match k with
  | 0 => .array .byte
  | 1 => .int
  | 2 => .int
  | 3 => .int
  | 4 => .array .int
  | 5 => .int
  | _ => .int
theorem nmX7 : ∀ a, a < 7 → ∀ b, b < 7 → a ≠ b → (TX7 a).2.1 ≠ (TX7 b).2.1 := by decide +kernel
theorem tyX7_ok : ∀ k, k < 7 → parseFieldDescriptor (TX7 k).2.2.1 = some (tyX7 k) := by decide +kernel
abbrev cX7_init : ByteArray := prog_9_method_1_code
def yX7_init : MethodName := ⟨RX7, "<init>", "()V"⟩
abbrev cX7_append : ByteArray := prog_9_method_2_code
def yX7_append : MethodName := ⟨RX7, "append", "(I)V"⟩
abbrev cX7_readText : ByteArray := prog_9_method_3_code
def yX7_readText : MethodName := ⟨RX7, "readText", "(I)V"⟩
abbrev cX7_readLine : ByteArray := prog_9_method_4_code
def yX7_readLine : MethodName := ⟨RX7, "readLine", "()V"⟩
abbrev cX7_blame : ByteArray := prog_9_method_5_code
def yX7_blame : MethodName := ⟨RX7, "blame", "(II)V"⟩
abbrev cX7_byteHere : ByteArray := prog_9_method_6_code
def yX7_byteHere : MethodName := ⟨RX7, "byteHere", "()I"⟩
abbrev cX7_skipBlanks : ByteArray := prog_9_method_7_code
def yX7_skipBlanks : MethodName := ⟨RX7, "skipBlanks", "()V"⟩
abbrev cX7_takeWord : ByteArray := prog_9_method_8_code
def yX7_takeWord : MethodName := ⟨RX7, "takeWord", "()I"⟩
abbrev cX7_spells : ByteArray := prog_9_method_9_code
def yX7_spells : MethodName := ⟨RX7, "spells", "(Ljava/lang/String;II)Z"⟩
abbrev cX7_spelling : ByteArray := prog_9_method_10_code
def yX7_spelling : MethodName := ⟨RX7, "spelling", "(I)Ljava/lang/String;"⟩
abbrev cX7_takeNumber : ByteArray := prog_9_method_11_code
def yX7_takeNumber : MethodName := ⟨RX7, "takeNumber", "()I"⟩
abbrev cX7_takeLineEnd : ByteArray := prog_9_method_12_code
def yX7_takeLineEnd : MethodName := ⟨RX7, "takeLineEnd", "()V"⟩
def RX8 : String := "RopeRace$Town"
def TX8 : u_T := fun k => match k with
  | 0 => ("RopeRace$Town", "size", "I", false)
  | _ => ("RopeRace$Town", "wards", "[LRopeRace$Ward;", true)
def tyX8 : Nat → FieldType := fun k => match k with
  | 0 => .int
  | _ => .array (.object "RopeRace$Ward")
theorem nmX8 : ∀ a, a < 2 → ∀ b, b < 2 → a ≠ b → (TX8 a).2.1 ≠ (TX8 b).2.1 := by decide +kernel
theorem tyX8_ok : ∀ k, k < 2 → parseFieldDescriptor (TX8 k).2.2.1 = some (tyX8 k) := by decide +kernel
abbrev cX8_init : ByteArray := prog_10_method_1_code
def yX8_init : MethodName := ⟨RX8, "<init>", "()V"⟩
abbrev cX8_addWard : ByteArray := prog_10_method_2_code
def yX8_addWard : MethodName := ⟨RX8, "addWard", "()I"⟩
abbrev cX8_has : ByteArray := prog_10_method_3_code
def yX8_has : MethodName := ⟨RX8, "has", "(I)Z"⟩
abbrev cX8_find : ByteArray := prog_10_method_4_code
def yX8_find : MethodName := ⟨RX8, "find", "(I)LRopeRace$Ward;"⟩
abbrev cX8_runs : ByteArray := prog_10_method_5_code
def yX8_runs : MethodName := ⟨RX8, "runs", "(I)Z"⟩
abbrev cX8_countFree : ByteArray := prog_10_method_6_code
def yX8_countFree : MethodName := ⟨RX8, "countFree", "(I)I"⟩
abbrev cX8_chooseRunners : ByteArray := prog_10_method_7_code
def yX8_chooseRunners : MethodName := ⟨RX8, "chooseRunners", "(IIILRopeRace$Draws;)V"⟩
abbrev cX8_longestAgo : ByteArray := prog_10_method_8_code
def yX8_longestAgo : MethodName := ⟨RX8, "longestAgo", "(I)I"⟩
abbrev cX8_freeAt : ByteArray := prog_10_method_9_code
def yX8_freeAt : MethodName := ⟨RX8, "freeAt", "(II)I"⟩
abbrev cX8_forgetYear : ByteArray := prog_10_method_10_code
def yX8_forgetYear : MethodName := ⟨RX8, "forgetYear", "()V"⟩
def RX9 : String := "RopeRace$Ward"
def TX9 : u_T := fun k => match k with
  | 0 => ("RopeRace$Ward", "runs", "Z", false)
  | 1 => ("RopeRace$Ward", "horse", "I", false)
  | 2 => ("RopeRace$Ward", "lastRan", "I", false)
  | 3 => ("RopeRace$Ward", "barredTo", "I", false)
  | 4 => ("RopeRace$Ward", "falseStarts", "I", false)
  | _ => ("RopeRace$Ward", "money", "I", false)
def tyX9 : Nat → FieldType := fun k => match k with
  | 0 => .boolean
  | 1 => .int
  | 2 => .int
  | 3 => .int
  | 4 => .int
  | _ => .int
theorem nmX9 : ∀ a, a < 6 → ∀ b, b < 6 → a ≠ b → (TX9 a).2.1 ≠ (TX9 b).2.1 := by decide +kernel
theorem tyX9_ok : ∀ k, k < 6 → parseFieldDescriptor (TX9 k).2.2.1 = some (tyX9 k) := by decide +kernel
abbrev cX9_init : ByteArray := prog_11_method_1_code
def yX9_init : MethodName := ⟨RX9, "<init>", "()V"⟩
abbrev cX9_mayBeChosen : ByteArray := prog_11_method_2_code
def yX9_mayBeChosen : MethodName := ⟨RX9, "mayBeChosen", "(I)Z"⟩
def RX10 : String := "RopeRace"
def TX10 : u_T := fun k => match k with
  | 0 => ("RopeRace", "tape", "LRopeRace$Tape;", true)
  | 1 => ("RopeRace", "statutes", "LRopeRace$Statutes;", true)
  | 2 => ("RopeRace", "town", "LRopeRace$Town;", true)
  | 3 => ("RopeRace", "stable", "LRopeRace$Stable;", true)
  | 4 => ("RopeRace", "rope", "LRopeRace$Rope;", true)
  | 5 => ("RopeRace", "race", "LRopeRace$Race;", true)
  | 6 => ("RopeRace", "pacts", "LRopeRace$Pacts;", true)
  | 7 => ("RopeRace", "draws", "LRopeRace$Draws;", true)
  | 8 => ("RopeRace", "year", "I", false)
  | _ => ("RopeRace", "stage", "I", false)
def tyX10 : Nat → FieldType := fun k => match k with
  | 0 => .object "RopeRace$Tape"
  | 1 => .object "RopeRace$Statutes"
  | 2 => .object "RopeRace$Town"
  | 3 => .object "RopeRace$Stable"
  | 4 => .object "RopeRace$Rope"
  | 5 => .object "RopeRace$Race"
  | 6 => .object "RopeRace$Pacts"
  | 7 => .object "RopeRace$Draws"
  | 8 => .int
  | _ => .int
theorem nmX10 : ∀ a, a < 10 → ∀ b, b < 10 → a ≠ b → (TX10 a).2.1 ≠ (TX10 b).2.1 := by decide +kernel
theorem tyX10_ok : ∀ k, k < 10 → parseFieldDescriptor (TX10 k).2.2.1 = some (tyX10 k) := by decide +kernel
abbrev cX10_init : ByteArray := prog_1_method_1_code
def yX10_init : MethodName := ⟨RX10, "<init>", "()V"⟩
abbrev cX10_feed : ByteArray := prog_1_method_2_code
def yX10_feed : MethodName := ⟨RX10, "feed", "(IIIII)I"⟩
abbrev cX10_statute : ByteArray := prog_1_method_3_code
def yX10_statute : MethodName := ⟨RX10, "statute", "(II)I"⟩
abbrev cX10_fault : ByteArray := prog_1_method_4_code
def yX10_fault : MethodName := ⟨RX10, "fault", "(I)I"⟩
abbrev cX10_law : ByteArray := prog_1_method_5_code
def yX10_law : MethodName := ⟨RX10, "law", "(II)I"⟩
abbrev cX10_ward : ByteArray := prog_1_method_6_code
def yX10_ward : MethodName := ⟨RX10, "ward", "()I"⟩
abbrev cX10_horse : ByteArray := prog_1_method_7_code
def yX10_horse : MethodName := ⟨RX10, "horse", "(I)I"⟩
abbrev cX10_sound : ByteArray := prog_1_method_8_code
def yX10_sound : MethodName := ⟨RX10, "sound", "(IZ)Z"⟩
abbrev cX10_choose : ByteArray := prog_1_method_9_code
def yX10_choose : MethodName := ⟨RX10, "choose", "(I)I"⟩
abbrev cX10_pick : ByteArray := prog_1_method_10_code
def yX10_pick : MethodName := ⟨RX10, "pick", "()I"⟩
abbrev cX10_lots : ByteArray := prog_1_method_11_code
def yX10_lots : MethodName := ⟨RX10, "lots", "(I)Z"⟩
abbrev cX10_drawn : ByteArray := prog_1_method_12_code
def yX10_drawn : MethodName := ⟨RX10, "drawn", "(II)I"⟩
abbrev cX10_look : ByteArray := prog_1_method_13_code
def yX10_look : MethodName := ⟨RX10, "look", "(II)I"⟩
abbrev cX10_ring : ByteArray := prog_1_method_14_code
def yX10_ring : MethodName := ⟨RX10, "ring", "(I)Z"⟩
abbrev cX10_bend : ByteArray := prog_1_method_15_code
def yX10_bend : MethodName := ⟨RX10, "bend", "(IZ)Z"⟩
abbrev cX10_orders : ByteArray := prog_1_method_16_code
def yX10_orders : MethodName := ⟨RX10, "orders", "(III)Z"⟩
abbrev cX10_seen : ByteArray := prog_1_method_17_code
def yX10_seen : MethodName := ⟨RX10, "seen", "(II)Z"⟩
abbrev cX10_drop : ByteArray := prog_1_method_18_code
def yX10_drop : MethodName := ⟨RX10, "drop", "(I)I"⟩
abbrev cX10_go : ByteArray := prog_1_method_19_code
def yX10_go : MethodName := ⟨RX10, "go", "(I)I"⟩
abbrev cX10_race : ByteArray := prog_1_method_20_code
def yX10_race : MethodName := ⟨RX10, "race", "(II)I"⟩
abbrev cX10_won : ByteArray := prog_1_method_21_code
def yX10_won : MethodName := ⟨RX10, "won", "()I"⟩
abbrev cX10_pact : ByteArray := prog_1_method_22_code
def yX10_pact : MethodName := ⟨RX10, "pact", "(III)I"⟩
abbrev cX10_punish : ByteArray := prog_1_method_23_code
def yX10_punish : MethodName := ⟨RX10, "punish", "(I)I"⟩
abbrev cX10_next : ByteArray := prog_1_method_24_code
def yX10_next : MethodName := ⟨RX10, "next", "()I"⟩
abbrev cX10_count : ByteArray := prog_1_method_25_code
def yX10_count : MethodName := ⟨RX10, "count", "(I)I"⟩
abbrev cX10_isYear : ByteArray := prog_1_method_26_code
def yX10_isYear : MethodName := ⟨RX10, "isYear", "(I)Z"⟩
abbrev cX10_startRace : ByteArray := prog_1_method_27_code
def yX10_startRace : MethodName := ⟨RX10, "startRace", "(I)V"⟩
def RX11 : String := "RopeRaceModel"
def TX11 : u_T := fun k => match k with
  | 0 => ("RopeRaceModel", "thrown", "I", false)
  | 1 => ("RopeRaceModel", "tape", "[I", true)
  | 2 => ("RopeRaceModel", "taped", "I", false)
  | 3 => ("RopeRaceModel", "year", "I", false)
  | 4 => ("RopeRaceModel", "stage", "I", false)
  | 5 => ("RopeRaceModel", "fromYear", "[I", true)
  | 6 => ("RopeRaceModel", "values", "[I", true)
  | 7 => ("RopeRaceModel", "statutes", "I", false)
  | 8 => ("RopeRaceModel", "size", "I", false)
  | 9 => ("RopeRaceModel", "at", "I", false)
  | 10 => ("RopeRaceModel", "place", "I", false)
  | 11 => ("RopeRaceModel", "sort", "I", false)
  | 12 => ("RopeRaceModel", "value", "I", false)
  | 13 => ("RopeRaceModel", "fault", "I", false)
  | 14 => ("RopeRaceModel", "faultPlace", "I", false)
  | 15 => ("RopeRaceModel", "lastFault", "I", false)
  | 16 => ("RopeRaceModel", "lastPlace", "I", false)
  | 17 => ("RopeRaceModel", "wards", "I", false)
  | 18 => ("RopeRaceModel", "lastRan", "[I", true)
  | 19 => ("RopeRaceModel", "barredTo", "[I", true)
  | 20 => ("RopeRaceModel", "falses", "[I", true)
  | 21 => ("RopeRaceModel", "money", "[I", true)
  | 22 => ("RopeRaceModel", "horseOf", "[I", true)
  | 23 => ("RopeRaceModel", "isRunning", "[Z", true)
  | 24 => ("RopeRaceModel", "how", "[I", true)
  | 25 => ("RopeRaceModel", "whom", "[I", true)
  | 26 => ("RopeRaceModel", "horses", "I", false)
  | 27 => ("RopeRaceModel", "marks", "[I", true)
  | 28 => ("RopeRaceModel", "isSound", "[Z", true)
  | 29 => ("RopeRaceModel", "seed", "I", false)
  | 30 => ("RopeRaceModel", "run", "I", false)
  | 31 => ("RopeRaceModel", "picked", "[I", true)
  | 32 => ("RopeRaceModel", "rope", "[I", true)
  | 33 => ("RopeRaceModel", "seenAt", "[I", true)
  | 34 => ("RopeRaceModel", "best", "I", false)
  | 35 => ("RopeRaceModel", "length", "I", false)
  | 36 => ("RopeRaceModel", "isBend", "[Z", true)
  | 37 => ("RopeRaceModel", "dist", "[I", true)
  | 38 => ("RopeRaceModel", "lane", "[I", true)
  | 39 => ("RopeRaceModel", "pace", "[I", true)
  | 40 => ("RopeRaceModel", "isLoose", "[Z", true)
  | 41 => ("RopeRaceModel", "arrived", "[I", true)
  | 42 => ("RopeRaceModel", "bumps", "[I", true)
  | 43 => ("RopeRaceModel", "arrivals", "I", false)
  | 44 => ("RopeRaceModel", "ticks", "I", false)
  | 45 => ("RopeRaceModel", "winner", "I", false)
  | 46 => ("RopeRaceModel", "laps", "I", false)
  | 47 => ("RopeRaceModel", "bendPace", "I", false)
  | 48 => ("RopeRaceModel", "canLoose", "Z", false)
  | 49 => ("RopeRaceModel", "order", "[I", true)
  | 50 => ("RopeRaceModel", "pactOf", "[I", true)
  | 51 => ("RopeRaceModel", "pactTo", "[I", true)
  | 52 => ("RopeRaceModel", "pactCoins", "[I", true)
  | _ => ("RopeRaceModel", "pacts", "I", false)
def tyX11 : Nat → FieldType := fun k => match k with
  | 0 => .int
  | 1 => .array .int
  | 2 => .int
  | 3 => .int
  | 4 => .int
  | 5 => .array .int
  | 6 => .array .int
  | 7 => .int
  | 8 => .int
  | 9 => .int
  | 10 => .int
  | 11 => .int
  | 12 => .int
  | 13 => .int
  | 14 => .int
  | 15 => .int
  | 16 => .int
  | 17 => .int
  | 18 => .array .int
  | 19 => .array .int
  | 20 => .array .int
  | 21 => .array .int
  | 22 => .array .int
  | 23 => .array .boolean
  | 24 => .array .int
  | 25 => .array .int
  | 26 => .int
  | 27 => .array .int
  | 28 => .array .boolean
  | 29 => .int
  | 30 => .int
  | 31 => .array .int
  | 32 => .array .int
  | 33 => .array .int
  | 34 => .int
  | 35 => .int
  | 36 => .array .boolean
  | 37 => .array .int
  | 38 => .array .int
  | 39 => .array .int
  | 40 => .array .boolean
  | 41 => .array .int
  | 42 => .array .int
  | 43 => .int
  | 44 => .int
  | 45 => .int
  | 46 => .int
  | 47 => .int
  | 48 => .boolean
  | 49 => .array .int
  | 50 => .array .int
  | 51 => .array .int
  | 52 => .array .int
  | _ => .int
theorem nmX11 : ∀ a, a < 54 → ∀ b, b < 54 → a ≠ b → (TX11 a).2.1 ≠ (TX11 b).2.1 := by decide +kernel
theorem tyX11_ok : ∀ k, k < 54 → parseFieldDescriptor (TX11 k).2.2.1 = some (tyX11 k) := by decide +kernel
abbrev cX11_init : ByteArray := prog_13_method_1_code
def yX11_init : MethodName := ⟨RX11, "<init>", "()V"⟩
abbrev cX11_feed : ByteArray := prog_13_method_3_code
def yX11_feed : MethodName := ⟨RX11, "feed", "(IIIII)I"⟩
abbrev cX11_here : ByteArray := prog_13_method_4_code
def yX11_here : MethodName := ⟨RX11, "here", "()I"⟩
abbrev cX11_isSmall : ByteArray := prog_13_method_5_code
def yX11_isSmall : MethodName := ⟨RX11, "isSmall", "(I)Z"⟩
abbrev cX11_isDigit : ByteArray := prog_13_method_6_code
def yX11_isDigit : MethodName := ⟨RX11, "isDigit", "(I)Z"⟩
abbrev cX11_step : ByteArray := prog_13_method_7_code
def yX11_step : MethodName := ⟨RX11, "step", "()V"⟩
abbrev cX11_wordOf : ByteArray := prog_13_method_8_code
def yX11_wordOf : MethodName := ⟨RX11, "wordOf", "()I"⟩
abbrev cX11_wrong : ByteArray := prog_13_method_9_code
def yX11_wrong : MethodName := ⟨RX11, "wrong", "(II)V"⟩
abbrev cX11_isWithin : ByteArray := prog_13_method_10_code
def yX11_isWithin : MethodName := ⟨RX11, "isWithin", "(II)Z"⟩
abbrev cX11_line : ByteArray := prog_13_method_11_code
def yX11_line : MethodName := ⟨RX11, "line", "()V"⟩
abbrev cX11_statute : ByteArray := prog_13_method_12_code
def yX11_statute : MethodName := ⟨RX11, "statute", "(II)I"⟩
abbrev cX11_fault : ByteArray := prog_13_method_13_code
def yX11_fault : MethodName := ⟨RX11, "fault", "(I)I"⟩
abbrev cX11_lawOf : ByteArray := prog_13_method_14_code
def yX11_lawOf : MethodName := ⟨RX11, "lawOf", "(II)I"⟩
abbrev cX11_law : ByteArray := prog_13_method_15_code
def yX11_law : MethodName := ⟨RX11, "law", "(II)I"⟩
abbrev cX11_isWard : ByteArray := prog_13_method_16_code
def yX11_isWard : MethodName := ⟨RX11, "isWard", "(I)Z"⟩
abbrev cX11_ward : ByteArray := prog_13_method_17_code
def yX11_ward : MethodName := ⟨RX11, "ward", "()I"⟩
abbrev cX11_horse : ByteArray := prog_13_method_18_code
def yX11_horse : MethodName := ⟨RX11, "horse", "(I)I"⟩
abbrev cX11_sound : ByteArray := prog_13_method_19_code
def yX11_sound : MethodName := ⟨RX11, "sound", "(IZ)Z"⟩
abbrev cX11_draws : ByteArray := prog_13_method_20_code
def yX11_draws : MethodName := ⟨RX11, "draws", "(I)I"⟩
abbrev cX11_isBarred : ByteArray := prog_13_method_21_code
def yX11_isBarred : MethodName := ⟨RX11, "isBarred", "(I)Z"⟩
abbrev cX11_choose : ByteArray := prog_13_method_22_code
def yX11_choose : MethodName := ⟨RX11, "choose", "(I)I"⟩
abbrev cX11_longest : ByteArray := prog_13_method_23_code
def yX11_longest : MethodName := ⟨RX11, "longest", "()I"⟩
abbrev cX11_drawnWard : ByteArray := prog_13_method_24_code
def yX11_drawnWard : MethodName := ⟨RX11, "drawnWard", "(I)I"⟩
abbrev cX11_pick : ByteArray := prog_13_method_25_code
def yX11_pick : MethodName := ⟨RX11, "pick", "()I"⟩
abbrev cX11_tries : ByteArray := prog_13_method_26_code
def yX11_tries : MethodName := ⟨RX11, "tries", "(I)V"⟩
abbrev cX11_isAhead : ByteArray := prog_13_method_27_code
def yX11_isAhead : MethodName := ⟨RX11, "isAhead", "(I)Z"⟩
abbrev cX11_lots : ByteArray := prog_13_method_28_code
def yX11_lots : MethodName := ⟨RX11, "lots", "(I)Z"⟩
abbrev cX11_drawn : ByteArray := prog_13_method_29_code
def yX11_drawn : MethodName := ⟨RX11, "drawn", "(II)I"⟩
abbrev cX11_runs : ByteArray := prog_13_method_30_code
def yX11_runs : MethodName := ⟨RX11, "runs", "(I)Z"⟩
abbrev cX11_look : ByteArray := prog_13_method_31_code
def yX11_look : MethodName := ⟨RX11, "look", "(II)I"⟩
abbrev cX11_ring : ByteArray := prog_13_method_32_code
def yX11_ring : MethodName := ⟨RX11, "ring", "(I)Z"⟩
abbrev cX11_bend : ByteArray := prog_13_method_33_code
def yX11_bend : MethodName := ⟨RX11, "bend", "(IZ)Z"⟩
abbrev cX11_orders : ByteArray := prog_13_method_34_code
def yX11_orders : MethodName := ⟨RX11, "orders", "(III)Z"⟩
abbrev cX11_seen : ByteArray := prog_13_method_35_code
def yX11_seen : MethodName := ⟨RX11, "seen", "(II)Z"⟩
abbrev cX11_drop : ByteArray := prog_13_method_36_code
def yX11_drop : MethodName := ⟨RX11, "drop", "(I)I"⟩
abbrev cX11_isFalse : ByteArray := prog_13_method_37_code
def yX11_isFalse : MethodName := ⟨RX11, "isFalse", "()V"⟩
abbrev cX11_isOn : ByteArray := prog_13_method_38_code
def yX11_isOn : MethodName := ⟨RX11, "isOn", "(I)Z"⟩
abbrev cX11_cellOf : ByteArray := prog_13_method_39_code
def yX11_cellOf : MethodName := ⟨RX11, "cellOf", "(I)I"⟩
abbrev cX11_isFree : ByteArray := prog_13_method_40_code
def yX11_isFree : MethodName := ⟨RX11, "isFree", "(II)Z"⟩
abbrev cX11_isLane : ByteArray := prog_13_method_41_code
def yX11_isLane : MethodName := ⟨RX11, "isLane", "(I)Z"⟩
abbrev cX11_go : ByteArray := prog_13_method_42_code
def yX11_go : MethodName := ⟨RX11, "go", "(I)I"⟩
abbrev cX11_tick : ByteArray := prog_13_method_43_code
def yX11_tick : MethodName := ⟨RX11, "tick", "()V"⟩
abbrev cX11_isBehind : ByteArray := prog_13_method_44_code
def yX11_isBehind : MethodName := ⟨RX11, "isBehind", "(II)Z"⟩
abbrev cX11_turns : ByteArray := prog_13_method_45_code
def yX11_turns : MethodName := ⟨RX11, "turns", "(I)V"⟩
abbrev cX11_obeys : ByteArray := prog_13_method_46_code
def yX11_obeys : MethodName := ⟨RX11, "obeys", "(I)V"⟩
abbrev cX11_moves : ByteArray := prog_13_method_47_code
def yX11_moves : MethodName := ⟨RX11, "moves", "(I)Z"⟩
abbrev cX11_ends : ByteArray := prog_13_method_48_code
def yX11_ends : MethodName := ⟨RX11, "ends", "()V"⟩
abbrev cX11_race : ByteArray := prog_13_method_49_code
def yX11_race : MethodName := ⟨RX11, "race", "(II)I"⟩
abbrev cX11_won : ByteArray := prog_13_method_50_code
def yX11_won : MethodName := ⟨RX11, "won", "()I"⟩
abbrev cX11_pact : ByteArray := prog_13_method_51_code
def yX11_pact : MethodName := ⟨RX11, "pact", "(III)I"⟩
abbrev cX11_punish : ByteArray := prog_13_method_52_code
def yX11_punish : MethodName := ⟨RX11, "punish", "(I)I"⟩
abbrev cX11_next : ByteArray := prog_13_method_53_code
def yX11_next : MethodName := ⟨RX11, "next", "()I"⟩
abbrev cX11_count : ByteArray := prog_13_method_54_code
def yX11_count : MethodName := ⟨RX11, "count", "(I)I"⟩
def RJ9 : String := "java/lang/Math"
abbrev cJ9_floorMod_7cf53 : ByteArray := prog_14_method_50_code
def yJ9_floorMod_7cf53 : MethodName := ⟨RJ9, "floorMod", "(II)I"⟩
abbrev cJ9_abs_0f7a4 : ByteArray := prog_14_method_59_code
def yJ9_abs_0f7a4 : MethodName := ⟨RJ9, "abs", "(I)I"⟩
abbrev cJ9_max_7cf53 : ByteArray := prog_14_method_65_code
def yJ9_max_7cf53 : MethodName := ⟨RJ9, "max", "(II)I"⟩
abbrev cJ9_min_7cf53 : ByteArray := prog_14_method_69_code
def yJ9_min_7cf53 : MethodName := ⟨RJ9, "min", "(II)I"⟩
def RJ0 : String := "java/lang/String"
abbrev cJ0_length_8abf5 : ByteArray := prog_15_method_54_code
def yJ0_length_8abf5 : MethodName := ⟨RJ0, "length", "()I"⟩
abbrev cJ0_charAt_5068e : ByteArray := prog_15_method_56_code
def yJ0_charAt_5068e : MethodName := ⟨RJ0, "charAt", "(I)C"⟩
abbrev cJ0_coder_7d493 : ByteArray := prog_15_method_152_code
def yJ0_coder_7d493 : MethodName := ⟨RJ0, "coder", "()B"⟩
abbrev cJ0_isLatin1_aae02 : ByteArray := prog_15_method_154_code
def yJ0_isLatin1_aae02 : MethodName := ⟨RJ0, "isLatin1", "()Z"⟩
abbrev cJ0_checkIndex_df160 : ByteArray := prog_15_method_155_code
def yJ0_checkIndex_df160 : MethodName := ⟨RJ0, "checkIndex", "(II)V"⟩
def RJ1 : String := "java/lang/StringLatin1"
abbrev cJ1_charAt_3b067 : ByteArray := prog_16_method_2_code
def yJ1_charAt_3b067 : MethodName := ⟨RJ1, "charAt", "([BI)C"⟩
def RJ2 : String := "java/lang/StringUTF16"
abbrev cJ2_getChar_3b067 : ByteArray := prog_17_method_5_code
def yJ2_getChar_3b067 : MethodName := ⟨RJ2, "getChar", "([BI)C"⟩
abbrev cJ2_length_9d52b : ByteArray := prog_17_method_6_code
def yJ2_length_9d52b : MethodName := ⟨RJ2, "length", "([B)I"⟩
abbrev cJ2_charAt_3b067 : ByteArray := prog_17_method_83_code
def yJ2_charAt_3b067 : MethodName := ⟨RJ2, "charAt", "([BI)C"⟩
abbrev cJ2_checkIndex_2214a : ByteArray := prog_17_method_91_code
def yJ2_checkIndex_2214a : MethodName := ⟨RJ2, "checkIndex", "(I[B)V"⟩
def RJ10 : String := "java/lang/System"
def RJ7 : String := "java/util/Arrays"
abbrev cJ7_fill_53178 : ByteArray := prog_19_method_103_code
def yJ7_fill_53178 : MethodName := ⟨RJ7, "fill", "([II)V"⟩
def RJ3 : String := "jdk/internal/util/Preconditions"
abbrev cJ3_checkIndex_8e157 : ByteArray := prog_20_method_11_code
def yJ3_checkIndex_8e157 : MethodName := ⟨RJ3, "checkIndex", "(IILjava/util/function/BiFunction;)I"⟩
def RL : String := "RopeRaceLaw"
abbrev cL_law : ByteArray := code
def yL_law : MethodName := ⟨RL, "law", "([I)Z"⟩
abbrev vwCl : List vw_C := [(RX0, TX0, 1), (RX1, TX1, 4), (RX2, TX2, 14), (RX3, TX3, 5), (RX4, TX4, 8), (RX5, TX5, 5), (RX6, TX6, 3), (RX7, TX7, 7), (RX8, TX8, 2), (RX9, TX9, 6), (RX10, TX10, 10), (RX11, TX11, 54)]
end
section
theorem dX0_init_0 : decode cX0_init 0 = .ok (.aload_n 0, 1) := by decide +kernel
theorem dX0_init_1 : decode cX0_init 1 = .ok (.invokespecial 1, 3) := by decide +kernel
theorem dX0_init_4 : decode cX0_init 4 = .ok (.return_, 1) := by decide +kernel
theorem dX0_begin_0 : decode cX0_begin 0 = .ok (.aload_n 0, 1) := by decide +kernel
theorem dX0_begin_1 : decode cX0_begin 1 = .ok (.iload_n 1, 1) := by decide +kernel
theorem dX0_begin_2 : decode cX0_begin 2 = .ok (.putfield 7, 3) := by decide +kernel
theorem dX0_begin_5 : decode cX0_begin 5 = .ok (.return_, 1) := by decide +kernel
theorem dX0_below_0 : decode cX0_below 0 = .ok (.aload_n 0, 1) := by decide +kernel
theorem dX0_below_1 : decode cX0_below 1 = .ok (.ldc 13, 2) := by decide +kernel
theorem dX0_below_3 : decode cX0_below 3 = .ok (.aload_n 0, 1) := by decide +kernel
theorem dX0_below_4 : decode cX0_below 4 = .ok (.getfield 7, 3) := by decide +kernel
theorem dX0_below_7 : decode cX0_below 7 = .ok (.imul, 1) := by decide +kernel
theorem dX0_below_8 : decode cX0_below 8 = .ok (.sipush 12345, 3) := by decide +kernel
theorem dX0_below_11 : decode cX0_below 11 = .ok (.iadd, 1) := by decide +kernel
theorem dX0_below_12 : decode cX0_below 12 = .ok (.putfield 7, 3) := by decide +kernel
theorem dX0_below_15 : decode cX0_below 15 = .ok (.aload_n 0, 1) := by decide +kernel
theorem dX0_below_16 : decode cX0_below 16 = .ok (.getfield 7, 3) := by decide +kernel
theorem dX0_below_19 : decode cX0_below 19 = .ok (.bipush 16, 2) := by decide +kernel
theorem dX0_below_21 : decode cX0_below 21 = .ok (.ishr, 1) := by decide +kernel
theorem dX0_below_22 : decode cX0_below 22 = .ok (.sipush 32767, 3) := by decide +kernel
theorem dX0_below_25 : decode cX0_below 25 = .ok (.iand, 1) := by decide +kernel
theorem dX0_below_26 : decode cX0_below 26 = .ok (.istore_n 2, 1) := by decide +kernel
theorem dX0_below_27 : decode cX0_below 27 = .ok (.iload_n 1, 1) := by decide +kernel
theorem dX0_below_28 : decode cX0_below 28 = .ok (.ifCond .le 9, 3) := by decide +kernel
theorem dX0_below_31 : decode cX0_below 31 = .ok (.iload_n 2, 1) := by decide +kernel
theorem dX0_below_32 : decode cX0_below 32 = .ok (.iload_n 1, 1) := by decide +kernel
theorem dX0_below_33 : decode cX0_below 33 = .ok (.irem, 1) := by decide +kernel
theorem dX0_below_34 : decode cX0_below 34 = .ok (.goto 4, 3) := by decide +kernel
theorem dX0_below_37 : decode cX0_below 37 = .ok (.iconst 0, 1) := by decide +kernel
theorem dX0_below_38 : decode cX0_below 38 = .ok (.ireturn, 1) := by decide +kernel
theorem dX1_init_0 : decode cX1_init 0 = .ok (.aload_n 0, 1) := by decide +kernel
theorem dX1_init_1 : decode cX1_init 1 = .ok (.invokespecial 3, 3) := by decide +kernel
theorem dX1_init_4 : decode cX1_init 4 = .ok (.aload_n 0, 1) := by decide +kernel
theorem dX1_init_5 : decode cX1_init 5 = .ok (.bipush 40, 2) := by decide +kernel
theorem dX1_init_7 : decode cX1_init 7 = .ok (.newarray .int, 2) := by decide +kernel
theorem dX1_init_9 : decode cX1_init 9 = .ok (.putfield 9, 3) := by decide +kernel
theorem dX1_init_12 : decode cX1_init 12 = .ok (.aload_n 0, 1) := by decide +kernel
theorem dX1_init_13 : decode cX1_init 13 = .ok (.bipush 40, 2) := by decide +kernel
theorem dX1_init_15 : decode cX1_init 15 = .ok (.newarray .int, 2) := by decide +kernel
theorem dX1_init_17 : decode cX1_init 17 = .ok (.putfield 15, 3) := by decide +kernel
theorem dX1_init_20 : decode cX1_init 20 = .ok (.aload_n 0, 1) := by decide +kernel
theorem dX1_init_21 : decode cX1_init 21 = .ok (.bipush 40, 2) := by decide +kernel
theorem dX1_init_23 : decode cX1_init 23 = .ok (.newarray .int, 2) := by decide +kernel
theorem dX1_init_25 : decode cX1_init 25 = .ok (.putfield 18, 3) := by decide +kernel
theorem dX1_init_28 : decode cX1_init 28 = .ok (.return_, 1) := by decide +kernel
theorem dX1_add_0 : decode cX1_add 0 = .ok (.aload_n 0, 1) := by decide +kernel
theorem dX1_add_1 : decode cX1_add 1 = .ok (.getfield 21, 3) := by decide +kernel
theorem dX1_add_4 : decode cX1_add 4 = .ok (.bipush 40, 2) := by decide +kernel
theorem dX1_add_6 : decode cX1_add 6 = .ok (.if_icmp .lt 5, 3) := by decide +kernel
theorem dX1_add_9 : decode cX1_add 9 = .ok (.iconst (-1), 1) := by decide +kernel
theorem dX1_add_10 : decode cX1_add 10 = .ok (.ireturn, 1) := by decide +kernel
theorem dX1_add_11 : decode cX1_add 11 = .ok (.aload_n 0, 1) := by decide +kernel
theorem dX1_add_12 : decode cX1_add 12 = .ok (.getfield 9, 3) := by decide +kernel
theorem dX1_add_15 : decode cX1_add 15 = .ok (.aload_n 0, 1) := by decide +kernel
theorem dX1_add_16 : decode cX1_add 16 = .ok (.getfield 21, 3) := by decide +kernel
theorem dX1_add_19 : decode cX1_add 19 = .ok (.iload_n 1, 1) := by decide +kernel
theorem dX1_add_20 : decode cX1_add 20 = .ok (.iastore, 1) := by decide +kernel
theorem dX1_add_21 : decode cX1_add 21 = .ok (.aload_n 0, 1) := by decide +kernel
theorem dX1_add_22 : decode cX1_add 22 = .ok (.getfield 15, 3) := by decide +kernel
theorem dX1_add_25 : decode cX1_add 25 = .ok (.aload_n 0, 1) := by decide +kernel
theorem dX1_add_26 : decode cX1_add 26 = .ok (.getfield 21, 3) := by decide +kernel
theorem dX1_add_29 : decode cX1_add 29 = .ok (.iload_n 2, 1) := by decide +kernel
theorem dX1_add_30 : decode cX1_add 30 = .ok (.iastore, 1) := by decide +kernel
theorem dX1_add_31 : decode cX1_add 31 = .ok (.aload_n 0, 1) := by decide +kernel
theorem dX1_add_32 : decode cX1_add 32 = .ok (.getfield 18, 3) := by decide +kernel
theorem dX1_add_35 : decode cX1_add 35 = .ok (.aload_n 0, 1) := by decide +kernel
theorem dX1_add_36 : decode cX1_add 36 = .ok (.getfield 21, 3) := by decide +kernel
theorem dX1_add_39 : decode cX1_add 39 = .ok (.iload_n 3, 1) := by decide +kernel
theorem dX1_add_40 : decode cX1_add 40 = .ok (.iastore, 1) := by decide +kernel
theorem dX1_add_41 : decode cX1_add 41 = .ok (.aload_n 0, 1) := by decide +kernel
theorem dX1_add_42 : decode cX1_add 42 = .ok (.dup, 1) := by decide +kernel
theorem dX1_add_43 : decode cX1_add 43 = .ok (.getfield 21, 3) := by decide +kernel
theorem dX1_add_46 : decode cX1_add 46 = .ok (.iconst 1, 1) := by decide +kernel
theorem dX1_add_47 : decode cX1_add 47 = .ok (.iadd, 1) := by decide +kernel
theorem dX1_add_48 : decode cX1_add 48 = .ok (.putfield 21, 3) := by decide +kernel
theorem dX1_add_51 : decode cX1_add 51 = .ok (.aload_n 0, 1) := by decide +kernel
theorem dX1_add_52 : decode cX1_add 52 = .ok (.getfield 21, 3) := by decide +kernel
theorem dX1_add_55 : decode cX1_add 55 = .ok (.ireturn, 1) := by decide +kernel
theorem dX1_settle_0 : decode cX1_settle 0 = .ok (.iconst 0, 1) := by decide +kernel
theorem dX1_settle_1 : decode cX1_settle 1 = .ok (.istore_n 3, 1) := by decide +kernel
theorem dX1_settle_2 : decode cX1_settle 2 = .ok (.iload_n 3, 1) := by decide +kernel
theorem dX1_settle_3 : decode cX1_settle 3 = .ok (.aload_n 0, 1) := by decide +kernel
theorem dX1_settle_4 : decode cX1_settle 4 = .ok (.getfield 21, 3) := by decide +kernel
theorem dX1_settle_7 : decode cX1_settle 7 = .ok (.if_icmp .ge 85, 3) := by decide +kernel
theorem dX1_settle_10 : decode cX1_settle 10 = .ok (.aload_n 1, 1) := by decide +kernel
theorem dX1_settle_11 : decode cX1_settle 11 = .ok (.aload_n 0, 1) := by decide +kernel
theorem dX1_settle_12 : decode cX1_settle 12 = .ok (.getfield 9, 3) := by decide +kernel
theorem dX1_settle_15 : decode cX1_settle 15 = .ok (.iload_n 3, 1) := by decide +kernel
theorem dX1_settle_16 : decode cX1_settle 16 = .ok (.iaload, 1) := by decide +kernel
theorem dX1_settle_17 : decode cX1_settle 17 = .ok (.invokevirtual 25, 3) := by decide +kernel
theorem dX1_settle_20 : decode cX1_settle 20 = .ok (.astore 4, 2) := by decide +kernel
theorem dX1_settle_22 : decode cX1_settle 22 = .ok (.aload_n 1, 1) := by decide +kernel
theorem dX1_settle_23 : decode cX1_settle 23 = .ok (.aload_n 0, 1) := by decide +kernel
theorem dX1_settle_24 : decode cX1_settle 24 = .ok (.getfield 15, 3) := by decide +kernel
theorem dX1_settle_27 : decode cX1_settle 27 = .ok (.iload_n 3, 1) := by decide +kernel
theorem dX1_settle_28 : decode cX1_settle 28 = .ok (.iaload, 1) := by decide +kernel
theorem dX1_settle_29 : decode cX1_settle 29 = .ok (.invokevirtual 25, 3) := by decide +kernel
theorem dX1_settle_32 : decode cX1_settle 32 = .ok (.astore 5, 2) := by decide +kernel
theorem dX1_settle_34 : decode cX1_settle 34 = .ok (.aload_n 0, 1) := by decide +kernel
theorem dX1_settle_35 : decode cX1_settle 35 = .ok (.getfield 9, 3) := by decide +kernel
theorem dX1_settle_38 : decode cX1_settle 38 = .ok (.iload_n 3, 1) := by decide +kernel
theorem dX1_settle_39 : decode cX1_settle 39 = .ok (.iaload, 1) := by decide +kernel
theorem dX1_settle_40 : decode cX1_settle 40 = .ok (.iload_n 2, 1) := by decide +kernel
theorem dX1_settle_41 : decode cX1_settle 41 = .ok (.if_icmp .ne 45, 3) := by decide +kernel
theorem dX1_settle_44 : decode cX1_settle 44 = .ok (.aload 4, 2) := by decide +kernel
theorem dX1_settle_46 : decode cX1_settle 46 = .ok (.ifnull 40, 3) := by decide +kernel
theorem dX1_settle_49 : decode cX1_settle 49 = .ok (.aload 5, 2) := by decide +kernel
theorem dX1_settle_51 : decode cX1_settle 51 = .ok (.ifnull 35, 3) := by decide +kernel
theorem dX1_settle_54 : decode cX1_settle 54 = .ok (.aload 4, 2) := by decide +kernel
theorem dX1_settle_56 : decode cX1_settle 56 = .ok (.dup, 1) := by decide +kernel
theorem dX1_settle_57 : decode cX1_settle 57 = .ok (.getfield 31, 3) := by decide +kernel
theorem dX1_settle_60 : decode cX1_settle 60 = .ok (.aload_n 0, 1) := by decide +kernel
theorem dX1_settle_61 : decode cX1_settle 61 = .ok (.getfield 18, 3) := by decide +kernel
theorem dX1_settle_64 : decode cX1_settle 64 = .ok (.iload_n 3, 1) := by decide +kernel
theorem dX1_settle_65 : decode cX1_settle 65 = .ok (.iaload, 1) := by decide +kernel
theorem dX1_settle_66 : decode cX1_settle 66 = .ok (.isub, 1) := by decide +kernel
theorem dX1_settle_67 : decode cX1_settle 67 = .ok (.putfield 31, 3) := by decide +kernel
theorem dX1_settle_70 : decode cX1_settle 70 = .ok (.aload 5, 2) := by decide +kernel
theorem dX1_settle_72 : decode cX1_settle 72 = .ok (.dup, 1) := by decide +kernel
theorem dX1_settle_73 : decode cX1_settle 73 = .ok (.getfield 31, 3) := by decide +kernel
theorem dX1_settle_76 : decode cX1_settle 76 = .ok (.aload_n 0, 1) := by decide +kernel
theorem dX1_settle_77 : decode cX1_settle 77 = .ok (.getfield 18, 3) := by decide +kernel
theorem dX1_settle_80 : decode cX1_settle 80 = .ok (.iload_n 3, 1) := by decide +kernel
theorem dX1_settle_81 : decode cX1_settle 81 = .ok (.iaload, 1) := by decide +kernel
theorem dX1_settle_82 : decode cX1_settle 82 = .ok (.iadd, 1) := by decide +kernel
theorem dX1_settle_83 : decode cX1_settle 83 = .ok (.putfield 31, 3) := by decide +kernel
theorem dX1_settle_86 : decode cX1_settle 86 = .ok (.iinc 3 1, 3) := by decide +kernel
theorem dX1_settle_89 : decode cX1_settle 89 = .ok (.goto (-87), 3) := by decide +kernel
theorem dX1_settle_92 : decode cX1_settle 92 = .ok (.aload_n 0, 1) := by decide +kernel
theorem dX1_settle_93 : decode cX1_settle 93 = .ok (.iconst 0, 1) := by decide +kernel
theorem dX1_settle_94 : decode cX1_settle 94 = .ok (.putfield 21, 3) := by decide +kernel
theorem dX1_settle_97 : decode cX1_settle 97 = .ok (.return_, 1) := by decide +kernel
theorem dX3_init_0 : decode cX3_init 0 = .ok (.aload_n 0, 1) := by decide +kernel
theorem dX3_init_1 : decode cX3_init 1 = .ok (.invokespecial 3, 3) := by decide +kernel
theorem dX3_init_4 : decode cX3_init 4 = .ok (.aload_n 0, 1) := by decide +kernel
theorem dX3_init_5 : decode cX3_init 5 = .ok (.bipush 10, 2) := by decide +kernel
theorem dX3_init_7 : decode cX3_init 7 = .ok (.newarray .int, 2) := by decide +kernel
theorem dX3_init_9 : decode cX3_init 9 = .ok (.putfield 9, 3) := by decide +kernel
theorem dX3_init_12 : decode cX3_init 12 = .ok (.aload_n 0, 1) := by decide +kernel
theorem dX3_init_13 : decode cX3_init 13 = .ok (.bipush 10, 2) := by decide +kernel
theorem dX3_init_15 : decode cX3_init 15 = .ok (.newarray .int, 2) := by decide +kernel
theorem dX3_init_17 : decode cX3_init 17 = .ok (.putfield 15, 3) := by decide +kernel
theorem dX3_init_20 : decode cX3_init 20 = .ok (.aload_n 0, 1) := by decide +kernel
theorem dX3_init_21 : decode cX3_init 21 = .ok (.bipush 10, 2) := by decide +kernel
theorem dX3_init_23 : decode cX3_init 23 = .ok (.newarray .int, 2) := by decide +kernel
theorem dX3_init_25 : decode cX3_init 25 = .ok (.putfield 18, 3) := by decide +kernel
theorem dX3_init_28 : decode cX3_init 28 = .ok (.aload_n 0, 1) := by decide +kernel
theorem dX3_init_29 : decode cX3_init 29 = .ok (.bipush 10, 2) := by decide +kernel
theorem dX3_init_31 : decode cX3_init 31 = .ok (.newarray .int, 2) := by decide +kernel
theorem dX3_init_33 : decode cX3_init 33 = .ok (.putfield 21, 3) := by decide +kernel
theorem dX3_init_36 : decode cX3_init 36 = .ok (.return_, 1) := by decide +kernel
theorem dX3_listRunners_0 : decode cX3_listRunners 0 = .ok (.aload_n 0, 1) := by decide +kernel
theorem dX3_listRunners_1 : decode cX3_listRunners 1 = .ok (.iconst 0, 1) := by decide +kernel
theorem dX3_listRunners_2 : decode cX3_listRunners 2 = .ok (.putfield 24, 3) := by decide +kernel
theorem dX3_listRunners_5 : decode cX3_listRunners 5 = .ok (.iconst 0, 1) := by decide +kernel
theorem dX3_listRunners_6 : decode cX3_listRunners 6 = .ok (.istore_n 2, 1) := by decide +kernel
theorem dX3_listRunners_7 : decode cX3_listRunners 7 = .ok (.iload_n 2, 1) := by decide +kernel
theorem dX3_listRunners_8 : decode cX3_listRunners 8 = .ok (.aload_n 1, 1) := by decide +kernel
theorem dX3_listRunners_9 : decode cX3_listRunners 9 = .ok (.getfield 28, 3) := by decide +kernel
theorem dX3_listRunners_12 : decode cX3_listRunners 12 = .ok (.if_icmp .ge 46, 3) := by decide +kernel
theorem dX3_listRunners_15 : decode cX3_listRunners 15 = .ok (.aload_n 0, 1) := by decide +kernel
theorem dX3_listRunners_16 : decode cX3_listRunners 16 = .ok (.getfield 24, 3) := by decide +kernel
theorem dX3_listRunners_19 : decode cX3_listRunners 19 = .ok (.bipush 10, 2) := by decide +kernel
theorem dX3_listRunners_21 : decode cX3_listRunners 21 = .ok (.if_icmp .ge 37, 3) := by decide +kernel
theorem dX3_listRunners_24 : decode cX3_listRunners 24 = .ok (.aload_n 1, 1) := by decide +kernel
theorem dX3_listRunners_25 : decode cX3_listRunners 25 = .ok (.iload_n 2, 1) := by decide +kernel
theorem dX3_listRunners_26 : decode cX3_listRunners 26 = .ok (.invokevirtual 33, 3) := by decide +kernel
theorem dX3_listRunners_29 : decode cX3_listRunners 29 = .ok (.ifCond .eq 23, 3) := by decide +kernel
theorem dX3_listRunners_32 : decode cX3_listRunners 32 = .ok (.aload_n 0, 1) := by decide +kernel
theorem dX3_listRunners_33 : decode cX3_listRunners 33 = .ok (.getfield 9, 3) := by decide +kernel
theorem dX3_listRunners_36 : decode cX3_listRunners 36 = .ok (.aload_n 0, 1) := by decide +kernel
theorem dX3_listRunners_37 : decode cX3_listRunners 37 = .ok (.getfield 24, 3) := by decide +kernel
theorem dX3_listRunners_40 : decode cX3_listRunners 40 = .ok (.iload_n 2, 1) := by decide +kernel
theorem dX3_listRunners_41 : decode cX3_listRunners 41 = .ok (.iastore, 1) := by decide +kernel
theorem dX3_listRunners_42 : decode cX3_listRunners 42 = .ok (.aload_n 0, 1) := by decide +kernel
theorem dX3_listRunners_43 : decode cX3_listRunners 43 = .ok (.dup, 1) := by decide +kernel
theorem dX3_listRunners_44 : decode cX3_listRunners 44 = .ok (.getfield 24, 3) := by decide +kernel
theorem dX3_listRunners_47 : decode cX3_listRunners 47 = .ok (.iconst 1, 1) := by decide +kernel
theorem dX3_listRunners_48 : decode cX3_listRunners 48 = .ok (.iadd, 1) := by decide +kernel
theorem dX3_listRunners_49 : decode cX3_listRunners 49 = .ok (.putfield 24, 3) := by decide +kernel
theorem dX3_listRunners_52 : decode cX3_listRunners 52 = .ok (.iinc 2 1, 3) := by decide +kernel
theorem dX3_listRunners_55 : decode cX3_listRunners 55 = .ok (.goto (-48), 3) := by decide +kernel
theorem dX3_listRunners_58 : decode cX3_listRunners 58 = .ok (.return_, 1) := by decide +kernel
theorem dX3_drawHorses_0 : decode cX3_drawHorses 0 = .ok (.aload_n 0, 1) := by decide +kernel
theorem dX3_drawHorses_1 : decode cX3_drawHorses 1 = .ok (.aload_n 2, 1) := by decide +kernel
theorem dX3_drawHorses_2 : decode cX3_drawHorses 2 = .ok (.invokevirtual 37, 3) := by decide +kernel
theorem dX3_drawHorses_5 : decode cX3_drawHorses 5 = .ok (.iconst 0, 1) := by decide +kernel
theorem dX3_drawHorses_6 : decode cX3_drawHorses 6 = .ok (.istore 4, 2) := by decide +kernel
theorem dX3_drawHorses_8 : decode cX3_drawHorses 8 = .ok (.iload 4, 2) := by decide +kernel
theorem dX3_drawHorses_10 : decode cX3_drawHorses 10 = .ok (.aload_n 0, 1) := by decide +kernel
theorem dX3_drawHorses_11 : decode cX3_drawHorses 11 = .ok (.getfield 24, 3) := by decide +kernel
theorem dX3_drawHorses_14 : decode cX3_drawHorses 14 = .ok (.if_icmp .ge 51, 3) := by decide +kernel
theorem dX3_drawHorses_17 : decode cX3_drawHorses 17 = .ok (.aload_n 0, 1) := by decide +kernel
theorem dX3_drawHorses_18 : decode cX3_drawHorses 18 = .ok (.aload_n 3, 1) := by decide +kernel
theorem dX3_drawHorses_19 : decode cX3_drawHorses 19 = .ok (.aload_n 0, 1) := by decide +kernel
theorem dX3_drawHorses_20 : decode cX3_drawHorses 20 = .ok (.getfield 24, 3) := by decide +kernel
theorem dX3_drawHorses_23 : decode cX3_drawHorses 23 = .ok (.iload 4, 2) := by decide +kernel
theorem dX3_drawHorses_25 : decode cX3_drawHorses 25 = .ok (.isub, 1) := by decide +kernel
theorem dX3_drawHorses_26 : decode cX3_drawHorses 26 = .ok (.invokevirtual 41, 3) := by decide +kernel
theorem dX3_drawHorses_29 : decode cX3_drawHorses 29 = .ok (.invokevirtual 47, 3) := by decide +kernel
theorem dX3_drawHorses_32 : decode cX3_drawHorses 32 = .ok (.istore 5, 2) := by decide +kernel
theorem dX3_drawHorses_34 : decode cX3_drawHorses 34 = .ok (.aload_n 1, 1) := by decide +kernel
theorem dX3_drawHorses_35 : decode cX3_drawHorses 35 = .ok (.aload_n 0, 1) := by decide +kernel
theorem dX3_drawHorses_36 : decode cX3_drawHorses 36 = .ok (.getfield 9, 3) := by decide +kernel
theorem dX3_drawHorses_39 : decode cX3_drawHorses 39 = .ok (.iload 4, 2) := by decide +kernel
theorem dX3_drawHorses_41 : decode cX3_drawHorses 41 = .ok (.iaload, 1) := by decide +kernel
theorem dX3_drawHorses_42 : decode cX3_drawHorses 42 = .ok (.invokevirtual 50, 3) := by decide +kernel
theorem dX3_drawHorses_45 : decode cX3_drawHorses 45 = .ok (.astore 6, 2) := by decide +kernel
theorem dX3_drawHorses_47 : decode cX3_drawHorses 47 = .ok (.aload 6, 2) := by decide +kernel
theorem dX3_drawHorses_49 : decode cX3_drawHorses 49 = .ok (.ifnull 10, 3) := by decide +kernel
theorem dX3_drawHorses_52 : decode cX3_drawHorses 52 = .ok (.aload 6, 2) := by decide +kernel
theorem dX3_drawHorses_54 : decode cX3_drawHorses 54 = .ok (.iload 5, 2) := by decide +kernel
theorem dX3_drawHorses_56 : decode cX3_drawHorses 56 = .ok (.putfield 54, 3) := by decide +kernel
theorem dX3_drawHorses_59 : decode cX3_drawHorses 59 = .ok (.iinc 4 1, 3) := by decide +kernel
theorem dX3_drawHorses_62 : decode cX3_drawHorses 62 = .ok (.goto (-54), 3) := by decide +kernel
theorem dX3_drawHorses_65 : decode cX3_drawHorses 65 = .ok (.return_, 1) := by decide +kernel
theorem dX3_drawPlaces_0 : decode cX3_drawPlaces 0 = .ok (.aload_n 0, 1) := by decide +kernel
theorem dX3_drawPlaces_1 : decode cX3_drawPlaces 1 = .ok (.aload_n 0, 1) := by decide +kernel
theorem dX3_drawPlaces_2 : decode cX3_drawPlaces 2 = .ok (.getfield 9, 3) := by decide +kernel
theorem dX3_drawPlaces_5 : decode cX3_drawPlaces 5 = .ok (.invokevirtual 37, 3) := by decide +kernel
theorem dX3_drawPlaces_8 : decode cX3_drawPlaces 8 = .ok (.iconst 0, 1) := by decide +kernel
theorem dX3_drawPlaces_9 : decode cX3_drawPlaces 9 = .ok (.istore_n 2, 1) := by decide +kernel
theorem dX3_drawPlaces_10 : decode cX3_drawPlaces 10 = .ok (.iload_n 2, 1) := by decide +kernel
theorem dX3_drawPlaces_11 : decode cX3_drawPlaces 11 = .ok (.aload_n 0, 1) := by decide +kernel
theorem dX3_drawPlaces_12 : decode cX3_drawPlaces 12 = .ok (.getfield 24, 3) := by decide +kernel
theorem dX3_drawPlaces_15 : decode cX3_drawPlaces 15 = .ok (.if_icmp .ge 29, 3) := by decide +kernel
theorem dX3_drawPlaces_18 : decode cX3_drawPlaces 18 = .ok (.aload_n 0, 1) := by decide +kernel
theorem dX3_drawPlaces_19 : decode cX3_drawPlaces 19 = .ok (.getfield 15, 3) := by decide +kernel
theorem dX3_drawPlaces_22 : decode cX3_drawPlaces 22 = .ok (.iload_n 2, 1) := by decide +kernel
theorem dX3_drawPlaces_23 : decode cX3_drawPlaces 23 = .ok (.aload_n 0, 1) := by decide +kernel
theorem dX3_drawPlaces_24 : decode cX3_drawPlaces 24 = .ok (.aload_n 1, 1) := by decide +kernel
theorem dX3_drawPlaces_25 : decode cX3_drawPlaces 25 = .ok (.aload_n 0, 1) := by decide +kernel
theorem dX3_drawPlaces_26 : decode cX3_drawPlaces 26 = .ok (.getfield 24, 3) := by decide +kernel
theorem dX3_drawPlaces_29 : decode cX3_drawPlaces 29 = .ok (.iload_n 2, 1) := by decide +kernel
theorem dX3_drawPlaces_30 : decode cX3_drawPlaces 30 = .ok (.isub, 1) := by decide +kernel
theorem dX3_drawPlaces_31 : decode cX3_drawPlaces 31 = .ok (.invokevirtual 41, 3) := by decide +kernel
theorem dX3_drawPlaces_34 : decode cX3_drawPlaces 34 = .ok (.invokevirtual 47, 3) := by decide +kernel
theorem dX3_drawPlaces_37 : decode cX3_drawPlaces 37 = .ok (.iastore, 1) := by decide +kernel
theorem dX3_drawPlaces_38 : decode cX3_drawPlaces 38 = .ok (.iinc 2 1, 3) := by decide +kernel
theorem dX3_drawPlaces_41 : decode cX3_drawPlaces 41 = .ok (.goto (-31), 3) := by decide +kernel
theorem dX3_drawPlaces_44 : decode cX3_drawPlaces 44 = .ok (.aload_n 0, 1) := by decide +kernel
theorem dX3_drawPlaces_45 : decode cX3_drawPlaces 45 = .ok (.invokevirtual 59, 3) := by decide +kernel
theorem dX3_drawPlaces_48 : decode cX3_drawPlaces 48 = .ok (.return_, 1) := by decide +kernel
theorem dX3_layOut_0 : decode cX3_layOut 0 = .ok (.iconst 0, 1) := by decide +kernel
theorem dX3_layOut_1 : decode cX3_layOut 1 = .ok (.istore_n 2, 1) := by decide +kernel
theorem dX3_layOut_2 : decode cX3_layOut 2 = .ok (.iload_n 2, 1) := by decide +kernel
theorem dX3_layOut_3 : decode cX3_layOut 3 = .ok (.aload_n 0, 1) := by decide +kernel
theorem dX3_layOut_4 : decode cX3_layOut 4 = .ok (.getfield 24, 3) := by decide +kernel
theorem dX3_layOut_7 : decode cX3_layOut 7 = .ok (.if_icmp .ge 24, 3) := by decide +kernel
theorem dX3_layOut_10 : decode cX3_layOut 10 = .ok (.iload_n 2, 1) := by decide +kernel
theorem dX3_layOut_11 : decode cX3_layOut 11 = .ok (.aload_n 1, 1) := by decide +kernel
theorem dX3_layOut_12 : decode cX3_layOut 12 = .ok (.arraylength, 1) := by decide +kernel
theorem dX3_layOut_13 : decode cX3_layOut 13 = .ok (.if_icmp .ge 18, 3) := by decide +kernel
theorem dX3_layOut_16 : decode cX3_layOut 16 = .ok (.aload_n 0, 1) := by decide +kernel
theorem dX3_layOut_17 : decode cX3_layOut 17 = .ok (.getfield 21, 3) := by decide +kernel
theorem dX3_layOut_20 : decode cX3_layOut 20 = .ok (.iload_n 2, 1) := by decide +kernel
theorem dX3_layOut_21 : decode cX3_layOut 21 = .ok (.aload_n 1, 1) := by decide +kernel
theorem dX3_layOut_22 : decode cX3_layOut 22 = .ok (.iload_n 2, 1) := by decide +kernel
theorem dX3_layOut_23 : decode cX3_layOut 23 = .ok (.iaload, 1) := by decide +kernel
theorem dX3_layOut_24 : decode cX3_layOut 24 = .ok (.iastore, 1) := by decide +kernel
theorem dX3_layOut_25 : decode cX3_layOut 25 = .ok (.iinc 2 1, 3) := by decide +kernel
theorem dX3_layOut_28 : decode cX3_layOut 28 = .ok (.goto (-26), 3) := by decide +kernel
theorem dX3_layOut_31 : decode cX3_layOut 31 = .ok (.return_, 1) := by decide +kernel
theorem dX3_takeLeft_0 : decode cX3_takeLeft 0 = .ok (.iload_n 1, 1) := by decide +kernel
theorem dX3_takeLeft_1 : decode cX3_takeLeft 1 = .ok (.ifCond .lt 11, 3) := by decide +kernel
theorem dX3_takeLeft_4 : decode cX3_takeLeft 4 = .ok (.iload_n 1, 1) := by decide +kernel
theorem dX3_takeLeft_5 : decode cX3_takeLeft 5 = .ok (.aload_n 0, 1) := by decide +kernel
theorem dX3_takeLeft_6 : decode cX3_takeLeft 6 = .ok (.getfield 24, 3) := by decide +kernel
theorem dX3_takeLeft_9 : decode cX3_takeLeft 9 = .ok (.if_icmp .lt 5, 3) := by decide +kernel
theorem dX3_takeLeft_12 : decode cX3_takeLeft 12 = .ok (.iconst (-1), 1) := by decide +kernel
theorem dX3_takeLeft_13 : decode cX3_takeLeft 13 = .ok (.ireturn, 1) := by decide +kernel
theorem dX3_takeLeft_14 : decode cX3_takeLeft 14 = .ok (.aload_n 0, 1) := by decide +kernel
theorem dX3_takeLeft_15 : decode cX3_takeLeft 15 = .ok (.getfield 21, 3) := by decide +kernel
theorem dX3_takeLeft_18 : decode cX3_takeLeft 18 = .ok (.iload_n 1, 1) := by decide +kernel
theorem dX3_takeLeft_19 : decode cX3_takeLeft 19 = .ok (.iaload, 1) := by decide +kernel
theorem dX3_takeLeft_20 : decode cX3_takeLeft 20 = .ok (.istore_n 2, 1) := by decide +kernel
theorem dX3_takeLeft_21 : decode cX3_takeLeft 21 = .ok (.aload_n 0, 1) := by decide +kernel
theorem dX3_takeLeft_22 : decode cX3_takeLeft 22 = .ok (.aload_n 0, 1) := by decide +kernel
theorem dX3_takeLeft_23 : decode cX3_takeLeft 23 = .ok (.getfield 21, 3) := by decide +kernel
theorem dX3_takeLeft_26 : decode cX3_takeLeft 26 = .ok (.iload_n 1, 1) := by decide +kernel
theorem dX3_takeLeft_27 : decode cX3_takeLeft 27 = .ok (.invokevirtual 62, 3) := by decide +kernel
theorem dX3_takeLeft_30 : decode cX3_takeLeft 30 = .ok (.iload_n 2, 1) := by decide +kernel
theorem dX3_takeLeft_31 : decode cX3_takeLeft 31 = .ok (.ireturn, 1) := by decide +kernel
theorem dX3_closeGap_0 : decode cX3_closeGap 0 = .ok (.iload_n 2, 1) := by decide +kernel
theorem dX3_closeGap_1 : decode cX3_closeGap 1 = .ok (.istore_n 3, 1) := by decide +kernel
theorem dX3_closeGap_2 : decode cX3_closeGap 2 = .ok (.iload_n 3, 1) := by decide +kernel
theorem dX3_closeGap_3 : decode cX3_closeGap 3 = .ok (.iconst 1, 1) := by decide +kernel
theorem dX3_closeGap_4 : decode cX3_closeGap 4 = .ok (.iadd, 1) := by decide +kernel
theorem dX3_closeGap_5 : decode cX3_closeGap 5 = .ok (.aload_n 0, 1) := by decide +kernel
theorem dX3_closeGap_6 : decode cX3_closeGap 6 = .ok (.getfield 24, 3) := by decide +kernel
theorem dX3_closeGap_9 : decode cX3_closeGap 9 = .ok (.if_icmp .ge 25, 3) := by decide +kernel
theorem dX3_closeGap_12 : decode cX3_closeGap 12 = .ok (.iload_n 3, 1) := by decide +kernel
theorem dX3_closeGap_13 : decode cX3_closeGap 13 = .ok (.iconst 1, 1) := by decide +kernel
theorem dX3_closeGap_14 : decode cX3_closeGap 14 = .ok (.iadd, 1) := by decide +kernel
theorem dX3_closeGap_15 : decode cX3_closeGap 15 = .ok (.aload_n 1, 1) := by decide +kernel
theorem dX3_closeGap_16 : decode cX3_closeGap 16 = .ok (.arraylength, 1) := by decide +kernel
theorem dX3_closeGap_17 : decode cX3_closeGap 17 = .ok (.if_icmp .ge 17, 3) := by decide +kernel
theorem dX3_closeGap_20 : decode cX3_closeGap 20 = .ok (.aload_n 1, 1) := by decide +kernel
theorem dX3_closeGap_21 : decode cX3_closeGap 21 = .ok (.iload_n 3, 1) := by decide +kernel
theorem dX3_closeGap_22 : decode cX3_closeGap 22 = .ok (.aload_n 1, 1) := by decide +kernel
theorem dX3_closeGap_23 : decode cX3_closeGap 23 = .ok (.iload_n 3, 1) := by decide +kernel
theorem dX3_closeGap_24 : decode cX3_closeGap 24 = .ok (.iconst 1, 1) := by decide +kernel
theorem dX3_closeGap_25 : decode cX3_closeGap 25 = .ok (.iadd, 1) := by decide +kernel
theorem dX3_closeGap_26 : decode cX3_closeGap 26 = .ok (.iaload, 1) := by decide +kernel
theorem dX3_closeGap_27 : decode cX3_closeGap 27 = .ok (.iastore, 1) := by decide +kernel
theorem dX3_closeGap_28 : decode cX3_closeGap 28 = .ok (.iinc 3 1, 3) := by decide +kernel
theorem dX3_closeGap_31 : decode cX3_closeGap 31 = .ok (.goto (-29), 3) := by decide +kernel
theorem dX3_closeGap_34 : decode cX3_closeGap 34 = .ok (.return_, 1) := by decide +kernel
theorem dX3_forgetSeen_0 : decode cX3_forgetSeen 0 = .ok (.aload_n 0, 1) := by decide +kernel
theorem dX3_forgetSeen_1 : decode cX3_forgetSeen 1 = .ok (.getfield 18, 3) := by decide +kernel
theorem dX3_forgetSeen_4 : decode cX3_forgetSeen 4 = .ok (.iconst (-1), 1) := by decide +kernel
theorem dX3_forgetSeen_5 : decode cX3_forgetSeen 5 = .ok (.invokestatic 66, 3) := by decide +kernel
theorem dX3_forgetSeen_8 : decode cX3_forgetSeen 8 = .ok (.return_, 1) := by decide +kernel
theorem dX3_hasOther_0 : decode cX3_hasOther 0 = .ok (.aload_n 0, 1) := by decide +kernel
theorem dX3_hasOther_1 : decode cX3_hasOther 1 = .ok (.getfield 18, 3) := by decide +kernel
theorem dX3_hasOther_4 : decode cX3_hasOther 4 = .ok (.iload_n 1, 1) := by decide +kernel
theorem dX3_hasOther_5 : decode cX3_hasOther 5 = .ok (.iaload, 1) := by decide +kernel
theorem dX3_hasOther_6 : decode cX3_hasOther 6 = .ok (.iconst (-1), 1) := by decide +kernel
theorem dX3_hasOther_7 : decode cX3_hasOther 7 = .ok (.if_icmp .eq 22, 3) := by decide +kernel
theorem dX3_hasOther_10 : decode cX3_hasOther 10 = .ok (.aload_n 0, 1) := by decide +kernel
theorem dX3_hasOther_11 : decode cX3_hasOther 11 = .ok (.getfield 18, 3) := by decide +kernel
theorem dX3_hasOther_14 : decode cX3_hasOther 14 = .ok (.iload_n 1, 1) := by decide +kernel
theorem dX3_hasOther_15 : decode cX3_hasOther 15 = .ok (.iaload, 1) := by decide +kernel
theorem dX3_hasOther_16 : decode cX3_hasOther 16 = .ok (.aload_n 0, 1) := by decide +kernel
theorem dX3_hasOther_17 : decode cX3_hasOther 17 = .ok (.getfield 15, 3) := by decide +kernel
theorem dX3_hasOther_20 : decode cX3_hasOther 20 = .ok (.iload_n 1, 1) := by decide +kernel
theorem dX3_hasOther_21 : decode cX3_hasOther 21 = .ok (.iaload, 1) := by decide +kernel
theorem dX3_hasOther_22 : decode cX3_hasOther 22 = .ok (.if_icmp .eq 7, 3) := by decide +kernel
theorem dX3_hasOther_25 : decode cX3_hasOther 25 = .ok (.iconst 1, 1) := by decide +kernel
theorem dX3_hasOther_26 : decode cX3_hasOther 26 = .ok (.goto 4, 3) := by decide +kernel
theorem dX3_hasOther_29 : decode cX3_hasOther 29 = .ok (.iconst 0, 1) := by decide +kernel
theorem dX3_hasOther_30 : decode cX3_hasOther 30 = .ok (.ireturn, 1) := by decide +kernel
theorem dX3_countOthers_0 : decode cX3_countOthers 0 = .ok (.iconst 0, 1) := by decide +kernel
theorem dX3_countOthers_1 : decode cX3_countOthers 1 = .ok (.istore_n 1, 1) := by decide +kernel
theorem dX3_countOthers_2 : decode cX3_countOthers 2 = .ok (.iconst 0, 1) := by decide +kernel
theorem dX3_countOthers_3 : decode cX3_countOthers 3 = .ok (.istore_n 2, 1) := by decide +kernel
theorem dX3_countOthers_4 : decode cX3_countOthers 4 = .ok (.iload_n 2, 1) := by decide +kernel
theorem dX3_countOthers_5 : decode cX3_countOthers 5 = .ok (.aload_n 0, 1) := by decide +kernel
theorem dX3_countOthers_6 : decode cX3_countOthers 6 = .ok (.getfield 24, 3) := by decide +kernel
theorem dX3_countOthers_9 : decode cX3_countOthers 9 = .ok (.if_icmp .ge 20, 3) := by decide +kernel
theorem dX3_countOthers_12 : decode cX3_countOthers 12 = .ok (.aload_n 0, 1) := by decide +kernel
theorem dX3_countOthers_13 : decode cX3_countOthers 13 = .ok (.iload_n 2, 1) := by decide +kernel
theorem dX3_countOthers_14 : decode cX3_countOthers 14 = .ok (.invokevirtual 71, 3) := by decide +kernel
theorem dX3_countOthers_17 : decode cX3_countOthers 17 = .ok (.ifCond .eq 6, 3) := by decide +kernel
theorem dX3_countOthers_20 : decode cX3_countOthers 20 = .ok (.iinc 1 1, 3) := by decide +kernel
theorem dX3_countOthers_23 : decode cX3_countOthers 23 = .ok (.iinc 2 1, 3) := by decide +kernel
theorem dX3_countOthers_26 : decode cX3_countOthers 26 = .ok (.goto (-22), 3) := by decide +kernel
theorem dX3_countOthers_29 : decode cX3_countOthers 29 = .ok (.iload_n 1, 1) := by decide +kernel
theorem dX3_countOthers_30 : decode cX3_countOthers 30 = .ok (.ireturn, 1) := by decide +kernel
theorem dX3_addFalseStarts_0 : decode cX3_addFalseStarts 0 = .ok (.iconst 0, 1) := by decide +kernel
theorem dX3_addFalseStarts_1 : decode cX3_addFalseStarts 1 = .ok (.istore_n 2, 1) := by decide +kernel
theorem dX3_addFalseStarts_2 : decode cX3_addFalseStarts 2 = .ok (.iload_n 2, 1) := by decide +kernel
theorem dX3_addFalseStarts_3 : decode cX3_addFalseStarts 3 = .ok (.aload_n 0, 1) := by decide +kernel
theorem dX3_addFalseStarts_4 : decode cX3_addFalseStarts 4 = .ok (.getfield 24, 3) := by decide +kernel
theorem dX3_addFalseStarts_7 : decode cX3_addFalseStarts 7 = .ok (.if_icmp .ge 42, 3) := by decide +kernel
theorem dX3_addFalseStarts_10 : decode cX3_addFalseStarts 10 = .ok (.aload_n 1, 1) := by decide +kernel
theorem dX3_addFalseStarts_11 : decode cX3_addFalseStarts 11 = .ok (.aload_n 0, 1) := by decide +kernel
theorem dX3_addFalseStarts_12 : decode cX3_addFalseStarts 12 = .ok (.getfield 15, 3) := by decide +kernel
theorem dX3_addFalseStarts_15 : decode cX3_addFalseStarts 15 = .ok (.iload_n 2, 1) := by decide +kernel
theorem dX3_addFalseStarts_16 : decode cX3_addFalseStarts 16 = .ok (.iaload, 1) := by decide +kernel
theorem dX3_addFalseStarts_17 : decode cX3_addFalseStarts 17 = .ok (.invokevirtual 50, 3) := by decide +kernel
theorem dX3_addFalseStarts_20 : decode cX3_addFalseStarts 20 = .ok (.astore_n 3, 1) := by decide +kernel
theorem dX3_addFalseStarts_21 : decode cX3_addFalseStarts 21 = .ok (.aload_n 3, 1) := by decide +kernel
theorem dX3_addFalseStarts_22 : decode cX3_addFalseStarts 22 = .ok (.ifnull 21, 3) := by decide +kernel
theorem dX3_addFalseStarts_25 : decode cX3_addFalseStarts 25 = .ok (.aload_n 0, 1) := by decide +kernel
theorem dX3_addFalseStarts_26 : decode cX3_addFalseStarts 26 = .ok (.iload_n 2, 1) := by decide +kernel
theorem dX3_addFalseStarts_27 : decode cX3_addFalseStarts 27 = .ok (.invokevirtual 71, 3) := by decide +kernel
theorem dX3_addFalseStarts_30 : decode cX3_addFalseStarts 30 = .ok (.ifCond .eq 13, 3) := by decide +kernel
theorem dX3_addFalseStarts_33 : decode cX3_addFalseStarts 33 = .ok (.aload_n 3, 1) := by decide +kernel
theorem dX3_addFalseStarts_34 : decode cX3_addFalseStarts 34 = .ok (.dup, 1) := by decide +kernel
theorem dX3_addFalseStarts_35 : decode cX3_addFalseStarts 35 = .ok (.getfield 74, 3) := by decide +kernel
theorem dX3_addFalseStarts_38 : decode cX3_addFalseStarts 38 = .ok (.iconst 1, 1) := by decide +kernel
theorem dX3_addFalseStarts_39 : decode cX3_addFalseStarts 39 = .ok (.iadd, 1) := by decide +kernel
theorem dX3_addFalseStarts_40 : decode cX3_addFalseStarts 40 = .ok (.putfield 74, 3) := by decide +kernel
theorem dX3_addFalseStarts_43 : decode cX3_addFalseStarts 43 = .ok (.iinc 2 1, 3) := by decide +kernel
theorem dX3_addFalseStarts_46 : decode cX3_addFalseStarts 46 = .ok (.goto (-44), 3) := by decide +kernel
theorem dX3_addFalseStarts_49 : decode cX3_addFalseStarts 49 = .ok (.return_, 1) := by decide +kernel
theorem dX3_sendBack_0 : decode cX3_sendBack 0 = .ok (.iconst 0, 1) := by decide +kernel
theorem dX3_sendBack_1 : decode cX3_sendBack 1 = .ok (.istore_n 3, 1) := by decide +kernel
theorem dX3_sendBack_2 : decode cX3_sendBack 2 = .ok (.iload_n 3, 1) := by decide +kernel
theorem dX3_sendBack_3 : decode cX3_sendBack 3 = .ok (.aload_n 0, 1) := by decide +kernel
theorem dX3_sendBack_4 : decode cX3_sendBack 4 = .ok (.getfield 24, 3) := by decide +kernel
theorem dX3_sendBack_7 : decode cX3_sendBack 7 = .ok (.if_icmp .ge 55, 3) := by decide +kernel
theorem dX3_sendBack_10 : decode cX3_sendBack 10 = .ok (.iload_n 2, 1) := by decide +kernel
theorem dX3_sendBack_11 : decode cX3_sendBack 11 = .ok (.ifCond .le 51, 3) := by decide +kernel
theorem dX3_sendBack_14 : decode cX3_sendBack 14 = .ok (.aload_n 1, 1) := by decide +kernel
theorem dX3_sendBack_15 : decode cX3_sendBack 15 = .ok (.aload_n 0, 1) := by decide +kernel
theorem dX3_sendBack_16 : decode cX3_sendBack 16 = .ok (.getfield 9, 3) := by decide +kernel
theorem dX3_sendBack_19 : decode cX3_sendBack 19 = .ok (.iload_n 3, 1) := by decide +kernel
theorem dX3_sendBack_20 : decode cX3_sendBack 20 = .ok (.iaload, 1) := by decide +kernel
theorem dX3_sendBack_21 : decode cX3_sendBack 21 = .ok (.invokevirtual 50, 3) := by decide +kernel
theorem dX3_sendBack_24 : decode cX3_sendBack 24 = .ok (.astore 4, 2) := by decide +kernel
theorem dX3_sendBack_26 : decode cX3_sendBack 26 = .ok (.aload 4, 2) := by decide +kernel
theorem dX3_sendBack_28 : decode cX3_sendBack 28 = .ok (.ifnull 28, 3) := by decide +kernel
theorem dX3_sendBack_31 : decode cX3_sendBack 31 = .ok (.aload 4, 2) := by decide +kernel
theorem dX3_sendBack_33 : decode cX3_sendBack 33 = .ok (.getfield 74, 3) := by decide +kernel
theorem dX3_sendBack_36 : decode cX3_sendBack 36 = .ok (.iload_n 2, 1) := by decide +kernel
theorem dX3_sendBack_37 : decode cX3_sendBack 37 = .ok (.if_icmp .lt 19, 3) := by decide +kernel
theorem dX3_sendBack_40 : decode cX3_sendBack 40 = .ok (.aload_n 0, 1) := by decide +kernel
theorem dX3_sendBack_41 : decode cX3_sendBack 41 = .ok (.aload_n 0, 1) := by decide +kernel
theorem dX3_sendBack_42 : decode cX3_sendBack 42 = .ok (.getfield 9, 3) := by decide +kernel
theorem dX3_sendBack_45 : decode cX3_sendBack 45 = .ok (.iload_n 3, 1) := by decide +kernel
theorem dX3_sendBack_46 : decode cX3_sendBack 46 = .ok (.iaload, 1) := by decide +kernel
theorem dX3_sendBack_47 : decode cX3_sendBack 47 = .ok (.invokevirtual 77, 3) := by decide +kernel
theorem dX3_sendBack_50 : decode cX3_sendBack 50 = .ok (.aload 4, 2) := by decide +kernel
theorem dX3_sendBack_52 : decode cX3_sendBack 52 = .ok (.iconst 0, 1) := by decide +kernel
theorem dX3_sendBack_53 : decode cX3_sendBack 53 = .ok (.putfield 74, 3) := by decide +kernel
theorem dX3_sendBack_56 : decode cX3_sendBack 56 = .ok (.iinc 3 1, 3) := by decide +kernel
theorem dX3_sendBack_59 : decode cX3_sendBack 59 = .ok (.goto (-57), 3) := by decide +kernel
theorem dX3_sendBack_62 : decode cX3_sendBack 62 = .ok (.return_, 1) := by decide +kernel
theorem dX3_moveToEnd_0 : decode cX3_moveToEnd 0 = .ok (.iconst 0, 1) := by decide +kernel
theorem dX3_moveToEnd_1 : decode cX3_moveToEnd 1 = .ok (.istore_n 2, 1) := by decide +kernel
theorem dX3_moveToEnd_2 : decode cX3_moveToEnd 2 = .ok (.iload_n 2, 1) := by decide +kernel
theorem dX3_moveToEnd_3 : decode cX3_moveToEnd 3 = .ok (.aload_n 0, 1) := by decide +kernel
theorem dX3_moveToEnd_4 : decode cX3_moveToEnd 4 = .ok (.getfield 24, 3) := by decide +kernel
theorem dX3_moveToEnd_7 : decode cX3_moveToEnd 7 = .ok (.if_icmp .ge 41, 3) := by decide +kernel
theorem dX3_moveToEnd_10 : decode cX3_moveToEnd 10 = .ok (.aload_n 0, 1) := by decide +kernel
theorem dX3_moveToEnd_11 : decode cX3_moveToEnd 11 = .ok (.getfield 15, 3) := by decide +kernel
theorem dX3_moveToEnd_14 : decode cX3_moveToEnd 14 = .ok (.iload_n 2, 1) := by decide +kernel
theorem dX3_moveToEnd_15 : decode cX3_moveToEnd 15 = .ok (.iaload, 1) := by decide +kernel
theorem dX3_moveToEnd_16 : decode cX3_moveToEnd 16 = .ok (.iload_n 1, 1) := by decide +kernel
theorem dX3_moveToEnd_17 : decode cX3_moveToEnd 17 = .ok (.if_icmp .ne 25, 3) := by decide +kernel
theorem dX3_moveToEnd_20 : decode cX3_moveToEnd 20 = .ok (.aload_n 0, 1) := by decide +kernel
theorem dX3_moveToEnd_21 : decode cX3_moveToEnd 21 = .ok (.aload_n 0, 1) := by decide +kernel
theorem dX3_moveToEnd_22 : decode cX3_moveToEnd 22 = .ok (.getfield 15, 3) := by decide +kernel
theorem dX3_moveToEnd_25 : decode cX3_moveToEnd 25 = .ok (.iload_n 2, 1) := by decide +kernel
theorem dX3_moveToEnd_26 : decode cX3_moveToEnd 26 = .ok (.invokevirtual 62, 3) := by decide +kernel
theorem dX3_moveToEnd_29 : decode cX3_moveToEnd 29 = .ok (.aload_n 0, 1) := by decide +kernel
theorem dX3_moveToEnd_30 : decode cX3_moveToEnd 30 = .ok (.getfield 15, 3) := by decide +kernel
theorem dX3_moveToEnd_33 : decode cX3_moveToEnd 33 = .ok (.aload_n 0, 1) := by decide +kernel
theorem dX3_moveToEnd_34 : decode cX3_moveToEnd 34 = .ok (.getfield 24, 3) := by decide +kernel
theorem dX3_moveToEnd_37 : decode cX3_moveToEnd 37 = .ok (.iconst 1, 1) := by decide +kernel
theorem dX3_moveToEnd_38 : decode cX3_moveToEnd 38 = .ok (.isub, 1) := by decide +kernel
theorem dX3_moveToEnd_39 : decode cX3_moveToEnd 39 = .ok (.iload_n 1, 1) := by decide +kernel
theorem dX3_moveToEnd_40 : decode cX3_moveToEnd 40 = .ok (.iastore, 1) := by decide +kernel
theorem dX3_moveToEnd_41 : decode cX3_moveToEnd 41 = .ok (.return_, 1) := by decide +kernel
theorem dX3_moveToEnd_42 : decode cX3_moveToEnd 42 = .ok (.iinc 2 1, 3) := by decide +kernel
theorem dX3_moveToEnd_45 : decode cX3_moveToEnd 45 = .ok (.goto (-43), 3) := by decide +kernel
theorem dX3_moveToEnd_48 : decode cX3_moveToEnd 48 = .ok (.return_, 1) := by decide +kernel
theorem dX4_init_0 : decode cX4_init 0 = .ok (.aload_n 0, 1) := by decide +kernel
theorem dX4_init_1 : decode cX4_init 1 = .ok (.invokespecial 3, 3) := by decide +kernel
theorem dX4_init_4 : decode cX4_init 4 = .ok (.return_, 1) := by decide +kernel
theorem dX4_begin_0 : decode cX4_begin 0 = .ok (.aload_n 0, 1) := by decide +kernel
theorem dX4_begin_1 : decode cX4_begin 1 = .ok (.iload_n 1, 1) := by decide +kernel
theorem dX4_begin_2 : decode cX4_begin 2 = .ok (.putfield 9, 3) := by decide +kernel
theorem dX4_begin_5 : decode cX4_begin 5 = .ok (.aload_n 0, 1) := by decide +kernel
theorem dX4_begin_6 : decode cX4_begin 6 = .ok (.iconst 3, 1) := by decide +kernel
theorem dX4_begin_7 : decode cX4_begin 7 = .ok (.iload_n 2, 1) := by decide +kernel
theorem dX4_begin_8 : decode cX4_begin 8 = .ok (.sipush 250, 3) := by decide +kernel
theorem dX4_begin_11 : decode cX4_begin 11 = .ok (.idiv, 1) := by decide +kernel
theorem dX4_begin_12 : decode cX4_begin 12 = .ok (.iadd, 1) := by decide +kernel
theorem dX4_begin_13 : decode cX4_begin 13 = .ok (.putfield 15, 3) := by decide +kernel
theorem dX4_begin_16 : decode cX4_begin 16 = .ok (.aload_n 0, 1) := by decide +kernel
theorem dX4_begin_17 : decode cX4_begin 17 = .ok (.iload_n 3, 1) := by decide +kernel
theorem dX4_begin_18 : decode cX4_begin 18 = .ok (.iconst 4, 1) := by decide +kernel
theorem dX4_begin_19 : decode cX4_begin 19 = .ok (.idiv, 1) := by decide +kernel
theorem dX4_begin_20 : decode cX4_begin 20 = .ok (.ineg, 1) := by decide +kernel
theorem dX4_begin_21 : decode cX4_begin 21 = .ok (.putfield 18, 3) := by decide +kernel
theorem dX4_begin_24 : decode cX4_begin 24 = .ok (.aload_n 0, 1) := by decide +kernel
theorem dX4_begin_25 : decode cX4_begin 25 = .ok (.iload_n 3, 1) := by decide +kernel
theorem dX4_begin_26 : decode cX4_begin 26 = .ok (.iconst 4, 1) := by decide +kernel
theorem dX4_begin_27 : decode cX4_begin 27 = .ok (.irem, 1) := by decide +kernel
theorem dX4_begin_28 : decode cX4_begin 28 = .ok (.putfield 21, 3) := by decide +kernel
theorem dX4_begin_31 : decode cX4_begin 31 = .ok (.aload_n 0, 1) := by decide +kernel
theorem dX4_begin_32 : decode cX4_begin 32 = .ok (.iconst 0, 1) := by decide +kernel
theorem dX4_begin_33 : decode cX4_begin 33 = .ok (.putfield 24, 3) := by decide +kernel
theorem dX4_begin_36 : decode cX4_begin 36 = .ok (.aload_n 0, 1) := by decide +kernel
theorem dX4_begin_37 : decode cX4_begin 37 = .ok (.iconst 0, 1) := by decide +kernel
theorem dX4_begin_38 : decode cX4_begin 38 = .ok (.putfield 27, 3) := by decide +kernel
theorem dX4_begin_41 : decode cX4_begin 41 = .ok (.aload_n 0, 1) := by decide +kernel
theorem dX4_begin_42 : decode cX4_begin 42 = .ok (.iconst (-1), 1) := by decide +kernel
theorem dX4_begin_43 : decode cX4_begin 43 = .ok (.putfield 31, 3) := by decide +kernel
theorem dX4_begin_46 : decode cX4_begin 46 = .ok (.aload_n 0, 1) := by decide +kernel
theorem dX4_begin_47 : decode cX4_begin 47 = .ok (.iconst 0, 1) := by decide +kernel
theorem dX4_begin_48 : decode cX4_begin 48 = .ok (.putfield 34, 3) := by decide +kernel
theorem dX4_begin_51 : decode cX4_begin 51 = .ok (.return_, 1) := by decide +kernel
theorem dX4_onRing_0 : decode cX4_onRing 0 = .ok (.aload_n 0, 1) := by decide +kernel
theorem dX4_onRing_1 : decode cX4_onRing 1 = .ok (.getfield 31, 3) := by decide +kernel
theorem dX4_onRing_4 : decode cX4_onRing 4 = .ok (.iconst (-1), 1) := by decide +kernel
theorem dX4_onRing_5 : decode cX4_onRing 5 = .ok (.if_icmp .ne 7, 3) := by decide +kernel
theorem dX4_onRing_8 : decode cX4_onRing 8 = .ok (.iconst 1, 1) := by decide +kernel
theorem dX4_onRing_9 : decode cX4_onRing 9 = .ok (.goto 4, 3) := by decide +kernel
theorem dX4_onRing_12 : decode cX4_onRing 12 = .ok (.iconst 0, 1) := by decide +kernel
theorem dX4_onRing_13 : decode cX4_onRing 13 = .ok (.ireturn, 1) := by decide +kernel
theorem dX4_isCloseAheadOf_0 : decode cX4_isCloseAheadOf 0 = .ok (.aload_n 0, 1) := by decide +kernel
theorem dX4_isCloseAheadOf_1 : decode cX4_isCloseAheadOf 1 = .ok (.getfield 18, 3) := by decide +kernel
theorem dX4_isCloseAheadOf_4 : decode cX4_isCloseAheadOf 4 = .ok (.aload_n 1, 1) := by decide +kernel
theorem dX4_isCloseAheadOf_5 : decode cX4_isCloseAheadOf 5 = .ok (.getfield 18, 3) := by decide +kernel
theorem dX4_isCloseAheadOf_8 : decode cX4_isCloseAheadOf 8 = .ok (.iconst 1, 1) := by decide +kernel
theorem dX4_isCloseAheadOf_9 : decode cX4_isCloseAheadOf 9 = .ok (.iadd, 1) := by decide +kernel
theorem dX4_isCloseAheadOf_10 : decode cX4_isCloseAheadOf 10 = .ok (.if_icmp .eq 16, 3) := by decide +kernel
theorem dX4_isCloseAheadOf_13 : decode cX4_isCloseAheadOf 13 = .ok (.aload_n 0, 1) := by decide +kernel
theorem dX4_isCloseAheadOf_14 : decode cX4_isCloseAheadOf 14 = .ok (.getfield 18, 3) := by decide +kernel
theorem dX4_isCloseAheadOf_17 : decode cX4_isCloseAheadOf 17 = .ok (.aload_n 1, 1) := by decide +kernel
theorem dX4_isCloseAheadOf_18 : decode cX4_isCloseAheadOf 18 = .ok (.getfield 18, 3) := by decide +kernel
theorem dX4_isCloseAheadOf_21 : decode cX4_isCloseAheadOf 21 = .ok (.iconst 2, 1) := by decide +kernel
theorem dX4_isCloseAheadOf_22 : decode cX4_isCloseAheadOf 22 = .ok (.iadd, 1) := by decide +kernel
theorem dX4_isCloseAheadOf_23 : decode cX4_isCloseAheadOf 23 = .ok (.if_icmp .ne 7, 3) := by decide +kernel
theorem dX4_isCloseAheadOf_26 : decode cX4_isCloseAheadOf 26 = .ok (.iconst 1, 1) := by decide +kernel
theorem dX4_isCloseAheadOf_27 : decode cX4_isCloseAheadOf 27 = .ok (.goto 4, 3) := by decide +kernel
theorem dX4_isCloseAheadOf_30 : decode cX4_isCloseAheadOf 30 = .ok (.iconst 0, 1) := by decide +kernel
theorem dX4_isCloseAheadOf_31 : decode cX4_isCloseAheadOf 31 = .ok (.ireturn, 1) := by decide +kernel
theorem dX4_goesAheadOf_0 : decode cX4_goesAheadOf 0 = .ok (.aload_n 0, 1) := by decide +kernel
theorem dX4_goesAheadOf_1 : decode cX4_goesAheadOf 1 = .ok (.getfield 18, 3) := by decide +kernel
theorem dX4_goesAheadOf_4 : decode cX4_goesAheadOf 4 = .ok (.aload_n 1, 1) := by decide +kernel
theorem dX4_goesAheadOf_5 : decode cX4_goesAheadOf 5 = .ok (.getfield 18, 3) := by decide +kernel
theorem dX4_goesAheadOf_8 : decode cX4_goesAheadOf 8 = .ok (.if_icmp .gt 25, 3) := by decide +kernel
theorem dX4_goesAheadOf_11 : decode cX4_goesAheadOf 11 = .ok (.aload_n 0, 1) := by decide +kernel
theorem dX4_goesAheadOf_12 : decode cX4_goesAheadOf 12 = .ok (.getfield 18, 3) := by decide +kernel
theorem dX4_goesAheadOf_15 : decode cX4_goesAheadOf 15 = .ok (.aload_n 1, 1) := by decide +kernel
theorem dX4_goesAheadOf_16 : decode cX4_goesAheadOf 16 = .ok (.getfield 18, 3) := by decide +kernel
theorem dX4_goesAheadOf_19 : decode cX4_goesAheadOf 19 = .ok (.if_icmp .ne 18, 3) := by decide +kernel
theorem dX4_goesAheadOf_22 : decode cX4_goesAheadOf 22 = .ok (.aload_n 0, 1) := by decide +kernel
theorem dX4_goesAheadOf_23 : decode cX4_goesAheadOf 23 = .ok (.getfield 21, 3) := by decide +kernel
theorem dX4_goesAheadOf_26 : decode cX4_goesAheadOf 26 = .ok (.aload_n 1, 1) := by decide +kernel
theorem dX4_goesAheadOf_27 : decode cX4_goesAheadOf 27 = .ok (.getfield 21, 3) := by decide +kernel
theorem dX4_goesAheadOf_30 : decode cX4_goesAheadOf 30 = .ok (.if_icmp .ge 7, 3) := by decide +kernel
theorem dX4_goesAheadOf_33 : decode cX4_goesAheadOf 33 = .ok (.iconst 1, 1) := by decide +kernel
theorem dX4_goesAheadOf_34 : decode cX4_goesAheadOf 34 = .ok (.goto 4, 3) := by decide +kernel
theorem dX4_goesAheadOf_37 : decode cX4_goesAheadOf 37 = .ok (.iconst 0, 1) := by decide +kernel
theorem dX4_goesAheadOf_38 : decode cX4_goesAheadOf 38 = .ok (.ireturn, 1) := by decide +kernel
theorem dX5_init_0 : decode cX5_init 0 = .ok (.aload_n 0, 1) := by decide +kernel
theorem dX5_init_1 : decode cX5_init 1 = .ok (.invokespecial 3, 3) := by decide +kernel
theorem dX5_init_4 : decode cX5_init 4 = .ok (.aload_n 0, 1) := by decide +kernel
theorem dX5_init_5 : decode cX5_init 5 = .ok (.bipush 16, 2) := by decide +kernel
theorem dX5_init_7 : decode cX5_init 7 = .ok (.newarray .int, 2) := by decide +kernel
theorem dX5_init_9 : decode cX5_init 9 = .ok (.putfield 9, 3) := by decide +kernel
theorem dX5_init_12 : decode cX5_init 12 = .ok (.aload_n 0, 1) := by decide +kernel
theorem dX5_init_13 : decode cX5_init 13 = .ok (.bipush 16, 2) := by decide +kernel
theorem dX5_init_15 : decode cX5_init 15 = .ok (.newarray .boolean, 2) := by decide +kernel
theorem dX5_init_17 : decode cX5_init 17 = .ok (.putfield 15, 3) := by decide +kernel
theorem dX5_init_20 : decode cX5_init 20 = .ok (.aload_n 0, 1) := by decide +kernel
theorem dX5_init_21 : decode cX5_init 21 = .ok (.bipush 10, 2) := by decide +kernel
theorem dX5_init_23 : decode cX5_init 23 = .ok (.newarray .int, 2) := by decide +kernel
theorem dX5_init_25 : decode cX5_init 25 = .ok (.putfield 19, 3) := by decide +kernel
theorem dX5_init_28 : decode cX5_init 28 = .ok (.aload_n 0, 1) := by decide +kernel
theorem dX5_init_29 : decode cX5_init 29 = .ok (.bipush 10, 2) := by decide +kernel
theorem dX5_init_31 : decode cX5_init 31 = .ok (.newarray .int, 2) := by decide +kernel
theorem dX5_init_33 : decode cX5_init 33 = .ok (.putfield 22, 3) := by decide +kernel
theorem dX5_init_36 : decode cX5_init 36 = .ok (.return_, 1) := by decide +kernel
theorem dX5_addHorse_0 : decode cX5_addHorse 0 = .ok (.aload_n 0, 1) := by decide +kernel
theorem dX5_addHorse_1 : decode cX5_addHorse 1 = .ok (.getfield 25, 3) := by decide +kernel
theorem dX5_addHorse_4 : decode cX5_addHorse 4 = .ok (.bipush 16, 2) := by decide +kernel
theorem dX5_addHorse_6 : decode cX5_addHorse 6 = .ok (.if_icmp .lt 5, 3) := by decide +kernel
theorem dX5_addHorse_9 : decode cX5_addHorse 9 = .ok (.iconst (-1), 1) := by decide +kernel
theorem dX5_addHorse_10 : decode cX5_addHorse 10 = .ok (.ireturn, 1) := by decide +kernel
theorem dX5_addHorse_11 : decode cX5_addHorse 11 = .ok (.aload_n 0, 1) := by decide +kernel
theorem dX5_addHorse_12 : decode cX5_addHorse 12 = .ok (.getfield 9, 3) := by decide +kernel
theorem dX5_addHorse_15 : decode cX5_addHorse 15 = .ok (.aload_n 0, 1) := by decide +kernel
theorem dX5_addHorse_16 : decode cX5_addHorse 16 = .ok (.getfield 25, 3) := by decide +kernel
theorem dX5_addHorse_19 : decode cX5_addHorse 19 = .ok (.iload_n 1, 1) := by decide +kernel
theorem dX5_addHorse_20 : decode cX5_addHorse 20 = .ok (.iastore, 1) := by decide +kernel
theorem dX5_addHorse_21 : decode cX5_addHorse 21 = .ok (.aload_n 0, 1) := by decide +kernel
theorem dX5_addHorse_22 : decode cX5_addHorse 22 = .ok (.getfield 15, 3) := by decide +kernel
theorem dX5_addHorse_25 : decode cX5_addHorse 25 = .ok (.aload_n 0, 1) := by decide +kernel
theorem dX5_addHorse_26 : decode cX5_addHorse 26 = .ok (.getfield 25, 3) := by decide +kernel
theorem dX5_addHorse_29 : decode cX5_addHorse 29 = .ok (.iconst 1, 1) := by decide +kernel
theorem dX5_addHorse_30 : decode cX5_addHorse 30 = .ok (.bastore, 1) := by decide +kernel
theorem dX5_addHorse_31 : decode cX5_addHorse 31 = .ok (.aload_n 0, 1) := by decide +kernel
theorem dX5_addHorse_32 : decode cX5_addHorse 32 = .ok (.dup, 1) := by decide +kernel
theorem dX5_addHorse_33 : decode cX5_addHorse 33 = .ok (.getfield 25, 3) := by decide +kernel
theorem dX5_addHorse_36 : decode cX5_addHorse 36 = .ok (.iconst 1, 1) := by decide +kernel
theorem dX5_addHorse_37 : decode cX5_addHorse 37 = .ok (.iadd, 1) := by decide +kernel
theorem dX5_addHorse_38 : decode cX5_addHorse 38 = .ok (.putfield 25, 3) := by decide +kernel
theorem dX5_addHorse_41 : decode cX5_addHorse 41 = .ok (.aload_n 0, 1) := by decide +kernel
theorem dX5_addHorse_42 : decode cX5_addHorse 42 = .ok (.getfield 25, 3) := by decide +kernel
theorem dX5_addHorse_45 : decode cX5_addHorse 45 = .ok (.iconst 1, 1) := by decide +kernel
theorem dX5_addHorse_46 : decode cX5_addHorse 46 = .ok (.isub, 1) := by decide +kernel
theorem dX5_addHorse_47 : decode cX5_addHorse 47 = .ok (.ireturn, 1) := by decide +kernel
theorem dX5_has_0 : decode cX5_has 0 = .ok (.iload_n 1, 1) := by decide +kernel
theorem dX5_has_1 : decode cX5_has 1 = .ok (.ifCond .lt 15, 3) := by decide +kernel
theorem dX5_has_4 : decode cX5_has 4 = .ok (.iload_n 1, 1) := by decide +kernel
theorem dX5_has_5 : decode cX5_has 5 = .ok (.aload_n 0, 1) := by decide +kernel
theorem dX5_has_6 : decode cX5_has 6 = .ok (.getfield 25, 3) := by decide +kernel
theorem dX5_has_9 : decode cX5_has 9 = .ok (.if_icmp .ge 7, 3) := by decide +kernel
theorem dX5_has_12 : decode cX5_has 12 = .ok (.iconst 1, 1) := by decide +kernel
theorem dX5_has_13 : decode cX5_has 13 = .ok (.goto 4, 3) := by decide +kernel
theorem dX5_has_16 : decode cX5_has 16 = .ok (.iconst 0, 1) := by decide +kernel
theorem dX5_has_17 : decode cX5_has 17 = .ok (.ireturn, 1) := by decide +kernel
theorem dX5_markOf_0 : decode cX5_markOf 0 = .ok (.aload_n 0, 1) := by decide +kernel
theorem dX5_markOf_1 : decode cX5_markOf 1 = .ok (.iload_n 1, 1) := by decide +kernel
theorem dX5_markOf_2 : decode cX5_markOf 2 = .ok (.invokevirtual 29, 3) := by decide +kernel
theorem dX5_markOf_5 : decode cX5_markOf 5 = .ok (.ifCond .eq 12, 3) := by decide +kernel
theorem dX5_markOf_8 : decode cX5_markOf 8 = .ok (.aload_n 0, 1) := by decide +kernel
theorem dX5_markOf_9 : decode cX5_markOf 9 = .ok (.getfield 9, 3) := by decide +kernel
theorem dX5_markOf_12 : decode cX5_markOf 12 = .ok (.iload_n 1, 1) := by decide +kernel
theorem dX5_markOf_13 : decode cX5_markOf 13 = .ok (.iaload, 1) := by decide +kernel
theorem dX5_markOf_14 : decode cX5_markOf 14 = .ok (.goto 4, 3) := by decide +kernel
theorem dX5_markOf_17 : decode cX5_markOf 17 = .ok (.iconst 0, 1) := by decide +kernel
theorem dX5_markOf_18 : decode cX5_markOf 18 = .ok (.ireturn, 1) := by decide +kernel
theorem dX5_pickEven_0 : decode cX5_pickEven 0 = .ok (.iconst (-1), 1) := by decide +kernel
theorem dX5_pickEven_1 : decode cX5_pickEven 1 = .ok (.istore_n 2, 1) := by decide +kernel
theorem dX5_pickEven_2 : decode cX5_pickEven 2 = .ok (.iconst 0, 1) := by decide +kernel
theorem dX5_pickEven_3 : decode cX5_pickEven 3 = .ok (.istore_n 3, 1) := by decide +kernel
theorem dX5_pickEven_4 : decode cX5_pickEven 4 = .ok (.iload_n 3, 1) := by decide +kernel
theorem dX5_pickEven_5 : decode cX5_pickEven 5 = .ok (.aload_n 0, 1) := by decide +kernel
theorem dX5_pickEven_6 : decode cX5_pickEven 6 = .ok (.getfield 25, 3) := by decide +kernel
theorem dX5_pickEven_9 : decode cX5_pickEven 9 = .ok (.if_icmp .ge 143, 3) := by decide +kernel
theorem dX5_pickEven_12 : decode cX5_pickEven 12 = .ok (.iconst 0, 1) := by decide +kernel
theorem dX5_pickEven_13 : decode cX5_pickEven 13 = .ok (.istore 4, 2) := by decide +kernel
theorem dX5_pickEven_15 : decode cX5_pickEven 15 = .ok (.iload 4, 2) := by decide +kernel
theorem dX5_pickEven_17 : decode cX5_pickEven 17 = .ok (.aload_n 0, 1) := by decide +kernel
theorem dX5_pickEven_18 : decode cX5_pickEven 18 = .ok (.getfield 25, 3) := by decide +kernel
theorem dX5_pickEven_21 : decode cX5_pickEven 21 = .ok (.if_icmp .ge 125, 3) := by decide +kernel
theorem dX5_pickEven_24 : decode cX5_pickEven 24 = .ok (.aload_n 0, 1) := by decide +kernel
theorem dX5_pickEven_25 : decode cX5_pickEven 25 = .ok (.getfield 9, 3) := by decide +kernel
theorem dX5_pickEven_28 : decode cX5_pickEven 28 = .ok (.iload 4, 2) := by decide +kernel
theorem dX5_pickEven_30 : decode cX5_pickEven 30 = .ok (.iaload, 1) := by decide +kernel
theorem dX5_pickEven_31 : decode cX5_pickEven 31 = .ok (.aload_n 0, 1) := by decide +kernel
theorem dX5_pickEven_32 : decode cX5_pickEven 32 = .ok (.getfield 9, 3) := by decide +kernel
theorem dX5_pickEven_35 : decode cX5_pickEven 35 = .ok (.iload_n 3, 1) := by decide +kernel
theorem dX5_pickEven_36 : decode cX5_pickEven 36 = .ok (.iaload, 1) := by decide +kernel
theorem dX5_pickEven_37 : decode cX5_pickEven 37 = .ok (.isub, 1) := by decide +kernel
theorem dX5_pickEven_38 : decode cX5_pickEven 38 = .ok (.istore 5, 2) := by decide +kernel
theorem dX5_pickEven_40 : decode cX5_pickEven 40 = .ok (.iload 5, 2) := by decide +kernel
theorem dX5_pickEven_42 : decode cX5_pickEven 42 = .ok (.ifCond .lt 18, 3) := by decide +kernel
theorem dX5_pickEven_45 : decode cX5_pickEven 45 = .ok (.iload_n 2, 1) := by decide +kernel
theorem dX5_pickEven_46 : decode cX5_pickEven 46 = .ok (.iconst (-1), 1) := by decide +kernel
theorem dX5_pickEven_47 : decode cX5_pickEven 47 = .ok (.if_icmp .eq 9, 3) := by decide +kernel
theorem dX5_pickEven_50 : decode cX5_pickEven 50 = .ok (.iload 5, 2) := by decide +kernel
theorem dX5_pickEven_52 : decode cX5_pickEven 52 = .ok (.iload_n 2, 1) := by decide +kernel
theorem dX5_pickEven_53 : decode cX5_pickEven 53 = .ok (.if_icmp .gt 7, 3) := by decide +kernel
theorem dX5_pickEven_56 : decode cX5_pickEven 56 = .ok (.iconst 1, 1) := by decide +kernel
theorem dX5_pickEven_57 : decode cX5_pickEven 57 = .ok (.goto 4, 3) := by decide +kernel
theorem dX5_pickEven_60 : decode cX5_pickEven 60 = .ok (.iconst 0, 1) := by decide +kernel
theorem dX5_pickEven_61 : decode cX5_pickEven 61 = .ok (.istore 6, 2) := by decide +kernel
theorem dX5_pickEven_63 : decode cX5_pickEven 63 = .ok (.iload 6, 2) := by decide +kernel
theorem dX5_pickEven_65 : decode cX5_pickEven 65 = .ok (.ifCond .eq 75, 3) := by decide +kernel
theorem dX5_pickEven_68 : decode cX5_pickEven 68 = .ok (.aload_n 0, 1) := by decide +kernel
theorem dX5_pickEven_69 : decode cX5_pickEven 69 = .ok (.getfield 15, 3) := by decide +kernel
theorem dX5_pickEven_72 : decode cX5_pickEven 72 = .ok (.iload_n 3, 1) := by decide +kernel
theorem dX5_pickEven_73 : decode cX5_pickEven 73 = .ok (.baload, 1) := by decide +kernel
theorem dX5_pickEven_74 : decode cX5_pickEven 74 = .ok (.ifCond .eq 66, 3) := by decide +kernel
theorem dX5_pickEven_77 : decode cX5_pickEven 77 = .ok (.aload_n 0, 1) := by decide +kernel
theorem dX5_pickEven_78 : decode cX5_pickEven 78 = .ok (.getfield 15, 3) := by decide +kernel
theorem dX5_pickEven_81 : decode cX5_pickEven 81 = .ok (.iload 4, 2) := by decide +kernel
theorem dX5_pickEven_83 : decode cX5_pickEven 83 = .ok (.baload, 1) := by decide +kernel
theorem dX5_pickEven_84 : decode cX5_pickEven 84 = .ok (.ifCond .eq 56, 3) := by decide +kernel
theorem dX5_pickEven_87 : decode cX5_pickEven 87 = .ok (.aload_n 0, 1) := by decide +kernel
theorem dX5_pickEven_88 : decode cX5_pickEven 88 = .ok (.iload_n 1, 1) := by decide +kernel
theorem dX5_pickEven_89 : decode cX5_pickEven 89 = .ok (.aload_n 0, 1) := by decide +kernel
theorem dX5_pickEven_90 : decode cX5_pickEven 90 = .ok (.getfield 9, 3) := by decide +kernel
theorem dX5_pickEven_93 : decode cX5_pickEven 93 = .ok (.iload_n 3, 1) := by decide +kernel
theorem dX5_pickEven_94 : decode cX5_pickEven 94 = .ok (.iaload, 1) := by decide +kernel
theorem dX5_pickEven_95 : decode cX5_pickEven 95 = .ok (.aload_n 0, 1) := by decide +kernel
theorem dX5_pickEven_96 : decode cX5_pickEven 96 = .ok (.getfield 9, 3) := by decide +kernel
theorem dX5_pickEven_99 : decode cX5_pickEven 99 = .ok (.iload 4, 2) := by decide +kernel
theorem dX5_pickEven_101 : decode cX5_pickEven 101 = .ok (.iaload, 1) := by decide +kernel
theorem dX5_pickEven_102 : decode cX5_pickEven 102 = .ok (.invokevirtual 33, 3) := by decide +kernel
theorem dX5_pickEven_105 : decode cX5_pickEven 105 = .ok (.ifCond .eq 35, 3) := by decide +kernel
theorem dX5_pickEven_108 : decode cX5_pickEven 108 = .ok (.iload 5, 2) := by decide +kernel
theorem dX5_pickEven_110 : decode cX5_pickEven 110 = .ok (.iload_n 2, 1) := by decide +kernel
theorem dX5_pickEven_111 : decode cX5_pickEven 111 = .ok (.if_icmp .ne 11, 3) := by decide +kernel
theorem dX5_pickEven_114 : decode cX5_pickEven 114 = .ok (.aload_n 0, 1) := by decide +kernel
theorem dX5_pickEven_115 : decode cX5_pickEven 115 = .ok (.iload_n 1, 1) := by decide +kernel
theorem dX5_pickEven_116 : decode cX5_pickEven 116 = .ok (.invokevirtual 37, 3) := by decide +kernel
theorem dX5_pickEven_119 : decode cX5_pickEven 119 = .ok (.ifCond .eq 21, 3) := by decide +kernel
theorem dX5_pickEven_122 : decode cX5_pickEven 122 = .ok (.iload 5, 2) := by decide +kernel
theorem dX5_pickEven_124 : decode cX5_pickEven 124 = .ok (.istore_n 2, 1) := by decide +kernel
theorem dX5_pickEven_125 : decode cX5_pickEven 125 = .ok (.aload_n 0, 1) := by decide +kernel
theorem dX5_pickEven_126 : decode cX5_pickEven 126 = .ok (.getfield 22, 3) := by decide +kernel
theorem dX5_pickEven_129 : decode cX5_pickEven 129 = .ok (.iconst 0, 1) := by decide +kernel
theorem dX5_pickEven_130 : decode cX5_pickEven 130 = .ok (.aload_n 0, 1) := by decide +kernel
theorem dX5_pickEven_131 : decode cX5_pickEven 131 = .ok (.getfield 19, 3) := by decide +kernel
theorem dX5_pickEven_134 : decode cX5_pickEven 134 = .ok (.iconst 0, 1) := by decide +kernel
theorem dX5_pickEven_135 : decode cX5_pickEven 135 = .ok (.bipush 10, 2) := by decide +kernel
theorem dX5_pickEven_137 : decode cX5_pickEven 137 = .ok (.invokestatic 40, 3) := by decide +kernel
theorem dX5_pickEven_140 : decode cX5_pickEven 140 = .ok (.iinc 4 1, 3) := by decide +kernel
theorem dX5_pickEven_143 : decode cX5_pickEven 143 = .ok (.goto (-128), 3) := by decide +kernel
theorem dX5_pickEven_146 : decode cX5_pickEven 146 = .ok (.iinc 3 1, 3) := by decide +kernel
theorem dX5_pickEven_149 : decode cX5_pickEven 149 = .ok (.goto (-145), 3) := by decide +kernel
theorem dX5_pickEven_152 : decode cX5_pickEven 152 = .ok (.iload_n 2, 1) := by decide +kernel
theorem dX5_pickEven_153 : decode cX5_pickEven 153 = .ok (.ireturn, 1) := by decide +kernel
theorem dX5_fillTried_0 : decode cX5_fillTried 0 = .ok (.iconst 0, 1) := by decide +kernel
theorem dX5_fillTried_1 : decode cX5_fillTried 1 = .ok (.istore 4, 2) := by decide +kernel
theorem dX5_fillTried_3 : decode cX5_fillTried 3 = .ok (.iconst 0, 1) := by decide +kernel
theorem dX5_fillTried_4 : decode cX5_fillTried 4 = .ok (.istore 5, 2) := by decide +kernel
theorem dX5_fillTried_6 : decode cX5_fillTried 6 = .ok (.iload 5, 2) := by decide +kernel
theorem dX5_fillTried_8 : decode cX5_fillTried 8 = .ok (.aload_n 0, 1) := by decide +kernel
theorem dX5_fillTried_9 : decode cX5_fillTried 9 = .ok (.getfield 25, 3) := by decide +kernel
theorem dX5_fillTried_12 : decode cX5_fillTried 12 = .ok (.if_icmp .ge 66, 3) := by decide +kernel
theorem dX5_fillTried_15 : decode cX5_fillTried 15 = .ok (.iload 4, 2) := by decide +kernel
theorem dX5_fillTried_17 : decode cX5_fillTried 17 = .ok (.iload_n 1, 1) := by decide +kernel
theorem dX5_fillTried_18 : decode cX5_fillTried 18 = .ok (.if_icmp .ge 60, 3) := by decide +kernel
theorem dX5_fillTried_21 : decode cX5_fillTried 21 = .ok (.iload 4, 2) := by decide +kernel
theorem dX5_fillTried_23 : decode cX5_fillTried 23 = .ok (.bipush 10, 2) := by decide +kernel
theorem dX5_fillTried_25 : decode cX5_fillTried 25 = .ok (.if_icmp .ge 53, 3) := by decide +kernel
theorem dX5_fillTried_28 : decode cX5_fillTried 28 = .ok (.aload_n 0, 1) := by decide +kernel
theorem dX5_fillTried_29 : decode cX5_fillTried 29 = .ok (.getfield 15, 3) := by decide +kernel
theorem dX5_fillTried_32 : decode cX5_fillTried 32 = .ok (.iload 5, 2) := by decide +kernel
theorem dX5_fillTried_34 : decode cX5_fillTried 34 = .ok (.baload, 1) := by decide +kernel
theorem dX5_fillTried_35 : decode cX5_fillTried 35 = .ok (.ifCond .eq 37, 3) := by decide +kernel
theorem dX5_fillTried_38 : decode cX5_fillTried 38 = .ok (.aload_n 0, 1) := by decide +kernel
theorem dX5_fillTried_39 : decode cX5_fillTried 39 = .ok (.getfield 9, 3) := by decide +kernel
theorem dX5_fillTried_42 : decode cX5_fillTried 42 = .ok (.iload 5, 2) := by decide +kernel
theorem dX5_fillTried_44 : decode cX5_fillTried 44 = .ok (.iaload, 1) := by decide +kernel
theorem dX5_fillTried_45 : decode cX5_fillTried 45 = .ok (.iload_n 2, 1) := by decide +kernel
theorem dX5_fillTried_46 : decode cX5_fillTried 46 = .ok (.if_icmp .lt 26, 3) := by decide +kernel
theorem dX5_fillTried_49 : decode cX5_fillTried 49 = .ok (.aload_n 0, 1) := by decide +kernel
theorem dX5_fillTried_50 : decode cX5_fillTried 50 = .ok (.getfield 9, 3) := by decide +kernel
theorem dX5_fillTried_53 : decode cX5_fillTried 53 = .ok (.iload 5, 2) := by decide +kernel
theorem dX5_fillTried_55 : decode cX5_fillTried 55 = .ok (.iaload, 1) := by decide +kernel
theorem dX5_fillTried_56 : decode cX5_fillTried 56 = .ok (.iload_n 3, 1) := by decide +kernel
theorem dX5_fillTried_57 : decode cX5_fillTried 57 = .ok (.if_icmp .gt 15, 3) := by decide +kernel
theorem dX5_fillTried_60 : decode cX5_fillTried 60 = .ok (.aload_n 0, 1) := by decide +kernel
theorem dX5_fillTried_61 : decode cX5_fillTried 61 = .ok (.getfield 22, 3) := by decide +kernel
theorem dX5_fillTried_64 : decode cX5_fillTried 64 = .ok (.iload 4, 2) := by decide +kernel
theorem dX5_fillTried_66 : decode cX5_fillTried 66 = .ok (.iload 5, 2) := by decide +kernel
theorem dX5_fillTried_68 : decode cX5_fillTried 68 = .ok (.iastore, 1) := by decide +kernel
theorem dX5_fillTried_69 : decode cX5_fillTried 69 = .ok (.iinc 4 1, 3) := by decide +kernel
theorem dX5_fillTried_72 : decode cX5_fillTried 72 = .ok (.iinc 5 1, 3) := by decide +kernel
theorem dX5_fillTried_75 : decode cX5_fillTried 75 = .ok (.goto (-69), 3) := by decide +kernel
theorem dX5_fillTried_78 : decode cX5_fillTried 78 = .ok (.iload 4, 2) := by decide +kernel
theorem dX5_fillTried_80 : decode cX5_fillTried 80 = .ok (.iload_n 1, 1) := by decide +kernel
theorem dX5_fillTried_81 : decode cX5_fillTried 81 = .ok (.if_icmp .ne 7, 3) := by decide +kernel
theorem dX5_fillTried_84 : decode cX5_fillTried 84 = .ok (.iconst 1, 1) := by decide +kernel
theorem dX5_fillTried_85 : decode cX5_fillTried 85 = .ok (.goto 4, 3) := by decide +kernel
theorem dX5_fillTried_88 : decode cX5_fillTried 88 = .ok (.iconst 0, 1) := by decide +kernel
theorem dX5_fillTried_89 : decode cX5_fillTried 89 = .ok (.ireturn, 1) := by decide +kernel
theorem dX5_triedIsAhead_0 : decode cX5_triedIsAhead 0 = .ok (.iconst 0, 1) := by decide +kernel
theorem dX5_triedIsAhead_1 : decode cX5_triedIsAhead 1 = .ok (.istore_n 2, 1) := by decide +kernel
theorem dX5_triedIsAhead_2 : decode cX5_triedIsAhead 2 = .ok (.iload_n 2, 1) := by decide +kernel
theorem dX5_triedIsAhead_3 : decode cX5_triedIsAhead 3 = .ok (.iload_n 1, 1) := by decide +kernel
theorem dX5_triedIsAhead_4 : decode cX5_triedIsAhead 4 = .ok (.if_icmp .ge 51, 3) := by decide +kernel
theorem dX5_triedIsAhead_7 : decode cX5_triedIsAhead 7 = .ok (.iload_n 2, 1) := by decide +kernel
theorem dX5_triedIsAhead_8 : decode cX5_triedIsAhead 8 = .ok (.bipush 10, 2) := by decide +kernel
theorem dX5_triedIsAhead_10 : decode cX5_triedIsAhead 10 = .ok (.if_icmp .ge 45, 3) := by decide +kernel
theorem dX5_triedIsAhead_13 : decode cX5_triedIsAhead 13 = .ok (.aload_n 0, 1) := by decide +kernel
theorem dX5_triedIsAhead_14 : decode cX5_triedIsAhead 14 = .ok (.getfield 22, 3) := by decide +kernel
theorem dX5_triedIsAhead_17 : decode cX5_triedIsAhead 17 = .ok (.iload_n 2, 1) := by decide +kernel
theorem dX5_triedIsAhead_18 : decode cX5_triedIsAhead 18 = .ok (.iaload, 1) := by decide +kernel
theorem dX5_triedIsAhead_19 : decode cX5_triedIsAhead 19 = .ok (.aload_n 0, 1) := by decide +kernel
theorem dX5_triedIsAhead_20 : decode cX5_triedIsAhead 20 = .ok (.getfield 19, 3) := by decide +kernel
theorem dX5_triedIsAhead_23 : decode cX5_triedIsAhead 23 = .ok (.iload_n 2, 1) := by decide +kernel
theorem dX5_triedIsAhead_24 : decode cX5_triedIsAhead 24 = .ok (.iaload, 1) := by decide +kernel
theorem dX5_triedIsAhead_25 : decode cX5_triedIsAhead 25 = .ok (.if_icmp .eq 24, 3) := by decide +kernel
theorem dX5_triedIsAhead_28 : decode cX5_triedIsAhead 28 = .ok (.aload_n 0, 1) := by decide +kernel
theorem dX5_triedIsAhead_29 : decode cX5_triedIsAhead 29 = .ok (.getfield 22, 3) := by decide +kernel
theorem dX5_triedIsAhead_32 : decode cX5_triedIsAhead 32 = .ok (.iload_n 2, 1) := by decide +kernel
theorem dX5_triedIsAhead_33 : decode cX5_triedIsAhead 33 = .ok (.iaload, 1) := by decide +kernel
theorem dX5_triedIsAhead_34 : decode cX5_triedIsAhead 34 = .ok (.aload_n 0, 1) := by decide +kernel
theorem dX5_triedIsAhead_35 : decode cX5_triedIsAhead 35 = .ok (.getfield 19, 3) := by decide +kernel
theorem dX5_triedIsAhead_38 : decode cX5_triedIsAhead 38 = .ok (.iload_n 2, 1) := by decide +kernel
theorem dX5_triedIsAhead_39 : decode cX5_triedIsAhead 39 = .ok (.iaload, 1) := by decide +kernel
theorem dX5_triedIsAhead_40 : decode cX5_triedIsAhead 40 = .ok (.if_icmp .ge 7, 3) := by decide +kernel
theorem dX5_triedIsAhead_43 : decode cX5_triedIsAhead 43 = .ok (.iconst 1, 1) := by decide +kernel
theorem dX5_triedIsAhead_44 : decode cX5_triedIsAhead 44 = .ok (.goto 4, 3) := by decide +kernel
theorem dX5_triedIsAhead_47 : decode cX5_triedIsAhead 47 = .ok (.iconst 0, 1) := by decide +kernel
theorem dX5_triedIsAhead_48 : decode cX5_triedIsAhead 48 = .ok (.ireturn, 1) := by decide +kernel
theorem dX5_triedIsAhead_49 : decode cX5_triedIsAhead 49 = .ok (.iinc 2 1, 3) := by decide +kernel
theorem dX5_triedIsAhead_52 : decode cX5_triedIsAhead 52 = .ok (.goto (-50), 3) := by decide +kernel
theorem dX5_triedIsAhead_55 : decode cX5_triedIsAhead 55 = .ok (.iconst 0, 1) := by decide +kernel
theorem dX5_triedIsAhead_56 : decode cX5_triedIsAhead 56 = .ok (.ireturn, 1) := by decide +kernel
theorem dX6_init_0 : decode cX6_init 0 = .ok (.aload_n 0, 1) := by decide +kernel
theorem dX6_init_1 : decode cX6_init 1 = .ok (.invokespecial 3, 3) := by decide +kernel
theorem dX6_init_4 : decode cX6_init 4 = .ok (.aload_n 0, 1) := by decide +kernel
theorem dX6_init_5 : decode cX6_init 5 = .ok (.bipush 10, 2) := by decide +kernel
theorem dX6_init_7 : decode cX6_init 7 = .ok (.newarray .int, 2) := by decide +kernel
theorem dX6_init_9 : decode cX6_init 9 = .ok (.putfield 9, 3) := by decide +kernel
theorem dX6_init_12 : decode cX6_init 12 = .ok (.aload_n 0, 1) := by decide +kernel
theorem dX6_init_13 : decode cX6_init 13 = .ok (.bipush 70, 2) := by decide +kernel
theorem dX6_init_15 : decode cX6_init 15 = .ok (.newarray .int, 2) := by decide +kernel
theorem dX6_init_17 : decode cX6_init 17 = .ok (.putfield 15, 3) := by decide +kernel
theorem dX6_init_20 : decode cX6_init 20 = .ok (.return_, 1) := by decide +kernel
theorem dX6_keep_0 : decode cX6_keep 0 = .ok (.aload_n 0, 1) := by decide +kernel
theorem dX6_keep_1 : decode cX6_keep 1 = .ok (.getfield 18, 3) := by decide +kernel
theorem dX6_keep_4 : decode cX6_keep 4 = .ok (.bipush 10, 2) := by decide +kernel
theorem dX6_keep_6 : decode cX6_keep 6 = .ok (.if_icmp .ge 10, 3) := by decide +kernel
theorem dX6_keep_9 : decode cX6_keep 9 = .ok (.aload_n 2, 1) := by decide +kernel
theorem dX6_keep_10 : decode cX6_keep 10 = .ok (.arraylength, 1) := by decide +kernel
theorem dX6_keep_11 : decode cX6_keep 11 = .ok (.bipush 7, 2) := by decide +kernel
theorem dX6_keep_13 : decode cX6_keep 13 = .ok (.if_icmp .eq 5, 3) := by decide +kernel
theorem dX6_keep_16 : decode cX6_keep 16 = .ok (.iconst (-1), 1) := by decide +kernel
theorem dX6_keep_17 : decode cX6_keep 17 = .ok (.ireturn, 1) := by decide +kernel
theorem dX6_keep_18 : decode cX6_keep 18 = .ok (.aload_n 0, 1) := by decide +kernel
theorem dX6_keep_19 : decode cX6_keep 19 = .ok (.getfield 9, 3) := by decide +kernel
theorem dX6_keep_22 : decode cX6_keep 22 = .ok (.aload_n 0, 1) := by decide +kernel
theorem dX6_keep_23 : decode cX6_keep 23 = .ok (.getfield 18, 3) := by decide +kernel
theorem dX6_keep_26 : decode cX6_keep 26 = .ok (.iload_n 1, 1) := by decide +kernel
theorem dX6_keep_27 : decode cX6_keep 27 = .ok (.iastore, 1) := by decide +kernel
theorem dX6_keep_28 : decode cX6_keep 28 = .ok (.aload_n 2, 1) := by decide +kernel
theorem dX6_keep_29 : decode cX6_keep 29 = .ok (.iconst 0, 1) := by decide +kernel
theorem dX6_keep_30 : decode cX6_keep 30 = .ok (.aload_n 0, 1) := by decide +kernel
theorem dX6_keep_31 : decode cX6_keep 31 = .ok (.getfield 15, 3) := by decide +kernel
theorem dX6_keep_34 : decode cX6_keep 34 = .ok (.aload_n 0, 1) := by decide +kernel
theorem dX6_keep_35 : decode cX6_keep 35 = .ok (.getfield 18, 3) := by decide +kernel
theorem dX6_keep_38 : decode cX6_keep 38 = .ok (.bipush 7, 2) := by decide +kernel
theorem dX6_keep_40 : decode cX6_keep 40 = .ok (.imul, 1) := by decide +kernel
theorem dX6_keep_41 : decode cX6_keep 41 = .ok (.bipush 7, 2) := by decide +kernel
theorem dX6_keep_43 : decode cX6_keep 43 = .ok (.invokestatic 22, 3) := by decide +kernel
theorem dX6_keep_46 : decode cX6_keep 46 = .ok (.aload_n 0, 1) := by decide +kernel
theorem dX6_keep_47 : decode cX6_keep 47 = .ok (.dup, 1) := by decide +kernel
theorem dX6_keep_48 : decode cX6_keep 48 = .ok (.getfield 18, 3) := by decide +kernel
theorem dX6_keep_51 : decode cX6_keep 51 = .ok (.iconst 1, 1) := by decide +kernel
theorem dX6_keep_52 : decode cX6_keep 52 = .ok (.iadd, 1) := by decide +kernel
theorem dX6_keep_53 : decode cX6_keep 53 = .ok (.putfield 18, 3) := by decide +kernel
theorem dX6_keep_56 : decode cX6_keep 56 = .ok (.aload_n 0, 1) := by decide +kernel
theorem dX6_keep_57 : decode cX6_keep 57 = .ok (.getfield 18, 3) := by decide +kernel
theorem dX6_keep_60 : decode cX6_keep 60 = .ok (.iconst 1, 1) := by decide +kernel
theorem dX6_keep_61 : decode cX6_keep 61 = .ok (.isub, 1) := by decide +kernel
theorem dX6_keep_62 : decode cX6_keep 62 = .ok (.ireturn, 1) := by decide +kernel
theorem dX6_inForce_0 : decode cX6_inForce 0 = .ok (.iconst (-1), 1) := by decide +kernel
theorem dX6_inForce_1 : decode cX6_inForce 1 = .ok (.istore_n 3, 1) := by decide +kernel
theorem dX6_inForce_2 : decode cX6_inForce 2 = .ok (.getstatic 28, 3) := by decide +kernel
theorem dX6_inForce_5 : decode cX6_inForce 5 = .ok (.iload_n 1, 1) := by decide +kernel
theorem dX6_inForce_6 : decode cX6_inForce 6 = .ok (.iaload, 1) := by decide +kernel
theorem dX6_inForce_7 : decode cX6_inForce 7 = .ok (.istore 4, 2) := by decide +kernel
theorem dX6_inForce_9 : decode cX6_inForce 9 = .ok (.iconst 0, 1) := by decide +kernel
theorem dX6_inForce_10 : decode cX6_inForce 10 = .ok (.istore 5, 2) := by decide +kernel
theorem dX6_inForce_12 : decode cX6_inForce 12 = .ok (.iload 5, 2) := by decide +kernel
theorem dX6_inForce_14 : decode cX6_inForce 14 = .ok (.aload_n 0, 1) := by decide +kernel
theorem dX6_inForce_15 : decode cX6_inForce 15 = .ok (.getfield 18, 3) := by decide +kernel
theorem dX6_inForce_18 : decode cX6_inForce 18 = .ok (.if_icmp .ge 63, 3) := by decide +kernel
theorem dX6_inForce_21 : decode cX6_inForce 21 = .ok (.aload_n 0, 1) := by decide +kernel
theorem dX6_inForce_22 : decode cX6_inForce 22 = .ok (.getfield 15, 3) := by decide +kernel
theorem dX6_inForce_25 : decode cX6_inForce 25 = .ok (.iload 5, 2) := by decide +kernel
theorem dX6_inForce_27 : decode cX6_inForce 27 = .ok (.bipush 7, 2) := by decide +kernel
theorem dX6_inForce_29 : decode cX6_inForce 29 = .ok (.imul, 1) := by decide +kernel
theorem dX6_inForce_30 : decode cX6_inForce 30 = .ok (.iload_n 1, 1) := by decide +kernel
theorem dX6_inForce_31 : decode cX6_inForce 31 = .ok (.iadd, 1) := by decide +kernel
theorem dX6_inForce_32 : decode cX6_inForce 32 = .ok (.iaload, 1) := by decide +kernel
theorem dX6_inForce_33 : decode cX6_inForce 33 = .ok (.istore 6, 2) := by decide +kernel
theorem dX6_inForce_35 : decode cX6_inForce 35 = .ok (.iload 6, 2) := by decide +kernel
theorem dX6_inForce_37 : decode cX6_inForce 37 = .ok (.iconst (-1), 1) := by decide +kernel
theorem dX6_inForce_38 : decode cX6_inForce 38 = .ok (.if_icmp .eq 37, 3) := by decide +kernel
theorem dX6_inForce_41 : decode cX6_inForce 41 = .ok (.aload_n 0, 1) := by decide +kernel
theorem dX6_inForce_42 : decode cX6_inForce 42 = .ok (.getfield 9, 3) := by decide +kernel
theorem dX6_inForce_45 : decode cX6_inForce 45 = .ok (.iload 5, 2) := by decide +kernel
theorem dX6_inForce_47 : decode cX6_inForce 47 = .ok (.iaload, 1) := by decide +kernel
theorem dX6_inForce_48 : decode cX6_inForce 48 = .ok (.iload_n 2, 1) := by decide +kernel
theorem dX6_inForce_49 : decode cX6_inForce 49 = .ok (.if_icmp .gt 26, 3) := by decide +kernel
theorem dX6_inForce_52 : decode cX6_inForce 52 = .ok (.aload_n 0, 1) := by decide +kernel
theorem dX6_inForce_53 : decode cX6_inForce 53 = .ok (.getfield 9, 3) := by decide +kernel
theorem dX6_inForce_56 : decode cX6_inForce 56 = .ok (.iload 5, 2) := by decide +kernel
theorem dX6_inForce_58 : decode cX6_inForce 58 = .ok (.iaload, 1) := by decide +kernel
theorem dX6_inForce_59 : decode cX6_inForce 59 = .ok (.iload_n 3, 1) := by decide +kernel
theorem dX6_inForce_60 : decode cX6_inForce 60 = .ok (.if_icmp .lt 15, 3) := by decide +kernel
theorem dX6_inForce_63 : decode cX6_inForce 63 = .ok (.aload_n 0, 1) := by decide +kernel
theorem dX6_inForce_64 : decode cX6_inForce 64 = .ok (.getfield 9, 3) := by decide +kernel
theorem dX6_inForce_67 : decode cX6_inForce 67 = .ok (.iload 5, 2) := by decide +kernel
theorem dX6_inForce_69 : decode cX6_inForce 69 = .ok (.iaload, 1) := by decide +kernel
theorem dX6_inForce_70 : decode cX6_inForce 70 = .ok (.istore_n 3, 1) := by decide +kernel
theorem dX6_inForce_71 : decode cX6_inForce 71 = .ok (.iload 6, 2) := by decide +kernel
theorem dX6_inForce_73 : decode cX6_inForce 73 = .ok (.istore 4, 2) := by decide +kernel
theorem dX6_inForce_75 : decode cX6_inForce 75 = .ok (.iinc 5 1, 3) := by decide +kernel
theorem dX6_inForce_78 : decode cX6_inForce 78 = .ok (.goto (-66), 3) := by decide +kernel
theorem dX6_inForce_81 : decode cX6_inForce 81 = .ok (.iload 4, 2) := by decide +kernel
theorem dX6_inForce_83 : decode cX6_inForce 83 = .ok (.ireturn, 1) := by decide +kernel
theorem dX8_init_0 : decode cX8_init 0 = .ok (.aload_n 0, 1) := by decide +kernel
theorem dX8_init_1 : decode cX8_init 1 = .ok (.invokespecial 3, 3) := by decide +kernel
theorem dX8_init_4 : decode cX8_init 4 = .ok (.aload_n 0, 1) := by decide +kernel
theorem dX8_init_5 : decode cX8_init 5 = .ok (.bipush 17, 2) := by decide +kernel
theorem dX8_init_7 : decode cX8_init 7 = .ok (.anewarray 9, 3) := by decide +kernel
theorem dX8_init_10 : decode cX8_init 10 = .ok (.putfield 11, 3) := by decide +kernel
theorem dX8_init_13 : decode cX8_init 13 = .ok (.return_, 1) := by decide +kernel
theorem dX8_addWard_0 : decode cX8_addWard 0 = .ok (.aload_n 0, 1) := by decide +kernel
theorem dX8_addWard_1 : decode cX8_addWard 1 = .ok (.getfield 17, 3) := by decide +kernel
theorem dX8_addWard_4 : decode cX8_addWard 4 = .ok (.bipush 17, 2) := by decide +kernel
theorem dX8_addWard_6 : decode cX8_addWard 6 = .ok (.if_icmp .lt 5, 3) := by decide +kernel
theorem dX8_addWard_9 : decode cX8_addWard 9 = .ok (.iconst (-1), 1) := by decide +kernel
theorem dX8_addWard_10 : decode cX8_addWard 10 = .ok (.ireturn, 1) := by decide +kernel
theorem dX8_addWard_11 : decode cX8_addWard 11 = .ok (.aload_n 0, 1) := by decide +kernel
theorem dX8_addWard_12 : decode cX8_addWard 12 = .ok (.getfield 11, 3) := by decide +kernel
theorem dX8_addWard_15 : decode cX8_addWard 15 = .ok (.aload_n 0, 1) := by decide +kernel
theorem dX8_addWard_16 : decode cX8_addWard 16 = .ok (.getfield 17, 3) := by decide +kernel
theorem dX8_addWard_19 : decode cX8_addWard 19 = .ok (.new 9, 3) := by decide +kernel
theorem dX8_addWard_22 : decode cX8_addWard 22 = .ok (.dup, 1) := by decide +kernel
theorem dX8_addWard_23 : decode cX8_addWard 23 = .ok (.invokespecial 21, 3) := by decide +kernel
theorem dX8_addWard_26 : decode cX8_addWard 26 = .ok (.aastore, 1) := by decide +kernel
theorem dX8_addWard_27 : decode cX8_addWard 27 = .ok (.aload_n 0, 1) := by decide +kernel
theorem dX8_addWard_28 : decode cX8_addWard 28 = .ok (.dup, 1) := by decide +kernel
theorem dX8_addWard_29 : decode cX8_addWard 29 = .ok (.getfield 17, 3) := by decide +kernel
theorem dX8_addWard_32 : decode cX8_addWard 32 = .ok (.iconst 1, 1) := by decide +kernel
theorem dX8_addWard_33 : decode cX8_addWard 33 = .ok (.iadd, 1) := by decide +kernel
theorem dX8_addWard_34 : decode cX8_addWard 34 = .ok (.putfield 17, 3) := by decide +kernel
theorem dX8_addWard_37 : decode cX8_addWard 37 = .ok (.aload_n 0, 1) := by decide +kernel
theorem dX8_addWard_38 : decode cX8_addWard 38 = .ok (.getfield 17, 3) := by decide +kernel
theorem dX8_addWard_41 : decode cX8_addWard 41 = .ok (.iconst 1, 1) := by decide +kernel
theorem dX8_addWard_42 : decode cX8_addWard 42 = .ok (.isub, 1) := by decide +kernel
theorem dX8_addWard_43 : decode cX8_addWard 43 = .ok (.ireturn, 1) := by decide +kernel
theorem dX8_has_0 : decode cX8_has 0 = .ok (.iload_n 1, 1) := by decide +kernel
theorem dX8_has_1 : decode cX8_has 1 = .ok (.ifCond .lt 15, 3) := by decide +kernel
theorem dX8_has_4 : decode cX8_has 4 = .ok (.iload_n 1, 1) := by decide +kernel
theorem dX8_has_5 : decode cX8_has 5 = .ok (.aload_n 0, 1) := by decide +kernel
theorem dX8_has_6 : decode cX8_has 6 = .ok (.getfield 17, 3) := by decide +kernel
theorem dX8_has_9 : decode cX8_has 9 = .ok (.if_icmp .ge 7, 3) := by decide +kernel
theorem dX8_has_12 : decode cX8_has 12 = .ok (.iconst 1, 1) := by decide +kernel
theorem dX8_has_13 : decode cX8_has 13 = .ok (.goto 4, 3) := by decide +kernel
theorem dX8_has_16 : decode cX8_has 16 = .ok (.iconst 0, 1) := by decide +kernel
theorem dX8_has_17 : decode cX8_has 17 = .ok (.ireturn, 1) := by decide +kernel
theorem dX8_find_0 : decode cX8_find 0 = .ok (.aload_n 0, 1) := by decide +kernel
theorem dX8_find_1 : decode cX8_find 1 = .ok (.iload_n 1, 1) := by decide +kernel
theorem dX8_find_2 : decode cX8_find 2 = .ok (.invokevirtual 22, 3) := by decide +kernel
theorem dX8_find_5 : decode cX8_find 5 = .ok (.ifCond .eq 12, 3) := by decide +kernel
theorem dX8_find_8 : decode cX8_find 8 = .ok (.aload_n 0, 1) := by decide +kernel
theorem dX8_find_9 : decode cX8_find 9 = .ok (.getfield 11, 3) := by decide +kernel
theorem dX8_find_12 : decode cX8_find 12 = .ok (.iload_n 1, 1) := by decide +kernel
theorem dX8_find_13 : decode cX8_find 13 = .ok (.aaload, 1) := by decide +kernel
theorem dX8_find_14 : decode cX8_find 14 = .ok (.goto 4, 3) := by decide +kernel
theorem dX8_find_17 : decode cX8_find 17 = .ok (.aconst_null, 1) := by decide +kernel
theorem dX8_find_18 : decode cX8_find 18 = .ok (.areturn, 1) := by decide +kernel
theorem dX8_runs_0 : decode cX8_runs 0 = .ok (.aload_n 0, 1) := by decide +kernel
theorem dX8_runs_1 : decode cX8_runs 1 = .ok (.iload_n 1, 1) := by decide +kernel
theorem dX8_runs_2 : decode cX8_runs 2 = .ok (.invokevirtual 26, 3) := by decide +kernel
theorem dX8_runs_5 : decode cX8_runs 5 = .ok (.astore_n 2, 1) := by decide +kernel
theorem dX8_runs_6 : decode cX8_runs 6 = .ok (.aload_n 2, 1) := by decide +kernel
theorem dX8_runs_7 : decode cX8_runs 7 = .ok (.ifnull 14, 3) := by decide +kernel
theorem dX8_runs_10 : decode cX8_runs 10 = .ok (.aload_n 2, 1) := by decide +kernel
theorem dX8_runs_11 : decode cX8_runs 11 = .ok (.getfield 30, 3) := by decide +kernel
theorem dX8_runs_14 : decode cX8_runs 14 = .ok (.ifCond .eq 7, 3) := by decide +kernel
theorem dX8_runs_17 : decode cX8_runs 17 = .ok (.iconst 1, 1) := by decide +kernel
theorem dX8_runs_18 : decode cX8_runs 18 = .ok (.goto 4, 3) := by decide +kernel
theorem dX8_runs_21 : decode cX8_runs 21 = .ok (.iconst 0, 1) := by decide +kernel
theorem dX8_runs_22 : decode cX8_runs 22 = .ok (.ireturn, 1) := by decide +kernel
theorem dX8_countFree_0 : decode cX8_countFree 0 = .ok (.iconst 0, 1) := by decide +kernel
theorem dX8_countFree_1 : decode cX8_countFree 1 = .ok (.istore_n 2, 1) := by decide +kernel
theorem dX8_countFree_2 : decode cX8_countFree 2 = .ok (.iconst 0, 1) := by decide +kernel
theorem dX8_countFree_3 : decode cX8_countFree 3 = .ok (.istore_n 3, 1) := by decide +kernel
theorem dX8_countFree_4 : decode cX8_countFree 4 = .ok (.iload_n 3, 1) := by decide +kernel
theorem dX8_countFree_5 : decode cX8_countFree 5 = .ok (.aload_n 0, 1) := by decide +kernel
theorem dX8_countFree_6 : decode cX8_countFree 6 = .ok (.getfield 17, 3) := by decide +kernel
theorem dX8_countFree_9 : decode cX8_countFree 9 = .ok (.if_icmp .ge 25, 3) := by decide +kernel
theorem dX8_countFree_12 : decode cX8_countFree 12 = .ok (.aload_n 0, 1) := by decide +kernel
theorem dX8_countFree_13 : decode cX8_countFree 13 = .ok (.getfield 11, 3) := by decide +kernel
theorem dX8_countFree_16 : decode cX8_countFree 16 = .ok (.iload_n 3, 1) := by decide +kernel
theorem dX8_countFree_17 : decode cX8_countFree 17 = .ok (.aaload, 1) := by decide +kernel
theorem dX8_countFree_18 : decode cX8_countFree 18 = .ok (.iload_n 1, 1) := by decide +kernel
theorem dX8_countFree_19 : decode cX8_countFree 19 = .ok (.invokevirtual 34, 3) := by decide +kernel
theorem dX8_countFree_22 : decode cX8_countFree 22 = .ok (.ifCond .eq 6, 3) := by decide +kernel
theorem dX8_countFree_25 : decode cX8_countFree 25 = .ok (.iinc 2 1, 3) := by decide +kernel
theorem dX8_countFree_28 : decode cX8_countFree 28 = .ok (.iinc 3 1, 3) := by decide +kernel
theorem dX8_countFree_31 : decode cX8_countFree 31 = .ok (.goto (-27), 3) := by decide +kernel
theorem dX8_countFree_34 : decode cX8_countFree 34 = .ok (.iload_n 2, 1) := by decide +kernel
theorem dX8_countFree_35 : decode cX8_countFree 35 = .ok (.ireturn, 1) := by decide +kernel
theorem dX8_chooseRunners_0 : decode cX8_chooseRunners 0 = .ok (.iload_n 1, 1) := by decide +kernel
theorem dX8_chooseRunners_1 : decode cX8_chooseRunners 1 = .ok (.iload_n 1, 1) := by decide +kernel
theorem dX8_chooseRunners_2 : decode cX8_chooseRunners 2 = .ok (.iconst 3, 1) := by decide +kernel
theorem dX8_chooseRunners_3 : decode cX8_chooseRunners 3 = .ok (.idiv, 1) := by decide +kernel
theorem dX8_chooseRunners_4 : decode cX8_chooseRunners 4 = .ok (.isub, 1) := by decide +kernel
theorem dX8_chooseRunners_5 : decode cX8_chooseRunners 5 = .ok (.istore 5, 2) := by decide +kernel
theorem dX8_chooseRunners_7 : decode cX8_chooseRunners 7 = .ok (.iconst 0, 1) := by decide +kernel
theorem dX8_chooseRunners_8 : decode cX8_chooseRunners 8 = .ok (.istore 6, 2) := by decide +kernel
theorem dX8_chooseRunners_10 : decode cX8_chooseRunners 10 = .ok (.iload 6, 2) := by decide +kernel
theorem dX8_chooseRunners_12 : decode cX8_chooseRunners 12 = .ok (.iload_n 1, 1) := by decide +kernel
theorem dX8_chooseRunners_13 : decode cX8_chooseRunners 13 = .ok (.if_icmp .ge 59, 3) := by decide +kernel
theorem dX8_chooseRunners_16 : decode cX8_chooseRunners 16 = .ok (.iload 6, 2) := by decide +kernel
theorem dX8_chooseRunners_18 : decode cX8_chooseRunners 18 = .ok (.iload 5, 2) := by decide +kernel
theorem dX8_chooseRunners_20 : decode cX8_chooseRunners 20 = .ok (.if_icmp .ge 11, 3) := by decide +kernel
theorem dX8_chooseRunners_23 : decode cX8_chooseRunners 23 = .ok (.aload_n 0, 1) := by decide +kernel
theorem dX8_chooseRunners_24 : decode cX8_chooseRunners 24 = .ok (.iload_n 3, 1) := by decide +kernel
theorem dX8_chooseRunners_25 : decode cX8_chooseRunners 25 = .ok (.invokevirtual 37, 3) := by decide +kernel
theorem dX8_chooseRunners_28 : decode cX8_chooseRunners 28 = .ok (.goto 17, 3) := by decide +kernel
theorem dX8_chooseRunners_31 : decode cX8_chooseRunners 31 = .ok (.aload_n 0, 1) := by decide +kernel
theorem dX8_chooseRunners_32 : decode cX8_chooseRunners 32 = .ok (.aload 4, 2) := by decide +kernel
theorem dX8_chooseRunners_34 : decode cX8_chooseRunners 34 = .ok (.iload_n 2, 1) := by decide +kernel
theorem dX8_chooseRunners_35 : decode cX8_chooseRunners 35 = .ok (.iload 6, 2) := by decide +kernel
theorem dX8_chooseRunners_37 : decode cX8_chooseRunners 37 = .ok (.isub, 1) := by decide +kernel
theorem dX8_chooseRunners_38 : decode cX8_chooseRunners 38 = .ok (.invokevirtual 41, 3) := by decide +kernel
theorem dX8_chooseRunners_41 : decode cX8_chooseRunners 41 = .ok (.iload_n 3, 1) := by decide +kernel
theorem dX8_chooseRunners_42 : decode cX8_chooseRunners 42 = .ok (.invokevirtual 46, 3) := by decide +kernel
theorem dX8_chooseRunners_45 : decode cX8_chooseRunners 45 = .ok (.istore 7, 2) := by decide +kernel
theorem dX8_chooseRunners_47 : decode cX8_chooseRunners 47 = .ok (.aload_n 0, 1) := by decide +kernel
theorem dX8_chooseRunners_48 : decode cX8_chooseRunners 48 = .ok (.iload 7, 2) := by decide +kernel
theorem dX8_chooseRunners_50 : decode cX8_chooseRunners 50 = .ok (.invokevirtual 26, 3) := by decide +kernel
theorem dX8_chooseRunners_53 : decode cX8_chooseRunners 53 = .ok (.astore 8, 2) := by decide +kernel
theorem dX8_chooseRunners_55 : decode cX8_chooseRunners 55 = .ok (.aload 8, 2) := by decide +kernel
theorem dX8_chooseRunners_57 : decode cX8_chooseRunners 57 = .ok (.ifnull 9, 3) := by decide +kernel
theorem dX8_chooseRunners_60 : decode cX8_chooseRunners 60 = .ok (.aload 8, 2) := by decide +kernel
theorem dX8_chooseRunners_62 : decode cX8_chooseRunners 62 = .ok (.iconst 1, 1) := by decide +kernel
theorem dX8_chooseRunners_63 : decode cX8_chooseRunners 63 = .ok (.putfield 30, 3) := by decide +kernel
theorem dX8_chooseRunners_66 : decode cX8_chooseRunners 66 = .ok (.iinc 6 1, 3) := by decide +kernel
theorem dX8_chooseRunners_69 : decode cX8_chooseRunners 69 = .ok (.goto (-59), 3) := by decide +kernel
theorem dX8_chooseRunners_72 : decode cX8_chooseRunners 72 = .ok (.return_, 1) := by decide +kernel
theorem dX8_longestAgo_0 : decode cX8_longestAgo 0 = .ok (.iconst (-1), 1) := by decide +kernel
theorem dX8_longestAgo_1 : decode cX8_longestAgo 1 = .ok (.istore_n 2, 1) := by decide +kernel
theorem dX8_longestAgo_2 : decode cX8_longestAgo 2 = .ok (.iconst 0, 1) := by decide +kernel
theorem dX8_longestAgo_3 : decode cX8_longestAgo 3 = .ok (.istore_n 3, 1) := by decide +kernel
theorem dX8_longestAgo_4 : decode cX8_longestAgo 4 = .ok (.iload_n 3, 1) := by decide +kernel
theorem dX8_longestAgo_5 : decode cX8_longestAgo 5 = .ok (.aload_n 0, 1) := by decide +kernel
theorem dX8_longestAgo_6 : decode cX8_longestAgo 6 = .ok (.getfield 17, 3) := by decide +kernel
theorem dX8_longestAgo_9 : decode cX8_longestAgo 9 = .ok (.if_icmp .ge 50, 3) := by decide +kernel
theorem dX8_longestAgo_12 : decode cX8_longestAgo 12 = .ok (.aload_n 0, 1) := by decide +kernel
theorem dX8_longestAgo_13 : decode cX8_longestAgo 13 = .ok (.getfield 11, 3) := by decide +kernel
theorem dX8_longestAgo_16 : decode cX8_longestAgo 16 = .ok (.iload_n 3, 1) := by decide +kernel
theorem dX8_longestAgo_17 : decode cX8_longestAgo 17 = .ok (.aaload, 1) := by decide +kernel
theorem dX8_longestAgo_18 : decode cX8_longestAgo 18 = .ok (.iload_n 1, 1) := by decide +kernel
theorem dX8_longestAgo_19 : decode cX8_longestAgo 19 = .ok (.invokevirtual 34, 3) := by decide +kernel
theorem dX8_longestAgo_22 : decode cX8_longestAgo 22 = .ok (.ifCond .eq 31, 3) := by decide +kernel
theorem dX8_longestAgo_25 : decode cX8_longestAgo 25 = .ok (.iload_n 2, 1) := by decide +kernel
theorem dX8_longestAgo_26 : decode cX8_longestAgo 26 = .ok (.iconst (-1), 1) := by decide +kernel
theorem dX8_longestAgo_27 : decode cX8_longestAgo 27 = .ok (.if_icmp .eq 24, 3) := by decide +kernel
theorem dX8_longestAgo_30 : decode cX8_longestAgo 30 = .ok (.aload_n 0, 1) := by decide +kernel
theorem dX8_longestAgo_31 : decode cX8_longestAgo 31 = .ok (.getfield 11, 3) := by decide +kernel
theorem dX8_longestAgo_34 : decode cX8_longestAgo 34 = .ok (.iload_n 3, 1) := by decide +kernel
theorem dX8_longestAgo_35 : decode cX8_longestAgo 35 = .ok (.aaload, 1) := by decide +kernel
theorem dX8_longestAgo_36 : decode cX8_longestAgo 36 = .ok (.getfield 50, 3) := by decide +kernel
theorem dX8_longestAgo_39 : decode cX8_longestAgo 39 = .ok (.aload_n 0, 1) := by decide +kernel
theorem dX8_longestAgo_40 : decode cX8_longestAgo 40 = .ok (.getfield 11, 3) := by decide +kernel
theorem dX8_longestAgo_43 : decode cX8_longestAgo 43 = .ok (.iload_n 2, 1) := by decide +kernel
theorem dX8_longestAgo_44 : decode cX8_longestAgo 44 = .ok (.aaload, 1) := by decide +kernel
theorem dX8_longestAgo_45 : decode cX8_longestAgo 45 = .ok (.getfield 50, 3) := by decide +kernel
theorem dX8_longestAgo_48 : decode cX8_longestAgo 48 = .ok (.if_icmp .ge 5, 3) := by decide +kernel
theorem dX8_longestAgo_51 : decode cX8_longestAgo 51 = .ok (.iload_n 3, 1) := by decide +kernel
theorem dX8_longestAgo_52 : decode cX8_longestAgo 52 = .ok (.istore_n 2, 1) := by decide +kernel
theorem dX8_longestAgo_53 : decode cX8_longestAgo 53 = .ok (.iinc 3 1, 3) := by decide +kernel
theorem dX8_longestAgo_56 : decode cX8_longestAgo 56 = .ok (.goto (-52), 3) := by decide +kernel
theorem dX8_longestAgo_59 : decode cX8_longestAgo 59 = .ok (.iload_n 2, 1) := by decide +kernel
theorem dX8_longestAgo_60 : decode cX8_longestAgo 60 = .ok (.ireturn, 1) := by decide +kernel
theorem dX8_freeAt_0 : decode cX8_freeAt 0 = .ok (.iconst 0, 1) := by decide +kernel
theorem dX8_freeAt_1 : decode cX8_freeAt 1 = .ok (.istore_n 3, 1) := by decide +kernel
theorem dX8_freeAt_2 : decode cX8_freeAt 2 = .ok (.iconst 0, 1) := by decide +kernel
theorem dX8_freeAt_3 : decode cX8_freeAt 3 = .ok (.istore 4, 2) := by decide +kernel
theorem dX8_freeAt_5 : decode cX8_freeAt 5 = .ok (.iload 4, 2) := by decide +kernel
theorem dX8_freeAt_7 : decode cX8_freeAt 7 = .ok (.aload_n 0, 1) := by decide +kernel
theorem dX8_freeAt_8 : decode cX8_freeAt 8 = .ok (.getfield 17, 3) := by decide +kernel
theorem dX8_freeAt_11 : decode cX8_freeAt 11 = .ok (.if_icmp .ge 34, 3) := by decide +kernel
theorem dX8_freeAt_14 : decode cX8_freeAt 14 = .ok (.aload_n 0, 1) := by decide +kernel
theorem dX8_freeAt_15 : decode cX8_freeAt 15 = .ok (.getfield 11, 3) := by decide +kernel
theorem dX8_freeAt_18 : decode cX8_freeAt 18 = .ok (.iload 4, 2) := by decide +kernel
theorem dX8_freeAt_20 : decode cX8_freeAt 20 = .ok (.aaload, 1) := by decide +kernel
theorem dX8_freeAt_21 : decode cX8_freeAt 21 = .ok (.iload_n 2, 1) := by decide +kernel
theorem dX8_freeAt_22 : decode cX8_freeAt 22 = .ok (.invokevirtual 34, 3) := by decide +kernel
theorem dX8_freeAt_25 : decode cX8_freeAt 25 = .ok (.ifCond .eq 14, 3) := by decide +kernel
theorem dX8_freeAt_28 : decode cX8_freeAt 28 = .ok (.iload_n 3, 1) := by decide +kernel
theorem dX8_freeAt_29 : decode cX8_freeAt 29 = .ok (.iload_n 1, 1) := by decide +kernel
theorem dX8_freeAt_30 : decode cX8_freeAt 30 = .ok (.if_icmp .ne 6, 3) := by decide +kernel
theorem dX8_freeAt_33 : decode cX8_freeAt 33 = .ok (.iload 4, 2) := by decide +kernel
theorem dX8_freeAt_35 : decode cX8_freeAt 35 = .ok (.ireturn, 1) := by decide +kernel
theorem dX8_freeAt_36 : decode cX8_freeAt 36 = .ok (.iinc 3 1, 3) := by decide +kernel
theorem dX8_freeAt_39 : decode cX8_freeAt 39 = .ok (.iinc 4 1, 3) := by decide +kernel
theorem dX8_freeAt_42 : decode cX8_freeAt 42 = .ok (.goto (-37), 3) := by decide +kernel
theorem dX8_freeAt_45 : decode cX8_freeAt 45 = .ok (.iconst (-1), 1) := by decide +kernel
theorem dX8_freeAt_46 : decode cX8_freeAt 46 = .ok (.ireturn, 1) := by decide +kernel
theorem dX8_forgetYear_0 : decode cX8_forgetYear 0 = .ok (.iconst 0, 1) := by decide +kernel
theorem dX8_forgetYear_1 : decode cX8_forgetYear 1 = .ok (.istore_n 1, 1) := by decide +kernel
theorem dX8_forgetYear_2 : decode cX8_forgetYear 2 = .ok (.iload_n 1, 1) := by decide +kernel
theorem dX8_forgetYear_3 : decode cX8_forgetYear 3 = .ok (.aload_n 0, 1) := by decide +kernel
theorem dX8_forgetYear_4 : decode cX8_forgetYear 4 = .ok (.getfield 17, 3) := by decide +kernel
theorem dX8_forgetYear_7 : decode cX8_forgetYear 7 = .ok (.if_icmp .ge 39, 3) := by decide +kernel
theorem dX8_forgetYear_10 : decode cX8_forgetYear 10 = .ok (.aload_n 0, 1) := by decide +kernel
theorem dX8_forgetYear_11 : decode cX8_forgetYear 11 = .ok (.getfield 11, 3) := by decide +kernel
theorem dX8_forgetYear_14 : decode cX8_forgetYear 14 = .ok (.iload_n 1, 1) := by decide +kernel
theorem dX8_forgetYear_15 : decode cX8_forgetYear 15 = .ok (.aaload, 1) := by decide +kernel
theorem dX8_forgetYear_16 : decode cX8_forgetYear 16 = .ok (.iconst 0, 1) := by decide +kernel
theorem dX8_forgetYear_17 : decode cX8_forgetYear 17 = .ok (.putfield 30, 3) := by decide +kernel
theorem dX8_forgetYear_20 : decode cX8_forgetYear 20 = .ok (.aload_n 0, 1) := by decide +kernel
theorem dX8_forgetYear_21 : decode cX8_forgetYear 21 = .ok (.getfield 11, 3) := by decide +kernel
theorem dX8_forgetYear_24 : decode cX8_forgetYear 24 = .ok (.iload_n 1, 1) := by decide +kernel
theorem dX8_forgetYear_25 : decode cX8_forgetYear 25 = .ok (.aaload, 1) := by decide +kernel
theorem dX8_forgetYear_26 : decode cX8_forgetYear 26 = .ok (.iconst (-1), 1) := by decide +kernel
theorem dX8_forgetYear_27 : decode cX8_forgetYear 27 = .ok (.putfield 53, 3) := by decide +kernel
theorem dX8_forgetYear_30 : decode cX8_forgetYear 30 = .ok (.aload_n 0, 1) := by decide +kernel
theorem dX8_forgetYear_31 : decode cX8_forgetYear 31 = .ok (.getfield 11, 3) := by decide +kernel
theorem dX8_forgetYear_34 : decode cX8_forgetYear 34 = .ok (.iload_n 1, 1) := by decide +kernel
theorem dX8_forgetYear_35 : decode cX8_forgetYear 35 = .ok (.aaload, 1) := by decide +kernel
theorem dX8_forgetYear_36 : decode cX8_forgetYear 36 = .ok (.iconst 0, 1) := by decide +kernel
theorem dX8_forgetYear_37 : decode cX8_forgetYear 37 = .ok (.putfield 56, 3) := by decide +kernel
theorem dX8_forgetYear_40 : decode cX8_forgetYear 40 = .ok (.iinc 1 1, 3) := by decide +kernel
theorem dX8_forgetYear_43 : decode cX8_forgetYear 43 = .ok (.goto (-41), 3) := by decide +kernel
theorem dX8_forgetYear_46 : decode cX8_forgetYear 46 = .ok (.return_, 1) := by decide +kernel
theorem dX9_init_0 : decode cX9_init 0 = .ok (.aload_n 0, 1) := by decide +kernel
theorem dX9_init_1 : decode cX9_init 1 = .ok (.invokespecial 3, 3) := by decide +kernel
theorem dX9_init_4 : decode cX9_init 4 = .ok (.aload_n 0, 1) := by decide +kernel
theorem dX9_init_5 : decode cX9_init 5 = .ok (.iconst (-1), 1) := by decide +kernel
theorem dX9_init_6 : decode cX9_init 6 = .ok (.putfield 9, 3) := by decide +kernel
theorem dX9_init_9 : decode cX9_init 9 = .ok (.aload_n 0, 1) := by decide +kernel
theorem dX9_init_10 : decode cX9_init 10 = .ok (.iconst (-1), 1) := by decide +kernel
theorem dX9_init_11 : decode cX9_init 11 = .ok (.putfield 15, 3) := by decide +kernel
theorem dX9_init_14 : decode cX9_init 14 = .ok (.aload_n 0, 1) := by decide +kernel
theorem dX9_init_15 : decode cX9_init 15 = .ok (.iconst (-1), 1) := by decide +kernel
theorem dX9_init_16 : decode cX9_init 16 = .ok (.putfield 18, 3) := by decide +kernel
theorem dX9_init_19 : decode cX9_init 19 = .ok (.return_, 1) := by decide +kernel
theorem dX9_mayBeChosen_0 : decode cX9_mayBeChosen 0 = .ok (.aload_n 0, 1) := by decide +kernel
theorem dX9_mayBeChosen_1 : decode cX9_mayBeChosen 1 = .ok (.getfield 18, 3) := by decide +kernel
theorem dX9_mayBeChosen_4 : decode cX9_mayBeChosen 4 = .ok (.iload_n 1, 1) := by decide +kernel
theorem dX9_mayBeChosen_5 : decode cX9_mayBeChosen 5 = .ok (.if_icmp .ge 14, 3) := by decide +kernel
theorem dX9_mayBeChosen_8 : decode cX9_mayBeChosen 8 = .ok (.aload_n 0, 1) := by decide +kernel
theorem dX9_mayBeChosen_9 : decode cX9_mayBeChosen 9 = .ok (.getfield 21, 3) := by decide +kernel
theorem dX9_mayBeChosen_12 : decode cX9_mayBeChosen 12 = .ok (.ifCond .ne 7, 3) := by decide +kernel
theorem dX9_mayBeChosen_15 : decode cX9_mayBeChosen 15 = .ok (.iconst 1, 1) := by decide +kernel
theorem dX9_mayBeChosen_16 : decode cX9_mayBeChosen 16 = .ok (.goto 4, 3) := by decide +kernel
theorem dX9_mayBeChosen_19 : decode cX9_mayBeChosen 19 = .ok (.iconst 0, 1) := by decide +kernel
theorem dX9_mayBeChosen_20 : decode cX9_mayBeChosen 20 = .ok (.ireturn, 1) := by decide +kernel
theorem dJ9_floorMod_7cf53_0 : decode cJ9_floorMod_7cf53 0 = .ok (.iload_n 0, 1) := by decide +kernel
theorem dJ9_floorMod_7cf53_1 : decode cJ9_floorMod_7cf53 1 = .ok (.iload_n 1, 1) := by decide +kernel
theorem dJ9_floorMod_7cf53_2 : decode cJ9_floorMod_7cf53 2 = .ok (.irem, 1) := by decide +kernel
theorem dJ9_floorMod_7cf53_3 : decode cJ9_floorMod_7cf53 3 = .ok (.istore_n 2, 1) := by decide +kernel
theorem dJ9_floorMod_7cf53_4 : decode cJ9_floorMod_7cf53 4 = .ok (.iload_n 0, 1) := by decide +kernel
theorem dJ9_floorMod_7cf53_5 : decode cJ9_floorMod_7cf53 5 = .ok (.iload_n 1, 1) := by decide +kernel
theorem dJ9_floorMod_7cf53_6 : decode cJ9_floorMod_7cf53 6 = .ok (.ixor, 1) := by decide +kernel
theorem dJ9_floorMod_7cf53_7 : decode cJ9_floorMod_7cf53 7 = .ok (.ifCond .ge 11, 3) := by decide +kernel
theorem dJ9_floorMod_7cf53_10 : decode cJ9_floorMod_7cf53 10 = .ok (.iload_n 2, 1) := by decide +kernel
theorem dJ9_floorMod_7cf53_11 : decode cJ9_floorMod_7cf53 11 = .ok (.ifCond .eq 7, 3) := by decide +kernel
theorem dJ9_floorMod_7cf53_14 : decode cJ9_floorMod_7cf53 14 = .ok (.iload_n 2, 1) := by decide +kernel
theorem dJ9_floorMod_7cf53_15 : decode cJ9_floorMod_7cf53 15 = .ok (.iload_n 1, 1) := by decide +kernel
theorem dJ9_floorMod_7cf53_16 : decode cJ9_floorMod_7cf53 16 = .ok (.iadd, 1) := by decide +kernel
theorem dJ9_floorMod_7cf53_17 : decode cJ9_floorMod_7cf53 17 = .ok (.ireturn, 1) := by decide +kernel
theorem dJ9_floorMod_7cf53_18 : decode cJ9_floorMod_7cf53 18 = .ok (.iload_n 2, 1) := by decide +kernel
theorem dJ9_floorMod_7cf53_19 : decode cJ9_floorMod_7cf53 19 = .ok (.ireturn, 1) := by decide +kernel
theorem dJ9_abs_0f7a4_0 : decode cJ9_abs_0f7a4 0 = .ok (.iload_n 0, 1) := by decide +kernel
theorem dJ9_abs_0f7a4_1 : decode cJ9_abs_0f7a4 1 = .ok (.ifCond .ge 8, 3) := by decide +kernel
theorem dJ9_abs_0f7a4_4 : decode cJ9_abs_0f7a4 4 = .ok (.iload_n 0, 1) := by decide +kernel
theorem dJ9_abs_0f7a4_5 : decode cJ9_abs_0f7a4 5 = .ok (.ineg, 1) := by decide +kernel
theorem dJ9_abs_0f7a4_6 : decode cJ9_abs_0f7a4 6 = .ok (.goto 4, 3) := by decide +kernel
theorem dJ9_abs_0f7a4_9 : decode cJ9_abs_0f7a4 9 = .ok (.iload_n 0, 1) := by decide +kernel
theorem dJ9_abs_0f7a4_10 : decode cJ9_abs_0f7a4 10 = .ok (.ireturn, 1) := by decide +kernel
theorem dJ9_max_7cf53_0 : decode cJ9_max_7cf53 0 = .ok (.iload_n 0, 1) := by decide +kernel
theorem dJ9_max_7cf53_1 : decode cJ9_max_7cf53 1 = .ok (.iload_n 1, 1) := by decide +kernel
theorem dJ9_max_7cf53_2 : decode cJ9_max_7cf53 2 = .ok (.if_icmp .lt 7, 3) := by decide +kernel
theorem dJ9_max_7cf53_5 : decode cJ9_max_7cf53 5 = .ok (.iload_n 0, 1) := by decide +kernel
theorem dJ9_max_7cf53_6 : decode cJ9_max_7cf53 6 = .ok (.goto 4, 3) := by decide +kernel
theorem dJ9_max_7cf53_9 : decode cJ9_max_7cf53 9 = .ok (.iload_n 1, 1) := by decide +kernel
theorem dJ9_max_7cf53_10 : decode cJ9_max_7cf53 10 = .ok (.ireturn, 1) := by decide +kernel
theorem dJ9_min_7cf53_0 : decode cJ9_min_7cf53 0 = .ok (.iload_n 0, 1) := by decide +kernel
theorem dJ9_min_7cf53_1 : decode cJ9_min_7cf53 1 = .ok (.iload_n 1, 1) := by decide +kernel
theorem dJ9_min_7cf53_2 : decode cJ9_min_7cf53 2 = .ok (.if_icmp .gt 7, 3) := by decide +kernel
theorem dJ9_min_7cf53_5 : decode cJ9_min_7cf53 5 = .ok (.iload_n 0, 1) := by decide +kernel
theorem dJ9_min_7cf53_6 : decode cJ9_min_7cf53 6 = .ok (.goto 4, 3) := by decide +kernel
theorem dJ9_min_7cf53_9 : decode cJ9_min_7cf53 9 = .ok (.iload_n 1, 1) := by decide +kernel
theorem dJ9_min_7cf53_10 : decode cJ9_min_7cf53 10 = .ok (.ireturn, 1) := by decide +kernel
theorem dJ0_length_8abf5_0 : decode cJ0_length_8abf5 0 = .ok (.aload_n 0, 1) := by decide +kernel
theorem dJ0_length_8abf5_1 : decode cJ0_length_8abf5 1 = .ok (.getfield 9, 3) := by decide +kernel
theorem dJ0_length_8abf5_4 : decode cJ0_length_8abf5 4 = .ok (.arraylength, 1) := by decide +kernel
theorem dJ0_length_8abf5_5 : decode cJ0_length_8abf5 5 = .ok (.aload_n 0, 1) := by decide +kernel
theorem dJ0_length_8abf5_6 : decode cJ0_length_8abf5 6 = .ok (.invokevirtual 335, 3) := by decide +kernel
theorem dJ0_length_8abf5_9 : decode cJ0_length_8abf5 9 = .ok (.ishr, 1) := by decide +kernel
theorem dJ0_length_8abf5_10 : decode cJ0_length_8abf5 10 = .ok (.ireturn, 1) := by decide +kernel
theorem dJ0_charAt_5068e_0 : decode cJ0_charAt_5068e 0 = .ok (.aload_n 0, 1) := by decide +kernel
theorem dJ0_charAt_5068e_1 : decode cJ0_charAt_5068e 1 = .ok (.invokevirtual 492, 3) := by decide +kernel
theorem dJ0_charAt_5068e_4 : decode cJ0_charAt_5068e 4 = .ok (.ifCond .eq 12, 3) := by decide +kernel
theorem dJ0_charAt_5068e_7 : decode cJ0_charAt_5068e 7 = .ok (.aload_n 0, 1) := by decide +kernel
theorem dJ0_charAt_5068e_8 : decode cJ0_charAt_5068e 8 = .ok (.getfield 9, 3) := by decide +kernel
theorem dJ0_charAt_5068e_11 : decode cJ0_charAt_5068e 11 = .ok (.iload_n 1, 1) := by decide +kernel
theorem dJ0_charAt_5068e_12 : decode cJ0_charAt_5068e 12 = .ok (.invokestatic 495, 3) := by decide +kernel
theorem dJ0_charAt_5068e_15 : decode cJ0_charAt_5068e 15 = .ok (.ireturn, 1) := by decide +kernel
theorem dJ0_charAt_5068e_16 : decode cJ0_charAt_5068e 16 = .ok (.aload_n 0, 1) := by decide +kernel
theorem dJ0_charAt_5068e_17 : decode cJ0_charAt_5068e 17 = .ok (.getfield 9, 3) := by decide +kernel
theorem dJ0_charAt_5068e_20 : decode cJ0_charAt_5068e 20 = .ok (.iload_n 1, 1) := by decide +kernel
theorem dJ0_charAt_5068e_21 : decode cJ0_charAt_5068e 21 = .ok (.invokestatic 498, 3) := by decide +kernel
theorem dJ0_charAt_5068e_24 : decode cJ0_charAt_5068e 24 = .ok (.ireturn, 1) := by decide +kernel
theorem dJ0_coder_7d493_0 : decode cJ0_coder_7d493 0 = .ok (.getstatic 38, 3) := by decide +kernel
theorem dJ0_coder_7d493_3 : decode cJ0_coder_7d493 3 = .ok (.ifCond .eq 10, 3) := by decide +kernel
theorem dJ0_coder_7d493_6 : decode cJ0_coder_7d493 6 = .ok (.aload_n 0, 1) := by decide +kernel
theorem dJ0_coder_7d493_7 : decode cJ0_coder_7d493 7 = .ok (.getfield 15, 3) := by decide +kernel
theorem dJ0_coder_7d493_10 : decode cJ0_coder_7d493 10 = .ok (.goto 4, 3) := by decide +kernel
theorem dJ0_coder_7d493_13 : decode cJ0_coder_7d493 13 = .ok (.iconst 1, 1) := by decide +kernel
theorem dJ0_coder_7d493_14 : decode cJ0_coder_7d493 14 = .ok (.ireturn, 1) := by decide +kernel
theorem dJ0_isLatin1_aae02_0 : decode cJ0_isLatin1_aae02 0 = .ok (.getstatic 38, 3) := by decide +kernel
theorem dJ0_isLatin1_aae02_3 : decode cJ0_isLatin1_aae02 3 = .ok (.ifCond .eq 14, 3) := by decide +kernel
theorem dJ0_isLatin1_aae02_6 : decode cJ0_isLatin1_aae02 6 = .ok (.aload_n 0, 1) := by decide +kernel
theorem dJ0_isLatin1_aae02_7 : decode cJ0_isLatin1_aae02 7 = .ok (.getfield 15, 3) := by decide +kernel
theorem dJ0_isLatin1_aae02_10 : decode cJ0_isLatin1_aae02 10 = .ok (.ifCond .ne 7, 3) := by decide +kernel
theorem dJ0_isLatin1_aae02_13 : decode cJ0_isLatin1_aae02 13 = .ok (.iconst 1, 1) := by decide +kernel
theorem dJ0_isLatin1_aae02_14 : decode cJ0_isLatin1_aae02 14 = .ok (.goto 4, 3) := by decide +kernel
theorem dJ0_isLatin1_aae02_17 : decode cJ0_isLatin1_aae02 17 = .ok (.iconst 0, 1) := by decide +kernel
theorem dJ0_isLatin1_aae02_18 : decode cJ0_isLatin1_aae02 18 = .ok (.ireturn, 1) := by decide +kernel
theorem dJ0_checkIndex_df160_0 : decode cJ0_checkIndex_df160 0 = .ok (.iload_n 0, 1) := by decide +kernel
theorem dJ0_checkIndex_df160_1 : decode cJ0_checkIndex_df160 1 = .ok (.iload_n 1, 1) := by decide +kernel
theorem dJ0_checkIndex_df160_2 : decode cJ0_checkIndex_df160 2 = .ok (.getstatic 1053, 3) := by decide +kernel
theorem dJ0_checkIndex_df160_5 : decode cJ0_checkIndex_df160 5 = .ok (.invokestatic 1059, 3) := by decide +kernel
theorem dJ0_checkIndex_df160_8 : decode cJ0_checkIndex_df160 8 = .ok (.pop, 1) := by decide +kernel
theorem dJ0_checkIndex_df160_9 : decode cJ0_checkIndex_df160 9 = .ok (.return_, 1) := by decide +kernel
theorem dJ1_charAt_3b067_0 : decode cJ1_charAt_3b067 0 = .ok (.iload_n 1, 1) := by decide +kernel
theorem dJ1_charAt_3b067_1 : decode cJ1_charAt_3b067 1 = .ok (.aload_n 0, 1) := by decide +kernel
theorem dJ1_charAt_3b067_2 : decode cJ1_charAt_3b067 2 = .ok (.arraylength, 1) := by decide +kernel
theorem dJ1_charAt_3b067_3 : decode cJ1_charAt_3b067 3 = .ok (.invokestatic 9, 3) := by decide +kernel
theorem dJ1_charAt_3b067_6 : decode cJ1_charAt_3b067 6 = .ok (.aload_n 0, 1) := by decide +kernel
theorem dJ1_charAt_3b067_7 : decode cJ1_charAt_3b067 7 = .ok (.iload_n 1, 1) := by decide +kernel
theorem dJ1_charAt_3b067_8 : decode cJ1_charAt_3b067 8 = .ok (.baload, 1) := by decide +kernel
theorem dJ1_charAt_3b067_9 : decode cJ1_charAt_3b067 9 = .ok (.sipush 255, 3) := by decide +kernel
theorem dJ1_charAt_3b067_12 : decode cJ1_charAt_3b067 12 = .ok (.iand, 1) := by decide +kernel
theorem dJ1_charAt_3b067_13 : decode cJ1_charAt_3b067 13 = .ok (.i2c, 1) := by decide +kernel
theorem dJ1_charAt_3b067_14 : decode cJ1_charAt_3b067 14 = .ok (.ireturn, 1) := by decide +kernel
theorem dJ2_getChar_3b067_0 : decode cJ2_getChar_3b067 0 = .ok (.getstatic 44, 3) := by decide +kernel
theorem dJ2_getChar_3b067_3 : decode cJ2_getChar_3b067 3 = .ok (.ifCond .ne 25, 3) := by decide +kernel
theorem dJ2_getChar_3b067_6 : decode cJ2_getChar_3b067 6 = .ok (.iload_n 1, 1) := by decide +kernel
theorem dJ2_getChar_3b067_7 : decode cJ2_getChar_3b067 7 = .ok (.ifCond .lt 11, 3) := by decide +kernel
theorem dJ2_getChar_3b067_10 : decode cJ2_getChar_3b067 10 = .ok (.iload_n 1, 1) := by decide +kernel
theorem dJ2_getChar_3b067_11 : decode cJ2_getChar_3b067 11 = .ok (.aload_n 0, 1) := by decide +kernel
theorem dJ2_getChar_3b067_12 : decode cJ2_getChar_3b067 12 = .ok (.invokestatic 48, 3) := by decide +kernel
theorem dJ2_getChar_3b067_15 : decode cJ2_getChar_3b067 15 = .ok (.if_icmp .lt 13, 3) := by decide +kernel
theorem dJ2_getChar_3b067_18 : decode cJ2_getChar_3b067 18 = .ok (.new 52, 3) := by decide +kernel
theorem dJ2_getChar_3b067_21 : decode cJ2_getChar_3b067 21 = .ok (.dup, 1) := by decide +kernel
theorem dJ2_getChar_3b067_22 : decode cJ2_getChar_3b067 22 = .ok (.ldc 54, 2) := by decide +kernel
theorem dJ2_getChar_3b067_24 : decode cJ2_getChar_3b067 24 = .ok (.invokespecial 56, 3) := by decide +kernel
theorem dJ2_getChar_3b067_27 : decode cJ2_getChar_3b067 27 = .ok (.athrow, 1) := by decide +kernel
theorem dJ2_getChar_3b067_28 : decode cJ2_getChar_3b067 28 = .ok (.iload_n 1, 1) := by decide +kernel
theorem dJ2_getChar_3b067_29 : decode cJ2_getChar_3b067 29 = .ok (.iconst 1, 1) := by decide +kernel
theorem dJ2_getChar_3b067_30 : decode cJ2_getChar_3b067 30 = .ok (.ishl, 1) := by decide +kernel
theorem dJ2_getChar_3b067_31 : decode cJ2_getChar_3b067 31 = .ok (.istore_n 1, 1) := by decide +kernel
theorem dJ2_getChar_3b067_32 : decode cJ2_getChar_3b067 32 = .ok (.aload_n 0, 1) := by decide +kernel
theorem dJ2_getChar_3b067_33 : decode cJ2_getChar_3b067 33 = .ok (.iload_n 1, 1) := by decide +kernel
theorem dJ2_getChar_3b067_34 : decode cJ2_getChar_3b067 34 = .ok (.iinc 1 1, 3) := by decide +kernel
theorem dJ2_getChar_3b067_37 : decode cJ2_getChar_3b067 37 = .ok (.baload, 1) := by decide +kernel
theorem dJ2_getChar_3b067_38 : decode cJ2_getChar_3b067 38 = .ok (.sipush 255, 3) := by decide +kernel
theorem dJ2_getChar_3b067_41 : decode cJ2_getChar_3b067 41 = .ok (.iand, 1) := by decide +kernel
theorem dJ2_getChar_3b067_42 : decode cJ2_getChar_3b067 42 = .ok (.getstatic 59, 3) := by decide +kernel
theorem dJ2_getChar_3b067_45 : decode cJ2_getChar_3b067 45 = .ok (.ishl, 1) := by decide +kernel
theorem dJ2_getChar_3b067_46 : decode cJ2_getChar_3b067 46 = .ok (.aload_n 0, 1) := by decide +kernel
theorem dJ2_getChar_3b067_47 : decode cJ2_getChar_3b067 47 = .ok (.iload_n 1, 1) := by decide +kernel
theorem dJ2_getChar_3b067_48 : decode cJ2_getChar_3b067 48 = .ok (.baload, 1) := by decide +kernel
theorem dJ2_getChar_3b067_49 : decode cJ2_getChar_3b067 49 = .ok (.sipush 255, 3) := by decide +kernel
theorem dJ2_getChar_3b067_52 : decode cJ2_getChar_3b067 52 = .ok (.iand, 1) := by decide +kernel
theorem dJ2_getChar_3b067_53 : decode cJ2_getChar_3b067 53 = .ok (.getstatic 63, 3) := by decide +kernel
theorem dJ2_getChar_3b067_56 : decode cJ2_getChar_3b067 56 = .ok (.ishl, 1) := by decide +kernel
theorem dJ2_getChar_3b067_57 : decode cJ2_getChar_3b067 57 = .ok (.ior, 1) := by decide +kernel
theorem dJ2_getChar_3b067_58 : decode cJ2_getChar_3b067 58 = .ok (.i2c, 1) := by decide +kernel
theorem dJ2_getChar_3b067_59 : decode cJ2_getChar_3b067 59 = .ok (.ireturn, 1) := by decide +kernel
theorem dJ2_length_9d52b_0 : decode cJ2_length_9d52b 0 = .ok (.aload_n 0, 1) := by decide +kernel
theorem dJ2_length_9d52b_1 : decode cJ2_length_9d52b 1 = .ok (.arraylength, 1) := by decide +kernel
theorem dJ2_length_9d52b_2 : decode cJ2_length_9d52b 2 = .ok (.iconst 1, 1) := by decide +kernel
theorem dJ2_length_9d52b_3 : decode cJ2_length_9d52b 3 = .ok (.ishr, 1) := by decide +kernel
theorem dJ2_length_9d52b_4 : decode cJ2_length_9d52b 4 = .ok (.ireturn, 1) := by decide +kernel
theorem dJ2_charAt_3b067_0 : decode cJ2_charAt_3b067 0 = .ok (.iload_n 1, 1) := by decide +kernel
theorem dJ2_charAt_3b067_1 : decode cJ2_charAt_3b067 1 = .ok (.aload_n 0, 1) := by decide +kernel
theorem dJ2_charAt_3b067_2 : decode cJ2_charAt_3b067 2 = .ok (.invokestatic 67, 3) := by decide +kernel
theorem dJ2_charAt_3b067_5 : decode cJ2_charAt_3b067 5 = .ok (.aload_n 0, 1) := by decide +kernel
theorem dJ2_charAt_3b067_6 : decode cJ2_charAt_3b067 6 = .ok (.iload_n 1, 1) := by decide +kernel
theorem dJ2_charAt_3b067_7 : decode cJ2_charAt_3b067 7 = .ok (.invokestatic 71, 3) := by decide +kernel
theorem dJ2_charAt_3b067_10 : decode cJ2_charAt_3b067 10 = .ok (.ireturn, 1) := by decide +kernel
theorem dJ2_checkIndex_2214a_0 : decode cJ2_checkIndex_2214a 0 = .ok (.iload_n 0, 1) := by decide +kernel
theorem dJ2_checkIndex_2214a_1 : decode cJ2_checkIndex_2214a 1 = .ok (.aload_n 1, 1) := by decide +kernel
theorem dJ2_checkIndex_2214a_2 : decode cJ2_checkIndex_2214a 2 = .ok (.invokestatic 48, 3) := by decide +kernel
theorem dJ2_checkIndex_2214a_5 : decode cJ2_checkIndex_2214a 5 = .ok (.invokestatic 414, 3) := by decide +kernel
theorem dJ2_checkIndex_2214a_8 : decode cJ2_checkIndex_2214a 8 = .ok (.return_, 1) := by decide +kernel
theorem dJ7_fill_53178_0 : decode cJ7_fill_53178 0 = .ok (.iconst 0, 1) := by decide +kernel
theorem dJ7_fill_53178_1 : decode cJ7_fill_53178 1 = .ok (.istore_n 2, 1) := by decide +kernel
theorem dJ7_fill_53178_2 : decode cJ7_fill_53178 2 = .ok (.aload_n 0, 1) := by decide +kernel
theorem dJ7_fill_53178_3 : decode cJ7_fill_53178 3 = .ok (.arraylength, 1) := by decide +kernel
theorem dJ7_fill_53178_4 : decode cJ7_fill_53178 4 = .ok (.istore_n 3, 1) := by decide +kernel
theorem dJ7_fill_53178_5 : decode cJ7_fill_53178 5 = .ok (.iload_n 2, 1) := by decide +kernel
theorem dJ7_fill_53178_6 : decode cJ7_fill_53178 6 = .ok (.iload_n 3, 1) := by decide +kernel
theorem dJ7_fill_53178_7 : decode cJ7_fill_53178 7 = .ok (.if_icmp .ge 13, 3) := by decide +kernel
theorem dJ7_fill_53178_10 : decode cJ7_fill_53178 10 = .ok (.aload_n 0, 1) := by decide +kernel
theorem dJ7_fill_53178_11 : decode cJ7_fill_53178 11 = .ok (.iload_n 2, 1) := by decide +kernel
theorem dJ7_fill_53178_12 : decode cJ7_fill_53178 12 = .ok (.iload_n 1, 1) := by decide +kernel
theorem dJ7_fill_53178_13 : decode cJ7_fill_53178 13 = .ok (.iastore, 1) := by decide +kernel
theorem dJ7_fill_53178_14 : decode cJ7_fill_53178 14 = .ok (.iinc 2 1, 3) := by decide +kernel
theorem dJ7_fill_53178_17 : decode cJ7_fill_53178 17 = .ok (.goto (-12), 3) := by decide +kernel
theorem dJ7_fill_53178_20 : decode cJ7_fill_53178 20 = .ok (.return_, 1) := by decide +kernel
theorem dJ3_checkIndex_8e157_0 : decode cJ3_checkIndex_8e157 0 = .ok (.iload_n 0, 1) := by decide +kernel
theorem dJ3_checkIndex_8e157_1 : decode cJ3_checkIndex_8e157 1 = .ok (.ifCond .lt 8, 3) := by decide +kernel
theorem dJ3_checkIndex_8e157_4 : decode cJ3_checkIndex_8e157 4 = .ok (.iload_n 0, 1) := by decide +kernel
theorem dJ3_checkIndex_8e157_5 : decode cJ3_checkIndex_8e157 5 = .ok (.iload_n 1, 1) := by decide +kernel
theorem dJ3_checkIndex_8e157_6 : decode cJ3_checkIndex_8e157 6 = .ok (.if_icmp .lt 10, 3) := by decide +kernel
theorem dJ3_checkIndex_8e157_9 : decode cJ3_checkIndex_8e157 9 = .ok (.aload_n 2, 1) := by decide +kernel
theorem dJ3_checkIndex_8e157_10 : decode cJ3_checkIndex_8e157 10 = .ok (.iload_n 0, 1) := by decide +kernel
theorem dJ3_checkIndex_8e157_11 : decode cJ3_checkIndex_8e157 11 = .ok (.iload_n 1, 1) := by decide +kernel
theorem dJ3_checkIndex_8e157_12 : decode cJ3_checkIndex_8e157 12 = .ok (.invokestatic 95, 3) := by decide +kernel
theorem dJ3_checkIndex_8e157_15 : decode cJ3_checkIndex_8e157 15 = .ok (.athrow, 1) := by decide +kernel
theorem dJ3_checkIndex_8e157_16 : decode cJ3_checkIndex_8e157 16 = .ok (.iload_n 0, 1) := by decide +kernel
theorem dJ3_checkIndex_8e157_17 : decode cJ3_checkIndex_8e157 17 = .ok (.ireturn, 1) := by decide +kernel
end
