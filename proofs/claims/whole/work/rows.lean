section
-- ===== PART A: goes FIRST, ahead of the names: the tables' words, and 'selects' of the private methods out of them =====
/-- a private method of a class that the tables say can be made, by its rows of tables_1 -/
def lw_okq (q : MethodName × Nat) : Prop := (q.1.cls ≠ "java/lang/invoke/MethodHandle" ∧ q.1.cls ≠ "java/lang/invoke/VarHandle") ∧ Cond.instantiable q.1.cls q.2 ∈ tables_1 ∧ Cond.privateMethod q.1 ∈ tables_1 ∧ Cond.instanceMethod q.1 ∈ tables_1
theorem lw_p0 : lw_okq (⟨"BiscuitLore$Tape", "readToken", "()V"⟩, 12) := ⟨⟨by decide +kernel, by decide +kernel⟩, List.mem_of_getElem? (i := 23) (by decide +kernel), List.mem_of_getElem? (i := 247) (by decide +kernel), List.mem_of_getElem? (i := 248) (by decide +kernel)⟩
theorem lw_p1 : lw_okq (⟨"BiscuitLore$Tape", "skipName", "()V"⟩, 12) := ⟨⟨by decide +kernel, by decide +kernel⟩, List.mem_of_getElem? (i := 23) (by decide +kernel), List.mem_of_getElem? (i := 254) (by decide +kernel), List.mem_of_getElem? (i := 255) (by decide +kernel)⟩
theorem lw_p2 : lw_okq (⟨"BiscuitLore$Tape", "readFigures", "()V"⟩, 12) := ⟨⟨by decide +kernel, by decide +kernel⟩, List.mem_of_getElem? (i := 23) (by decide +kernel), List.mem_of_getElem? (i := 261) (by decide +kernel), List.mem_of_getElem? (i := 262) (by decide +kernel)⟩
theorem lw_p3 : lw_okq (⟨"BiscuitLore$Tape", "blame", "(II)V"⟩, 12) := ⟨⟨by decide +kernel, by decide +kernel⟩, List.mem_of_getElem? (i := 23) (by decide +kernel), List.mem_of_getElem? (i := 265) (by decide +kernel), List.mem_of_getElem? (i := 266) (by decide +kernel)⟩
theorem lw_p4 : lw_okq (⟨"BiscuitLore$Tape", "readLine", "(LBiscuitLore$Larder;)V"⟩, 12) := ⟨⟨by decide +kernel, by decide +kernel⟩, List.mem_of_getElem? (i := 23) (by decide +kernel), List.mem_of_getElem? (i := 269) (by decide +kernel), List.mem_of_getElem? (i := 270) (by decide +kernel)⟩
theorem lw_p5 : lw_okq (⟨"BiscuitLore$Tape", "findWord", "()I"⟩, 12) := ⟨⟨by decide +kernel, by decide +kernel⟩, List.mem_of_getElem? (i := 23) (by decide +kernel), List.mem_of_getElem? (i := 273) (by decide +kernel), List.mem_of_getElem? (i := 274) (by decide +kernel)⟩
theorem lw_p6 : lw_okq (⟨"BiscuitLore$Tape", "isWord", "(Ljava/lang/String;)Z"⟩, 12) := ⟨⟨by decide +kernel, by decide +kernel⟩, List.mem_of_getElem? (i := 23) (by decide +kernel), List.mem_of_getElem? (i := 288) (by decide +kernel), List.mem_of_getElem? (i := 289) (by decide +kernel)⟩
theorem lw_p7 : lw_okq (⟨"BiscuitLore$Tape", "isTwice", "(I)Z"⟩, 12) := ⟨⟨by decide +kernel, by decide +kernel⟩, List.mem_of_getElem? (i := 23) (by decide +kernel), List.mem_of_getElem? (i := 340) (by decide +kernel), List.mem_of_getElem? (i := 341) (by decide +kernel)⟩
theorem lw_p8 : lw_okq (⟨"BiscuitLore$Tape", "readNumbers", "(I)V"⟩, 12) := ⟨⟨by decide +kernel, by decide +kernel⟩, List.mem_of_getElem? (i := 23) (by decide +kernel), List.mem_of_getElem? (i := 347) (by decide +kernel), List.mem_of_getElem? (i := 348) (by decide +kernel)⟩
theorem lw_p9 : lw_okq (⟨"BiscuitLore$Tape", "readMark", "()V"⟩, 12) := ⟨⟨by decide +kernel, by decide +kernel⟩, List.mem_of_getElem? (i := 23) (by decide +kernel), List.mem_of_getElem? (i := 355) (by decide +kernel), List.mem_of_getElem? (i := 356) (by decide +kernel)⟩
theorem lw_p10 : lw_okq (⟨"BiscuitLore$Tape", "write", "(ILBiscuitLore$Larder;)V"⟩, 12) := ⟨⟨by decide +kernel, by decide +kernel⟩, List.mem_of_getElem? (i := 23) (by decide +kernel), List.mem_of_getElem? (i := 359) (by decide +kernel), List.mem_of_getElem? (i := 360) (by decide +kernel)⟩
theorem lw_p11 : lw_okq (⟨"BiscuitLore$Tape", "seekFellows", "(LBiscuitLore$Larder;)V"⟩, 12) := ⟨⟨by decide +kernel, by decide +kernel⟩, List.mem_of_getElem? (i := 23) (by decide +kernel), List.mem_of_getElem? (i := 375) (by decide +kernel), List.mem_of_getElem? (i := 376) (by decide +kernel)⟩
theorem lw_p12 : lw_okq (⟨"BiscuitLore$Larder", "feast", "(I)I"⟩, 14) := ⟨⟨by decide +kernel, by decide +kernel⟩, List.mem_of_getElem? (i := 73) (by decide +kernel), List.mem_of_getElem? (i := 498) (by decide +kernel), List.mem_of_getElem? (i := 499) (by decide +kernel)⟩
theorem lw_p13 : lw_okq (⟨"BiscuitLore", "tryDays", "(I)I"⟩, 10) := ⟨⟨by decide +kernel, by decide +kernel⟩, List.mem_of_getElem? (i := 15) (by decide +kernel), List.mem_of_getElem? (i := 506) (by decide +kernel), List.mem_of_getElem? (i := 507) (by decide +kernel)⟩
theorem lw_p14 : lw_okq (⟨"BiscuitLore", "isKnownBy", "(III)Z"⟩, 10) := ⟨⟨by decide +kernel, by decide +kernel⟩, List.mem_of_getElem? (i := 15) (by decide +kernel), List.mem_of_getElem? (i := 535) (by decide +kernel), List.mem_of_getElem? (i := 536) (by decide +kernel)⟩
theorem lw_p15 : lw_okq (⟨"BiscuitLore", "countAnswered", "()I"⟩, 10) := ⟨⟨by decide +kernel, by decide +kernel⟩, List.mem_of_getElem? (i := 15) (by decide +kernel), List.mem_of_getElem? (i := 547) (by decide +kernel), List.mem_of_getElem? (i := 548) (by decide +kernel)⟩
def lw_privs_1 : List (MethodName × Nat) := [(⟨"BiscuitLore$Tape", "readToken", "()V"⟩, 12), (⟨"BiscuitLore$Tape", "skipName", "()V"⟩, 12), (⟨"BiscuitLore$Tape", "readFigures", "()V"⟩, 12), (⟨"BiscuitLore$Tape", "blame", "(II)V"⟩, 12), (⟨"BiscuitLore$Tape", "readLine", "(LBiscuitLore$Larder;)V"⟩, 12), (⟨"BiscuitLore$Tape", "findWord", "()I"⟩, 12), (⟨"BiscuitLore$Tape", "isWord", "(Ljava/lang/String;)Z"⟩, 12), (⟨"BiscuitLore$Tape", "isTwice", "(I)Z"⟩, 12), (⟨"BiscuitLore$Tape", "readNumbers", "(I)V"⟩, 12), (⟨"BiscuitLore$Tape", "readMark", "()V"⟩, 12), (⟨"BiscuitLore$Tape", "write", "(ILBiscuitLore$Larder;)V"⟩, 12), (⟨"BiscuitLore$Tape", "seekFellows", "(LBiscuitLore$Larder;)V"⟩, 12), (⟨"BiscuitLore$Larder", "feast", "(I)I"⟩, 14), (⟨"BiscuitLore", "tryDays", "(I)I"⟩, 10), (⟨"BiscuitLore", "isKnownBy", "(III)Z"⟩, 10), (⟨"BiscuitLore", "countAnswered", "()I"⟩, 10)]
theorem lw_r1 : ∀ q ∈ lw_privs_1, lw_okq q := List.forall_mem_cons.mpr ⟨lw_p0, List.forall_mem_cons.mpr ⟨lw_p1, List.forall_mem_cons.mpr ⟨lw_p2, List.forall_mem_cons.mpr ⟨lw_p3, List.forall_mem_cons.mpr ⟨lw_p4, List.forall_mem_cons.mpr ⟨lw_p5, List.forall_mem_cons.mpr ⟨lw_p6, List.forall_mem_cons.mpr ⟨lw_p7, List.forall_mem_cons.mpr ⟨lw_p8, List.forall_mem_cons.mpr ⟨lw_p9, List.forall_mem_cons.mpr ⟨lw_p10, List.forall_mem_cons.mpr ⟨lw_p11, List.forall_mem_cons.mpr ⟨lw_p12, List.forall_mem_cons.mpr ⟨lw_p13, List.forall_mem_cons.mpr ⟨lw_p14, List.forall_mem_cons.mpr ⟨lw_p15, fun _ h => absurd h List.not_mem_nil⟩⟩⟩⟩⟩⟩⟩⟩⟩⟩⟩⟩⟩⟩⟩⟩
theorem lw_p16 : lw_okq (⟨"BiscuitLore", "weigh", "(IIIII)J"⟩, 10) := ⟨⟨by decide +kernel, by decide +kernel⟩, List.mem_of_getElem? (i := 15) (by decide +kernel), List.mem_of_getElem? (i := 588) (by decide +kernel), List.mem_of_getElem? (i := 589) (by decide +kernel)⟩
theorem lw_p17 : lw_okq (⟨"BiscuitLore", "outcome", "(II)J"⟩, 10) := ⟨⟨by decide +kernel, by decide +kernel⟩, List.mem_of_getElem? (i := 15) (by decide +kernel), List.mem_of_getElem? (i := 592) (by decide +kernel), List.mem_of_getElem? (i := 593) (by decide +kernel)⟩
theorem lw_p18 : lw_okq (⟨"BiscuitLore", "kindsLeft", "(I)I"⟩, 10) := ⟨⟨by decide +kernel, by decide +kernel⟩, List.mem_of_getElem? (i := 15) (by decide +kernel), List.mem_of_getElem? (i := 624) (by decide +kernel), List.mem_of_getElem? (i := 625) (by decide +kernel)⟩
theorem lw_p19 : lw_okq (⟨"BiscuitLore$Sight", "lastDay", "()I"⟩, 5) := ⟨⟨by decide +kernel, by decide +kernel⟩, List.mem_of_getElem? (i := 143) (by decide +kernel), List.mem_of_getElem? (i := 632) (by decide +kernel), List.mem_of_getElem? (i := 633) (by decide +kernel)⟩
theorem lw_p20 : lw_okq (⟨"BiscuitLore$Sight", "fitsBehind", "(ILBiscuitLore$Larder;)Z"⟩, 5) := ⟨⟨by decide +kernel, by decide +kernel⟩, List.mem_of_getElem? (i := 143) (by decide +kernel), List.mem_of_getElem? (i := 639) (by decide +kernel), List.mem_of_getElem? (i := 640) (by decide +kernel)⟩
theorem lw_p21 : lw_okq (⟨"BiscuitLore", "tallyKnowers", "(II)V"⟩, 10) := ⟨⟨by decide +kernel, by decide +kernel⟩, List.mem_of_getElem? (i := 15) (by decide +kernel), List.mem_of_getElem? (i := 653) (by decide +kernel), List.mem_of_getElem? (i := 654) (by decide +kernel)⟩
theorem lw_p22 : lw_okq (⟨"BiscuitLore", "tallyDays", "(I)V"⟩, 10) := ⟨⟨by decide +kernel, by decide +kernel⟩, List.mem_of_getElem? (i := 15) (by decide +kernel), List.mem_of_getElem? (i := 657) (by decide +kernel), List.mem_of_getElem? (i := 658) (by decide +kernel)⟩
theorem lw_p23 : lw_okq (⟨"BiscuitLoreModel", "step", "()V"⟩, 26) := ⟨⟨by decide +kernel, by decide +kernel⟩, List.mem_of_getElem? (i := 712) (by decide +kernel), List.mem_of_getElem? (i := 813) (by decide +kernel), List.mem_of_getElem? (i := 814) (by decide +kernel)⟩
theorem lw_p24 : lw_okq (⟨"BiscuitLoreModel", "byteAt", "(I)I"⟩, 26) := ⟨⟨by decide +kernel, by decide +kernel⟩, List.mem_of_getElem? (i := 712) (by decide +kernel), List.mem_of_getElem? (i := 817) (by decide +kernel), List.mem_of_getElem? (i := 818) (by decide +kernel)⟩
theorem lw_p25 : lw_okq (⟨"BiscuitLoreModel", "fails", "(I)V"⟩, 26) := ⟨⟨by decide +kernel, by decide +kernel⟩, List.mem_of_getElem? (i := 712) (by decide +kernel), List.mem_of_getElem? (i := 825) (by decide +kernel), List.mem_of_getElem? (i := 826) (by decide +kernel)⟩
theorem lw_p26 : lw_okq (⟨"BiscuitLoreModel", "readLine", "()V"⟩, 26) := ⟨⟨by decide +kernel, by decide +kernel⟩, List.mem_of_getElem? (i := 712) (by decide +kernel), List.mem_of_getElem? (i := 829) (by decide +kernel), List.mem_of_getElem? (i := 830) (by decide +kernel)⟩
theorem lw_p27 : lw_okq (⟨"BiscuitLoreModel", "nameHere", "()I"⟩, 26) := ⟨⟨by decide +kernel, by decide +kernel⟩, List.mem_of_getElem? (i := 712) (by decide +kernel), List.mem_of_getElem? (i := 833) (by decide +kernel), List.mem_of_getElem? (i := 834) (by decide +kernel)⟩
theorem lw_p28 : lw_okq (⟨"BiscuitLoreModel", "isFull", "(I)Z"⟩, 26) := ⟨⟨by decide +kernel, by decide +kernel⟩, List.mem_of_getElem? (i := 712) (by decide +kernel), List.mem_of_getElem? (i := 838) (by decide +kernel), List.mem_of_getElem? (i := 839) (by decide +kernel)⟩
theorem lw_p29 : lw_okq (⟨"BiscuitLoreModel", "readMore", "(I)V"⟩, 26) := ⟨⟨by decide +kernel, by decide +kernel⟩, List.mem_of_getElem? (i := 712) (by decide +kernel), List.mem_of_getElem? (i := 842) (by decide +kernel), List.mem_of_getElem? (i := 843) (by decide +kernel)⟩
theorem lw_p30 : lw_okq (⟨"BiscuitLoreModel", "readBiscuit", "(I)V"⟩, 26) := ⟨⟨by decide +kernel, by decide +kernel⟩, List.mem_of_getElem? (i := 712) (by decide +kernel), List.mem_of_getElem? (i := 846) (by decide +kernel), List.mem_of_getElem? (i := 847) (by decide +kernel)⟩
theorem lw_p31 : lw_okq (⟨"BiscuitLoreModel", "number", "(II)I"⟩, 26) := ⟨⟨by decide +kernel, by decide +kernel⟩, List.mem_of_getElem? (i := 712) (by decide +kernel), List.mem_of_getElem? (i := 850) (by decide +kernel), List.mem_of_getElem? (i := 851) (by decide +kernel)⟩
def lw_privs_2 : List (MethodName × Nat) := [(⟨"BiscuitLore", "weigh", "(IIIII)J"⟩, 10), (⟨"BiscuitLore", "outcome", "(II)J"⟩, 10), (⟨"BiscuitLore", "kindsLeft", "(I)I"⟩, 10), (⟨"BiscuitLore$Sight", "lastDay", "()I"⟩, 5), (⟨"BiscuitLore$Sight", "fitsBehind", "(ILBiscuitLore$Larder;)Z"⟩, 5), (⟨"BiscuitLore", "tallyKnowers", "(II)V"⟩, 10), (⟨"BiscuitLore", "tallyDays", "(I)V"⟩, 10), (⟨"BiscuitLoreModel", "step", "()V"⟩, 26), (⟨"BiscuitLoreModel", "byteAt", "(I)I"⟩, 26), (⟨"BiscuitLoreModel", "fails", "(I)V"⟩, 26), (⟨"BiscuitLoreModel", "readLine", "()V"⟩, 26), (⟨"BiscuitLoreModel", "nameHere", "()I"⟩, 26), (⟨"BiscuitLoreModel", "isFull", "(I)Z"⟩, 26), (⟨"BiscuitLoreModel", "readMore", "(I)V"⟩, 26), (⟨"BiscuitLoreModel", "readBiscuit", "(I)V"⟩, 26), (⟨"BiscuitLoreModel", "number", "(II)I"⟩, 26)]
theorem lw_r2 : ∀ q ∈ lw_privs_2, lw_okq q := List.forall_mem_cons.mpr ⟨lw_p16, List.forall_mem_cons.mpr ⟨lw_p17, List.forall_mem_cons.mpr ⟨lw_p18, List.forall_mem_cons.mpr ⟨lw_p19, List.forall_mem_cons.mpr ⟨lw_p20, List.forall_mem_cons.mpr ⟨lw_p21, List.forall_mem_cons.mpr ⟨lw_p22, List.forall_mem_cons.mpr ⟨lw_p23, List.forall_mem_cons.mpr ⟨lw_p24, List.forall_mem_cons.mpr ⟨lw_p25, List.forall_mem_cons.mpr ⟨lw_p26, List.forall_mem_cons.mpr ⟨lw_p27, List.forall_mem_cons.mpr ⟨lw_p28, List.forall_mem_cons.mpr ⟨lw_p29, List.forall_mem_cons.mpr ⟨lw_p30, List.forall_mem_cons.mpr ⟨lw_p31, fun _ h => absurd h List.not_mem_nil⟩⟩⟩⟩⟩⟩⟩⟩⟩⟩⟩⟩⟩⟩⟩⟩
theorem lw_p32 : lw_okq (⟨"BiscuitLoreModel", "dampOn", "(I)I"⟩, 26) := ⟨⟨by decide +kernel, by decide +kernel⟩, List.mem_of_getElem? (i := 712) (by decide +kernel), List.mem_of_getElem? (i := 862) (by decide +kernel), List.mem_of_getElem? (i := 863) (by decide +kernel)⟩
theorem lw_p33 : lw_okq (⟨"BiscuitLoreModel", "crumbsOn", "(II)I"⟩, 26) := ⟨⟨by decide +kernel, by decide +kernel⟩, List.mem_of_getElem? (i := 712) (by decide +kernel), List.mem_of_getElem? (i := 866) (by decide +kernel), List.mem_of_getElem? (i := 867) (by decide +kernel)⟩
theorem lw_p34 : lw_okq (⟨"BiscuitLoreModel", "subjectsOn", "(II)I"⟩, 26) := ⟨⟨by decide +kernel, by decide +kernel⟩, List.mem_of_getElem? (i := 712) (by decide +kernel), List.mem_of_getElem? (i := 870) (by decide +kernel), List.mem_of_getElem? (i := 871) (by decide +kernel)⟩
theorem lw_p35 : lw_okq (⟨"BiscuitLoreModel", "isFellow", "(I)Z"⟩, 26) := ⟨⟨by decide +kernel, by decide +kernel⟩, List.mem_of_getElem? (i := 712) (by decide +kernel), List.mem_of_getElem? (i := 878) (by decide +kernel), List.mem_of_getElem? (i := 879) (by decide +kernel)⟩
theorem lw_p36 : lw_okq (⟨"BiscuitLoreModel", "isBiscuit", "(I)Z"⟩, 26) := ⟨⟨by decide +kernel, by decide +kernel⟩, List.mem_of_getElem? (i := 712) (by decide +kernel), List.mem_of_getElem? (i := 886) (by decide +kernel), List.mem_of_getElem? (i := 887) (by decide +kernel)⟩
theorem lw_p37 : lw_okq (⟨"BiscuitLoreModel", "spoilsOn", "(III)I"⟩, 26) := ⟨⟨by decide +kernel, by decide +kernel⟩, List.mem_of_getElem? (i := 712) (by decide +kernel), List.mem_of_getElem? (i := 891) (by decide +kernel), List.mem_of_getElem? (i := 892) (by decide +kernel)⟩
theorem lw_p38 : lw_okq (⟨"BiscuitLoreModel", "isGood", "(II)Z"⟩, 26) := ⟨⟨by decide +kernel, by decide +kernel⟩, List.mem_of_getElem? (i := 712) (by decide +kernel), List.mem_of_getElem? (i := 911) (by decide +kernel), List.mem_of_getElem? (i := 912) (by decide +kernel)⟩
theorem lw_p39 : lw_okq (⟨"BiscuitLoreModel", "puts", "(ZIII)I"⟩, 26) := ⟨⟨by decide +kernel, by decide +kernel⟩, List.mem_of_getElem? (i := 712) (by decide +kernel), List.mem_of_getElem? (i := 917) (by decide +kernel), List.mem_of_getElem? (i := 918) (by decide +kernel)⟩
theorem lw_p40 : lw_okq (⟨"BiscuitLoreModel", "bakes", "(IIII)I"⟩, 26) := ⟨⟨by decide +kernel, by decide +kernel⟩, List.mem_of_getElem? (i := 712) (by decide +kernel), List.mem_of_getElem? (i := 946) (by decide +kernel), List.mem_of_getElem? (i := 947) (by decide +kernel)⟩
theorem lw_p41 : lw_okq (⟨"BiscuitLoreModel", "dayOn", "(II)I"⟩, 26) := ⟨⟨by decide +kernel, by decide +kernel⟩, List.mem_of_getElem? (i := 712) (by decide +kernel), List.mem_of_getElem? (i := 955) (by decide +kernel), List.mem_of_getElem? (i := 956) (by decide +kernel)⟩
theorem lw_p42 : lw_okq (⟨"BiscuitLoreModel", "asksOn", "(I)V"⟩, 26) := ⟨⟨by decide +kernel, by decide +kernel⟩, List.mem_of_getElem? (i := 712) (by decide +kernel), List.mem_of_getElem? (i := 959) (by decide +kernel), List.mem_of_getElem? (i := 960) (by decide +kernel)⟩
theorem lw_p43 : lw_okq (⟨"BiscuitLoreModel", "eatsOn", "(II)I"⟩, 26) := ⟨⟨by decide +kernel, by decide +kernel⟩, List.mem_of_getElem? (i := 712) (by decide +kernel), List.mem_of_getElem? (i := 963) (by decide +kernel), List.mem_of_getElem? (i := 964) (by decide +kernel)⟩
theorem lw_p44 : lw_okq (⟨"BiscuitLoreModel", "daysGo", "(II)V"⟩, 26) := ⟨⟨by decide +kernel, by decide +kernel⟩, List.mem_of_getElem? (i := 712) (by decide +kernel), List.mem_of_getElem? (i := 972) (by decide +kernel), List.mem_of_getElem? (i := 973) (by decide +kernel)⟩
theorem lw_p45 : lw_okq (⟨"BiscuitLoreModel", "copies", "(II)V"⟩, 26) := ⟨⟨by decide +kernel, by decide +kernel⟩, List.mem_of_getElem? (i := 712) (by decide +kernel), List.mem_of_getElem? (i := 976) (by decide +kernel), List.mem_of_getElem? (i := 977) (by decide +kernel)⟩
theorem lw_p46 : lw_okq (⟨"BiscuitLoreModel", "hungerOn", "(I)I"⟩, 26) := ⟨⟨by decide +kernel, by decide +kernel⟩, List.mem_of_getElem? (i := 712) (by decide +kernel), List.mem_of_getElem? (i := 980) (by decide +kernel), List.mem_of_getElem? (i := 981) (by decide +kernel)⟩
theorem lw_p47 : lw_okq (⟨"BiscuitLoreModel", "answersOf", "(I)I"⟩, 26) := ⟨⟨by decide +kernel, by decide +kernel⟩, List.mem_of_getElem? (i := 712) (by decide +kernel), List.mem_of_getElem? (i := 1004) (by decide +kernel), List.mem_of_getElem? (i := 1005) (by decide +kernel)⟩
def lw_privs_3 : List (MethodName × Nat) := [(⟨"BiscuitLoreModel", "dampOn", "(I)I"⟩, 26), (⟨"BiscuitLoreModel", "crumbsOn", "(II)I"⟩, 26), (⟨"BiscuitLoreModel", "subjectsOn", "(II)I"⟩, 26), (⟨"BiscuitLoreModel", "isFellow", "(I)Z"⟩, 26), (⟨"BiscuitLoreModel", "isBiscuit", "(I)Z"⟩, 26), (⟨"BiscuitLoreModel", "spoilsOn", "(III)I"⟩, 26), (⟨"BiscuitLoreModel", "isGood", "(II)Z"⟩, 26), (⟨"BiscuitLoreModel", "puts", "(ZIII)I"⟩, 26), (⟨"BiscuitLoreModel", "bakes", "(IIII)I"⟩, 26), (⟨"BiscuitLoreModel", "dayOn", "(II)I"⟩, 26), (⟨"BiscuitLoreModel", "asksOn", "(I)V"⟩, 26), (⟨"BiscuitLoreModel", "eatsOn", "(II)I"⟩, 26), (⟨"BiscuitLoreModel", "daysGo", "(II)V"⟩, 26), (⟨"BiscuitLoreModel", "copies", "(II)V"⟩, 26), (⟨"BiscuitLoreModel", "hungerOn", "(I)I"⟩, 26), (⟨"BiscuitLoreModel", "answersOf", "(I)I"⟩, 26)]
theorem lw_r3 : ∀ q ∈ lw_privs_3, lw_okq q := List.forall_mem_cons.mpr ⟨lw_p32, List.forall_mem_cons.mpr ⟨lw_p33, List.forall_mem_cons.mpr ⟨lw_p34, List.forall_mem_cons.mpr ⟨lw_p35, List.forall_mem_cons.mpr ⟨lw_p36, List.forall_mem_cons.mpr ⟨lw_p37, List.forall_mem_cons.mpr ⟨lw_p38, List.forall_mem_cons.mpr ⟨lw_p39, List.forall_mem_cons.mpr ⟨lw_p40, List.forall_mem_cons.mpr ⟨lw_p41, List.forall_mem_cons.mpr ⟨lw_p42, List.forall_mem_cons.mpr ⟨lw_p43, List.forall_mem_cons.mpr ⟨lw_p44, List.forall_mem_cons.mpr ⟨lw_p45, List.forall_mem_cons.mpr ⟨lw_p46, List.forall_mem_cons.mpr ⟨lw_p47, fun _ h => absurd h List.not_mem_nil⟩⟩⟩⟩⟩⟩⟩⟩⟩⟩⟩⟩⟩⟩⟩⟩
theorem lw_p48 : lw_okq (⟨"BiscuitLoreModel", "byDamp", "(IIIII)J"⟩, 26) := ⟨⟨by decide +kernel, by decide +kernel⟩, List.mem_of_getElem? (i := 712) (by decide +kernel), List.mem_of_getElem? (i := 1033) (by decide +kernel), List.mem_of_getElem? (i := 1034) (by decide +kernel)⟩
theorem lw_p49 : lw_okq (⟨"BiscuitLoreModel", "kindsOf", "(I)I"⟩, 26) := ⟨⟨by decide +kernel, by decide +kernel⟩, List.mem_of_getElem? (i := 712) (by decide +kernel), List.mem_of_getElem? (i := 1057) (by decide +kernel), List.mem_of_getElem? (i := 1058) (by decide +kernel)⟩
theorem lw_p50 : lw_okq (⟨"BiscuitLoreModel", "isAsSeen", "(II)Z"⟩, 26) := ⟨⟨by decide +kernel, by decide +kernel⟩, List.mem_of_getElem? (i := 712) (by decide +kernel), List.mem_of_getElem? (i := 1061) (by decide +kernel), List.mem_of_getElem? (i := 1062) (by decide +kernel)⟩
def lw_privs_4 : List (MethodName × Nat) := [(⟨"BiscuitLoreModel", "byDamp", "(IIIII)J"⟩, 26), (⟨"BiscuitLoreModel", "kindsOf", "(I)I"⟩, 26), (⟨"BiscuitLoreModel", "isAsSeen", "(II)Z"⟩, 26)]
theorem lw_r4 : ∀ q ∈ lw_privs_4, lw_okq q := List.forall_mem_cons.mpr ⟨lw_p48, List.forall_mem_cons.mpr ⟨lw_p49, List.forall_mem_cons.mpr ⟨lw_p50, fun _ h => absurd h List.not_mem_nil⟩⟩⟩
def lw_privs : List (MethodName × Nat) := lw_privs_1 ++ (lw_privs_2 ++ (lw_privs_3 ++ (lw_privs_4)))
def lw_tbl : List Cond := k2_sels lw_privs ++ tables_1
theorem lw_privs_ok : ∀ q ∈ lw_privs, lw_okq q := by
  show ∀ q ∈ lw_privs_1 ++ (lw_privs_2 ++ (lw_privs_3 ++ (lw_privs_4))), lw_okq q
  exact List.forall_mem_append.mpr ⟨lw_r1, List.forall_mem_append.mpr ⟨lw_r2, List.forall_mem_append.mpr ⟨lw_r3, lw_r4⟩⟩⟩
end
section
/-! ===== BEGIN words of one list among another's, by their places ===== -/
theorem goodIn_r {big : List Cond} (ws : List Cond) (ps : List Nat) (hp : ws = ps.filterMap (fun i => big[i]?)) (h : ws.all goodWord = true) : GoodIn big ws := by
  intro w hw
  have h1 := List.all_eq_true.mp h w hw
  rw [hp] at hw
  obtain ⟨i, -, hi⟩ := List.mem_filterMap.mp hw
  have hm : w ∈ big := by first | exact List.mem_of_getElem? hi | exact List.getElem?_mem hi
  exact ⟨hm, good_of_word h1⟩
theorem goodIn_app {big a b : List Cond} (ha : GoodIn big a) (hb : GoodIn big b) : GoodIn big (a ++ b) := fun w h => (List.mem_append.mp h).elim (ha w) (hb w)
theorem goodIn_ca {big a b : List Cond} {c : Cond} (ha : GoodIn big (c :: a)) (hb : GoodIn big b) : GoodIn big (c :: (a ++ b)) := fun w h => (List.mem_cons.mp h).elim (fun e => ha w (List.mem_cons.mpr (Or.inl e))) (fun h => (List.mem_append.mp h).elim (fun h => ha w (List.mem_cons.mpr (Or.inr h))) (hb w))
theorem goodIn_sub {big ws : List Cond} (hm : ∀ w ∈ ws, w ∈ big) (h : ws.all goodWord = true) : GoodIn big ws := fun w hw => ⟨hm w hw, good_of_word (List.all_eq_true.mp h w hw)⟩
/-! ===== END ===== -/

def RX0 : String := "BiscuitLore$Larder"
def TX0 : u_T := fun k => match k with
  | 0 => ("BiscuitLore$Larder", "fellows", "I", false)
  | 1 => ("BiscuitLore$Larder", "appetite", "[I", true)
  | 2 => ("BiscuitLore$Larder", "hunger", "[I", true)
  | 3 => ("BiscuitLore$Larder", "biscuits", "I", false)
  | 4 => ("BiscuitLore$Larder", "kind", "[I", true)
  | 5 => ("BiscuitLore$Larder", "subject", "[I", true)
  | 6 => ("BiscuitLore$Larder", "crumbs", "[I", true)
  | 7 => ("BiscuitLore$Larder", "whose", "[I", true)
  | 8 => ("BiscuitLore$Larder", "damp", "I", false)
  | 9 => ("BiscuitLore$Larder", "bite", "I", false)
  | 10 => ("BiscuitLore$Larder", "day", "I", false)
  | 11 => ("BiscuitLore$Larder", "questions", "I", false)
  | 12 => ("BiscuitLore$Larder", "askDay", "[I", true)
  | _ => ("BiscuitLore$Larder", "askSubject", "[I", true)
def tyX0 : Nat → FieldType := fun k => match k with
  | 0 => .int
  | 1 => .array .int
  | 2 => .array .int
  | 3 => .int
  | 4 => .array .int
  | 5 => .array .int
  | 6 => .array .int
  | 7 => .array .int
  | 8 => .int
  | 9 => .int
  | 10 => .int
  | 11 => .int
  | 12 => .array .int
  | _ => .array .int
abbrev wsX00 : List Cond := u_ws RX0 TX0 14
theorem nmX0 : ∀ a, a < 14 → ∀ b, b < 14 → a ≠ b → (TX0 a).2.1 ≠ (TX0 b).2.1 := by decide +kernel
theorem tyX0_ok : ∀ k, k < 14 → parseFieldDescriptor (TX0 k).2.2.1 = some (tyX0 k) := by decide +kernel
abbrev cX0_init : ByteArray := prog_2_method_1_code
def yX0_init : MethodName := ⟨RX0, "<init>", "()V"⟩
abbrev cX0_empty : ByteArray := prog_2_method_2_code
def yX0_empty : MethodName := ⟨RX0, "empty", "()V"⟩
abbrev cX0_take : ByteArray := prog_2_method_3_code
def yX0_take : MethodName := ⟨RX0, "take", "(LBiscuitLore$Larder;)V"⟩
abbrev cX0_hasFellow : ByteArray := prog_2_method_4_code
def yX0_hasFellow : MethodName := ⟨RX0, "hasFellow", "(I)Z"⟩
abbrev cX0_hasBiscuit : ByteArray := prog_2_method_5_code
def yX0_hasBiscuit : MethodName := ⟨RX0, "hasBiscuit", "(I)Z"⟩
abbrev cX0_addFellow : ByteArray := prog_2_method_6_code
def yX0_addFellow : MethodName := ⟨RX0, "addFellow", "(I)Z"⟩
abbrev cX0_addBiscuit : ByteArray := prog_2_method_7_code
def yX0_addBiscuit : MethodName := ⟨RX0, "addBiscuit", "(IIII)Z"⟩
abbrev cX0_addQuestion : ByteArray := prog_2_method_8_code
def yX0_addQuestion : MethodName := ⟨RX0, "addQuestion", "(II)Z"⟩
abbrev cX0_exchange : ByteArray := prog_2_method_9_code
def yX0_exchange : MethodName := ⟨RX0, "exchange", "(II)V"⟩
abbrev cX0_trade : ByteArray := prog_2_method_10_code
def yX0_trade : MethodName := ⟨RX0, "trade", "([III)V"⟩
abbrev cX0_spoilOf : ByteArray := prog_2_method_11_code
def yX0_spoilOf : MethodName := ⟨RX0, "spoilOf", "(I)I"⟩
abbrev cX0_isKnower : ByteArray := prog_2_method_12_code
def yX0_isKnower : MethodName := ⟨RX0, "isKnower", "(II)Z"⟩
abbrev cX0_knowersOf : ByteArray := prog_2_method_13_code
def yX0_knowersOf : MethodName := ⟨RX0, "knowersOf", "(I)I"⟩
abbrev cX0_loreOf : ByteArray := prog_2_method_14_code
def yX0_loreOf : MethodName := ⟨RX0, "loreOf", "(I)I"⟩
abbrev cX0_allLore : ByteArray := prog_2_method_15_code
def yX0_allLore : MethodName := ⟨RX0, "allLore", "()I"⟩
abbrev cX0_ownedBy : ByteArray := prog_2_method_16_code
def yX0_ownedBy : MethodName := ⟨RX0, "ownedBy", "(I)I"⟩
abbrev cX0_crumbsOf : ByteArray := prog_2_method_17_code
def yX0_crumbsOf : MethodName := ⟨RX0, "crumbsOf", "(I)I"⟩
abbrev cX0_allCrumbs : ByteArray := prog_2_method_18_code
def yX0_allCrumbs : MethodName := ⟨RX0, "allCrumbs", "()I"⟩
abbrev cX0_allHunger : ByteArray := prog_2_method_19_code
def yX0_allHunger : MethodName := ⟨RX0, "allHunger", "()I"⟩
abbrev cX0_allAppetites : ByteArray := prog_2_method_20_code
def yX0_allAppetites : MethodName := ⟨RX0, "allAppetites", "()I"⟩
abbrev cX0_sumOf : ByteArray := prog_2_method_21_code
def yX0_sumOf : MethodName := ⟨RX0, "sumOf", "([II)I"⟩
abbrev cX0_answers : ByteArray := prog_2_method_22_code
def yX0_answers : MethodName := ⟨RX0, "answers", "()I"⟩
abbrev cX0_live : ByteArray := prog_2_method_23_code
def yX0_live : MethodName := ⟨RX0, "live", "()I"⟩
abbrev cX0_feast : ByteArray := prog_2_method_24_code
def yX0_feast : MethodName := ⟨RX0, "feast", "(I)I"⟩
def RX1 : String := "BiscuitLore$Sheet"
def TX1 : u_T := fun k => match k with
  | 0 => ("BiscuitLore$Sheet", "there", "Z", false)
  | 1 => ("BiscuitLore$Sheet", "lane", "I", false)
  | 2 => ("BiscuitLore$Sheet", "size", "I", false)
  | _ => ("BiscuitLore$Sheet", "cells", "[I", true)
def tyX1 : Nat → FieldType := fun k => match k with
  | 0 => .boolean
  | 1 => .int
  | 2 => .int
  | _ => .array .int
abbrev wsX10 : List Cond := u_ws RX1 TX1 4
theorem nmX1 : ∀ a, a < 4 → ∀ b, b < 4 → a ≠ b → (TX1 a).2.1 ≠ (TX1 b).2.1 := by decide +kernel
theorem tyX1_ok : ∀ k, k < 4 → parseFieldDescriptor (TX1 k).2.2.1 = some (tyX1 k) := by decide +kernel
abbrev cX1_init : ByteArray := prog_3_method_1_code
def yX1_init : MethodName := ⟨RX1, "<init>", "()V"⟩
abbrev cX1_renew : ByteArray := prog_3_method_2_code
def yX1_renew : MethodName := ⟨RX1, "renew", "(II)V"⟩
abbrev cX1_faultAt : ByteArray := prog_3_method_3_code
def yX1_faultAt : MethodName := ⟨RX1, "faultAt", "(III)I"⟩
abbrev cX1_narrow : ByteArray := prog_3_method_4_code
def yX1_narrow : MethodName := ⟨RX1, "narrow", "(I)I"⟩
def RX2 : String := "BiscuitLore$Sight"
def TX2 : u_T := fun k => match k with
  | 0 => ("BiscuitLore$Sight", "many", "I", false)
  | 1 => ("BiscuitLore$Sight", "behind", "[I", true)
  | 2 => ("BiscuitLore$Sight", "who", "[I", true)
  | 3 => ("BiscuitLore$Sight", "of", "[I", true)
  | _ => ("BiscuitLore$Sight", "known", "[Z", true)
def tyX2 : Nat → FieldType := fun k => match k with
  | 0 => .int
  | 1 => .array .int
  | 2 => .array .int
  | 3 => .array .int
  | _ => .array .boolean
abbrev wsX20 : List Cond := u_ws RX2 TX2 5
theorem nmX2 : ∀ a, a < 5 → ∀ b, b < 5 → a ≠ b → (TX2 a).2.1 ≠ (TX2 b).2.1 := by decide +kernel
theorem tyX2_ok : ∀ k, k < 5 → parseFieldDescriptor (TX2 k).2.2.1 = some (tyX2 k) := by decide +kernel
abbrev cX2_init : ByteArray := prog_4_method_1_code
def yX2_init : MethodName := ⟨RX2, "<init>", "()V"⟩
abbrev cX2_add : ByteArray := prog_4_method_2_code
def yX2_add : MethodName := ⟨RX2, "add", "(IIIZ)Z"⟩
abbrev cX2_fits : ByteArray := prog_4_method_3_code
def yX2_fits : MethodName := ⟨RX2, "fits", "(LBiscuitLore$Larder;)Z"⟩
abbrev cX2_lastDay : ByteArray := prog_4_method_4_code
def yX2_lastDay : MethodName := ⟨RX2, "lastDay", "()I"⟩
abbrev cX2_fitsBehind : ByteArray := prog_4_method_5_code
def yX2_fitsBehind : MethodName := ⟨RX2, "fitsBehind", "(ILBiscuitLore$Larder;)Z"⟩
def RX3 : String := "BiscuitLore$Tape"
def TX3 : u_T := fun k => match k with
  | 0 => ("BiscuitLore$Tape", "bytes", "[B", true)
  | 1 => ("BiscuitLore$Tape", "length", "I", false)
  | 2 => ("BiscuitLore$Tape", "fault", "I", false)
  | 3 => ("BiscuitLore$Tape", "place", "I", false)
  | 4 => ("BiscuitLore$Tape", "lines", "I", false)
  | 5 => ("BiscuitLore$Tape", "at", "I", false)
  | 6 => ("BiscuitLore$Tape", "start", "I", false)
  | 7 => ("BiscuitLore$Tape", "sort", "I", false)
  | 8 => ("BiscuitLore$Tape", "value", "I", false)
  | 9 => ("BiscuitLore$Tape", "hasDamp", "Z", false)
  | 10 => ("BiscuitLore$Tape", "hasBite", "Z", false)
  | _ => ("BiscuitLore$Tape", "numbers", "[I", true)
def tyX3 : Nat → FieldType := fun k => match k with
  | 0 => .array .byte
  | 1 => .int
  | 2 => .int
  | 3 => .int
  | 4 => .int
  | 5 => .int
  | 6 => .int
  | 7 => .int
  | 8 => .int
  | 9 => .boolean
  | 10 => .boolean
  | _ => .array .int
abbrev wsX30 : List Cond := u_ws RX3 TX3 12
theorem nmX3 : ∀ a, a < 12 → ∀ b, b < 12 → a ≠ b → (TX3 a).2.1 ≠ (TX3 b).2.1 := by decide +kernel
theorem tyX3_ok : ∀ k, k < 12 → parseFieldDescriptor (TX3 k).2.2.1 = some (tyX3 k) := by decide +kernel
abbrev cX3_init : ByteArray := prog_5_method_1_code
def yX3_init : MethodName := ⟨RX3, "<init>", "()V"⟩
abbrev cX3_tell : ByteArray := prog_5_method_2_code
def yX3_tell : MethodName := ⟨RX3, "tell", "(LBiscuitLore$Larder;)Z"⟩
abbrev cX3_blame : ByteArray := prog_5_method_3_code
def yX3_blame : MethodName := ⟨RX3, "blame", "(II)V"⟩
abbrev cX3_readLine : ByteArray := prog_5_method_4_code
def yX3_readLine : MethodName := ⟨RX3, "readLine", "(LBiscuitLore$Larder;)V"⟩
abbrev cX3_readNumbers : ByteArray := prog_5_method_5_code
def yX3_readNumbers : MethodName := ⟨RX3, "readNumbers", "(I)V"⟩
abbrev cX3_readMark : ByteArray := prog_5_method_6_code
def yX3_readMark : MethodName := ⟨RX3, "readMark", "()V"⟩
abbrev cX3_isTwice : ByteArray := prog_5_method_7_code
def yX3_isTwice : MethodName := ⟨RX3, "isTwice", "(I)Z"⟩
abbrev cX3_isFull : ByteArray := prog_5_method_8_code
def yX3_isFull : MethodName := ⟨RX3, "isFull", "(ILBiscuitLore$Larder;)Z"⟩
abbrev cX3_write : ByteArray := prog_5_method_9_code
def yX3_write : MethodName := ⟨RX3, "write", "(ILBiscuitLore$Larder;)V"⟩
abbrev cX3_seekFellows : ByteArray := prog_5_method_10_code
def yX3_seekFellows : MethodName := ⟨RX3, "seekFellows", "(LBiscuitLore$Larder;)V"⟩
abbrev cX3_readToken : ByteArray := prog_5_method_11_code
def yX3_readToken : MethodName := ⟨RX3, "readToken", "()V"⟩
abbrev cX3_skipName : ByteArray := prog_5_method_12_code
def yX3_skipName : MethodName := ⟨RX3, "skipName", "()V"⟩
abbrev cX3_readFigures : ByteArray := prog_5_method_13_code
def yX3_readFigures : MethodName := ⟨RX3, "readFigures", "()V"⟩
abbrev cX3_isLetter : ByteArray := prog_5_method_14_code
def yX3_isLetter : MethodName := ⟨RX3, "isLetter", "(I)Z"⟩
abbrev cX3_isFigure : ByteArray := prog_5_method_15_code
def yX3_isFigure : MethodName := ⟨RX3, "isFigure", "(I)Z"⟩
abbrev cX3_findWord : ByteArray := prog_5_method_16_code
def yX3_findWord : MethodName := ⟨RX3, "findWord", "()I"⟩
abbrev cX3_isWord : ByteArray := prog_5_method_17_code
def yX3_isWord : MethodName := ⟨RX3, "isWord", "(Ljava/lang/String;)Z"⟩
abbrev cX3_wordOf : ByteArray := prog_5_method_18_code
def yX3_wordOf : MethodName := ⟨RX3, "wordOf", "(I)Ljava/lang/String;"⟩
def RX4 : String := "BiscuitLore"
def TX4 : u_T := fun k => match k with
  | 0 => ("BiscuitLore", "tape", "LBiscuitLore$Tape;", true)
  | 1 => ("BiscuitLore", "now", "LBiscuitLore$Larder;", true)
  | 2 => ("BiscuitLore", "trial", "LBiscuitLore$Larder;", true)
  | 3 => ("BiscuitLore", "images", "[LBiscuitLore$Larder;", true)
  | 4 => ("BiscuitLore", "kept", "[Z", true)
  | 5 => ("BiscuitLore", "seen", "LBiscuitLore$Sight;", true)
  | 6 => ("BiscuitLore", "sheets", "[LBiscuitLore$Sheet;", true)
  | 7 => ("BiscuitLore", "crumbsAt", "[[I", true)
  | 8 => ("BiscuitLore", "knewAt", "[I", true)
  | _ => ("BiscuitLore", "tear", "I", false)
def tyX4 : Nat → FieldType := fun k => match k with
  | 0 => .object "BiscuitLore$Tape"
  | 1 => .object "BiscuitLore$Larder"
  | 2 => .object "BiscuitLore$Larder"
  | 3 => .array (.object "BiscuitLore$Larder")
  | 4 => .array .boolean
  | 5 => .object "BiscuitLore$Sight"
  | 6 => .array (.object "BiscuitLore$Sheet")
  | 7 => .array (.array .int)
  | 8 => .array .int
  | _ => .int
abbrev wsX40 : List Cond := u_ws RX4 TX4 10
theorem nmX4 : ∀ a, a < 10 → ∀ b, b < 10 → a ≠ b → (TX4 a).2.1 ≠ (TX4 b).2.1 := by decide +kernel
theorem tyX4_ok : ∀ k, k < 10 → parseFieldDescriptor (TX4 k).2.2.1 = some (tyX4 k) := by decide +kernel
abbrev cX4_init : ByteArray := prog_1_method_1_code
def yX4_init : MethodName := ⟨RX4, "<init>", "()V"⟩
abbrev cX4_feed : ByteArray := prog_1_method_2_code
def yX4_feed : MethodName := ⟨RX4, "feed", "(I)I"⟩
abbrev cX4_end : ByteArray := prog_1_method_3_code
def yX4_end : MethodName := ⟨RX4, "end", "(I)I"⟩
abbrev cX4_text : ByteArray := prog_1_method_4_code
def yX4_text : MethodName := ⟨RX4, "text", "()I"⟩
abbrev cX4_fault : ByteArray := prog_1_method_5_code
def yX4_fault : MethodName := ⟨RX4, "fault", "()I"⟩
abbrev cX4_rule : ByteArray := prog_1_method_6_code
def yX4_rule : MethodName := ⟨RX4, "rule", "(I)I"⟩
abbrev cX4_fellow : ByteArray := prog_1_method_7_code
def yX4_fellow : MethodName := ⟨RX4, "fellow", "(II)I"⟩
abbrev cX4_biscuit : ByteArray := prog_1_method_8_code
def yX4_biscuit : MethodName := ⟨RX4, "biscuit", "(II)I"⟩
abbrev cX4_question : ByteArray := prog_1_method_9_code
def yX4_question : MethodName := ⟨RX4, "question", "(II)I"⟩
abbrev cX4_knows : ByteArray := prog_1_method_10_code
def yX4_knows : MethodName := ⟨RX4, "knows", "(I)I"⟩
abbrev cX4_alter : ByteArray := prog_1_method_11_code
def yX4_alter : MethodName := ⟨RX4, "alter", "(III)I"⟩
abbrev cX4_diet : ByteArray := prog_1_method_12_code
def yX4_diet : MethodName := ⟨RX4, "diet", "(II)I"⟩
abbrev cX4_damp : ByteArray := prog_1_method_13_code
def yX4_damp : MethodName := ⟨RX4, "damp", "(I)I"⟩
abbrev cX4_bite : ByteArray := prog_1_method_14_code
def yX4_bite : MethodName := ⟨RX4, "bite", "(I)I"⟩
abbrev cX4_pose : ByteArray := prog_1_method_15_code
def yX4_pose : MethodName := ⟨RX4, "pose", "(II)I"⟩
abbrev cX4_drop : ByteArray := prog_1_method_16_code
def yX4_drop : MethodName := ⟨RX4, "drop", "(I)I"⟩
abbrev cX4_bake : ByteArray := prog_1_method_17_code
def yX4_bake : MethodName := ⟨RX4, "bake", "(IIII)I"⟩
abbrev cX4_days : ByteArray := prog_1_method_18_code
def yX4_days : MethodName := ⟨RX4, "days", "(I)I"⟩
abbrev cX4_runs : ByteArray := prog_1_method_19_code
def yX4_runs : MethodName := ⟨RX4, "runs", "(II)I"⟩
abbrev cX4_ahead : ByteArray := prog_1_method_20_code
def yX4_ahead : MethodName := ⟨RX4, "ahead", "(II)I"⟩
abbrev cX4_lasts : ByteArray := prog_1_method_21_code
def yX4_lasts : MethodName := ⟨RX4, "lasts", "(I)I"⟩
abbrev cX4_starves : ByteArray := prog_1_method_22_code
def yX4_starves : MethodName := ⟨RX4, "starves", "(I)I"⟩
abbrev cX4_need : ByteArray := prog_1_method_23_code
def yX4_need : MethodName := ⟨RX4, "need", "(II)I"⟩
abbrev cX4_thrift : ByteArray := prog_1_method_24_code
def yX4_thrift : MethodName := ⟨RX4, "thrift", "(II)I"⟩
abbrev cX4_heir : ByteArray := prog_1_method_25_code
def yX4_heir : MethodName := ⟨RX4, "heir", "(II)I"⟩
abbrev cX4_swap : ByteArray := prog_1_method_26_code
def yX4_swap : MethodName := ⟨RX4, "swap", "(I)I"⟩
abbrev cX4_wise : ByteArray := prog_1_method_27_code
def yX4_wise : MethodName := ⟨RX4, "wise", "(II)I"⟩
abbrev cX4_chew : ByteArray := prog_1_method_28_code
def yX4_chew : MethodName := ⟨RX4, "chew", "(I)I"⟩
abbrev cX4_luck : ByteArray := prog_1_method_29_code
def yX4_luck : MethodName := ⟨RX4, "luck", "(IIIII)J"⟩
abbrev cX4_mean : ByteArray := prog_1_method_30_code
def yX4_mean : MethodName := ⟨RX4, "mean", "(III)J"⟩
abbrev cX4_see : ByteArray := prog_1_method_31_code
def yX4_see : MethodName := ⟨RX4, "see", "(IIIZ)I"⟩
abbrev cX4_forget : ByteArray := prog_1_method_32_code
def yX4_forget : MethodName := ⟨RX4, "forget", "(I)I"⟩
abbrev cX4_kinds : ByteArray := prog_1_method_33_code
def yX4_kinds : MethodName := ⟨RX4, "kinds", "(I)I"⟩
abbrev cX4_subjects : ByteArray := prog_1_method_34_code
def yX4_subjects : MethodName := ⟨RX4, "subjects", "(I)I"⟩
abbrev cX4_ask : ByteArray := prog_1_method_35_code
def yX4_ask : MethodName := ⟨RX4, "ask", "(II)I"⟩
abbrev cX4_drift : ByteArray := prog_1_method_36_code
def yX4_drift : MethodName := ⟨RX4, "drift", "(III)I"⟩
abbrev cX4_keep : ByteArray := prog_1_method_37_code
def yX4_keep : MethodName := ⟨RX4, "keep", "(I)I"⟩
abbrev cX4_back : ByteArray := prog_1_method_38_code
def yX4_back : MethodName := ⟨RX4, "back", "(I)I"⟩
abbrev cX4_sheet : ByteArray := prog_1_method_39_code
def yX4_sheet : MethodName := ⟨RX4, "sheet", "(III)I"⟩
abbrev cX4_lay : ByteArray := prog_1_method_40_code
def yX4_lay : MethodName := ⟨RX4, "lay", "(III)I"⟩
abbrev cX4_read : ByteArray := prog_1_method_41_code
def yX4_read : MethodName := ⟨RX4, "read", "(IIII)I"⟩
abbrev cX4_torn : ByteArray := prog_1_method_42_code
def yX4_torn : MethodName := ⟨RX4, "torn", "()I"⟩
abbrev cX4_count : ByteArray := prog_1_method_43_code
def yX4_count : MethodName := ⟨RX4, "count", "(I)I"⟩
abbrev cX4_within : ByteArray := prog_1_method_44_code
def yX4_within : MethodName := ⟨RX4, "within", "(III)Z"⟩
abbrev cX4_isHalf : ByteArray := prog_1_method_45_code
def yX4_isHalf : MethodName := ⟨RX4, "isHalf", "(I)Z"⟩
abbrev cX4_areOdds : ByteArray := prog_1_method_46_code
def yX4_areOdds : MethodName := ⟨RX4, "areOdds", "(III)Z"⟩
abbrev cX4_put : ByteArray := prog_1_method_47_code
def yX4_put : MethodName := ⟨RX4, "put", "([IIII)I"⟩
abbrev cX4_tryDays : ByteArray := prog_1_method_48_code
def yX4_tryDays : MethodName := ⟨RX4, "tryDays", "(I)I"⟩
abbrev cX4_countAnswered : ByteArray := prog_1_method_49_code
def yX4_countAnswered : MethodName := ⟨RX4, "countAnswered", "()I"⟩
abbrev cX4_isKnownBy : ByteArray := prog_1_method_50_code
def yX4_isKnownBy : MethodName := ⟨RX4, "isKnownBy", "(III)Z"⟩
abbrev cX4_kindsLeft : ByteArray := prog_1_method_51_code
def yX4_kindsLeft : MethodName := ⟨RX4, "kindsLeft", "(I)I"⟩
abbrev cX4_tallyKnowers : ByteArray := prog_1_method_52_code
def yX4_tallyKnowers : MethodName := ⟨RX4, "tallyKnowers", "(II)V"⟩
abbrev cX4_tallyDays : ByteArray := prog_1_method_53_code
def yX4_tallyDays : MethodName := ⟨RX4, "tallyDays", "(I)V"⟩
abbrev cX4_weigh : ByteArray := prog_1_method_54_code
def yX4_weigh : MethodName := ⟨RX4, "weigh", "(IIIII)J"⟩
abbrev cX4_outcome : ByteArray := prog_1_method_55_code
def yX4_outcome : MethodName := ⟨RX4, "outcome", "(II)J"⟩
abbrev cX4_powerOfTen : ByteArray := prog_1_method_56_code
def yX4_powerOfTen : MethodName := ⟨RX4, "powerOfTen", "(I)J"⟩
abbrev cX4_partOf : ByteArray := prog_1_method_57_code
def yX4_partOf : MethodName := ⟨RX4, "partOf", "(JJI)J"⟩
def RX5 : String := "BiscuitLoreModel"
def TX5 : u_T := fun k => match k with
  | 0 => ("BiscuitLoreModel", "state", "[I", true)
  | 1 => ("BiscuitLoreModel", "fellowMany", "I", false)
  | 2 => ("BiscuitLoreModel", "readPage", "[I", true)
  | 3 => ("BiscuitLoreModel", "readFellows", "I", false)
  | 4 => ("BiscuitLoreModel", "toldOnce", "I", false)
  | 5 => ("BiscuitLoreModel", "high", "I", false)
  | 6 => ("BiscuitLoreModel", "tape", "[I", true)
  | 7 => ("BiscuitLoreModel", "taped", "I", false)
  | 8 => ("BiscuitLoreModel", "fault", "I", false)
  | 9 => ("BiscuitLoreModel", "broken", "I", false)
  | 10 => ("BiscuitLoreModel", "brokenAt", "I", false)
  | 11 => ("BiscuitLoreModel", "spot", "I", false)
  | 12 => ("BiscuitLoreModel", "here", "I", false)
  | 13 => ("BiscuitLoreModel", "token", "I", false)
  | 14 => ("BiscuitLoreModel", "value", "I", false)
  | 15 => ("BiscuitLoreModel", "cuts", "[I", true)
  | 16 => ("BiscuitLoreModel", "letters", "[I", true)
  | 17 => ("BiscuitLoreModel", "answered", "I", false)
  | 18 => ("BiscuitLoreModel", "seen", "[I", true)
  | 19 => ("BiscuitLoreModel", "seenMany", "I", false)
  | 20 => ("BiscuitLoreModel", "knowsBy", "[I", true)
  | 21 => ("BiscuitLoreModel", "isKept", "[Z", true)
  | 22 => ("BiscuitLoreModel", "lanes", "[I", true)
  | 23 => ("BiscuitLoreModel", "lengths", "[I", true)
  | 24 => ("BiscuitLoreModel", "cells", "[I", true)
  | _ => ("BiscuitLoreModel", "torn", "I", false)
def tyX5 : Nat → FieldType := fun k => match k with
  | 0 => .array .int
  | 1 => .int
  | 2 => .array .int
  | 3 => .int
  | 4 => .int
  | 5 => .int
  | 6 => .array .int
  | 7 => .int
  | 8 => .int
  | 9 => .int
  | 10 => .int
  | 11 => .int
  | 12 => .int
  | 13 => .int
  | 14 => .int
  | 15 => .array .int
  | 16 => .array .int
  | 17 => .int
  | 18 => .array .int
  | 19 => .int
  | 20 => .array .int
  | 21 => .array .boolean
  | 22 => .array .int
  | 23 => .array .int
  | 24 => .array .int
  | _ => .int
abbrev wsX50 : List Cond := u_ws RX5 TX5 26
theorem nmX5 : ∀ a, a < 26 → ∀ b, b < 26 → a ≠ b → (TX5 a).2.1 ≠ (TX5 b).2.1 := by decide +kernel
theorem tyX5_ok : ∀ k, k < 26 → parseFieldDescriptor (TX5 k).2.2.1 = some (tyX5 k) := by decide +kernel
abbrev cX5_init : ByteArray := prog_7_method_1_code
def yX5_init : MethodName := ⟨RX5, "<init>", "()V"⟩
abbrev cX5_in : ByteArray := prog_7_method_3_code
def yX5_in : MethodName := ⟨RX5, "in", "(JJJ)Z"⟩
abbrev cX5_feed : ByteArray := prog_7_method_4_code
def yX5_feed : MethodName := ⟨RX5, "feed", "(I)I"⟩
abbrev cX5_end : ByteArray := prog_7_method_5_code
def yX5_end : MethodName := ⟨RX5, "end", "(I)I"⟩
abbrev cX5_byteAt : ByteArray := prog_7_method_6_code
def yX5_byteAt : MethodName := ⟨RX5, "byteAt", "(I)I"⟩
abbrev cX5_fails : ByteArray := prog_7_method_7_code
def yX5_fails : MethodName := ⟨RX5, "fails", "(I)V"⟩
abbrev cX5_nameHere : ByteArray := prog_7_method_8_code
def yX5_nameHere : MethodName := ⟨RX5, "nameHere", "()I"⟩
abbrev cX5_step : ByteArray := prog_7_method_9_code
def yX5_step : MethodName := ⟨RX5, "step", "()V"⟩
abbrev cX5_number : ByteArray := prog_7_method_10_code
def yX5_number : MethodName := ⟨RX5, "number", "(II)I"⟩
abbrev cX5_readBiscuit : ByteArray := prog_7_method_11_code
def yX5_readBiscuit : MethodName := ⟨RX5, "readBiscuit", "(I)V"⟩
abbrev cX5_readMore : ByteArray := prog_7_method_12_code
def yX5_readMore : MethodName := ⟨RX5, "readMore", "(I)V"⟩
abbrev cX5_isFull : ByteArray := prog_7_method_13_code
def yX5_isFull : MethodName := ⟨RX5, "isFull", "(I)Z"⟩
abbrev cX5_readLine : ByteArray := prog_7_method_14_code
def yX5_readLine : MethodName := ⟨RX5, "readLine", "()V"⟩
abbrev cX5_text : ByteArray := prog_7_method_15_code
def yX5_text : MethodName := ⟨RX5, "text", "()I"⟩
abbrev cX5_fault : ByteArray := prog_7_method_16_code
def yX5_fault : MethodName := ⟨RX5, "fault", "()I"⟩
abbrev cX5_isFellow : ByteArray := prog_7_method_17_code
def yX5_isFellow : MethodName := ⟨RX5, "isFellow", "(I)Z"⟩
abbrev cX5_isBiscuit : ByteArray := prog_7_method_18_code
def yX5_isBiscuit : MethodName := ⟨RX5, "isBiscuit", "(I)Z"⟩
abbrev cX5_isSubject : ByteArray := prog_7_method_19_code
def yX5_isSubject : MethodName := ⟨RX5, "isSubject", "(I)Z"⟩
abbrev cX5_spoilsOn : ByteArray := prog_7_method_20_code
def yX5_spoilsOn : MethodName := ⟨RX5, "spoilsOn", "(III)I"⟩
abbrev cX5_dampOn : ByteArray := prog_7_method_21_code
def yX5_dampOn : MethodName := ⟨RX5, "dampOn", "(I)I"⟩
abbrev cX5_subjectsOn : ByteArray := prog_7_method_22_code
def yX5_subjectsOn : MethodName := ⟨RX5, "subjectsOn", "(II)I"⟩
abbrev cX5_crumbsOn : ByteArray := prog_7_method_23_code
def yX5_crumbsOn : MethodName := ⟨RX5, "crumbsOn", "(II)I"⟩
abbrev cX5_hungerOn : ByteArray := prog_7_method_24_code
def yX5_hungerOn : MethodName := ⟨RX5, "hungerOn", "(I)I"⟩
abbrev cX5_asksOn : ByteArray := prog_7_method_25_code
def yX5_asksOn : MethodName := ⟨RX5, "asksOn", "(I)V"⟩
abbrev cX5_eatsOn : ByteArray := prog_7_method_26_code
def yX5_eatsOn : MethodName := ⟨RX5, "eatsOn", "(II)I"⟩
abbrev cX5_dayOn : ByteArray := prog_7_method_27_code
def yX5_dayOn : MethodName := ⟨RX5, "dayOn", "(II)I"⟩
abbrev cX5_rule : ByteArray := prog_7_method_28_code
def yX5_rule : MethodName := ⟨RX5, "rule", "(I)I"⟩
abbrev cX5_fellow : ByteArray := prog_7_method_29_code
def yX5_fellow : MethodName := ⟨RX5, "fellow", "(II)I"⟩
abbrev cX5_biscuit : ByteArray := prog_7_method_30_code
def yX5_biscuit : MethodName := ⟨RX5, "biscuit", "(II)I"⟩
abbrev cX5_question : ByteArray := prog_7_method_31_code
def yX5_question : MethodName := ⟨RX5, "question", "(II)I"⟩
abbrev cX5_knows : ByteArray := prog_7_method_32_code
def yX5_knows : MethodName := ⟨RX5, "knows", "(I)I"⟩
abbrev cX5_puts : ByteArray := prog_7_method_33_code
def yX5_puts : MethodName := ⟨RX5, "puts", "(ZIII)I"⟩
abbrev cX5_isGood : ByteArray := prog_7_method_34_code
def yX5_isGood : MethodName := ⟨RX5, "isGood", "(II)Z"⟩
abbrev cX5_alter : ByteArray := prog_7_method_35_code
def yX5_alter : MethodName := ⟨RX5, "alter", "(III)I"⟩
abbrev cX5_diet : ByteArray := prog_7_method_36_code
def yX5_diet : MethodName := ⟨RX5, "diet", "(II)I"⟩
abbrev cX5_damp : ByteArray := prog_7_method_37_code
def yX5_damp : MethodName := ⟨RX5, "damp", "(I)I"⟩
abbrev cX5_bite : ByteArray := prog_7_method_38_code
def yX5_bite : MethodName := ⟨RX5, "bite", "(I)I"⟩
abbrev cX5_pose : ByteArray := prog_7_method_39_code
def yX5_pose : MethodName := ⟨RX5, "pose", "(II)I"⟩
abbrev cX5_drop : ByteArray := prog_7_method_40_code
def yX5_drop : MethodName := ⟨RX5, "drop", "(I)I"⟩
abbrev cX5_bakes : ByteArray := prog_7_method_41_code
def yX5_bakes : MethodName := ⟨RX5, "bakes", "(IIII)I"⟩
abbrev cX5_bake : ByteArray := prog_7_method_42_code
def yX5_bake : MethodName := ⟨RX5, "bake", "(IIII)I"⟩
abbrev cX5_days : ByteArray := prog_7_method_43_code
def yX5_days : MethodName := ⟨RX5, "days", "(I)I"⟩
abbrev cX5_copies : ByteArray := prog_7_method_44_code
def yX5_copies : MethodName := ⟨RX5, "copies", "(II)V"⟩
abbrev cX5_daysGo : ByteArray := prog_7_method_45_code
def yX5_daysGo : MethodName := ⟨RX5, "daysGo", "(II)V"⟩
abbrev cX5_runs : ByteArray := prog_7_method_46_code
def yX5_runs : MethodName := ⟨RX5, "runs", "(II)I"⟩
abbrev cX5_ahead : ByteArray := prog_7_method_47_code
def yX5_ahead : MethodName := ⟨RX5, "ahead", "(II)I"⟩
abbrev cX5_lasts : ByteArray := prog_7_method_48_code
def yX5_lasts : MethodName := ⟨RX5, "lasts", "(I)I"⟩
abbrev cX5_starves : ByteArray := prog_7_method_49_code
def yX5_starves : MethodName := ⟨RX5, "starves", "(I)I"⟩
abbrev cX5_need : ByteArray := prog_7_method_50_code
def yX5_need : MethodName := ⟨RX5, "need", "(II)I"⟩
abbrev cX5_bitsOf : ByteArray := prog_7_method_51_code
def yX5_bitsOf : MethodName := ⟨RX5, "bitsOf", "(I)I"⟩
abbrev cX5_answersOf : ByteArray := prog_7_method_52_code
def yX5_answersOf : MethodName := ⟨RX5, "answersOf", "(I)I"⟩
abbrev cX5_thrift : ByteArray := prog_7_method_53_code
def yX5_thrift : MethodName := ⟨RX5, "thrift", "(II)I"⟩
abbrev cX5_heir : ByteArray := prog_7_method_54_code
def yX5_heir : MethodName := ⟨RX5, "heir", "(II)I"⟩
abbrev cX5_swap : ByteArray := prog_7_method_55_code
def yX5_swap : MethodName := ⟨RX5, "swap", "(I)I"⟩
abbrev cX5_wise : ByteArray := prog_7_method_56_code
def yX5_wise : MethodName := ⟨RX5, "wise", "(II)I"⟩
abbrev cX5_chew : ByteArray := prog_7_method_57_code
def yX5_chew : MethodName := ⟨RX5, "chew", "(I)I"⟩
abbrev cX5_lowest : ByteArray := prog_7_method_58_code
def yX5_lowest : MethodName := ⟨RX5, "lowest", "(JJI)J"⟩
abbrev cX5_byDamp : ByteArray := prog_7_method_59_code
def yX5_byDamp : MethodName := ⟨RX5, "byDamp", "(IIIII)J"⟩
abbrev cX5_luck : ByteArray := prog_7_method_60_code
def yX5_luck : MethodName := ⟨RX5, "luck", "(IIIII)J"⟩
abbrev cX5_mean : ByteArray := prog_7_method_61_code
def yX5_mean : MethodName := ⟨RX5, "mean", "(III)J"⟩
abbrev cX5_see : ByteArray := prog_7_method_62_code
def yX5_see : MethodName := ⟨RX5, "see", "(IIIZ)I"⟩
abbrev cX5_forget : ByteArray := prog_7_method_63_code
def yX5_forget : MethodName := ⟨RX5, "forget", "(I)I"⟩
abbrev cX5_isAsSeen : ByteArray := prog_7_method_64_code
def yX5_isAsSeen : MethodName := ⟨RX5, "isAsSeen", "(II)Z"⟩
abbrev cX5_kindsOf : ByteArray := prog_7_method_65_code
def yX5_kindsOf : MethodName := ⟨RX5, "kindsOf", "(I)I"⟩
abbrev cX5_kinds : ByteArray := prog_7_method_66_code
def yX5_kinds : MethodName := ⟨RX5, "kinds", "(I)I"⟩
abbrev cX5_subjects : ByteArray := prog_7_method_67_code
def yX5_subjects : MethodName := ⟨RX5, "subjects", "(I)I"⟩
abbrev cX5_ask : ByteArray := prog_7_method_68_code
def yX5_ask : MethodName := ⟨RX5, "ask", "(II)I"⟩
abbrev cX5_drift : ByteArray := prog_7_method_69_code
def yX5_drift : MethodName := ⟨RX5, "drift", "(III)I"⟩
abbrev cX5_keep : ByteArray := prog_7_method_70_code
def yX5_keep : MethodName := ⟨RX5, "keep", "(I)I"⟩
abbrev cX5_back : ByteArray := prog_7_method_71_code
def yX5_back : MethodName := ⟨RX5, "back", "(I)I"⟩
abbrev cX5_sheet : ByteArray := prog_7_method_72_code
def yX5_sheet : MethodName := ⟨RX5, "sheet", "(III)I"⟩
abbrev cX5_lay : ByteArray := prog_7_method_73_code
def yX5_lay : MethodName := ⟨RX5, "lay", "(III)I"⟩
abbrev cX5_read : ByteArray := prog_7_method_74_code
def yX5_read : MethodName := ⟨RX5, "read", "(IIII)I"⟩
abbrev cX5_torn : ByteArray := prog_7_method_75_code
def yX5_torn : MethodName := ⟨RX5, "torn", "()I"⟩
abbrev cX5_count : ByteArray := prog_7_method_76_code
def yX5_count : MethodName := ⟨RX5, "count", "(I)I"⟩
def RJ6 : String := "java/lang/Integer"
def TJ6 : u_T := fun k => match k with
  | _ => ("", "", "", false)
def tyJ6 : Nat → FieldType := fun k => match k with
  | _ => .int
abbrev wsJ60 : List Cond := u_ws RJ6 TJ6 0
theorem nmJ6 : ∀ a, a < 0 → ∀ b, b < 0 → a ≠ b → (TJ6 a).2.1 ≠ (TJ6 b).2.1 := by decide +kernel
theorem tyJ6_ok : ∀ k, k < 0 → parseFieldDescriptor (TJ6 k).2.2.1 = some (tyJ6 k) := by decide +kernel
abbrev cJ6_bitCount_0f7a4 : ByteArray := prog_8_method_49_code
def yJ6_bitCount_0f7a4 : MethodName := ⟨RJ6, "bitCount", "(I)I"⟩
def RJ9 : String := "java/lang/Math"
def TJ9 : u_T := fun k => match k with
  | _ => ("", "", "", false)
def tyJ9 : Nat → FieldType := fun k => match k with
  | _ => .int
abbrev wsJ90 : List Cond := u_ws RJ9 TJ9 0
theorem nmJ9 : ∀ a, a < 0 → ∀ b, b < 0 → a ≠ b → (TJ9 a).2.1 ≠ (TJ9 b).2.1 := by decide +kernel
theorem tyJ9_ok : ∀ k, k < 0 → parseFieldDescriptor (TJ9 k).2.2.1 = some (tyJ9 k) := by decide +kernel
abbrev cJ9_max_7cf53 : ByteArray := prog_9_method_65_code
def yJ9_max_7cf53 : MethodName := ⟨RJ9, "max", "(II)I"⟩
abbrev cJ9_min_7cf53 : ByteArray := prog_9_method_69_code
def yJ9_min_7cf53 : MethodName := ⟨RJ9, "min", "(II)I"⟩
def RJ0 : String := "java/lang/String"
def TJ0 : u_T := fun k => match k with
  | _ => ("", "", "", false)
def tyJ0 : Nat → FieldType := fun k => match k with
  | _ => .int
abbrev wsJ00 : List Cond := u_ws RJ0 TJ0 0
theorem nmJ0 : ∀ a, a < 0 → ∀ b, b < 0 → a ≠ b → (TJ0 a).2.1 ≠ (TJ0 b).2.1 := by decide +kernel
theorem tyJ0_ok : ∀ k, k < 0 → parseFieldDescriptor (TJ0 k).2.2.1 = some (tyJ0 k) := by decide +kernel
abbrev cJ0_length_8abf5 : ByteArray := prog_10_method_54_code
def yJ0_length_8abf5 : MethodName := ⟨RJ0, "length", "()I"⟩
abbrev cJ0_charAt_5068e : ByteArray := prog_10_method_56_code
def yJ0_charAt_5068e : MethodName := ⟨RJ0, "charAt", "(I)C"⟩
abbrev cJ0_coder_7d493 : ByteArray := prog_10_method_152_code
def yJ0_coder_7d493 : MethodName := ⟨RJ0, "coder", "()B"⟩
abbrev cJ0_isLatin1_aae02 : ByteArray := prog_10_method_154_code
def yJ0_isLatin1_aae02 : MethodName := ⟨RJ0, "isLatin1", "()Z"⟩
abbrev cJ0_checkIndex_df160 : ByteArray := prog_10_method_155_code
def yJ0_checkIndex_df160 : MethodName := ⟨RJ0, "checkIndex", "(II)V"⟩
def RJ1 : String := "java/lang/StringLatin1"
def TJ1 : u_T := fun k => match k with
  | _ => ("", "", "", false)
def tyJ1 : Nat → FieldType := fun k => match k with
  | _ => .int
abbrev wsJ10 : List Cond := u_ws RJ1 TJ1 0
theorem nmJ1 : ∀ a, a < 0 → ∀ b, b < 0 → a ≠ b → (TJ1 a).2.1 ≠ (TJ1 b).2.1 := by decide +kernel
theorem tyJ1_ok : ∀ k, k < 0 → parseFieldDescriptor (TJ1 k).2.2.1 = some (tyJ1 k) := by decide +kernel
abbrev cJ1_charAt_3b067 : ByteArray := prog_11_method_2_code
def yJ1_charAt_3b067 : MethodName := ⟨RJ1, "charAt", "([BI)C"⟩
def RJ2 : String := "java/lang/StringUTF16"
def TJ2 : u_T := fun k => match k with
  | _ => ("", "", "", false)
def tyJ2 : Nat → FieldType := fun k => match k with
  | _ => .int
abbrev wsJ20 : List Cond := u_ws RJ2 TJ2 0
theorem nmJ2 : ∀ a, a < 0 → ∀ b, b < 0 → a ≠ b → (TJ2 a).2.1 ≠ (TJ2 b).2.1 := by decide +kernel
theorem tyJ2_ok : ∀ k, k < 0 → parseFieldDescriptor (TJ2 k).2.2.1 = some (tyJ2 k) := by decide +kernel
abbrev cJ2_getChar_3b067 : ByteArray := prog_12_method_5_code
def yJ2_getChar_3b067 : MethodName := ⟨RJ2, "getChar", "([BI)C"⟩
abbrev cJ2_length_9d52b : ByteArray := prog_12_method_6_code
def yJ2_length_9d52b : MethodName := ⟨RJ2, "length", "([B)I"⟩
abbrev cJ2_charAt_3b067 : ByteArray := prog_12_method_83_code
def yJ2_charAt_3b067 : MethodName := ⟨RJ2, "charAt", "([BI)C"⟩
abbrev cJ2_checkIndex_2214a : ByteArray := prog_12_method_91_code
def yJ2_checkIndex_2214a : MethodName := ⟨RJ2, "checkIndex", "(I[B)V"⟩
def RJ10 : String := "java/lang/System"
def TJ10 : u_T := fun k => match k with
  | _ => ("", "", "", false)
def tyJ10 : Nat → FieldType := fun k => match k with
  | _ => .int
abbrev wsJ100 : List Cond := u_ws RJ10 TJ10 0
theorem nmJ10 : ∀ a, a < 0 → ∀ b, b < 0 → a ≠ b → (TJ10 a).2.1 ≠ (TJ10 b).2.1 := by decide +kernel
theorem tyJ10_ok : ∀ k, k < 0 → parseFieldDescriptor (TJ10 k).2.2.1 = some (tyJ10 k) := by decide +kernel
def RJ3 : String := "jdk/internal/util/Preconditions"
def TJ3 : u_T := fun k => match k with
  | _ => ("", "", "", false)
def tyJ3 : Nat → FieldType := fun k => match k with
  | _ => .int
abbrev wsJ30 : List Cond := u_ws RJ3 TJ3 0
theorem nmJ3 : ∀ a, a < 0 → ∀ b, b < 0 → a ≠ b → (TJ3 a).2.1 ≠ (TJ3 b).2.1 := by decide +kernel
theorem tyJ3_ok : ∀ k, k < 0 → parseFieldDescriptor (TJ3 k).2.2.1 = some (tyJ3 k) := by decide +kernel
abbrev cJ3_checkIndex_8e157 : ByteArray := prog_14_method_11_code
def yJ3_checkIndex_8e157 : MethodName := ⟨RJ3, "checkIndex", "(IILjava/util/function/BiFunction;)I"⟩
def RL : String := "BiscuitLoreLaw"
abbrev cL_law : ByteArray := code
def yL_law : MethodName := ⟨RL, "law", "([I)Z"⟩
end
section
/-! THE PURE MACHINE, its world. A cell is named by a triple (class, instance, sub-cell): classes 0 Larder (4), 1 Sheet (4), 2 Sight, 3 Tape, 4 BiscuitLore, 5 BiscuitLoreModel, 6 the rows of crumbsAt (8); sub-cell 0 is the object, the others its arrays; class 7: the two static tables, class 8: the words. References never change after the constructors, so that a heap is numbers alone: pm_H. -/
abbrev pm_R : Type := Nat × Nat × Nat
abbrev pm_V : Type := Int32 ⊕ (Int64 ⊕ pm_R)
abbrev pm_H : Type := Nat → Nat → Nat → Nat → Int32
abbrev pm_L : Type := List (Nat × pm_V)
abbrev pm_S : Type := pm_L × List pm_V × pm_H
abbrev pm_K : Type := Option Nat → pm_S → Prop
abbrev pm_T : Type := pm_K → pm_S → Prop
def pm_cnt (c : Nat) : Nat := [4, 4, 1, 1, 1, 1, 8].getD c 0
def pm_sub (c : Nat) : Nat := [9, 2, 5, 3, 6, 12, 1].getD c 0
def pm_nf (c : Nat) : Nat := [14, 4, 5, 12, 10, 26].getD c 0
def pm_cells : List pm_R := (List.range 7).flatMap fun c => (List.range (pm_cnt c)).flatMap fun i => (List.range (pm_sub c)).map fun s => (c, i, s)
def pm_fs (c : Nat) : List Nat := [[0, 1, 2, 0, 3, 4, 5, 6, 0, 0, 0, 0, 7, 8], [0, 0, 0, 1], [0, 1, 2, 3, 4], [1, 0, 0, 0, 0, 0, 0, 0, 0, 0, 0, 2], [], [1, 0, 2, 0, 0, 0, 3, 0, 0, 0, 0, 0, 0, 0, 0, 4, 5, 0, 6, 0, 7, 8, 9, 10, 11, 0]].getD c []
def pm_fr (c i j : Nat) : Option pm_R :=
  if c = 4 then [some (3, 0, 0), some (0, 0, 0), some (0, 1, 0), some (4, 0, 1), some (4, 0, 2), some (2, 0, 0), some (4, 0, 3), some (4, 0, 4), some (4, 0, 5)].getD j none
  else if (pm_fs c).getD j 0 = 0 then none else some (c, i, (pm_fs c).getD j 0)
/-- an array's kind: 0 int, 1 byte, 2 boolean, 3 Larder, 4 Sheet, 5 int[] -/
def pm_ak (c s : Nat) : Nat := ([[0, 0, 0, 0, 0, 0, 0, 0, 0], [0, 0], [0, 0, 0, 0, 2], [0, 1, 0], [0, 3, 2, 4, 5, 0], [0, 0, 0, 0, 0, 0, 0, 0, 2, 0, 0, 0], [0]].getD c []).getD s 0
def pm_an (c s : Nat) : Nat := ([[0, 4, 4, 6, 6, 6, 6, 6, 6], [0, 40], [0, 6, 6, 6, 6], [0, 160, 3], [0, 2, 2, 4, 8, 124], [0, 294, 49, 160, 9, 37, 24, 496, 2, 4, 4, 160], [6]].getD c []).getD s 0
def pm_el (k j : Nat) : pm_R := if k = 3 then (0, 2 + j, 0) else if k = 4 then (1, j, 0) else (6, j, 0)
def pm_fv (ad : pm_R → Nat) (h : pm_H) (c i j : Nat) : Value := match pm_fr c i j with
  | none => .int (h c i 0 j)
  | some r => .ref (ad r)
def pm_ce (ad : pm_R → Nat) (ta : Nat → ClassId) (h : pm_H) (r : pm_R) : va_E :=
  if r.2.2 = 0 ∧ r.1 < 6 then .inr (r.1, (List.range (pm_nf r.1)).map (pm_fv ad h r.1 r.2.1))
  else if pm_ak r.1 r.2.2 < 3 then .inl (ta (pm_ak r.1 r.2.2), pm_an r.1 r.2.2, .inl (h r.1 r.2.1 r.2.2))
  else .inl (ta (pm_ak r.1 r.2.2), pm_an r.1 r.2.2, .inr (.inr (.inr (.inr (fun j => if j < pm_an r.1 r.2.2 then some (ad (pm_el (pm_ak r.1 r.2.2) j)) else none)))))
def pm_wd (ad : pm_R → Nat) (ta : Nat → ClassId) (h : pm_H) : va_W := pm_cells.map fun r => (ad r, pm_ce ad ta h r)
def pm_tys (ta : Nat → ClassId) : List (ClassId × FieldType) := [(ta 0, .int), (ta 1, .byte), (ta 2, .boolean), (ta 3, .object RX0), (ta 4, .object RX1), (ta 5, .array .int)]
abbrev pm_cl : List vw_C := [(RX0, TX0, 14), (RX1, TX1, 4), (RX2, TX2, 5), (RX3, TX3, 12), (RX4, TX4, 10), (RX5, TX5, 26)]
def pm_A (ad : pm_R → Nat) : Nat → Prop := fun q => ∃ r ∈ pm_cells, q = ad r
/-- a heap with one number changed -/
def pm_up (h : pm_H) (c i s j : Nat) (v : Int32) : pm_H := fun c' i' s' j' => if c' = c ∧ i' = i ∧ s' = s ∧ j' = j then v else h c' i' s' j'
/-- a heap with one array's numbers changed -/
def pm_ua (h : pm_H) (c i s : Nat) (f : Nat → Int32) : pm_H := fun c' i' s' j' => if c' = c ∧ i' = i ∧ s' = s then f j' else h c' i' s' j'
theorem pm_up_ua (h : pm_H) (c i s j : Nat) (v : Int32) : pm_up h c i s j v = pm_ua h c i s (upd (h c i s) j v) := by
  funext c' i' s' j'
  unfold pm_up pm_ua upd
  by_cases h1 : c' = c ∧ i' = i ∧ s' = s
  · obtain ⟨rfl, rfl, rfl⟩ := h1
    by_cases h2 : j' = j <;> simp [h2]
  · rw [if_neg h1, if_neg (fun q => h1 ⟨q.1, q.2.1, q.2.2.1⟩)]
theorem pm_nodup : pm_cells.Nodup := by decide +kernel
theorem pm_in_iff {c i s : Nat} : (c, i, s) ∈ pm_cells ↔ c < 7 ∧ i < pm_cnt c ∧ s < pm_sub c := by
  simp only [pm_cells, List.mem_flatMap, List.mem_range, List.mem_map, Prod.mk.injEq]
  constructor
  · rintro ⟨a, ha, b, hb, d, hd, rfl, rfl, rfl⟩
    exact ⟨ha, hb, hd⟩
  · rintro ⟨h1, h2, h3⟩
    exact ⟨c, h1, i, h2, s, h3, rfl, rfl, rfl⟩
theorem pm_len : pm_cells.length = 78 := by decide +kernel
theorem pm_wd_at {ad : pm_R → Nat} {ta : Nat → ClassId} {h : pm_H} {q : Nat} {r : pm_R} (hq : pm_cells[q]? = some r) : (pm_wd ad ta h)[q]? = some (ad r, pm_ce ad ta h r) := by
  unfold pm_wd
  rw [List.getElem?_map, hq]
  rfl
theorem pm_wd_set {ad : pm_R → Nat} {ta : Nat → ClassId} {h h' : pm_H} {q : Nat} {r : pm_R} (hq : pm_cells[q]? = some r) (ho : ∀ r' ∈ pm_cells, r' ≠ r → pm_ce ad ta h' r' = pm_ce ad ta h r') : (pm_wd ad ta h).set q (ad r, pm_ce ad ta h' r) = pm_wd ad ta h' := by
  apply List.ext_getElem?
  intro k
  unfold pm_wd
  by_cases hk : k = q
  · subst hk
    have hl : k < pm_cells.length := (List.getElem?_eq_some_iff.mp hq).1
    rw [List.getElem?_set_self (by rw [List.length_map]; exact hl), List.getElem?_map, hq]
    rfl
  · rw [List.getElem?_set_ne (fun e => hk e.symm), List.getElem?_map, List.getElem?_map]
    cases hc : pm_cells[k]? with
    | none => rfl
    | some r' =>
      have hne : r' ≠ r := by
        rintro rfl
        have h1 := List.getElem?_eq_some_iff.mp hc
        have h2 := List.getElem?_eq_some_iff.mp hq
        have h3 := List.pairwise_iff_getElem.mp pm_nodup
        rcases Nat.lt_trichotomy k q with h4 | h4 | h4
        · exact h3 k q h1.1 h2.1 h4 (h1.2.trans h2.2.symm)
        · exact hk h4
        · exact h3 q k h2.1 h1.1 h4 (h2.2.trans h1.2.symm)
      simp only [Option.map_some]
      rw [ho r' (List.mem_of_getElem? hc) hne]
theorem pm_ce_ua {ad : pm_R → Nat} {ta : Nat → ClassId} {h : pm_H} {c i s : Nat} {f : Nat → Int32} (r' : pm_R) (hne : r' ≠ (c, i, s)) : pm_ce ad ta (pm_ua h c i s f) r' = pm_ce ad ta h r' := by
  obtain ⟨c', i', s'⟩ := r'
  have hn : ¬ (c' = c ∧ i' = i ∧ s' = s) := fun ⟨e1, e2, e3⟩ => hne (by rw [e1, e2, e3])
  have e1 : pm_ua h c i s f c' i' s' = h c' i' s' := by
    funext j
    simp [pm_ua, hn]
  unfold pm_ce
  by_cases h1 : (c', i', s').2.2 = 0 ∧ (c', i', s').1 < 6
  · rw [if_pos h1, if_pos h1]
    have h2 : s' = 0 := h1.1
    subst h2
    congr 2
    apply List.map_congr_left
    intro j _
    unfold pm_fv
    cases pm_fr c' i' j with
    | none => simp only; rw [e1]
    | some r => rfl
  · rw [if_neg h1, if_neg h1]
    simp only
    rw [e1]
/-- a ref that the machine may hold: a cell of the world, or a constant -/
def pm_ok (v : pm_V) : Prop := match v with
  | .inr (.inr r) => r ∈ pm_cells ∨ 7 ≤ r.1
  | _ => True
def pm_rv (ad : pm_R → Nat) (v : pm_V) : Value := match v with
  | .inl x => .int x
  | .inr (.inl x) => .long x
  | .inr (.inr r) => .ref (ad r)
theorem pm_fr_ok : ∀ c, c < 6 → ∀ i, i < 4 → ∀ j, j < 26 → i < pm_cnt c → ∀ r, pm_fr c i j = some r → r ∈ pm_cells := by
  have h : ∀ c : Fin 6, ∀ i : Fin 4, ∀ j : Fin 26, i.val < pm_cnt c.val → (match pm_fr c.val i.val j.val with | some r => decide (r ∈ pm_cells) | none => true) = true := by decide +kernel
  intro c hc i hi j hj hcn r hr
  have h1 := h ⟨c, hc⟩ ⟨i, hi⟩ ⟨j, hj⟩ hcn
  simp only [hr] at h1
  exact of_decide_eq_true h1
end
section
/-! THE PURE MACHINE, its steps. -/
def pm_get : pm_L → Nat → (pm_V → Prop) → Prop
  | [], _, _ => False
  | (j, v) :: t, i, k => bif Nat.beq j i then k v else pm_get t i k
def pm_lg : pm_V → Bool
  | .inr (.inl _) => true
  | _ => false
def pm_bad (j : Nat) (w : pm_V) (i : Nat) (g : Bool) : Bool := Nat.beq j i || (Nat.beq (j + 1) i && pm_lg w) || (g && Nat.beq j (i + 1))
def pm_set : pm_L → Nat → pm_V → (pm_L → Prop) → Prop
  | [], i, v, k => k [(i, v)]
  | (j, w) :: t, i, v, k => bif pm_bad j w i (pm_lg v) then pm_set t i v k else pm_set t i v (fun t' => k ((j, w) :: t'))
theorem pm_get_spec : ∀ {lv : pm_L} {i : Nat} {k : pm_V → Prop}, pm_get lv i k → ∃ v, (i, v) ∈ lv ∧ k v
  | (j, v) :: t, i, k, h => by
    unfold pm_get at h
    cases hb : Nat.beq j i with
    | true =>
      rw [hb] at h
      have e : j = i := Nat.eq_of_beq_eq_true hb
      subst e
      exact ⟨v, List.mem_cons_self, h⟩
    | false =>
      rw [hb] at h
      obtain ⟨u, h1, h2⟩ := pm_get_spec (lv := t) h
      exact ⟨u, List.mem_cons_of_mem _ h1, h2⟩
theorem pm_set_spec : ∀ {lv : pm_L} {i : Nat} {v : pm_V} {k : pm_L → Prop}, pm_set lv i v k → k (lv.filter (fun q => !pm_bad q.1 q.2 i (pm_lg v)) ++ [(i, v)])
  | [], i, v, k, h => h
  | (j, w) :: t, i, v, k, h => by
    unfold pm_set at h
    cases hb : pm_bad j w i (pm_lg v) with
    | true =>
      rw [hb] at h
      have h2 := pm_set_spec (lv := t) h
      rw [List.filter_cons_of_neg (by simp [hb])]
      exact h2
    | false =>
      rw [hb] at h
      have h2 := pm_set_spec (lv := t) (k := fun t' => k ((j, w) :: t')) h
      rw [List.filter_cons_of_pos (by simp [hb])]
      exact h2
theorem pm_get_mono : ∀ {lv : pm_L} {i : Nat} {k k' : pm_V → Prop}, (∀ v, k v → k' v) → pm_get lv i k → pm_get lv i k'
  | (j, v) :: t, i, k, k', hk, h => by
    unfold pm_get at h ⊢
    cases hb : Nat.beq j i with
    | true => rw [hb] at h; exact hk v h
    | false => rw [hb] at h; exact pm_get_mono (lv := t) hk h
def pm_cat (v : pm_V) : Nat := bif pm_lg v then 2 else 1
def pm_cs : List pm_V → Nat
  | [] => 0
  | v :: t => pm_cat v + pm_cs t
theorem pm_cat_rv (ad : pm_R → Nat) (v : pm_V) : (pm_rv ad v).category = pm_cat v := by
  rcases v with x | x | x <;> rfl
theorem pm_cs_rv (ad : pm_R → Nat) : ∀ st : List pm_V, ((st.map (pm_rv ad)).map fun v => v.category).sum = pm_cs st
  | [] => rfl
  | v :: t => by
    simp only [List.map_cons, List.sum_cons, pm_cs]
    rw [pm_cat_rv, pm_cs_rv ad t]
def pm_room (d : Nat) : Room := { frames := d, cells := 0, slots := 0, locals := 64 * d }
def pm_num (j : Nat) : Int32 := [3, 3, 3, 3, 1, 1, 1, 2].getD j 0
def pm_bnd (j : Nat) : Int32 := [9, 99, 3, 9, 99, 3, 9, 99, 3, 9, 99, 3, 9, 0, 0, 9, 0, 0, 20, 0, 0, 99, 9, 0].getD j 0
def pm_wi : List Nat := [159, 161, 163, 165, 167, 169, 170, 171]
def pm_wt : List String := ["plain", "law", "arts", "theology", "fellow", "damp", "bite", "ask"]
def pm_wl : List Nat := [5, 3, 4, 8, 6, 4, 4, 3]
def pm_wb : List (List Int32) := [[112, 108, 97, 105, 110], [108, 97, 119], [97, 114, 116, 115], [116, 104, 101, 111, 108, 111, 103, 121], [102, 101, 108, 108, 111, 119], [100, 97, 109, 112], [98, 105, 116, 101], [97, 115, 107]]
/-- what stands outside the world: the static tables, the words -/
def pm_Z (ad : pm_R → Nat) (U : State) : Prop :=
  va_Z RX3 "NUMBERS" "[I" (.ref (ad (7, 0, 0))) (pm_A ad) U U.heap ∧ va_T .int (ad (7, 0, 0)) 8 (fun j => .int (pm_num j)) (pm_A ad) U U.heap ∧
  va_Z RX3 "BOUNDS" "[I" (.ref (ad (7, 1, 0))) (pm_A ad) U U.heap ∧ va_T .int (ad (7, 1, 0)) 24 (fun j => .int (pm_bnd j)) (pm_A ad) U U.heap ∧
  va_Z RJ0 "COMPACT_STRINGS" "Z" (.int 1) (pm_A ad) U U.heap ∧
  (∀ i, i < 8 → vk_R RX3 (pm_wi.getD i 0) (pm_wt.getD i "") (ad (8, i, 0)) U) ∧ vk_S 8 pm_wl pm_wb (fun i => ad (8, i, 0)) (fun i => ad (8, i, 1)) (pm_A ad) U U.heap
theorem pm_Z.to {ad : pm_R → Nat} {s U : State} {H : Heap} {locs : List Loc} (h : pm_Z ad s) (hS : va_S (pm_A ad) s.heap H locs) (hU : U.heap = H) (hW : s.WarmedH U.vm) : pm_Z ad U := by
  obtain ⟨h1, h2, h3, h4, h5, h6, h7⟩ := h
  have hq : ∀ a : Nat, a < s.heap.size → ¬ pm_A ad a → U.heap[a]? = s.heap[a]? := fun a h8 h9 => by rw [hU]; exact hS.2.1 a h8 h9
  have hv := hW.alike
  exact ⟨va_Z.moved hv (h1.kept hq), va_T.moved hv (h2.kept hq), va_Z.moved hv (h3.kept hq), va_T.moved hv (h4.kept hq), va_Z.moved hv (h5.kept hq), fun i hi => (h6 i hi).warm hW, vk_S.moved hv (h7.kept hq)⟩
def pm_rt (rt : Nat) : Option FieldType := match rt with
  | 0 => none
  | 1 => some .int
  | 2 => some .long
  | 3 => some .boolean
  | 4 => some .char
  | _ => some .byte
def pm_B (D : va_G) (ad : pm_R → Nat) (ta : Nat → ClassId) (h : pm_H) (t : State) : Prop := va_P D pm_cl (pm_wd ad ta h) t.heap
def pm_Qc (rt : Nat) (D : va_G) (ad : pm_R → Nat) (ta : Nat → ClassId) (post : List pm_V → pm_H → Prop) : Array Value → State → Outcome → State → Prop := match rt with
  | 0 => va_Qv (fun h : pm_H => post [] h) (pm_B D ad ta) (pm_A ad)
  | 2 => va_Ql (fun (r : Int64) (h : pm_H) => post [.inr (.inl r)] h) (pm_B D ad ta) (pm_A ad)
  | _ => va_Qi (fun (r : Int32) (h : pm_H) => post [.inl r] h) (pm_B D ad ta) (pm_A ad)
section PMW
variable (own : String) (cc : ByteArray) (nL d rt : Nat) (post : List pm_V → pm_H → Prop) (p : Program) (l : Launch) (e : Env) (s : State) (m : MethodId) (args : Array Value) (below : List Frame) (meth : Method) (c : Code) (D : va_G) (ad : pm_R → Nat) (ta : Nat → ClassId)
def pm_X : Prop := p.tables.exec = Jvm.exec ∧ c.code = cc ∧ c.maxLocals = nL ∧ s.vm.findClass own = some m.cls ∧ (∀ w ∈ lw_tbl, w.before args s = true) ∧ va_K D pm_cl (pm_tys ta) s ∧ pm_Z ad s ∧ meth.sig.returnType = pm_rt rt ∧ meth.locks = false
def pm_W (pc : Nat) (x : pm_S) : Prop := (∀ q ∈ x.1, pm_ok q.2) → (∀ v ∈ x.2.1, pm_ok v) → ∀ (H : Heap) (locs : List Loc) (ls : Array Slot), va_P D pm_cl (pm_wd ad ta x.2.2) H → va_D (pm_A ad) (pm_wd ad ta x.2.2) → va_S (pm_A ad) s.heap H locs → lv_has ls nL (x.1.map fun q => (q.1, pm_rv ad q.2)) → W p l e (pm_room d) s m args below meth c H locs 0 0 (MQ below (pm_Qc rt D ad ta post) args s 0 0 (pm_A ad)) (F0 m pc ls (x.2.1.map (pm_rv ad)))
def pm_KK : pm_K := fun o x => match o with
  | none => post x.2.1 x.2.2
  | some pc => pm_W nL d rt post p l e s m args below meth c D ad ta pc x
end PMW
/-- a step's transformer is sound at pc -/
def pm_sd (own : String) (cc : ByteArray) (nL d rt : Nat) (pc : Nat) (tr : pm_T) : Prop := ∀ (post : List pm_V → pm_H → Prop) (p : Program) (l : Launch) (e : Env) (s : State) (m : MethodId) (args : Array Value) (below : List Frame) (meth : Method) (c : Code) (D : va_G) (ad : pm_R → Nat) (ta : Nat → ClassId), pm_X own cc nL rt p s m args meth c D ad ta → ∀ K : pm_K, (∀ o x, K o x → pm_KK nL d rt post p l e s m args below meth c D ad ta o x) → ∀ x, tr K x → pm_W nL d rt post p l e s m args below meth c D ad ta pc x
theorem pm_lat {ad : pm_R → Nat} {ls : Array Slot} {nL : Nat} {lv : pm_L} {i : Nat} {v : pm_V} (hl : lv_has ls nL (lv.map fun q => (q.1, pm_rv ad q.2))) (hv : (i, v) ∈ lv) : ls[i]? = some (.val (pm_rv ad v)) := hl.2.2 (i, pm_rv ad v) (List.mem_map.mpr ⟨(i, v), hv, rfl⟩)
theorem pm_kks {nL d rt : Nat} {post : List pm_V → pm_H → Prop} {p : Program} {l : Launch} {e : Env} {s : State} {m : MethodId} {args : Array Value} {below : List Frame} {meth : Method} {c : Code} {D : va_G} {ad : pm_R → Nat} {ta : Nat → ClassId} {pc : Nat} {x : pm_S} (h : pm_KK nL d rt post p l e s m args below meth c D ad ta (some pc) x) : pm_W nL d rt post p l e s m args below meth c D ad ta pc x := h
theorem pm_ok1 {v : pm_V} {st : List pm_V} (h : pm_ok v) (o : ∀ v ∈ st, pm_ok v) : ∀ u ∈ v :: st, pm_ok u := List.forall_mem_cons.mpr ⟨h, o⟩
theorem pm_okt {v : pm_V} {st : List pm_V} (o : ∀ u ∈ v :: st, pm_ok u) : ∀ u ∈ st, pm_ok u := fun u h => o u (List.mem_cons_of_mem _ h)
theorem pm_okh {v : pm_V} {st : List pm_V} (o : ∀ u ∈ v :: st, pm_ok u) : pm_ok v := o v List.mem_cons_self
theorem pm_nb {j i : Nat} (h : Nat.beq j i = false) : (j == i) = false := by
  rw [beq_eq_false_iff_ne]
  intro e
  subst e
  rw [Nat.beq_refl] at h
  cases h
/-- a store into the locals -/
theorem pm_lset {ad : pm_R → Nat} {ls : Array Slot} {nL i : Nat} {lv : pm_L} {v : pm_V} (hk : lv_has ls nL ((i, pm_rv ad v) :: (lv.map fun q => (q.1, pm_rv ad q.2)).filter (fun q => !(q.1 == i) && !(q.1 + 1 == i && q.2.category == 2)))) (hv : pm_lg v = false) : lv_has ls nL ((lv.filter (fun q => !pm_bad q.1 q.2 i (pm_lg v)) ++ [(i, v)]).map fun q => (q.1, pm_rv ad q.2)) := by
  refine ⟨hk.1, hk.2.1, fun q hq => ?_⟩
  obtain ⟨⟨j, w⟩, hw, rfl⟩ := List.mem_map.mp hq
  refine hk.2.2 _ ?_
  rcases List.mem_append.mp hw with h | h
  · obtain ⟨h1, h2⟩ := List.mem_filter.mp h
    refine List.mem_cons_of_mem _ (List.mem_filter.mpr ⟨List.mem_map.mpr ⟨_, h1, rfl⟩, ?_⟩)
    simp only [pm_bad, Bool.not_or, Bool.and_eq_true] at h2
    have h3 : (j == i) = false := pm_nb (by simpa using h2.1.1)
    have h4 : ((j + 1 == i) && (pm_rv ad w).category == 2) = false := by
      have h5 := h2.1.2
      rw [pm_cat_rv]
      cases hg : pm_lg w with
      | true => rw [pm_nb (by simpa [hg] using h5)]; rfl
      | false => simp [pm_cat, hg]
    simp only [h3, h4]
    rfl
  · cases List.mem_singleton.mp h
    exact List.mem_cons_self
theorem pm_lset2 {ad : pm_R → Nat} {ls : Array Slot} {nL i : Nat} {lv : pm_L} {v : pm_V} (hk : lv_has ls nL ((i, pm_rv ad v) :: (lv.map fun q => (q.1, pm_rv ad q.2)).filter (fun q => !(q.1 == i) && (!(q.1 == i + 1) && !(q.1 + 1 == i && q.2.category == 2))))) (hv : pm_lg v = true) : lv_has ls nL ((lv.filter (fun q => !pm_bad q.1 q.2 i (pm_lg v)) ++ [(i, v)]).map fun q => (q.1, pm_rv ad q.2)) := by
  refine ⟨hk.1, hk.2.1, fun q hq => ?_⟩
  obtain ⟨⟨j, w⟩, hw, rfl⟩ := List.mem_map.mp hq
  refine hk.2.2 _ ?_
  rcases List.mem_append.mp hw with h | h
  · obtain ⟨h1, h2⟩ := List.mem_filter.mp h
    refine List.mem_cons_of_mem _ (List.mem_filter.mpr ⟨List.mem_map.mpr ⟨_, h1, rfl⟩, ?_⟩)
    simp only [pm_bad, Bool.not_or, Bool.and_eq_true, hv, Bool.true_and] at h2
    have h3 : (j == i) = false := pm_nb (by simpa using h2.1.1)
    have h6 : (j == i + 1) = false := pm_nb (by simpa using h2.2)
    have h4 : ((j + 1 == i) && (pm_rv ad w).category == 2) = false := by
      have h5 := h2.1.2
      rw [pm_cat_rv]
      cases hg : pm_lg w with
      | true => rw [pm_nb (by simpa [hg] using h5)]; rfl
      | false => simp [pm_cat, hg]
    simp only [h3, h4, h6]
    rfl
  · cases List.mem_singleton.mp h
    exact List.mem_cons_self
theorem pm_oks {lv : pm_L} {i : Nat} {v : pm_V} {g : Nat × pm_V → Bool} (o : ∀ q ∈ lv, pm_ok q.2) (h : pm_ok v) : ∀ q ∈ lv.filter g ++ [(i, v)], pm_ok q.2 := by
  intro q hq
  rcases List.mem_append.mp hq with h1 | h1
  · exact o q (List.mem_filter.mp h1).1
  · cases List.mem_singleton.mp h1
    exact h

def i_il (i nx : Nat) : pm_T := fun K x => match x with
  | (lv, st, h) => pm_get lv i (fun v => match v with
    | .inl a => K (some nx) (lv, .inl a :: st, h)
    | _ => False)
theorem sd_iln {own : String} {cc : ByteArray} {nL d rt pc nx i : Nat} {k : Fin 4} (hd : decode cc pc = .ok (.iload_n k, 1)) (hi : (k : Nat) = i) (hn : pc + 1 = nx) : pm_sd own cc nL d rt pc (i_il i nx) := by
  intro post p l e s m args below meth c D ad ta X K hK x h
  obtain ⟨lv, st, hh⟩ := x
  subst hn
  obtain ⟨v, hv, h1⟩ := pm_get_spec h
  match v, hv, h1 with
  | .inl a, hv, h1 =>
    have h2 := pm_kks (hK _ _ h1)
    intro o1 o2 H locs ls hP hD hS hl
    exact lv_iload_n X.1 X.2.1 hd hi (pm_lat hl hv) (h2 o1 (pm_ok1 trivial o2) H locs ls hP hD hS hl)
  | .inr (.inl a), _, h1 => exact h1.elim
  | .inr (.inr a), _, h1 => exact h1.elim
theorem sd_il {own : String} {cc : ByteArray} {nL d rt pc nx i : Nat} (hd : decode cc pc = .ok (.iload i, 2)) (hn : pc + 2 = nx) : pm_sd own cc nL d rt pc (i_il i nx) := by
  intro post p l e s m args below meth c D ad ta X K hK x h
  obtain ⟨lv, st, hh⟩ := x
  subst hn
  obtain ⟨v, hv, h1⟩ := pm_get_spec h
  match v, hv, h1 with
  | .inl a, hv, h1 =>
    have h2 := pm_kks (hK _ _ h1)
    intro o1 o2 H locs ls hP hD hS hl
    exact lv_iload X.1 X.2.1 hd (pm_lat hl hv) (h2 o1 (pm_ok1 trivial o2) H locs ls hP hD hS hl)
  | .inr (.inl a), _, h1 => exact h1.elim
  | .inr (.inr a), _, h1 => exact h1.elim
def i_ll (i nx : Nat) : pm_T := fun K x => match x with
  | (lv, st, h) => pm_get lv i (fun v => match v with
    | .inr (.inl a) => K (some nx) (lv, .inr (.inl a) :: st, h)
    | _ => False)
theorem sd_lln {own : String} {cc : ByteArray} {nL d rt pc nx i : Nat} {k : Fin 4} (hd : decode cc pc = .ok (.lload_n k, 1)) (hi : (k : Nat) = i) (hn : pc + 1 = nx) : pm_sd own cc nL d rt pc (i_ll i nx) := by
  intro post p l e s m args below meth c D ad ta X K hK x h
  obtain ⟨lv, st, hh⟩ := x
  subst hn
  obtain ⟨v, hv, h1⟩ := pm_get_spec h
  match v, hv, h1 with
  | .inr (.inl a), hv, h1 =>
    have h2 := pm_kks (hK _ _ h1)
    intro o1 o2 H locs ls hP hD hS hl
    exact lv_lload_n X.1 X.2.1 hd hi (pm_lat hl hv) (h2 o1 (pm_ok1 trivial o2) H locs ls hP hD hS hl)
  | .inl a, _, h1 => exact h1.elim
  | .inr (.inr a), _, h1 => exact h1.elim
theorem sd_ll {own : String} {cc : ByteArray} {nL d rt pc nx i : Nat} (hd : decode cc pc = .ok (.lload i, 2)) (hn : pc + 2 = nx) : pm_sd own cc nL d rt pc (i_ll i nx) := by
  intro post p l e s m args below meth c D ad ta X K hK x h
  obtain ⟨lv, st, hh⟩ := x
  subst hn
  obtain ⟨v, hv, h1⟩ := pm_get_spec h
  match v, hv, h1 with
  | .inr (.inl a), hv, h1 =>
    have h2 := pm_kks (hK _ _ h1)
    intro o1 o2 H locs ls hP hD hS hl
    exact lv_lload X.1 X.2.1 hd (pm_lat hl hv) (h2 o1 (pm_ok1 trivial o2) H locs ls hP hD hS hl)
  | .inl a, _, h1 => exact h1.elim
  | .inr (.inr a), _, h1 => exact h1.elim
def i_al (i nx : Nat) : pm_T := fun K x => match x with
  | (lv, st, h) => pm_get lv i (fun v => match v with
    | .inr (.inr a) => K (some nx) (lv, .inr (.inr a) :: st, h)
    | _ => False)
theorem sd_aln {own : String} {cc : ByteArray} {nL d rt pc nx i : Nat} {k : Fin 4} (hd : decode cc pc = .ok (.aload_n k, 1)) (hi : (k : Nat) = i) (hn : pc + 1 = nx) : pm_sd own cc nL d rt pc (i_al i nx) := by
  intro post p l e s m args below meth c D ad ta X K hK x h
  obtain ⟨lv, st, hh⟩ := x
  subst hn
  obtain ⟨v, hv, h1⟩ := pm_get_spec h
  match v, hv, h1 with
  | .inr (.inr a), hv, h1 =>
    have h2 := pm_kks (hK _ _ h1)
    intro o1 o2 H locs ls hP hD hS hl
    exact lv_aload_n X.1 X.2.1 hd hi (pm_lat hl hv) (h2 o1 (pm_ok1 (o1 _ hv) o2) H locs ls hP hD hS hl)
  | .inl a, _, h1 => exact h1.elim
  | .inr (.inl a), _, h1 => exact h1.elim
theorem sd_al {own : String} {cc : ByteArray} {nL d rt pc nx i : Nat} (hd : decode cc pc = .ok (.aload i, 2)) (hn : pc + 2 = nx) : pm_sd own cc nL d rt pc (i_al i nx) := by
  intro post p l e s m args below meth c D ad ta X K hK x h
  obtain ⟨lv, st, hh⟩ := x
  subst hn
  obtain ⟨v, hv, h1⟩ := pm_get_spec h
  match v, hv, h1 with
  | .inr (.inr a), hv, h1 =>
    have h2 := pm_kks (hK _ _ h1)
    intro o1 o2 H locs ls hP hD hS hl
    exact lv_aload X.1 X.2.1 hd (pm_lat hl hv) (h2 o1 (pm_ok1 (o1 _ hv) o2) H locs ls hP hD hS hl)
  | .inl a, _, h1 => exact h1.elim
  | .inr (.inl a), _, h1 => exact h1.elim
def i_is (i nx : Nat) : pm_T := fun K x => match x with
  | (lv, .inl a :: st, h) => pm_set lv i (.inl a) (fun lv' => K (some nx) (lv', st, h))
  | _ => False
theorem sd_isn {own : String} {cc : ByteArray} {nL d rt pc nx i : Nat} {k : Fin 4} (hd : decode cc pc = .ok (.istore_n k, 1)) (hi : (k : Nat) = i) (hn : pc + 1 = nx) (hi2 : i < nL) : pm_sd own cc nL d rt pc (i_is i nx) := by
  intro post p l e s m args below meth c D ad ta X K hK x h
  obtain ⟨lv, st, hh⟩ := x
  subst hn
  match st, h with
  | .inl a :: st, h =>
    have h2 := pm_kks (hK _ _ (pm_set_spec h))
    intro o1 o2 H locs ls hP hD hS hl
    exact lv_istore_n X.1 X.2.1 hd hi hl hi2 rfl (fun ls' hl' => h2 (pm_oks o1 (pm_okh o2)) (pm_okt o2) H locs ls' hP hD hS (pm_lset (v := .inl a) hl' rfl))
  | .inr (.inl a) :: st, h => exact h.elim
  | .inr (.inr a) :: st, h => exact h.elim
  | [], h => exact h.elim
theorem sd_is {own : String} {cc : ByteArray} {nL d rt pc nx i : Nat} (hd : decode cc pc = .ok (.istore i, 2)) (hn : pc + 2 = nx) (hi2 : i < nL) : pm_sd own cc nL d rt pc (i_is i nx) := by
  intro post p l e s m args below meth c D ad ta X K hK x h
  obtain ⟨lv, st, hh⟩ := x
  subst hn
  match st, h with
  | .inl a :: st, h =>
    have h2 := pm_kks (hK _ _ (pm_set_spec h))
    intro o1 o2 H locs ls hP hD hS hl
    exact lv_istore X.1 X.2.1 hd hl hi2 rfl (fun ls' hl' => h2 (pm_oks o1 (pm_okh o2)) (pm_okt o2) H locs ls' hP hD hS (pm_lset (v := .inl a) hl' rfl))
  | .inr (.inl a) :: st, h => exact h.elim
  | .inr (.inr a) :: st, h => exact h.elim
  | [], h => exact h.elim
def i_ls (i nx : Nat) : pm_T := fun K x => match x with
  | (lv, .inr (.inl a) :: st, h) => pm_set lv i (.inr (.inl a)) (fun lv' => K (some nx) (lv', st, h))
  | _ => False
theorem sd_lsn {own : String} {cc : ByteArray} {nL d rt pc nx i : Nat} {k : Fin 4} (hd : decode cc pc = .ok (.lstore_n k, 1)) (hi : (k : Nat) = i) (hn : pc + 1 = nx) (hi2 : i + 1 < nL) : pm_sd own cc nL d rt pc (i_ls i nx) := by
  intro post p l e s m args below meth c D ad ta X K hK x h
  obtain ⟨lv, st, hh⟩ := x
  subst hn
  match st, h with
  | .inr (.inl a) :: st, h =>
    have h2 := pm_kks (hK _ _ (pm_set_spec h))
    intro o1 o2 H locs ls hP hD hS hl
    exact lv_lstore_n X.1 X.2.1 hd hi hl hi2 rfl (fun ls' hl' => h2 (pm_oks o1 (pm_okh o2)) (pm_okt o2) H locs ls' hP hD hS (pm_lset2 (v := .inr (.inl a)) hl' rfl))
  | .inl a :: st, h => exact h.elim
  | .inr (.inr a) :: st, h => exact h.elim
  | [], h => exact h.elim
theorem sd_ls {own : String} {cc : ByteArray} {nL d rt pc nx i : Nat} (hd : decode cc pc = .ok (.lstore i, 2)) (hn : pc + 2 = nx) (hi2 : i + 1 < nL) : pm_sd own cc nL d rt pc (i_ls i nx) := by
  intro post p l e s m args below meth c D ad ta X K hK x h
  obtain ⟨lv, st, hh⟩ := x
  subst hn
  match st, h with
  | .inr (.inl a) :: st, h =>
    have h2 := pm_kks (hK _ _ (pm_set_spec h))
    intro o1 o2 H locs ls hP hD hS hl
    exact lv_lstore X.1 X.2.1 hd hl hi2 rfl (fun ls' hl' => h2 (pm_oks o1 (pm_okh o2)) (pm_okt o2) H locs ls' hP hD hS (pm_lset2 (v := .inr (.inl a)) hl' rfl))
  | .inl a :: st, h => exact h.elim
  | .inr (.inr a) :: st, h => exact h.elim
  | [], h => exact h.elim
def i_as (i nx : Nat) : pm_T := fun K x => match x with
  | (lv, .inr (.inr a) :: st, h) => pm_set lv i (.inr (.inr a)) (fun lv' => K (some nx) (lv', st, h))
  | _ => False
theorem sd_asn {own : String} {cc : ByteArray} {nL d rt pc nx i : Nat} {k : Fin 4} (hd : decode cc pc = .ok (.astore_n k, 1)) (hi : (k : Nat) = i) (hn : pc + 1 = nx) (hi2 : i < nL) : pm_sd own cc nL d rt pc (i_as i nx) := by
  intro post p l e s m args below meth c D ad ta X K hK x h
  obtain ⟨lv, st, hh⟩ := x
  subst hn
  match st, h with
  | .inr (.inr a) :: st, h =>
    have h2 := pm_kks (hK _ _ (pm_set_spec h))
    intro o1 o2 H locs ls hP hD hS hl
    exact lv_astore_n X.1 X.2.1 hd hi hl hi2 rfl (fun ls' hl' => h2 (pm_oks o1 (pm_okh o2)) (pm_okt o2) H locs ls' hP hD hS (pm_lset (v := .inr (.inr a)) hl' rfl))
  | .inl a :: st, h => exact h.elim
  | .inr (.inl a) :: st, h => exact h.elim
  | [], h => exact h.elim
theorem sd_as {own : String} {cc : ByteArray} {nL d rt pc nx i : Nat} (hd : decode cc pc = .ok (.astore i, 2)) (hn : pc + 2 = nx) (hi2 : i < nL) : pm_sd own cc nL d rt pc (i_as i nx) := by
  intro post p l e s m args below meth c D ad ta X K hK x h
  obtain ⟨lv, st, hh⟩ := x
  subst hn
  match st, h with
  | .inr (.inr a) :: st, h =>
    have h2 := pm_kks (hK _ _ (pm_set_spec h))
    intro o1 o2 H locs ls hP hD hS hl
    exact lv_astore X.1 X.2.1 hd hl hi2 rfl (fun ls' hl' => h2 (pm_oks o1 (pm_okh o2)) (pm_okt o2) H locs ls' hP hD hS (pm_lset (v := .inr (.inr a)) hl' rfl))
  | .inl a :: st, h => exact h.elim
  | .inr (.inl a) :: st, h => exact h.elim
  | [], h => exact h.elim
def i_inc (i : Nat) (n : Int32) (nx : Nat) : pm_T := fun K x => match x with
  | (lv, st, h) => pm_get lv i (fun v => match v with
    | .inl a => pm_set lv i (.inl (a + n)) (fun lv' => K (some nx) (lv', st, h))
    | _ => False)
theorem sd_inc {own : String} {cc : ByteArray} {nL d rt pc nx i : Nat} {z : Int} {n : Int32} (hd : decode cc pc = .ok (.iinc i z, 3)) (hz : Int32.ofInt z = n) (hn : pc + 3 = nx) (hi2 : i < nL) : pm_sd own cc nL d rt pc (i_inc i n nx) := by
  intro post p l e s m args below meth c D ad ta X K hK x h
  obtain ⟨lv, st, hh⟩ := x
  subst hn
  obtain ⟨v, hv, h1⟩ := pm_get_spec h
  match v, hv, h1 with
  | .inl a, hv, h1 =>
    have h2 := pm_kks (hK _ _ (pm_set_spec h1))
    intro o1 o2 H locs ls hP hD hS hl
    obtain ⟨k, hk⟩ := List.getElem?_of_mem (List.mem_map.mpr ⟨(i, (.inl a : pm_V)), hv, rfl⟩ : (i, pm_rv ad (.inl a)) ∈ lv.map fun q => (q.1, pm_rv ad q.2))
    exact lv_iinc X.1 X.2.1 hd hl hk (by rw [hz]) hi2 rfl (fun ls' hl' => h2 (pm_oks o1 trivial) o2 H locs ls' hP hD hS (pm_lset (v := .inl (a + n)) hl' rfl))
  | .inr (.inl a), _, h1 => exact h1.elim
  | .inr (.inr a), _, h1 => exact h1.elim
def i_c (v : Int32) (nx : Nat) : pm_T := fun K x => match x with
  | (lv, st, h) => K (some nx) (lv, .inl v :: st, h)
def i_cl (v : Int64) (nx : Nat) : pm_T := fun K x => match x with
  | (lv, st, h) => K (some nx) (lv, .inr (.inl v) :: st, h)
theorem sd_iconst {own : String} {cc : ByteArray} {nL d rt pc nx : Nat} {z : Int} {v : Int32} (hd : decode cc pc = .ok (.iconst z, 1)) (hv : Int32.ofInt z = v) (hn : pc + 1 = nx) : pm_sd own cc nL d rt pc (i_c v nx) := by
  intro post p l e s m args below meth c D ad ta X K hK x h
  obtain ⟨lv, st, hh⟩ := x
  subst hn
  have h2 := pm_kks (hK _ _ h)
  intro o1 o2 H locs ls hP hD hS hl
  exact lv_iconst X.1 X.2.1 hd hv (h2 o1 (pm_ok1 trivial o2) H locs ls hP hD hS hl)
theorem sd_bipush {own : String} {cc : ByteArray} {nL d rt pc nx : Nat} {z : Int} {v : Int32} (hd : decode cc pc = .ok (.bipush z, 2)) (hv : (Int8.ofInt z).toInt32 = v) (hn : pc + 2 = nx) : pm_sd own cc nL d rt pc (i_c v nx) := by
  intro post p l e s m args below meth c D ad ta X K hK x h
  obtain ⟨lv, st, hh⟩ := x
  subst hn
  have h2 := pm_kks (hK _ _ h)
  intro o1 o2 H locs ls hP hD hS hl
  exact lv_bipush X.1 X.2.1 hd hv (h2 o1 (pm_ok1 trivial o2) H locs ls hP hD hS hl)
theorem sd_sipush {own : String} {cc : ByteArray} {nL d rt pc nx : Nat} {z : Int} {v : Int32} (hd : decode cc pc = .ok (.sipush z, 3)) (hv : (Int16.ofInt z).toInt32 = v) (hn : pc + 3 = nx) : pm_sd own cc nL d rt pc (i_c v nx) := by
  intro post p l e s m args below meth c D ad ta X K hK x h
  obtain ⟨lv, st, hh⟩ := x
  subst hn
  have h2 := pm_kks (hK _ _ h)
  intro o1 o2 H locs ls hP hD hS hl
  exact lv_sipush X.1 X.2.1 hd hv (h2 o1 (pm_ok1 trivial o2) H locs ls hP hD hS hl)
theorem sd_lconst {own : String} {cc : ByteArray} {nL d rt pc nx : Nat} {z : Fin 2} {v : Int64} (hd : decode cc pc = .ok (.lconst z, 1)) (hv : Int64.ofNat (z : Nat) = v) (hn : pc + 1 = nx) : pm_sd own cc nL d rt pc (i_cl v nx) := by
  intro post p l e s m args below meth c D ad ta X K hK x h
  obtain ⟨lv, st, hh⟩ := x
  subst hn
  have h2 := pm_kks (hK _ _ h)
  intro o1 o2 H locs ls hP hD hS hl
  exact lv_lconst X.1 X.2.1 hd hv (h2 o1 (pm_ok1 trivial o2) H locs ls hP hD hS hl)
theorem sd_ldc {own : String} {cc : ByteArray} {nL d rt pc nx k : Nat} {v : Int32} (hd : decode cc pc = .ok (.ldc k, 2)) (hv : (.constant own k v : Cond) ∈ lw_tbl) (hn : pc + 2 = nx) : pm_sd own cc nL d rt pc (i_c v nx) := by
  intro post p l e s m args below meth c D ad ta X K hK x h
  obtain ⟨lv, st, hh⟩ := x
  subst hn
  have h2 := pm_kks (hK _ _ h)
  intro o1 o2 H locs ls hP hD hS hl
  exact lv_ldc X.1 X.2.1 X.2.2.2.1 (X.2.2.2.2.1 _ hv) hd (h2 o1 (pm_ok1 trivial o2) H locs ls hP hD hS hl)
theorem sd_ldcw {own : String} {cc : ByteArray} {nL d rt pc nx k : Nat} {v : Int32} (hd : decode cc pc = .ok (.ldc_w k, 3)) (hv : (.constant own k v : Cond) ∈ lw_tbl) (hn : pc + 3 = nx) : pm_sd own cc nL d rt pc (i_c v nx) := by
  intro post p l e s m args below meth c D ad ta X K hK x h
  obtain ⟨lv, st, hh⟩ := x
  subst hn
  have h2 := pm_kks (hK _ _ h)
  intro o1 o2 H locs ls hP hD hS hl
  exact lv_ldcw X.1 X.2.1 X.2.2.2.1 (X.2.2.2.2.1 _ hv) hd (h2 o1 (pm_ok1 trivial o2) H locs ls hP hD hS hl)
theorem sd_ldc2 {own : String} {cc : ByteArray} {nL d rt pc nx k : Nat} {v : Int64} (hd : decode cc pc = .ok (.ldc2_w k, 3)) (hv : (.constantLong own k v : Cond) ∈ lw_tbl) (hn : pc + 3 = nx) : pm_sd own cc nL d rt pc (i_cl v nx) := by
  intro post p l e s m args below meth c D ad ta X K hK x h
  obtain ⟨lv, st, hh⟩ := x
  subst hn
  have h2 := pm_kks (hK _ _ h)
  intro o1 o2 H locs ls hP hD hS hl
  exact lv_ldc2 X.1 X.2.1 X.2.2.2.1 (X.2.2.2.2.1 _ hv) hd (h2 o1 (pm_ok1 trivial o2) H locs ls hP hD hS hl)
def i_iadd (nx : Nat) : pm_T := fun K z => match z with
  | (lv, .inl y :: .inl x :: st, h) => K (some nx) (lv, .inl (x + y) :: st, h)
  | _ => False
theorem sd_iadd {own : String} {cc : ByteArray} {nL d rt pc nx : Nat} (hd : decode cc pc = .ok (.iadd, 1)) (hn : pc + 1 = nx) : pm_sd own cc nL d rt pc (i_iadd nx) := by
  intro post p l e s m args below meth c D ad ta X K hK x h
  obtain ⟨lv, st, hh⟩ := x
  subst hn
  match st, h with
  | .inl y :: .inl x :: st, h =>
    have h2 := pm_kks (hK _ _ h)
    intro o1 o2 H locs ls hP hD hS hl
    exact lv_iadd X.1 X.2.1 hd (h2 o1 (pm_ok1 trivial (pm_okt (pm_okt o2))) H locs ls hP hD hS hl)
  | [], h => exact h.elim
  | [.inl _], h => exact h.elim
  | [.inr (.inl _)], h => exact h.elim
  | [.inr (.inr _)], h => exact h.elim
  | .inl _ :: .inr (.inl _) :: _, h => exact h.elim
  | .inl _ :: .inr (.inr _) :: _, h => exact h.elim
  | .inr (.inl _) :: _ :: _, h => exact h.elim
  | .inr (.inr _) :: _ :: _, h => exact h.elim
def i_isub (nx : Nat) : pm_T := fun K z => match z with
  | (lv, .inl y :: .inl x :: st, h) => K (some nx) (lv, .inl (x - y) :: st, h)
  | _ => False
theorem sd_isub {own : String} {cc : ByteArray} {nL d rt pc nx : Nat} (hd : decode cc pc = .ok (.isub, 1)) (hn : pc + 1 = nx) : pm_sd own cc nL d rt pc (i_isub nx) := by
  intro post p l e s m args below meth c D ad ta X K hK x h
  obtain ⟨lv, st, hh⟩ := x
  subst hn
  match st, h with
  | .inl y :: .inl x :: st, h =>
    have h2 := pm_kks (hK _ _ h)
    intro o1 o2 H locs ls hP hD hS hl
    exact lv_isub X.1 X.2.1 hd (h2 o1 (pm_ok1 trivial (pm_okt (pm_okt o2))) H locs ls hP hD hS hl)
  | [], h => exact h.elim
  | [.inl _], h => exact h.elim
  | [.inr (.inl _)], h => exact h.elim
  | [.inr (.inr _)], h => exact h.elim
  | .inl _ :: .inr (.inl _) :: _, h => exact h.elim
  | .inl _ :: .inr (.inr _) :: _, h => exact h.elim
  | .inr (.inl _) :: _ :: _, h => exact h.elim
  | .inr (.inr _) :: _ :: _, h => exact h.elim
def i_imul (nx : Nat) : pm_T := fun K z => match z with
  | (lv, .inl y :: .inl x :: st, h) => K (some nx) (lv, .inl (x * y) :: st, h)
  | _ => False
theorem sd_imul {own : String} {cc : ByteArray} {nL d rt pc nx : Nat} (hd : decode cc pc = .ok (.imul, 1)) (hn : pc + 1 = nx) : pm_sd own cc nL d rt pc (i_imul nx) := by
  intro post p l e s m args below meth c D ad ta X K hK x h
  obtain ⟨lv, st, hh⟩ := x
  subst hn
  match st, h with
  | .inl y :: .inl x :: st, h =>
    have h2 := pm_kks (hK _ _ h)
    intro o1 o2 H locs ls hP hD hS hl
    exact lv_imul X.1 X.2.1 hd (h2 o1 (pm_ok1 trivial (pm_okt (pm_okt o2))) H locs ls hP hD hS hl)
  | [], h => exact h.elim
  | [.inl _], h => exact h.elim
  | [.inr (.inl _)], h => exact h.elim
  | [.inr (.inr _)], h => exact h.elim
  | .inl _ :: .inr (.inl _) :: _, h => exact h.elim
  | .inl _ :: .inr (.inr _) :: _, h => exact h.elim
  | .inr (.inl _) :: _ :: _, h => exact h.elim
  | .inr (.inr _) :: _ :: _, h => exact h.elim
def i_iand (nx : Nat) : pm_T := fun K z => match z with
  | (lv, .inl y :: .inl x :: st, h) => K (some nx) (lv, .inl (x &&& y) :: st, h)
  | _ => False
theorem sd_iand {own : String} {cc : ByteArray} {nL d rt pc nx : Nat} (hd : decode cc pc = .ok (.iand, 1)) (hn : pc + 1 = nx) : pm_sd own cc nL d rt pc (i_iand nx) := by
  intro post p l e s m args below meth c D ad ta X K hK x h
  obtain ⟨lv, st, hh⟩ := x
  subst hn
  match st, h with
  | .inl y :: .inl x :: st, h =>
    have h2 := pm_kks (hK _ _ h)
    intro o1 o2 H locs ls hP hD hS hl
    exact lv_iand X.1 X.2.1 hd (h2 o1 (pm_ok1 trivial (pm_okt (pm_okt o2))) H locs ls hP hD hS hl)
  | [], h => exact h.elim
  | [.inl _], h => exact h.elim
  | [.inr (.inl _)], h => exact h.elim
  | [.inr (.inr _)], h => exact h.elim
  | .inl _ :: .inr (.inl _) :: _, h => exact h.elim
  | .inl _ :: .inr (.inr _) :: _, h => exact h.elim
  | .inr (.inl _) :: _ :: _, h => exact h.elim
  | .inr (.inr _) :: _ :: _, h => exact h.elim
def i_ior (nx : Nat) : pm_T := fun K z => match z with
  | (lv, .inl y :: .inl x :: st, h) => K (some nx) (lv, .inl (x ||| y) :: st, h)
  | _ => False
theorem sd_ior {own : String} {cc : ByteArray} {nL d rt pc nx : Nat} (hd : decode cc pc = .ok (.ior, 1)) (hn : pc + 1 = nx) : pm_sd own cc nL d rt pc (i_ior nx) := by
  intro post p l e s m args below meth c D ad ta X K hK x h
  obtain ⟨lv, st, hh⟩ := x
  subst hn
  match st, h with
  | .inl y :: .inl x :: st, h =>
    have h2 := pm_kks (hK _ _ h)
    intro o1 o2 H locs ls hP hD hS hl
    exact lv_ior X.1 X.2.1 hd (h2 o1 (pm_ok1 trivial (pm_okt (pm_okt o2))) H locs ls hP hD hS hl)
  | [], h => exact h.elim
  | [.inl _], h => exact h.elim
  | [.inr (.inl _)], h => exact h.elim
  | [.inr (.inr _)], h => exact h.elim
  | .inl _ :: .inr (.inl _) :: _, h => exact h.elim
  | .inl _ :: .inr (.inr _) :: _, h => exact h.elim
  | .inr (.inl _) :: _ :: _, h => exact h.elim
  | .inr (.inr _) :: _ :: _, h => exact h.elim
def i_ishl (nx : Nat) : pm_T := fun K z => match z with
  | (lv, .inl y :: .inl x :: st, h) => K (some nx) (lv, .inl (x <<< (y &&& 31)) :: st, h)
  | _ => False
theorem sd_ishl {own : String} {cc : ByteArray} {nL d rt pc nx : Nat} (hd : decode cc pc = .ok (.ishl, 1)) (hn : pc + 1 = nx) : pm_sd own cc nL d rt pc (i_ishl nx) := by
  intro post p l e s m args below meth c D ad ta X K hK x h
  obtain ⟨lv, st, hh⟩ := x
  subst hn
  match st, h with
  | .inl y :: .inl x :: st, h =>
    have h2 := pm_kks (hK _ _ h)
    intro o1 o2 H locs ls hP hD hS hl
    exact lv_ishl X.1 X.2.1 hd (h2 o1 (pm_ok1 trivial (pm_okt (pm_okt o2))) H locs ls hP hD hS hl)
  | [], h => exact h.elim
  | [.inl _], h => exact h.elim
  | [.inr (.inl _)], h => exact h.elim
  | [.inr (.inr _)], h => exact h.elim
  | .inl _ :: .inr (.inl _) :: _, h => exact h.elim
  | .inl _ :: .inr (.inr _) :: _, h => exact h.elim
  | .inr (.inl _) :: _ :: _, h => exact h.elim
  | .inr (.inr _) :: _ :: _, h => exact h.elim
def i_ishr (nx : Nat) : pm_T := fun K z => match z with
  | (lv, .inl y :: .inl x :: st, h) => K (some nx) (lv, .inl (x >>> (y &&& 31)) :: st, h)
  | _ => False
theorem sd_ishr {own : String} {cc : ByteArray} {nL d rt pc nx : Nat} (hd : decode cc pc = .ok (.ishr, 1)) (hn : pc + 1 = nx) : pm_sd own cc nL d rt pc (i_ishr nx) := by
  intro post p l e s m args below meth c D ad ta X K hK x h
  obtain ⟨lv, st, hh⟩ := x
  subst hn
  match st, h with
  | .inl y :: .inl x :: st, h =>
    have h2 := pm_kks (hK _ _ h)
    intro o1 o2 H locs ls hP hD hS hl
    exact lv_ishr X.1 X.2.1 hd (h2 o1 (pm_ok1 trivial (pm_okt (pm_okt o2))) H locs ls hP hD hS hl)
  | [], h => exact h.elim
  | [.inl _], h => exact h.elim
  | [.inr (.inl _)], h => exact h.elim
  | [.inr (.inr _)], h => exact h.elim
  | .inl _ :: .inr (.inl _) :: _, h => exact h.elim
  | .inl _ :: .inr (.inr _) :: _, h => exact h.elim
  | .inr (.inl _) :: _ :: _, h => exact h.elim
  | .inr (.inr _) :: _ :: _, h => exact h.elim
def i_iushr (nx : Nat) : pm_T := fun K z => match z with
  | (lv, .inl y :: .inl x :: st, h) => K (some nx) (lv, .inl ((x.toUInt32 >>> (y.toUInt32 &&& Int32.toUInt32 31)).toInt32) :: st, h)
  | _ => False
theorem sd_iushr {own : String} {cc : ByteArray} {nL d rt pc nx : Nat} (hd : decode cc pc = .ok (.iushr, 1)) (hn : pc + 1 = nx) : pm_sd own cc nL d rt pc (i_iushr nx) := by
  intro post p l e s m args below meth c D ad ta X K hK x h
  obtain ⟨lv, st, hh⟩ := x
  subst hn
  match st, h with
  | .inl y :: .inl x :: st, h =>
    have h2 := pm_kks (hK _ _ h)
    intro o1 o2 H locs ls hP hD hS hl
    exact lv_iushr X.1 X.2.1 hd rfl (h2 o1 (pm_ok1 trivial (pm_okt (pm_okt o2))) H locs ls hP hD hS hl)
  | [], h => exact h.elim
  | [.inl _], h => exact h.elim
  | [.inr (.inl _)], h => exact h.elim
  | [.inr (.inr _)], h => exact h.elim
  | .inl _ :: .inr (.inl _) :: _, h => exact h.elim
  | .inl _ :: .inr (.inr _) :: _, h => exact h.elim
  | .inr (.inl _) :: _ :: _, h => exact h.elim
  | .inr (.inr _) :: _ :: _, h => exact h.elim
def i_idiv (nx : Nat) : pm_T := fun K z => match z with
  | (lv, .inl y :: .inl x :: st, h) => ¬ y = 0 ∧ K (some nx) (lv, .inl (x / y) :: st, h)
  | _ => False
theorem sd_idiv {own : String} {cc : ByteArray} {nL d rt pc nx : Nat} (hd : decode cc pc = .ok (.idiv, 1)) (hn : pc + 1 = nx) : pm_sd own cc nL d rt pc (i_idiv nx) := by
  intro post p l e s m args below meth c D ad ta X K hK x h
  obtain ⟨lv, st, hh⟩ := x
  subst hn
  match st, h with
  | .inl y :: .inl x :: st, h =>
    have h2 := pm_kks (hK _ _ h.2)
    intro o1 o2 H locs ls hP hD hS hl
    exact lv_idiv X.1 X.2.1 hd h.1 (h2 o1 (pm_ok1 trivial (pm_okt (pm_okt o2))) H locs ls hP hD hS hl)
  | [], h => exact h.elim
  | [.inl _], h => exact h.elim
  | [.inr (.inl _)], h => exact h.elim
  | [.inr (.inr _)], h => exact h.elim
  | .inl _ :: .inr (.inl _) :: _, h => exact h.elim
  | .inl _ :: .inr (.inr _) :: _, h => exact h.elim
  | .inr (.inl _) :: _ :: _, h => exact h.elim
  | .inr (.inr _) :: _ :: _, h => exact h.elim
def i_irem (nx : Nat) : pm_T := fun K z => match z with
  | (lv, .inl y :: .inl x :: st, h) => ¬ y = 0 ∧ K (some nx) (lv, .inl (x - x / y * y) :: st, h)
  | _ => False
theorem sd_irem {own : String} {cc : ByteArray} {nL d rt pc nx : Nat} (hd : decode cc pc = .ok (.irem, 1)) (hn : pc + 1 = nx) : pm_sd own cc nL d rt pc (i_irem nx) := by
  intro post p l e s m args below meth c D ad ta X K hK x h
  obtain ⟨lv, st, hh⟩ := x
  subst hn
  match st, h with
  | .inl y :: .inl x :: st, h =>
    have h2 := pm_kks (hK _ _ h.2)
    intro o1 o2 H locs ls hP hD hS hl
    exact lv_irem X.1 X.2.1 hd h.1 (h2 o1 (pm_ok1 trivial (pm_okt (pm_okt o2))) H locs ls hP hD hS hl)
  | [], h => exact h.elim
  | [.inl _], h => exact h.elim
  | [.inr (.inl _)], h => exact h.elim
  | [.inr (.inr _)], h => exact h.elim
  | .inl _ :: .inr (.inl _) :: _, h => exact h.elim
  | .inl _ :: .inr (.inr _) :: _, h => exact h.elim
  | .inr (.inl _) :: _ :: _, h => exact h.elim
  | .inr (.inr _) :: _ :: _, h => exact h.elim
def i_ladd (nx : Nat) : pm_T := fun K z => match z with
  | (lv, .inr (.inl y) :: .inr (.inl x) :: st, h) => K (some nx) (lv, .inr (.inl (x + y)) :: st, h)
  | _ => False
theorem sd_ladd {own : String} {cc : ByteArray} {nL d rt pc nx : Nat} (hd : decode cc pc = .ok (.ladd, 1)) (hn : pc + 1 = nx) : pm_sd own cc nL d rt pc (i_ladd nx) := by
  intro post p l e s m args below meth c D ad ta X K hK x h
  obtain ⟨lv, st, hh⟩ := x
  subst hn
  match st, h with
  | .inr (.inl y) :: .inr (.inl x) :: st, h =>
    have h2 := pm_kks (hK _ _ h)
    intro o1 o2 H locs ls hP hD hS hl
    exact lv_ladd X.1 X.2.1 hd (h2 o1 (pm_ok1 trivial (pm_okt (pm_okt o2))) H locs ls hP hD hS hl)
  | [], h => exact h.elim
  | [.inl _], h => exact h.elim
  | [.inr (.inl _)], h => exact h.elim
  | [.inr (.inr _)], h => exact h.elim
  | .inr (.inl _) :: .inl _ :: _, h => exact h.elim
  | .inr (.inl _) :: .inr (.inr _) :: _, h => exact h.elim
  | .inl _ :: _ :: _, h => exact h.elim
  | .inr (.inr _) :: _ :: _, h => exact h.elim
def i_lmul (nx : Nat) : pm_T := fun K z => match z with
  | (lv, .inr (.inl y) :: .inr (.inl x) :: st, h) => K (some nx) (lv, .inr (.inl (x * y)) :: st, h)
  | _ => False
theorem sd_lmul {own : String} {cc : ByteArray} {nL d rt pc nx : Nat} (hd : decode cc pc = .ok (.lmul, 1)) (hn : pc + 1 = nx) : pm_sd own cc nL d rt pc (i_lmul nx) := by
  intro post p l e s m args below meth c D ad ta X K hK x h
  obtain ⟨lv, st, hh⟩ := x
  subst hn
  match st, h with
  | .inr (.inl y) :: .inr (.inl x) :: st, h =>
    have h2 := pm_kks (hK _ _ h)
    intro o1 o2 H locs ls hP hD hS hl
    exact lv_lmul X.1 X.2.1 hd (h2 o1 (pm_ok1 trivial (pm_okt (pm_okt o2))) H locs ls hP hD hS hl)
  | [], h => exact h.elim
  | [.inl _], h => exact h.elim
  | [.inr (.inl _)], h => exact h.elim
  | [.inr (.inr _)], h => exact h.elim
  | .inr (.inl _) :: .inl _ :: _, h => exact h.elim
  | .inr (.inl _) :: .inr (.inr _) :: _, h => exact h.elim
  | .inl _ :: _ :: _, h => exact h.elim
  | .inr (.inr _) :: _ :: _, h => exact h.elim
def i_ldiv (nx : Nat) : pm_T := fun K z => match z with
  | (lv, .inr (.inl y) :: .inr (.inl x) :: st, h) => ¬ y = 0 ∧ K (some nx) (lv, .inr (.inl (x / y)) :: st, h)
  | _ => False
theorem sd_ldiv {own : String} {cc : ByteArray} {nL d rt pc nx : Nat} (hd : decode cc pc = .ok (.ldiv, 1)) (hn : pc + 1 = nx) : pm_sd own cc nL d rt pc (i_ldiv nx) := by
  intro post p l e s m args below meth c D ad ta X K hK x h
  obtain ⟨lv, st, hh⟩ := x
  subst hn
  match st, h with
  | .inr (.inl y) :: .inr (.inl x) :: st, h =>
    have h2 := pm_kks (hK _ _ h.2)
    intro o1 o2 H locs ls hP hD hS hl
    exact lv_ldiv X.1 X.2.1 hd h.1 (h2 o1 (pm_ok1 trivial (pm_okt (pm_okt o2))) H locs ls hP hD hS hl)
  | [], h => exact h.elim
  | [.inl _], h => exact h.elim
  | [.inr (.inl _)], h => exact h.elim
  | [.inr (.inr _)], h => exact h.elim
  | .inr (.inl _) :: .inl _ :: _, h => exact h.elim
  | .inr (.inl _) :: .inr (.inr _) :: _, h => exact h.elim
  | .inl _ :: _ :: _, h => exact h.elim
  | .inr (.inr _) :: _ :: _, h => exact h.elim
def i_lrem (nx : Nat) : pm_T := fun K z => match z with
  | (lv, .inr (.inl y) :: .inr (.inl x) :: st, h) => ¬ y = 0 ∧ K (some nx) (lv, .inr (.inl (x - x / y * y)) :: st, h)
  | _ => False
theorem sd_lrem {own : String} {cc : ByteArray} {nL d rt pc nx : Nat} (hd : decode cc pc = .ok (.lrem, 1)) (hn : pc + 1 = nx) : pm_sd own cc nL d rt pc (i_lrem nx) := by
  intro post p l e s m args below meth c D ad ta X K hK x h
  obtain ⟨lv, st, hh⟩ := x
  subst hn
  match st, h with
  | .inr (.inl y) :: .inr (.inl x) :: st, h =>
    have h2 := pm_kks (hK _ _ h.2)
    intro o1 o2 H locs ls hP hD hS hl
    exact lv_lrem X.1 X.2.1 hd h.1 (h2 o1 (pm_ok1 trivial (pm_okt (pm_okt o2))) H locs ls hP hD hS hl)
  | [], h => exact h.elim
  | [.inl _], h => exact h.elim
  | [.inr (.inl _)], h => exact h.elim
  | [.inr (.inr _)], h => exact h.elim
  | .inr (.inl _) :: .inl _ :: _, h => exact h.elim
  | .inr (.inl _) :: .inr (.inr _) :: _, h => exact h.elim
  | .inl _ :: _ :: _, h => exact h.elim
  | .inr (.inr _) :: _ :: _, h => exact h.elim
def i_lcmp (nx : Nat) : pm_T := fun K z => match z with
  | (lv, .inr (.inl y) :: .inr (.inl x) :: st, h) => K (some nx) (lv, .inl (lg_cmp x y) :: st, h)
  | _ => False
theorem sd_lcmp {own : String} {cc : ByteArray} {nL d rt pc nx : Nat} (hd : decode cc pc = .ok (.lcmp, 1)) (hn : pc + 1 = nx) : pm_sd own cc nL d rt pc (i_lcmp nx) := by
  intro post p l e s m args below meth c D ad ta X K hK x h
  obtain ⟨lv, st, hh⟩ := x
  subst hn
  match st, h with
  | .inr (.inl y) :: .inr (.inl x) :: st, h =>
    have h2 := pm_kks (hK _ _ h)
    intro o1 o2 H locs ls hP hD hS hl
    exact W.lcmp X.1 X.2.1 hd (h2 o1 (pm_ok1 trivial (pm_okt (pm_okt o2))) H locs ls hP hD hS hl)
  | [], h => exact h.elim
  | [.inl _], h => exact h.elim
  | [.inr (.inl _)], h => exact h.elim
  | [.inr (.inr _)], h => exact h.elim
  | .inr (.inl _) :: .inl _ :: _, h => exact h.elim
  | .inr (.inl _) :: .inr (.inr _) :: _, h => exact h.elim
  | .inl _ :: _ :: _, h => exact h.elim
  | .inr (.inr _) :: _ :: _, h => exact h.elim
def i_i2l (nx : Nat) : pm_T := fun K z => match z with
  | (lv, .inl x :: st, h) => K (some nx) (lv, .inr (.inl x.toInt64) :: st, h)
  | _ => False
theorem sd_i2l {own : String} {cc : ByteArray} {nL d rt pc nx : Nat} (hd : decode cc pc = .ok (.i2l, 1)) (hn : pc + 1 = nx) : pm_sd own cc nL d rt pc (i_i2l nx) := by
  intro post p l e s m args below meth c D ad ta X K hK x h
  obtain ⟨lv, st, hh⟩ := x
  subst hn
  match st, h with
  | .inl x :: st, h =>
    have h2 := pm_kks (hK _ _ h)
    intro o1 o2 H locs ls hP hD hS hl
    exact lv_i2l X.1 X.2.1 hd rfl (h2 o1 (pm_ok1 trivial (pm_okt o2)) H locs ls hP hD hS hl)
  | [], h => exact h.elim
  | .inr (.inl x) :: _, h => exact h.elim
  | .inr (.inr x) :: _, h => exact h.elim
def i_i2b (nx : Nat) : pm_T := fun K z => match z with
  | (lv, .inl x :: st, h) => K (some nx) (lv, .inl x.toInt8.toInt32 :: st, h)
  | _ => False
theorem sd_i2b {own : String} {cc : ByteArray} {nL d rt pc nx : Nat} (hd : decode cc pc = .ok (.i2b, 1)) (hn : pc + 1 = nx) : pm_sd own cc nL d rt pc (i_i2b nx) := by
  intro post p l e s m args below meth c D ad ta X K hK x h
  obtain ⟨lv, st, hh⟩ := x
  subst hn
  match st, h with
  | .inl x :: st, h =>
    have h2 := pm_kks (hK _ _ h)
    intro o1 o2 H locs ls hP hD hS hl
    exact lv_i2b X.1 X.2.1 hd rfl (h2 o1 (pm_ok1 trivial (pm_okt o2)) H locs ls hP hD hS hl)
  | [], h => exact h.elim
  | .inr (.inl x) :: _, h => exact h.elim
  | .inr (.inr x) :: _, h => exact h.elim
def i_i2s (nx : Nat) : pm_T := fun K z => match z with
  | (lv, .inl x :: st, h) => K (some nx) (lv, .inl x.toInt16.toInt32 :: st, h)
  | _ => False
theorem sd_i2s {own : String} {cc : ByteArray} {nL d rt pc nx : Nat} (hd : decode cc pc = .ok (.i2s, 1)) (hn : pc + 1 = nx) : pm_sd own cc nL d rt pc (i_i2s nx) := by
  intro post p l e s m args below meth c D ad ta X K hK x h
  obtain ⟨lv, st, hh⟩ := x
  subst hn
  match st, h with
  | .inl x :: st, h =>
    have h2 := pm_kks (hK _ _ h)
    intro o1 o2 H locs ls hP hD hS hl
    exact lv_i2s X.1 X.2.1 hd rfl (h2 o1 (pm_ok1 trivial (pm_okt o2)) H locs ls hP hD hS hl)
  | [], h => exact h.elim
  | .inr (.inl x) :: _, h => exact h.elim
  | .inr (.inr x) :: _, h => exact h.elim
def i_i2c (nx : Nat) : pm_T := fun K z => match z with
  | (lv, .inl x :: st, h) => K (some nx) (lv, .inl (x.toUInt32 % 65536).toInt32 :: st, h)
  | _ => False
theorem sd_i2c {own : String} {cc : ByteArray} {nL d rt pc nx : Nat} (hd : decode cc pc = .ok (.i2c, 1)) (hn : pc + 1 = nx) : pm_sd own cc nL d rt pc (i_i2c nx) := by
  intro post p l e s m args below meth c D ad ta X K hK x h
  obtain ⟨lv, st, hh⟩ := x
  subst hn
  match st, h with
  | .inl x :: st, h =>
    have h2 := pm_kks (hK _ _ h)
    intro o1 o2 H locs ls hP hD hS hl
    exact lv_i2c X.1 X.2.1 hd rfl (h2 o1 (pm_ok1 trivial (pm_okt o2)) H locs ls hP hD hS hl)
  | [], h => exact h.elim
  | .inr (.inl x) :: _, h => exact h.elim
  | .inr (.inr x) :: _, h => exact h.elim
def i_dup (nx : Nat) : pm_T := fun K z => match z with
  | (lv, v :: st, h) => bif pm_lg v then False else K (some nx) (lv, v :: v :: st, h)
  | _ => False
theorem pm_c1 {ad : pm_R → Nat} {v : pm_V} (h : pm_lg v = false) : (pm_rv ad v).category = 1 := by rw [pm_cat_rv, pm_cat, h]; rfl
theorem pm_bf {b : Bool} {P : Prop} (h : bif b then False else P) : b = false ∧ P := by cases b with | true => exact h.elim | false => exact ⟨rfl, h⟩
theorem pm_bt {b : Bool} {P : Prop} (h : bif b then P else False) : b = true ∧ P := by cases b with | false => exact h.elim | true => exact ⟨rfl, h⟩
theorem sd_dup {own : String} {cc : ByteArray} {nL d rt pc nx : Nat} (hd : decode cc pc = .ok (.dup, 1)) (hn : pc + 1 = nx) : pm_sd own cc nL d rt pc (i_dup nx) := by
  intro post p l e s m args below meth c D ad ta X K hK x h
  obtain ⟨lv, st, hh⟩ := x
  subst hn
  match st, h with
  | v :: st, h =>
    obtain ⟨hg, h⟩ := pm_bf h
    have h2 := pm_kks (hK _ _ h)
    intro o1 o2 H locs ls hP hD hS hl
    exact lv_dup X.1 X.2.1 hd (pm_c1 hg) (h2 o1 (pm_ok1 (pm_okh o2) o2) H locs ls hP hD hS hl)
  | [], h => exact h.elim
def i_pop (nx : Nat) : pm_T := fun K z => match z with
  | (lv, v :: st, h) => bif pm_lg v then False else K (some nx) (lv, st, h)
  | _ => False
theorem sd_pop {own : String} {cc : ByteArray} {nL d rt pc nx : Nat} (hd : decode cc pc = .ok (.pop, 1)) (hn : pc + 1 = nx) : pm_sd own cc nL d rt pc (i_pop nx) := by
  intro post p l e s m args below meth c D ad ta X K hK x h
  obtain ⟨lv, st, hh⟩ := x
  subst hn
  match st, h with
  | v :: st, h =>
    obtain ⟨hg, h⟩ := pm_bf h
    have h2 := pm_kks (hK _ _ h)
    intro o1 o2 H locs ls hP hD hS hl
    exact lv_pop X.1 X.2.1 hd (pm_c1 hg) (h2 o1 (pm_okt o2) H locs ls hP hD hS hl)
  | [], h => exact h.elim
def i_dup2 (nx : Nat) : pm_T := fun K z => match z with
  | (lv, u :: v :: st, h) => bif pm_lg u || pm_lg v then False else K (some nx) (lv, u :: v :: u :: v :: st, h)
  | _ => False
theorem sd_dup2 {own : String} {cc : ByteArray} {nL d rt pc nx : Nat} (hd : decode cc pc = .ok (.dup2, 1)) (hn : pc + 1 = nx) : pm_sd own cc nL d rt pc (i_dup2 nx) := by
  intro post p l e s m args below meth c D ad ta X K hK x h
  obtain ⟨lv, st, hh⟩ := x
  subst hn
  match st, h with
  | u :: v :: st, h =>
    obtain ⟨hg, h⟩ := pm_bf h
    have h2 := pm_kks (hK _ _ h)
    intro o1 o2 H locs ls hP hD hS hl
    have hu : pm_lg u = false := (Bool.or_eq_false_iff.mp hg).1
    have hv : pm_lg v = false := (Bool.or_eq_false_iff.mp hg).2
    exact lv_dup2_11 X.1 X.2.1 hd (pm_c1 hu) (pm_c1 hv) (h2 o1 (pm_ok1 (pm_okh o2) (pm_ok1 (pm_okh (pm_okt o2)) o2)) H locs ls hP hD hS hl)
  | [], h => exact h.elim
  | [_], h => exact h.elim
def i_go (tgt : Nat) : pm_T := fun K x => K (some tgt) x
theorem sd_go {own : String} {cc : ByteArray} {nL d rt pc tgt : Nat} {off : Int} (hd : decode cc pc = .ok (.goto off, 3)) (ht : (pc : Int) + off = (tgt : Int)) : pm_sd own cc nL d rt pc (i_go tgt) := by
  intro post p l e s m args below meth c D ad ta X K hK x h
  obtain ⟨lv, st, hh⟩ := x
  have h2 := pm_kks (hK _ _ h)
  intro o1 o2 H locs ls hP hD hS hl
  exact lv_goto X.1 X.2.1 hd ht (h2 o1 o2 H locs ls hP hD hS hl)
def i_ifeq (tgt nx : Nat) : pm_T := fun K z => match z with
  | (lv, .inl x :: st, h) => (x = 0 → K (some tgt) (lv, st, h)) ∧ (¬ x = 0 → K (some nx) (lv, st, h))
  | _ => False
theorem sd_ifeq {own : String} {cc : ByteArray} {nL d rt pc nx tgt : Nat} {off : Int} (hd : decode cc pc = .ok (.ifCond .eq off, 3)) (ht : (pc : Int) + off = (tgt : Int)) (hn : pc + 3 = nx) : pm_sd own cc nL d rt pc (i_ifeq tgt nx) := by
  intro post p l e s m args below meth c D ad ta X K hK x h
  obtain ⟨lv, st, hh⟩ := x
  subst hn
  match st, h with
  | .inl x :: st, h =>
    intro o1 o2 H locs ls hP hD hS hl
    exact lv_if_eq X.1 X.2.1 hd ht (fun hc => (pm_kks (hK _ _ (h.1 hc))) o1 (pm_okt o2) H locs ls hP hD hS hl) (fun hc => (pm_kks (hK _ _ (h.2 hc))) o1 (pm_okt o2) H locs ls hP hD hS hl)
  | [], h => exact h.elim
  | .inr (.inl _) :: _, h => exact h.elim
  | .inr (.inr _) :: _, h => exact h.elim
def i_ifne (tgt nx : Nat) : pm_T := fun K z => match z with
  | (lv, .inl x :: st, h) => (¬ x = 0 → K (some tgt) (lv, st, h)) ∧ (x = 0 → K (some nx) (lv, st, h))
  | _ => False
theorem sd_ifne {own : String} {cc : ByteArray} {nL d rt pc nx tgt : Nat} {off : Int} (hd : decode cc pc = .ok (.ifCond .ne off, 3)) (ht : (pc : Int) + off = (tgt : Int)) (hn : pc + 3 = nx) : pm_sd own cc nL d rt pc (i_ifne tgt nx) := by
  intro post p l e s m args below meth c D ad ta X K hK x h
  obtain ⟨lv, st, hh⟩ := x
  subst hn
  match st, h with
  | .inl x :: st, h =>
    intro o1 o2 H locs ls hP hD hS hl
    exact lv_if_ne X.1 X.2.1 hd ht (fun hc => (pm_kks (hK _ _ (h.1 hc))) o1 (pm_okt o2) H locs ls hP hD hS hl) (fun hc => (pm_kks (hK _ _ (h.2 hc))) o1 (pm_okt o2) H locs ls hP hD hS hl)
  | [], h => exact h.elim
  | .inr (.inl _) :: _, h => exact h.elim
  | .inr (.inr _) :: _, h => exact h.elim
def i_iflt (tgt nx : Nat) : pm_T := fun K z => match z with
  | (lv, .inl x :: st, h) => (x < 0 → K (some tgt) (lv, st, h)) ∧ (¬ x < 0 → K (some nx) (lv, st, h))
  | _ => False
theorem sd_iflt {own : String} {cc : ByteArray} {nL d rt pc nx tgt : Nat} {off : Int} (hd : decode cc pc = .ok (.ifCond .lt off, 3)) (ht : (pc : Int) + off = (tgt : Int)) (hn : pc + 3 = nx) : pm_sd own cc nL d rt pc (i_iflt tgt nx) := by
  intro post p l e s m args below meth c D ad ta X K hK x h
  obtain ⟨lv, st, hh⟩ := x
  subst hn
  match st, h with
  | .inl x :: st, h =>
    intro o1 o2 H locs ls hP hD hS hl
    exact lv_if_lt X.1 X.2.1 hd ht (fun hc => (pm_kks (hK _ _ (h.1 hc))) o1 (pm_okt o2) H locs ls hP hD hS hl) (fun hc => (pm_kks (hK _ _ (h.2 hc))) o1 (pm_okt o2) H locs ls hP hD hS hl)
  | [], h => exact h.elim
  | .inr (.inl _) :: _, h => exact h.elim
  | .inr (.inr _) :: _, h => exact h.elim
def i_ifge (tgt nx : Nat) : pm_T := fun K z => match z with
  | (lv, .inl x :: st, h) => (0 ≤ x → K (some tgt) (lv, st, h)) ∧ (¬ 0 ≤ x → K (some nx) (lv, st, h))
  | _ => False
theorem sd_ifge {own : String} {cc : ByteArray} {nL d rt pc nx tgt : Nat} {off : Int} (hd : decode cc pc = .ok (.ifCond .ge off, 3)) (ht : (pc : Int) + off = (tgt : Int)) (hn : pc + 3 = nx) : pm_sd own cc nL d rt pc (i_ifge tgt nx) := by
  intro post p l e s m args below meth c D ad ta X K hK x h
  obtain ⟨lv, st, hh⟩ := x
  subst hn
  match st, h with
  | .inl x :: st, h =>
    intro o1 o2 H locs ls hP hD hS hl
    exact lv_if_ge X.1 X.2.1 hd ht (fun hc => (pm_kks (hK _ _ (h.1 hc))) o1 (pm_okt o2) H locs ls hP hD hS hl) (fun hc => (pm_kks (hK _ _ (h.2 hc))) o1 (pm_okt o2) H locs ls hP hD hS hl)
  | [], h => exact h.elim
  | .inr (.inl _) :: _, h => exact h.elim
  | .inr (.inr _) :: _, h => exact h.elim
def i_ifgt (tgt nx : Nat) : pm_T := fun K z => match z with
  | (lv, .inl x :: st, h) => (0 < x → K (some tgt) (lv, st, h)) ∧ (¬ 0 < x → K (some nx) (lv, st, h))
  | _ => False
theorem sd_ifgt {own : String} {cc : ByteArray} {nL d rt pc nx tgt : Nat} {off : Int} (hd : decode cc pc = .ok (.ifCond .gt off, 3)) (ht : (pc : Int) + off = (tgt : Int)) (hn : pc + 3 = nx) : pm_sd own cc nL d rt pc (i_ifgt tgt nx) := by
  intro post p l e s m args below meth c D ad ta X K hK x h
  obtain ⟨lv, st, hh⟩ := x
  subst hn
  match st, h with
  | .inl x :: st, h =>
    intro o1 o2 H locs ls hP hD hS hl
    exact lv_if_gt X.1 X.2.1 hd ht (fun hc => (pm_kks (hK _ _ (h.1 hc))) o1 (pm_okt o2) H locs ls hP hD hS hl) (fun hc => (pm_kks (hK _ _ (h.2 hc))) o1 (pm_okt o2) H locs ls hP hD hS hl)
  | [], h => exact h.elim
  | .inr (.inl _) :: _, h => exact h.elim
  | .inr (.inr _) :: _, h => exact h.elim
def i_ifle (tgt nx : Nat) : pm_T := fun K z => match z with
  | (lv, .inl x :: st, h) => (x ≤ 0 → K (some tgt) (lv, st, h)) ∧ (¬ x ≤ 0 → K (some nx) (lv, st, h))
  | _ => False
theorem sd_ifle {own : String} {cc : ByteArray} {nL d rt pc nx tgt : Nat} {off : Int} (hd : decode cc pc = .ok (.ifCond .le off, 3)) (ht : (pc : Int) + off = (tgt : Int)) (hn : pc + 3 = nx) : pm_sd own cc nL d rt pc (i_ifle tgt nx) := by
  intro post p l e s m args below meth c D ad ta X K hK x h
  obtain ⟨lv, st, hh⟩ := x
  subst hn
  match st, h with
  | .inl x :: st, h =>
    intro o1 o2 H locs ls hP hD hS hl
    exact lv_if_le X.1 X.2.1 hd ht (fun hc => (pm_kks (hK _ _ (h.1 hc))) o1 (pm_okt o2) H locs ls hP hD hS hl) (fun hc => (pm_kks (hK _ _ (h.2 hc))) o1 (pm_okt o2) H locs ls hP hD hS hl)
  | [], h => exact h.elim
  | .inr (.inl _) :: _, h => exact h.elim
  | .inr (.inr _) :: _, h => exact h.elim
def i_iceq (tgt nx : Nat) : pm_T := fun K z => match z with
  | (lv, .inl y :: .inl x :: st, h) => (x = y → K (some tgt) (lv, st, h)) ∧ (¬ x = y → K (some nx) (lv, st, h))
  | _ => False
theorem sd_iceq {own : String} {cc : ByteArray} {nL d rt pc nx tgt : Nat} {off : Int} (hd : decode cc pc = .ok (.if_icmp .eq off, 3)) (ht : (pc : Int) + off = (tgt : Int)) (hn : pc + 3 = nx) : pm_sd own cc nL d rt pc (i_iceq tgt nx) := by
  intro post p l e s m args below meth c D ad ta X K hK x h
  obtain ⟨lv, st, hh⟩ := x
  subst hn
  match st, h with
  | .inl y :: .inl x :: st, h =>
    intro o1 o2 H locs ls hP hD hS hl
    exact lv_icmp_eq X.1 X.2.1 hd ht (fun hc => (pm_kks (hK _ _ (h.1 hc))) o1 (pm_okt (pm_okt o2)) H locs ls hP hD hS hl) (fun hc => (pm_kks (hK _ _ (h.2 hc))) o1 (pm_okt (pm_okt o2)) H locs ls hP hD hS hl)
  | [], h => exact h.elim
  | [.inl _], h => exact h.elim
  | [.inr (.inl _)], h => exact h.elim
  | [.inr (.inr _)], h => exact h.elim
  | .inl _ :: .inr (.inl _) :: _, h => exact h.elim
  | .inl _ :: .inr (.inr _) :: _, h => exact h.elim
  | .inr (.inl _) :: _ :: _, h => exact h.elim
  | .inr (.inr _) :: _ :: _, h => exact h.elim
def i_icne (tgt nx : Nat) : pm_T := fun K z => match z with
  | (lv, .inl y :: .inl x :: st, h) => (¬ x = y → K (some tgt) (lv, st, h)) ∧ (x = y → K (some nx) (lv, st, h))
  | _ => False
theorem sd_icne {own : String} {cc : ByteArray} {nL d rt pc nx tgt : Nat} {off : Int} (hd : decode cc pc = .ok (.if_icmp .ne off, 3)) (ht : (pc : Int) + off = (tgt : Int)) (hn : pc + 3 = nx) : pm_sd own cc nL d rt pc (i_icne tgt nx) := by
  intro post p l e s m args below meth c D ad ta X K hK x h
  obtain ⟨lv, st, hh⟩ := x
  subst hn
  match st, h with
  | .inl y :: .inl x :: st, h =>
    intro o1 o2 H locs ls hP hD hS hl
    exact lv_icmp_ne X.1 X.2.1 hd ht (fun hc => (pm_kks (hK _ _ (h.1 hc))) o1 (pm_okt (pm_okt o2)) H locs ls hP hD hS hl) (fun hc => (pm_kks (hK _ _ (h.2 hc))) o1 (pm_okt (pm_okt o2)) H locs ls hP hD hS hl)
  | [], h => exact h.elim
  | [.inl _], h => exact h.elim
  | [.inr (.inl _)], h => exact h.elim
  | [.inr (.inr _)], h => exact h.elim
  | .inl _ :: .inr (.inl _) :: _, h => exact h.elim
  | .inl _ :: .inr (.inr _) :: _, h => exact h.elim
  | .inr (.inl _) :: _ :: _, h => exact h.elim
  | .inr (.inr _) :: _ :: _, h => exact h.elim
def i_iclt (tgt nx : Nat) : pm_T := fun K z => match z with
  | (lv, .inl y :: .inl x :: st, h) => (x < y → K (some tgt) (lv, st, h)) ∧ (¬ x < y → K (some nx) (lv, st, h))
  | _ => False
theorem sd_iclt {own : String} {cc : ByteArray} {nL d rt pc nx tgt : Nat} {off : Int} (hd : decode cc pc = .ok (.if_icmp .lt off, 3)) (ht : (pc : Int) + off = (tgt : Int)) (hn : pc + 3 = nx) : pm_sd own cc nL d rt pc (i_iclt tgt nx) := by
  intro post p l e s m args below meth c D ad ta X K hK x h
  obtain ⟨lv, st, hh⟩ := x
  subst hn
  match st, h with
  | .inl y :: .inl x :: st, h =>
    intro o1 o2 H locs ls hP hD hS hl
    exact lv_icmp_lt X.1 X.2.1 hd ht (fun hc => (pm_kks (hK _ _ (h.1 hc))) o1 (pm_okt (pm_okt o2)) H locs ls hP hD hS hl) (fun hc => (pm_kks (hK _ _ (h.2 hc))) o1 (pm_okt (pm_okt o2)) H locs ls hP hD hS hl)
  | [], h => exact h.elim
  | [.inl _], h => exact h.elim
  | [.inr (.inl _)], h => exact h.elim
  | [.inr (.inr _)], h => exact h.elim
  | .inl _ :: .inr (.inl _) :: _, h => exact h.elim
  | .inl _ :: .inr (.inr _) :: _, h => exact h.elim
  | .inr (.inl _) :: _ :: _, h => exact h.elim
  | .inr (.inr _) :: _ :: _, h => exact h.elim
def i_icge (tgt nx : Nat) : pm_T := fun K z => match z with
  | (lv, .inl y :: .inl x :: st, h) => (y ≤ x → K (some tgt) (lv, st, h)) ∧ (¬ y ≤ x → K (some nx) (lv, st, h))
  | _ => False
theorem sd_icge {own : String} {cc : ByteArray} {nL d rt pc nx tgt : Nat} {off : Int} (hd : decode cc pc = .ok (.if_icmp .ge off, 3)) (ht : (pc : Int) + off = (tgt : Int)) (hn : pc + 3 = nx) : pm_sd own cc nL d rt pc (i_icge tgt nx) := by
  intro post p l e s m args below meth c D ad ta X K hK x h
  obtain ⟨lv, st, hh⟩ := x
  subst hn
  match st, h with
  | .inl y :: .inl x :: st, h =>
    intro o1 o2 H locs ls hP hD hS hl
    exact lv_icmp_ge X.1 X.2.1 hd ht (fun hc => (pm_kks (hK _ _ (h.1 hc))) o1 (pm_okt (pm_okt o2)) H locs ls hP hD hS hl) (fun hc => (pm_kks (hK _ _ (h.2 hc))) o1 (pm_okt (pm_okt o2)) H locs ls hP hD hS hl)
  | [], h => exact h.elim
  | [.inl _], h => exact h.elim
  | [.inr (.inl _)], h => exact h.elim
  | [.inr (.inr _)], h => exact h.elim
  | .inl _ :: .inr (.inl _) :: _, h => exact h.elim
  | .inl _ :: .inr (.inr _) :: _, h => exact h.elim
  | .inr (.inl _) :: _ :: _, h => exact h.elim
  | .inr (.inr _) :: _ :: _, h => exact h.elim
def i_icgt (tgt nx : Nat) : pm_T := fun K z => match z with
  | (lv, .inl y :: .inl x :: st, h) => (y < x → K (some tgt) (lv, st, h)) ∧ (¬ y < x → K (some nx) (lv, st, h))
  | _ => False
theorem sd_icgt {own : String} {cc : ByteArray} {nL d rt pc nx tgt : Nat} {off : Int} (hd : decode cc pc = .ok (.if_icmp .gt off, 3)) (ht : (pc : Int) + off = (tgt : Int)) (hn : pc + 3 = nx) : pm_sd own cc nL d rt pc (i_icgt tgt nx) := by
  intro post p l e s m args below meth c D ad ta X K hK x h
  obtain ⟨lv, st, hh⟩ := x
  subst hn
  match st, h with
  | .inl y :: .inl x :: st, h =>
    intro o1 o2 H locs ls hP hD hS hl
    exact lv_icmp_gt X.1 X.2.1 hd ht (fun hc => (pm_kks (hK _ _ (h.1 hc))) o1 (pm_okt (pm_okt o2)) H locs ls hP hD hS hl) (fun hc => (pm_kks (hK _ _ (h.2 hc))) o1 (pm_okt (pm_okt o2)) H locs ls hP hD hS hl)
  | [], h => exact h.elim
  | [.inl _], h => exact h.elim
  | [.inr (.inl _)], h => exact h.elim
  | [.inr (.inr _)], h => exact h.elim
  | .inl _ :: .inr (.inl _) :: _, h => exact h.elim
  | .inl _ :: .inr (.inr _) :: _, h => exact h.elim
  | .inr (.inl _) :: _ :: _, h => exact h.elim
  | .inr (.inr _) :: _ :: _, h => exact h.elim
def i_icle (tgt nx : Nat) : pm_T := fun K z => match z with
  | (lv, .inl y :: .inl x :: st, h) => (x ≤ y → K (some tgt) (lv, st, h)) ∧ (¬ x ≤ y → K (some nx) (lv, st, h))
  | _ => False
theorem sd_icle {own : String} {cc : ByteArray} {nL d rt pc nx tgt : Nat} {off : Int} (hd : decode cc pc = .ok (.if_icmp .le off, 3)) (ht : (pc : Int) + off = (tgt : Int)) (hn : pc + 3 = nx) : pm_sd own cc nL d rt pc (i_icle tgt nx) := by
  intro post p l e s m args below meth c D ad ta X K hK x h
  obtain ⟨lv, st, hh⟩ := x
  subst hn
  match st, h with
  | .inl y :: .inl x :: st, h =>
    intro o1 o2 H locs ls hP hD hS hl
    exact lv_icmp_le X.1 X.2.1 hd ht (fun hc => (pm_kks (hK _ _ (h.1 hc))) o1 (pm_okt (pm_okt o2)) H locs ls hP hD hS hl) (fun hc => (pm_kks (hK _ _ (h.2 hc))) o1 (pm_okt (pm_okt o2)) H locs ls hP hD hS hl)
  | [], h => exact h.elim
  | [.inl _], h => exact h.elim
  | [.inr (.inl _)], h => exact h.elim
  | [.inr (.inr _)], h => exact h.elim
  | .inl _ :: .inr (.inl _) :: _, h => exact h.elim
  | .inl _ :: .inr (.inr _) :: _, h => exact h.elim
  | .inr (.inl _) :: _ :: _, h => exact h.elim
  | .inr (.inr _) :: _ :: _, h => exact h.elim
def i_ir : pm_T := fun K z => match z with
  | (_, [.inl x], h) => K none ([], [.inl x], h)
  | _ => False
def i_zr : pm_T := fun K z => match z with
  | (_, [.inl x], h) => (x = 0 ∨ x = 1) ∧ K none ([], [.inl x], h)
  | _ => False
def i_lr : pm_T := fun K z => match z with
  | (_, [.inr (.inl x)], h) => K none ([], [.inr (.inl x)], h)
  | _ => False
def i_vr : pm_T := fun K z => match z with
  | (_, [], h) => K none ([], [], h)
  | _ => False
theorem pm_nz {x : Int32} (h : x = 0 ∨ x = 1) : narrow .boolean (.int x) = .int x := by
  rcases h with rfl | rfl <;> decide +kernel
theorem sd_ir {own : String} {cc : ByteArray} {nL d pc : Nat} (hd : decode cc pc = .ok (.ireturn, 1)) : pm_sd own cc nL d 1 pc i_ir := by
  intro post p l e s m args below meth c D ad ta X K hK x h
  obtain ⟨lv, st, hh⟩ := x
  match st, h with
  | [.inl x], h =>
    have h2 : post [.inl x] hh := hK _ _ h
    intro o1 o2 H locs ls hP hD hS hl
    exact W.iret (v := x) X.1 X.2.1 X.2.2.2.2.2.2.2.1 (fun t ht hW => ⟨⟨x, hh, rfl, h2, by rw [pm_B, ht]; exact hP⟩, hS.F ht⟩) hS.2.2 hd X.2.2.2.2.2.2.2.2
  | [], h => exact h.elim
  | [.inr (.inl _)], h => exact h.elim
  | [.inr (.inr _)], h => exact h.elim
  | .inl _ :: _ :: _, h => exact h.elim
  | .inr (.inl _) :: _ :: _, h => exact h.elim
  | .inr (.inr _) :: _ :: _, h => exact h.elim
theorem sd_zr {own : String} {cc : ByteArray} {nL d pc : Nat} (hd : decode cc pc = .ok (.ireturn, 1)) : pm_sd own cc nL d 3 pc i_zr := by
  intro post p l e s m args below meth c D ad ta X K hK x h
  obtain ⟨lv, st, hh⟩ := x
  match st, h with
  | [.inl x], h =>
    have h2 : post [.inl x] hh := hK _ _ h.2
    intro o1 o2 H locs ls hP hD hS hl
    exact W.zret (v := x) (ty := .boolean) X.1 X.2.1 X.2.2.2.2.2.2.2.1 (pm_nz h.1) (fun t ht hW => ⟨⟨x, hh, rfl, h2, by rw [pm_B, ht]; exact hP⟩, hS.F ht⟩) hS.2.2 hd X.2.2.2.2.2.2.2.2
  | [], h => exact h.elim
  | [.inr (.inl _)], h => exact h.elim
  | [.inr (.inr _)], h => exact h.elim
  | .inl _ :: _ :: _, h => exact h.elim
  | .inr (.inl _) :: _ :: _, h => exact h.elim
  | .inr (.inr _) :: _ :: _, h => exact h.elim
theorem sd_lr {own : String} {cc : ByteArray} {nL d pc : Nat} (hd : decode cc pc = .ok (.lreturn, 1)) : pm_sd own cc nL d 2 pc i_lr := by
  intro post p l e s m args below meth c D ad ta X K hK x h
  obtain ⟨lv, st, hh⟩ := x
  match st, h with
  | [.inr (.inl x)], h =>
    have h2 : post [.inr (.inl x)] hh := hK _ _ h
    intro o1 o2 H locs ls hP hD hS hl
    exact W.lret (v := x) X.1 X.2.1 X.2.2.2.2.2.2.2.1 (fun t ht hW => ⟨⟨x, hh, rfl, h2, by rw [pm_B, ht]; exact hP⟩, hS.F ht⟩) hS.2.2 hd X.2.2.2.2.2.2.2.2
  | [], h => exact h.elim
  | [.inl _], h => exact h.elim
  | [.inr (.inr _)], h => exact h.elim
  | .inl _ :: _ :: _, h => exact h.elim
  | .inr (.inl _) :: _ :: _, h => exact h.elim
  | .inr (.inr _) :: _ :: _, h => exact h.elim
theorem sd_vr {own : String} {cc : ByteArray} {nL d pc : Nat} (hd : decode cc pc = .ok (.return_, 1)) : pm_sd own cc nL d 0 pc i_vr := by
  intro post p l e s m args below meth c D ad ta X K hK x h
  obtain ⟨lv, st, hh⟩ := x
  match st, h with
  | [], h =>
    have h2 : post [] hh := hK _ _ h
    intro o1 o2 H locs ls hP hD hS hl
    exact W.vret X.1 X.2.1 X.2.2.2.2.2.2.2.1 (fun t ht hW => ⟨⟨hh, rfl, h2, by rw [pm_B, ht]; exact hP⟩, hS.F ht⟩) hS.2.2 hd X.2.2.2.2.2.2.2.2
  | .inl _ :: _, h => exact h.elim
  | .inr _ :: _, h => exact h.elim
end
