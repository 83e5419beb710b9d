section
-- ===== PART A: goes FIRST, ahead of the names: the tables' words, and 'selects' of the private methods out of them =====
/-- a private method of a class that the tables say can be made, by its rows of tables_1 -/
def lw_okq (q : MethodName × Nat) : Prop := (q.1.cls ≠ "java/lang/invoke/MethodHandle" ∧ q.1.cls ≠ "java/lang/invoke/VarHandle") ∧ Cond.instantiable q.1.cls q.2 ∈ tables_1 ∧ Cond.privateMethod q.1 ∈ tables_1 ∧ Cond.instanceMethod q.1 ∈ tables_1
theorem lw_p0 : lw_okq (⟨"BiscuitLore$Tape", "readToken", "()V"⟩, 12) := ⟨⟨by decide +kernel, by decide +kernel⟩, List.mem_of_getElem? (i := 23) (by decide +kernel), List.mem_of_getElem? (i := 247) (by decide +kernel), List.mem_of_getElem? (i := 248) (by decide +kernel)⟩
theorem lw_p1 : lw_okq (⟨"BiscuitLore$Tape", "skipName", "()V"⟩, 12) := ⟨⟨by decide +kernel, by decide +kernel⟩, List.mem_of_getElem? (i := 23) (by decide +kernel), List.mem_of_getElem? (i := 254) (by decide +kernel), List.mem_of_getElem? (i := 255) (by decide +kernel)⟩
theorem lw_p2 : lw_okq (⟨"BiscuitLore$Tape", "readFigures", "()V"⟩, 12) := ⟨⟨by decide +kernel, by decide +kernel⟩, List.mem_of_getElem? (i := 23) (by decide +kernel), List.mem_of_getElem? (i := 261) (by decide +kernel), List.mem_of_getElem? (i := 262) (by decide +kernel)⟩
theorem lw_p3 : lw_okq (⟨"BiscuitLore$Tape", "blame", "(II)V"⟩, 12) := ⟨⟨by decide +kernel, by decide +kernel⟩, List.mem_of_getElem? (i := 23) (by decide +kernel), List.mem_of_getElem? (i := 265) (by decide +kernel), List.mem_of_getElem? (i := 266) (by decide +kernel)⟩
theorem lw_p4 : lw_okq (⟨"BiscuitLore$Tape", "readLine", "(LBiscuitLore$Larder;)V"⟩, 12) := ⟨⟨by decide +kernel, by decide +kernel⟩, List.mem_of_getElem? (i := 23) (by decide +kernel), List.mem_of_getElem? (i := 269) (by decide +kernel), List.mem_of_getElem? (i := 270) (by decide +kernel)⟩
theorem lw_p5 : lw_okq (⟨"BiscuitLore$Tape", "findWord", "()I"⟩, 12) := ⟨⟨by decide +kernel, by decide +kernel⟩, List.mem_of_getElem? (i := 23) (by decide +kernel), List.mem_of_getElem? (i := 273) (by decide +kernel), List.mem_of_getElem? (i := 274) (by decide +kernel)⟩
theorem lw_p6 : lw_okq (⟨"BiscuitLore$Tape", "isWord", "(Ljava/lang/String;)Z"⟩, 12) := ⟨⟨by decide +kernel, by decide +kernel⟩, List.mem_of_getElem? (i := 23) (by decide +kernel), List.mem_of_getElem? (i := 288) (by decide +kernel), List.mem_of_getElem? (i := 289) (by decide +kernel)⟩
theorem lw_p7 : lw_okq (⟨"BiscuitLore$Tape", "isTwice", "(I)Z"⟩, 12) := ⟨⟨by decide +kernel, by decide +kernel⟩, List.mem_of_getElem? (i := 23) (by decide +kernel), List.mem_of_getElem? (i := 340) (by decide +kernel), List.mem_of_getElem? (i := 341) (by decide +kernel)⟩
theorem lw_p8 : lw_okq (⟨"BiscuitLore$Tape", "readNumbers", "(I)V"⟩, 12) := ⟨⟨by decide +kernel, by decide +kernel⟩, List.mem_of_getElem? (i := 23) (by decide +kernel), List.mem_of_getElem? (i := 347) (by decide +kernel), List.mem_of_getElem? (i := 348) (by decide +kernel)⟩
theorem lw_p9 : lw_okq (⟨"BiscuitLore$Tape", "readMark", "()V"⟩, 12) := ⟨⟨by decide +kernel, by decide +kernel⟩, List.mem_of_getElem? (i := 23) (by decide +kernel), List.mem_of_getElem? (i := 355) (by decide +kernel), List.mem_of_getElem? (i := 356) (by decide +kernel)⟩
theorem lw_p10 : lw_okq (⟨"BiscuitLore$Tape", "write", "(ILBiscuitLore$Larder;)V"⟩, 12) := ⟨⟨by decide +kernel, by decide +kernel⟩, List.mem_of_getElem? (i := 23) (by decide +kernel), List.mem_of_getElem? (i := 359) (by decide +kernel), List.mem_of_getElem? (i := 360) (by decide +kernel)⟩
theorem lw_p11 : lw_okq (⟨"BiscuitLore$Tape", "seekFellows", "(LBiscuitLore$Larder;)V"⟩, 12) := ⟨⟨by decide +kernel, by decide +kernel⟩, List.mem_of_getElem? (i := 23) (by decide +kernel), List.mem_of_getElem? (i := 375) (by decide +kernel), List.mem_of_getElem? (i := 376) (by decide +kernel)⟩
theorem lw_p12 : lw_okq (⟨"BiscuitLore$Larder", "feast", "(I)I"⟩, 14) := ⟨⟨by decide +kernel, by decide +kernel⟩, List.mem_of_getElem? (i := 73) (by decide +kernel), List.mem_of_getElem? (i := 498) (by decide +kernel), List.mem_of_getElem? (i := 499) (by decide +kernel)⟩
theorem lw_p13 : lw_okq (⟨"BiscuitLore", "tryDays", "(I)I"⟩, 10) := ⟨⟨by decide +kernel, by decide +kernel⟩, List.mem_of_getElem? (i := 15) (by decide +kernel), List.mem_of_getElem? (i := 506) (by decide +kernel), List.mem_of_getElem? (i := 507) (by decide +kernel)⟩
theorem lw_p14 : lw_okq (⟨"BiscuitLore", "isKnownBy", "(III)Z"⟩, 10) := ⟨⟨by decide +kernel, by decide +kernel⟩, List.mem_of_getElem? (i := 15) (by decide +kernel), List.mem_of_getElem? (i := 535) (by decide +kernel), List.mem_of_getElem? (i := 536) (by decide +kernel)⟩
theorem lw_p15 : lw_okq (⟨"BiscuitLore", "countAnswered", "()I"⟩, 10) := ⟨⟨by decide +kernel, by decide +kernel⟩, List.mem_of_getElem? (i := 15) (by decide +kernel), List.mem_of_getElem? (i := 547) (by decide +kernel), List.mem_of_getElem? (i := 548) (by decide +kernel)⟩
def lw_privs_1 : List (MethodName × Nat) := [(⟨"BiscuitLore$Tape", "readToken", "()V"⟩, 12), (⟨"BiscuitLore$Tape", "skipName", "()V"⟩, 12), (⟨"BiscuitLore$Tape", "readFigures", "()V"⟩, 12), (⟨"BiscuitLore$Tape", "blame", "(II)V"⟩, 12), (⟨"BiscuitLore$Tape", "readLine", "(LBiscuitLore$Larder;)V"⟩, 12), (⟨"BiscuitLore$Tape", "findWord", "()I"⟩, 12), (⟨"BiscuitLore$Tape", "isWord", "(Ljava/lang/String;)Z"⟩, 12), (⟨"BiscuitLore$Tape", "isTwice", "(I)Z"⟩, 12), (⟨"BiscuitLore$Tape", "readNumbers", "(I)V"⟩, 12), (⟨"BiscuitLore$Tape", "readMark", "()V"⟩, 12), (⟨"BiscuitLore$Tape", "write", "(ILBiscuitLore$Larder;)V"⟩, 12), (⟨"BiscuitLore$Tape", "seekFellows", "(LBiscuitLore$Larder;)V"⟩, 12), (⟨"BiscuitLore$Larder", "feast", "(I)I"⟩, 14), (⟨"BiscuitLore", "tryDays", "(I)I"⟩, 10), (⟨"BiscuitLore", "isKnownBy", "(III)Z"⟩, 10), (⟨"BiscuitLore", "countAnswered", "()I"⟩, 10)]
theorem lw_r1 : ∀ q ∈ lw_privs_1, lw_okq q := List.forall_mem_cons.mpr ⟨lw_p0, List.forall_mem_cons.mpr ⟨lw_p1, List.forall_mem_cons.mpr ⟨lw_p2, List.forall_mem_cons.mpr ⟨lw_p3, List.forall_mem_cons.mpr ⟨lw_p4, List.forall_mem_cons.mpr ⟨lw_p5, List.forall_mem_cons.mpr ⟨lw_p6, List.forall_mem_cons.mpr ⟨lw_p7, List.forall_mem_cons.mpr ⟨lw_p8, List.forall_mem_cons.mpr ⟨lw_p9, List.forall_mem_cons.mpr ⟨lw_p10, List.forall_mem_cons.mpr ⟨lw_p11, List.forall_mem_cons.mpr ⟨lw_p12, List.forall_mem_cons.mpr ⟨lw_p13, List.forall_mem_cons.mpr ⟨lw_p14, List.forall_mem_cons.mpr ⟨lw_p15, fun _ h => absurd h List.not_mem_nil⟩⟩⟩⟩⟩⟩⟩⟩⟩⟩⟩⟩⟩⟩⟩⟩
theorem lw_p16 : lw_okq (⟨"BiscuitLore", "weigh", "(IIIII)J"⟩, 10) := ⟨⟨by decide +kernel, by decide +kernel⟩, List.mem_of_getElem? (i := 15) (by decide +kernel), List.mem_of_getElem? (i := 588) (by decide +kernel), List.mem_of_getElem? (i := 589) (by decide +kernel)⟩
theorem lw_p17 : lw_okq (⟨"BiscuitLore", "outcome", "(II)J"⟩, 10) := ⟨⟨by decide +kernel, by decide +kernel⟩, List.mem_of_getElem? (i := 15) (by decide +kernel), List.mem_of_getElem? (i := 592) (by decide +kernel), List.mem_of_getElem? (i := 593) (by decide +kernel)⟩
theorem lw_p18 : lw_okq (⟨"BiscuitLore", "kindsLeft", "(I)I"⟩, 10) := ⟨⟨by decide +kernel, by decide +kernel⟩, List.mem_of_getElem? (i := 15) (by decide +kernel), List.mem_of_getElem? (i := 624) (by decide +kernel), List.mem_of_getElem? (i := 625) (by decide +kernel)⟩
theorem lw_p19 : lw_okq (⟨"BiscuitLore$Sight", "lastDay", "()I"⟩, 5) := ⟨⟨by decide +kernel, by decide +kernel⟩, List.mem_of_getElem? (i := 143) (by decide +kernel), List.mem_of_getElem? (i := 632) (by decide +kernel), List.mem_of_getElem? (i := 633) (by decide +kernel)⟩
theorem lw_p20 : lw_okq (⟨"BiscuitLore$Sight", "fitsBehind", "(ILBiscuitLore$Larder;)Z"⟩, 5) := ⟨⟨by decide +kernel, by decide +kernel⟩, List.mem_of_getElem? (i := 143) (by decide +kernel), List.mem_of_getElem? (i := 639) (by decide +kernel), List.mem_of_getElem? (i := 640) (by decide +kernel)⟩
theorem lw_p21 : lw_okq (⟨"BiscuitLore", "tallyKnowers", "(II)V"⟩, 10) := ⟨⟨by decide +kernel, by decide +kernel⟩, List.mem_of_getElem? (i := 15) (by decide +kernel), List.mem_of_getElem? (i := 653) (by decide +kernel), List.mem_of_getElem? (i := 654) (by decide +kernel)⟩
theorem lw_p22 : lw_okq (⟨"BiscuitLore", "tallyDays", "(I)V"⟩, 10) := ⟨⟨by decide +kernel, by decide +kernel⟩, List.mem_of_getElem? (i := 15) (by decide +kernel), List.mem_of_getElem? (i := 657) (by decide +kernel), List.mem_of_getElem? (i := 658) (by decide +kernel)⟩
theorem lw_p23 : lw_okq (⟨"BiscuitLoreModel", "step", "()V"⟩, 26) := ⟨⟨by decide +kernel, by decide +kernel⟩, List.mem_of_getElem? (i := 712) (by decide +kernel), List.mem_of_getElem? (i := 813) (by decide +kernel), List.mem_of_getElem? (i := 814) (by decide +kernel)⟩
theorem lw_p24 : lw_okq (⟨"BiscuitLoreModel", "byteAt", "(I)I"⟩, 26) := ⟨⟨by decide +kernel, by decide +kernel⟩, List.mem_of_getElem? (i := 712) (by decide +kernel), List.mem_of_getElem? (i := 817) (by decide +kernel), List.mem_of_getElem? (i := 818) (by decide +kernel)⟩
theorem lw_p25 : lw_okq (⟨"BiscuitLoreModel", "fails", "(I)V"⟩, 26) := ⟨⟨by decide +kernel, by decide +kernel⟩, List.mem_of_getElem? (i := 712) (by decide +kernel), List.mem_of_getElem? (i := 825) (by decide +kernel), List.mem_of_getElem? (i := 826) (by decide +kernel)⟩
theorem lw_p26 : lw_okq (⟨"BiscuitLoreModel", "readLine", "()V"⟩, 26) := ⟨⟨by decide +kernel, by decide +kernel⟩, List.mem_of_getElem? (i := 712) (by decide +kernel), List.mem_of_getElem? (i := 829) (by decide +kernel), List.mem_of_getElem? (i := 830) (by decide +kernel)⟩
theorem lw_p27 : lw_okq (⟨"BiscuitLoreModel", "nameHere", "()I"⟩, 26) := ⟨⟨by decide +kernel, by decide +kernel⟩, List.mem_of_getElem? (i := 712) (by decide +kernel), List.mem_of_getElem? (i := 833) (by decide +kernel), List.mem_of_getElem? (i := 834) (by decide +kernel)⟩
theorem lw_p28 : lw_okq (⟨"BiscuitLoreModel", "isFull", "(I)Z"⟩, 26) := ⟨⟨by decide +kernel, by decide +kernel⟩, List.mem_of_getElem? (i := 712) (by decide +kernel), List.mem_of_getElem? (i := 838) (by decide +kernel), List.mem_of_getElem? (i := 839) (by decide +kernel)⟩
theorem lw_p29 : lw_okq (⟨"BiscuitLoreModel", "readMore", "(I)V"⟩, 26) := ⟨⟨by decide +kernel, by decide +kernel⟩, List.mem_of_getElem? (i := 712) (by decide +kernel), List.mem_of_getElem? (i := 842) (by decide +kernel), List.mem_of_getElem? (i := 843) (by decide +kernel)⟩
theorem lw_p30 : lw_okq (⟨"BiscuitLoreModel", "readBiscuit", "(I)V"⟩, 26) := ⟨⟨by decide +kernel, by decide +kernel⟩, List.mem_of_getElem? (i := 712) (by decide +kernel), List.mem_of_getElem? (i := 846) (by decide +kernel), List.mem_of_getElem? (i := 847) (by decide +kernel)⟩
theorem lw_p31 : lw_okq (⟨"BiscuitLoreModel", "number", "(II)I"⟩, 26) := ⟨⟨by decide +kernel, by decide +kernel⟩, List.mem_of_getElem? (i := 712) (by decide +kernel), List.mem_of_getElem? (i := 850) (by decide +kernel), List.mem_of_getElem? (i := 851) (by decide +kernel)⟩
def lw_privs_2 : List (MethodName × Nat) := [(⟨"BiscuitLore", "weigh", "(IIIII)J"⟩, 10), (⟨"BiscuitLore", "outcome", "(II)J"⟩, 10), (⟨"BiscuitLore", "kindsLeft", "(I)I"⟩, 10), (⟨"BiscuitLore$Sight", "lastDay", "()I"⟩, 5), (⟨"BiscuitLore$Sight", "fitsBehind", "(ILBiscuitLore$Larder;)Z"⟩, 5), (⟨"BiscuitLore", "tallyKnowers", "(II)V"⟩, 10), (⟨"BiscuitLore", "tallyDays", "(I)V"⟩, 10), (⟨"BiscuitLoreModel", "step", "()V"⟩, 26), (⟨"BiscuitLoreModel", "byteAt", "(I)I"⟩, 26), (⟨"BiscuitLoreModel", "fails", "(I)V"⟩, 26), (⟨"BiscuitLoreModel", "readLine", "()V"⟩, 26), (⟨"BiscuitLoreModel", "nameHere", "()I"⟩, 26), (⟨"BiscuitLoreModel", "isFull", "(I)Z"⟩, 26), (⟨"BiscuitLoreModel", "readMore", "(I)V"⟩, 26), (⟨"BiscuitLoreModel", "readBiscuit", "(I)V"⟩, 26), (⟨"BiscuitLoreModel", "number", "(II)I"⟩, 26)]
theorem lw_r2 : ∀ q ∈ lw_privs_2, lw_okq q := List.forall_mem_cons.mpr ⟨lw_p16, List.forall_mem_cons.mpr ⟨lw_p17, List.forall_mem_cons.mpr ⟨lw_p18, List.forall_mem_cons.mpr ⟨lw_p19, List.forall_mem_cons.mpr ⟨lw_p20, List.forall_mem_cons.mpr ⟨lw_p21, List.forall_mem_cons.mpr ⟨lw_p22, List.forall_mem_cons.mpr ⟨lw_p23, List.forall_mem_cons.mpr ⟨lw_p24, List.forall_mem_cons.mpr ⟨lw_p25, List.forall_mem_cons.mpr ⟨lw_p26, List.forall_mem_cons.mpr ⟨lw_p27, List.forall_mem_cons.mpr ⟨lw_p28, List.forall_mem_cons.mpr ⟨lw_p29, List.forall_mem_cons.mpr ⟨lw_p30, List.forall_mem_cons.mpr ⟨lw_p31, fun _ h => absurd h List.not_mem_nil⟩⟩⟩⟩⟩⟩⟩⟩⟩⟩⟩⟩⟩⟩⟩⟩
theorem lw_p32 : lw_okq (⟨"BiscuitLoreModel", "dampOn", "(I)I"⟩, 26) := ⟨⟨by decide +kernel, by decide +kernel⟩, List.mem_of_getElem? (i := 712) (by decide +kernel), List.mem_of_getElem? (i := 862) (by decide +kernel), List.mem_of_getElem? (i := 863) (by decide +kernel)⟩
theorem lw_p33 : lw_okq (⟨"BiscuitLoreModel", "crumbsOn", "(II)I"⟩, 26) := ⟨⟨by decide +kernel, by decide +kernel⟩, List.mem_of_getElem? (i := 712) (by decide +kernel), List.mem_of_getElem? (i := 866) (by decide +kernel), List.mem_of_getElem? (i := 867) (by decide +kernel)⟩
theorem lw_p34 : lw_okq (⟨"BiscuitLoreModel", "subjectsOn", "(II)I"⟩, 26) := ⟨⟨by decide +kernel, by decide +kernel⟩, List.mem_of_getElem? (i := 712) (by decide +kernel), List.mem_of_getElem? (i := 870) (by decide +kernel), List.mem_of_getElem? (i := 871) (by decide +kernel)⟩
theorem lw_p35 : lw_okq (⟨"BiscuitLoreModel", "isFellow", "(I)Z"⟩, 26) := ⟨⟨by decide +kernel, by decide +kernel⟩, List.mem_of_getElem? (i := 712) (by decide +kernel), List.mem_of_getElem? (i := 878) (by decide +kernel), List.mem_of_getElem? (i := 879) (by decide +kernel)⟩
theorem lw_p36 : lw_okq (⟨"BiscuitLoreModel", "isBiscuit", "(I)Z"⟩, 26) := ⟨⟨by decide +kernel, by decide +kernel⟩, List.mem_of_getElem? (i := 712) (by decide +kernel), List.mem_of_getElem? (i := 886) (by decide +kernel), List.mem_of_getElem? (i := 887) (by decide +kernel)⟩
theorem lw_p37 : lw_okq (⟨"BiscuitLoreModel", "spoilsOn", "(III)I"⟩, 26) := ⟨⟨by decide +kernel, by decide +kernel⟩, List.mem_of_getElem? (i := 712) (by decide +kernel), List.mem_of_getElem? (i := 891) (by decide +kernel), List.mem_of_getElem? (i := 892) (by decide +kernel)⟩
theorem lw_p38 : lw_okq (⟨"BiscuitLoreModel", "isGood", "(II)Z"⟩, 26) := ⟨⟨by decide +kernel, by decide +kernel⟩, List.mem_of_getElem? (i := 712) (by decide +kernel), List.mem_of_getElem? (i := 911) (by decide +kernel), List.mem_of_getElem? (i := 912) (by decide +kernel)⟩
theorem lw_p39 : lw_okq (⟨"BiscuitLoreModel", "puts", "(ZIII)I"⟩, 26) := ⟨⟨by decide +kernel, by decide +kernel⟩, List.mem_of_getElem? (i := 712) (by decide +kernel), List.mem_of_getElem? (i := 917) (by decide +kernel), List.mem_of_getElem? (i := 918) (by decide +kernel)⟩
theorem lw_p40 : lw_okq (⟨"BiscuitLoreModel", "bakes", "(IIII)I"⟩, 26) := ⟨⟨by decide +kernel, by decide +kernel⟩, List.mem_of_getElem? (i := 712) (by decide +kernel), List.mem_of_getElem? (i := 946) (by decide +kernel), List.mem_of_getElem? (i := 947) (by decide +kernel)⟩
theorem lw_p41 : lw_okq (⟨"BiscuitLoreModel", "dayOn", "(II)I"⟩, 26) := ⟨⟨by decide +kernel, by decide +kernel⟩, List.mem_of_getElem? (i := 712) (by decide +kernel), List.mem_of_getElem? (i := 955) (by decide +kernel), List.mem_of_getElem? (i := 956) (by decide +kernel)⟩
theorem lw_p42 : lw_okq (⟨"BiscuitLoreModel", "asksOn", "(I)V"⟩, 26) := ⟨⟨by decide +kernel, by decide +kernel⟩, List.mem_of_getElem? (i := 712) (by decide +kernel), List.mem_of_getElem? (i := 959) (by decide +kernel), List.mem_of_getElem? (i := 960) (by decide +kernel)⟩
theorem lw_p43 : lw_okq (⟨"BiscuitLoreModel", "eatsOn", "(II)I"⟩, 26) := ⟨⟨by decide +kernel, by decide +kernel⟩, List.mem_of_getElem? (i := 712) (by decide +kernel), List.mem_of_getElem? (i := 963) (by decide +kernel), List.mem_of_getElem? (i := 964) (by decide +kernel)⟩
theorem lw_p44 : lw_okq (⟨"BiscuitLoreModel", "daysGo", "(II)V"⟩, 26) := ⟨⟨by decide +kernel, by decide +kernel⟩, List.mem_of_getElem? (i := 712) (by decide +kernel), List.mem_of_getElem? (i := 972) (by decide +kernel), List.mem_of_getElem? (i := 973) (by decide +kernel)⟩
theorem lw_p45 : lw_okq (⟨"BiscuitLoreModel", "copies", "(II)V"⟩, 26) := ⟨⟨by decide +kernel, by decide +kernel⟩, List.mem_of_getElem? (i := 712) (by decide +kernel), List.mem_of_getElem? (i := 976) (by decide +kernel), List.mem_of_getElem? (i := 977) (by decide +kernel)⟩
theorem lw_p46 : lw_okq (⟨"BiscuitLoreModel", "hungerOn", "(I)I"⟩, 26) := ⟨⟨by decide +kernel, by decide +kernel⟩, List.mem_of_getElem? (i := 712) (by decide +kernel), List.mem_of_getElem? (i := 980) (by decide +kernel), List.mem_of_getElem? (i := 981) (by decide +kernel)⟩
theorem lw_p47 : lw_okq (⟨"BiscuitLoreModel", "answersOf", "(I)I"⟩, 26) := ⟨⟨by decide +kernel, by decide +kernel⟩, List.mem_of_getElem? (i := 712) (by decide +kernel), List.mem_of_getElem? (i := 1004) (by decide +kernel), List.mem_of_getElem? (i := 1005) (by decide +kernel)⟩
def lw_privs_3 : List (MethodName × Nat) := [(⟨"BiscuitLoreModel", "dampOn", "(I)I"⟩, 26), (⟨"BiscuitLoreModel", "crumbsOn", "(II)I"⟩, 26), (⟨"BiscuitLoreModel", "subjectsOn", "(II)I"⟩, 26), (⟨"BiscuitLoreModel", "isFellow", "(I)Z"⟩, 26), (⟨"BiscuitLoreModel", "isBiscuit", "(I)Z"⟩, 26), (⟨"BiscuitLoreModel", "spoilsOn", "(III)I"⟩, 26), (⟨"BiscuitLoreModel", "isGood", "(II)Z"⟩, 26), (⟨"BiscuitLoreModel", "puts", "(ZIII)I"⟩, 26), (⟨"BiscuitLoreModel", "bakes", "(IIII)I"⟩, 26), (⟨"BiscuitLoreModel", "dayOn", "(II)I"⟩, 26), (⟨"BiscuitLoreModel", "asksOn", "(I)V"⟩, 26), (⟨"BiscuitLoreModel", "eatsOn", "(II)I"⟩, 26), (⟨"BiscuitLoreModel", "daysGo", "(II)V"⟩, 26), (⟨"BiscuitLoreModel", "copies", "(II)V"⟩, 26), (⟨"BiscuitLoreModel", "hungerOn", "(I)I"⟩, 26), (⟨"BiscuitLoreModel", "answersOf", "(I)I"⟩, 26)]
theorem lw_r3 : ∀ q ∈ lw_privs_3, lw_okq q := List.forall_mem_cons.mpr ⟨lw_p32, List.forall_mem_cons.mpr ⟨lw_p33, List.forall_mem_cons.mpr ⟨lw_p34, List.forall_mem_cons.mpr ⟨lw_p35, List.forall_mem_cons.mpr ⟨lw_p36, List.forall_mem_cons.mpr ⟨lw_p37, List.forall_mem_cons.mpr ⟨lw_p38, List.forall_mem_cons.mpr ⟨lw_p39, List.forall_mem_cons.mpr ⟨lw_p40, List.forall_mem_cons.mpr ⟨lw_p41, List.forall_mem_cons.mpr ⟨lw_p42, List.forall_mem_cons.mpr ⟨lw_p43, List.forall_mem_cons.mpr ⟨lw_p44, List.forall_mem_cons.mpr ⟨lw_p45, List.forall_mem_cons.mpr ⟨lw_p46, List.forall_mem_cons.mpr ⟨lw_p47, fun _ h => absurd h List.not_mem_nil⟩⟩⟩⟩⟩⟩⟩⟩⟩⟩⟩⟩⟩⟩⟩⟩
theorem lw_p48 : lw_okq (⟨"BiscuitLoreModel", "byDamp", "(IIIII)J"⟩, 26) := ⟨⟨by decide +kernel, by decide +kernel⟩, List.mem_of_getElem? (i := 712) (by decide +kernel), List.mem_of_getElem? (i := 1033) (by decide +kernel), List.mem_of_getElem? (i := 1034) (by decide +kernel)⟩
theorem lw_p49 : lw_okq (⟨"BiscuitLoreModel", "kindsOf", "(I)I"⟩, 26) := ⟨⟨by decide +kernel, by decide +kernel⟩, List.mem_of_getElem? (i := 712) (by decide +kernel), List.mem_of_getElem? (i := 1057) (by decide +kernel), List.mem_of_getElem? (i := 1058) (by decide +kernel)⟩
theorem lw_p50 : lw_okq (⟨"BiscuitLoreModel", "isAsSeen", "(II)Z"⟩, 26) := ⟨⟨by decide +kernel, by decide +kernel⟩, List.mem_of_getElem? (i := 712) (by decide +kernel), List.mem_of_getElem? (i := 1061) (by decide +kernel), List.mem_of_getElem? (i := 1062) (by decide +kernel)⟩
def lw_privs_4 : List (MethodName × Nat) := [(⟨"BiscuitLoreModel", "byDamp", "(IIIII)J"⟩, 26), (⟨"BiscuitLoreModel", "kindsOf", "(I)I"⟩, 26), (⟨"BiscuitLoreModel", "isAsSeen", "(II)Z"⟩, 26)]
theorem lw_r4 : ∀ q ∈ lw_privs_4, lw_okq q := List.forall_mem_cons.mpr ⟨lw_p48, List.forall_mem_cons.mpr ⟨lw_p49, List.forall_mem_cons.mpr ⟨lw_p50, fun _ h => absurd h List.not_mem_nil⟩⟩⟩
def lw_privs : List (MethodName × Nat) := lw_privs_1 ++ (lw_privs_2 ++ (lw_privs_3 ++ (lw_privs_4)))
def lw_tbl : List Cond := k2_sels lw_privs ++ tables_1
theorem lw_privs_ok : ∀ q ∈ lw_privs, lw_okq q := by
  show ∀ q ∈ lw_privs_1 ++ (lw_privs_2 ++ (lw_privs_3 ++ (lw_privs_4))), lw_okq q
  exact List.forall_mem_append.mpr ⟨lw_r1, List.forall_mem_append.mpr ⟨lw_r2, List.forall_mem_append.mpr ⟨lw_r3, lw_r4⟩⟩⟩
end
section
/-! ===== BEGIN words of one list among another's, by their places ===== -/
theorem goodIn_r {big : List Cond} (ws : List Cond) (ps : List Nat) (hp : ws = ps.filterMap (fun i => big[i]?)) (h : ws.all goodWord = true) : GoodIn big ws := by
  intro w hw
  have h1 := List.all_eq_true.mp h w hw
  rw [hp] at hw
  obtain ⟨i, -, hi⟩ := List.mem_filterMap.mp hw
  have hm : w ∈ big := by first | exact List.mem_of_getElem? hi | exact List.getElem?_mem hi
  exact ⟨hm, good_of_word h1⟩
theorem goodIn_app {big a b : List Cond} (ha : GoodIn big a) (hb : GoodIn big b) : GoodIn big (a ++ b) := fun w h => (List.mem_append.mp h).elim (ha w) (hb w)
theorem goodIn_ca {big a b : List Cond} {c : Cond} (ha : GoodIn big (c :: a)) (hb : GoodIn big b) : GoodIn big (c :: (a ++ b)) := fun w h => (List.mem_cons.mp h).elim (fun e => ha w (List.mem_cons.mpr (Or.inl e))) (fun h => (List.mem_append.mp h).elim (fun h => ha w (List.mem_cons.mpr (Or.inr h))) (hb w))
theorem goodIn_sub {big ws : List Cond} (hm : ∀ w ∈ ws, w ∈ big) (h : ws.all goodWord = true) : GoodIn big ws := fun w hw => ⟨hm w hw, good_of_word (List.all_eq_true.mp h w hw)⟩
/-! ===== END ===== -/

def RX0 : String := "BiscuitLore$Larder"
def TX0 : u_T := fun k => match k with
  | 0 => ("BiscuitLore$Larder", "fellows", "I", false)
  | 1 => ("BiscuitLore$Larder", "appetite", "[I", true)
  | 2 => ("BiscuitLore$Larder", "hunger", "[I", true)
  | 3 => ("BiscuitLore$Larder", "biscuits", "I", false)
  | 4 => ("BiscuitLore$Larder", "kind", "[I", true)
  | 5 => ("BiscuitLore$Larder", "subject", "[I", true)
  | 6 => ("BiscuitLore$Larder", "crumbs", "[I", true)
  | 7 => ("BiscuitLore$Larder", "whose", "[I", true)
  | 8 => ("BiscuitLore$Larder", "damp", "I", false)
  | 9 => ("BiscuitLore$Larder", "bite", "I", false)
  | 10 => ("BiscuitLore$Larder", "day", "I", false)
  | 11 => ("BiscuitLore$Larder", "questions", "I", false)
  | 12 => ("BiscuitLore$Larder", "askDay", "[I", true)
  | _ => ("BiscuitLore$Larder", "askSubject", "[I", true)
def tyX0 : Nat → FieldType := fun k => match k with
  | 0 => .int
  | 1 => .array .int
  | 2 => .array .int
  | 3 => .int
  | 4 => .array .int
  | 5 => .array .int
  | 6 => .array .int
  | 7 => .array .int
  | 8 => .int
  | 9 => .int
  | 10 => .int
  | 11 => .int
  | 12 => .array .int
  | _ => .array .int
abbrev wsX00 : List Cond := u_ws RX0 TX0 14
theorem nmX0 : ∀ a, a < 14 → ∀ b, b < 14 → a ≠ b → (TX0 a).2.1 ≠ (TX0 b).2.1 := by decide +kernel
theorem tyX0_ok : ∀ k, k < 14 → parseFieldDescriptor (TX0 k).2.2.1 = some (tyX0 k) := by decide +kernel
abbrev cX0_init : ByteArray := prog_2_method_1_code
def yX0_init : MethodName := ⟨RX0, "<init>", "()V"⟩
abbrev cX0_empty : ByteArray := prog_2_method_2_code
def yX0_empty : MethodName := ⟨RX0, "empty", "()V"⟩
abbrev cX0_take : ByteArray := prog_2_method_3_code
def yX0_take : MethodName := ⟨RX0, "take", "(LBiscuitLore$Larder;)V"⟩
abbrev cX0_hasFellow : ByteArray := prog_2_method_4_code
def yX0_hasFellow : MethodName := ⟨RX0, "hasFellow", "(I)Z"⟩
abbrev cX0_hasBiscuit : ByteArray := prog_2_method_5_code
def yX0_hasBiscuit : MethodName := ⟨RX0, "hasBiscuit", "(I)Z"⟩
abbrev cX0_addFellow : ByteArray := prog_2_method_6_code
def yX0_addFellow : MethodName := ⟨RX0, "addFellow", "(I)Z"⟩
abbrev cX0_addBiscuit : ByteArray := prog_2_method_7_code
def yX0_addBiscuit : MethodName := ⟨RX0, "addBiscuit", "(IIII)Z"⟩
abbrev cX0_addQuestion : ByteArray := prog_2_method_8_code
def yX0_addQuestion : MethodName := ⟨RX0, "addQuestion", "(II)Z"⟩
abbrev cX0_exchange : ByteArray := prog_2_method_9_code
def yX0_exchange : MethodName := ⟨RX0, "exchange", "(II)V"⟩
abbrev cX0_trade : ByteArray := prog_2_method_10_code
def yX0_trade : MethodName := ⟨RX0, "trade", "([III)V"⟩
abbrev cX0_spoilOf : ByteArray := prog_2_method_11_code
def yX0_spoilOf : MethodName := ⟨RX0, "spoilOf", "(I)I"⟩
abbrev cX0_isKnower : ByteArray := prog_2_method_12_code
def yX0_isKnower : MethodName := ⟨RX0, "isKnower", "(II)Z"⟩
abbrev cX0_knowersOf : ByteArray := prog_2_method_13_code
def yX0_knowersOf : MethodName := ⟨RX0, "knowersOf", "(I)I"⟩
abbrev cX0_loreOf : ByteArray := prog_2_method_14_code
def yX0_loreOf : MethodName := ⟨RX0, "loreOf", "(I)I"⟩
abbrev cX0_allLore : ByteArray := prog_2_method_15_code
def yX0_allLore : MethodName := ⟨RX0, "allLore", "()I"⟩
abbrev cX0_ownedBy : ByteArray := prog_2_method_16_code
def yX0_ownedBy : MethodName := ⟨RX0, "ownedBy", "(I)I"⟩
abbrev cX0_crumbsOf : ByteArray := prog_2_method_17_code
def yX0_crumbsOf : MethodName := ⟨RX0, "crumbsOf", "(I)I"⟩
abbrev cX0_allCrumbs : ByteArray := prog_2_method_18_code
def yX0_allCrumbs : MethodName := ⟨RX0, "allCrumbs", "()I"⟩
abbrev cX0_allHunger : ByteArray := prog_2_method_19_code
def yX0_allHunger : MethodName := ⟨RX0, "allHunger", "()I"⟩
abbrev cX0_allAppetites : ByteArray := prog_2_method_20_code
def yX0_allAppetites : MethodName := ⟨RX0, "allAppetites", "()I"⟩
abbrev cX0_sumOf : ByteArray := prog_2_method_21_code
def yX0_sumOf : MethodName := ⟨RX0, "sumOf", "([II)I"⟩
abbrev cX0_answers : ByteArray := prog_2_method_22_code
def yX0_answers : MethodName := ⟨RX0, "answers", "()I"⟩
abbrev cX0_live : ByteArray := prog_2_method_23_code
def yX0_live : MethodName := ⟨RX0, "live", "()I"⟩
abbrev cX0_feast : ByteArray := prog_2_method_24_code
def yX0_feast : MethodName := ⟨RX0, "feast", "(I)I"⟩
def RX1 : String := "BiscuitLore$Sheet"
def TX1 : u_T := fun k => match k with
  | 0 => ("BiscuitLore$Sheet", "there", "Z", false)
  | 1 => ("BiscuitLore$Sheet", "lane", "I", false)
  | 2 => ("BiscuitLore$Sheet", "size", "I", false)
  | _ => ("BiscuitLore$Sheet", "cells", "[I", true)
def tyX1 : Nat → FieldType := fun k => match k with
  | 0 => .boolean
  | 1 => .int
  | 2 => .int
  | _ => .array .int
abbrev wsX10 : List Cond := u_ws RX1 TX1 4
theorem nmX1 : ∀ a, a < 4 → ∀ b, b < 4 → a ≠ b → (TX1 a).2.1 ≠ (TX1 b).2.1 := by decide +kernel
theorem tyX1_ok : ∀ k, k < 4 → parseFieldDescriptor (TX1 k).2.2.1 = some (tyX1 k) := by decide +kernel
abbrev cX1_init : ByteArray := prog_3_method_1_code
def yX1_init : MethodName := ⟨RX1, "<init>", "()V"⟩
abbrev cX1_renew : ByteArray := prog_3_method_2_code
def yX1_renew : MethodName := ⟨RX1, "renew", "(II)V"⟩
abbrev cX1_faultAt : ByteArray := prog_3_method_3_code
def yX1_faultAt : MethodName := ⟨RX1, "faultAt", "(III)I"⟩
abbrev cX1_narrow : ByteArray := prog_3_method_4_code
def yX1_narrow : MethodName := ⟨RX1, "narrow", "(I)I"⟩
def RX2 : String := "BiscuitLore$Sight"
def TX2 : u_T := fun k => match k with
  | 0 => ("BiscuitLore$Sight", "many", "I", false)
  | 1 => ("BiscuitLore$Sight", "behind", "[I", true)
  | 2 => ("BiscuitLore$Sight", "who", "[I", true)
  | 3 => ("BiscuitLore$Sight", "of", "[I", true)
  | _ => ("BiscuitLore$Sight", "known", "[Z", true)
def tyX2 : Nat → FieldType := fun k => match k with
  | 0 => .int
  | 1 => .array .int
  | 2 => .array .int
  | 3 => .array .int
  | _ => .array .boolean
abbrev wsX20 : List Cond := u_ws RX2 TX2 5
theorem nmX2 : ∀ a, a < 5 → ∀ b, b < 5 → a ≠ b → (TX2 a).2.1 ≠ (TX2 b).2.1 := by decide +kernel
theorem tyX2_ok : ∀ k, k < 5 → parseFieldDescriptor (TX2 k).2.2.1 = some (tyX2 k) := by decide +kernel
abbrev cX2_init : ByteArray := prog_4_method_1_code
def yX2_init : MethodName := ⟨RX2, "<init>", "()V"⟩
abbrev cX2_add : ByteArray := prog_4_method_2_code
def yX2_add : MethodName := ⟨RX2, "add", "(IIIZ)Z"⟩
abbrev cX2_fits : ByteArray := prog_4_method_3_code
def yX2_fits : MethodName := ⟨RX2, "fits", "(LBiscuitLore$Larder;)Z"⟩
abbrev cX2_lastDay : ByteArray := prog_4_method_4_code
def yX2_lastDay : MethodName := ⟨RX2, "lastDay", "()I"⟩
abbrev cX2_fitsBehind : ByteArray := prog_4_method_5_code
def yX2_fitsBehind : MethodName := ⟨RX2, "fitsBehind", "(ILBiscuitLore$Larder;)Z"⟩
def RX3 : String := "BiscuitLore$Tape"
def TX3 : u_T := fun k => match k with
  | 0 => ("BiscuitLore$Tape", "bytes", "[B", true)
  | 1 => ("BiscuitLore$Tape", "length", "I", false)
  | 2 => ("BiscuitLore$Tape", "fault", "I", false)
  | 3 => ("BiscuitLore$Tape", "place", "I", false)
  | 4 => ("BiscuitLore$Tape", "lines", "I", false)
  | 5 => ("BiscuitLore$Tape", "at", "I", false)
  | 6 => ("BiscuitLore$Tape", "start", "I", false)
  | 7 => ("BiscuitLore$Tape", "sort", "I", false)
  | 8 => ("BiscuitLore$Tape", "value", "I", false)
  | 9 => ("BiscuitLore$Tape", "hasDamp", "Z", false)
  | 10 => ("BiscuitLore$Tape", "hasBite", "Z", false)
  | _ => ("BiscuitLore$Tape", "numbers", "[I", true)
def tyX3 : Nat → FieldType := fun k => match k with
  | 0 => .array .byte
  | 1 => .int
  | 2 => .int
  | 3 => .int
  | 4 => .int
  | 5 => .int
  | 6 => .int
  | 7 => .int
  | 8 => .int
  | 9 => .boolean
  | 10 => .boolean
  | _ => .array .int
abbrev wsX30 : List Cond := u_ws RX3 TX3 12
theorem nmX3 : ∀ a, a < 12 → ∀ b, b < 12 → a ≠ b → (TX3 a).2.1 ≠ (TX3 b).2.1 := by decide +kernel
theorem tyX3_ok : ∀ k, k < 12 → parseFieldDescriptor (TX3 k).2.2.1 = some (tyX3 k) := by decide +kernel
abbrev cX3_init : ByteArray := prog_5_method_1_code
def yX3_init : MethodName := ⟨RX3, "<init>", "()V"⟩
abbrev cX3_tell : ByteArray := prog_5_method_2_code
def yX3_tell : MethodName := ⟨RX3, "tell", "(LBiscuitLore$Larder;)Z"⟩
abbrev cX3_blame : ByteArray := prog_5_method_3_code
def yX3_blame : MethodName := ⟨RX3, "blame", "(II)V"⟩
abbrev cX3_readLine : ByteArray := prog_5_method_4_code
def yX3_readLine : MethodName := ⟨RX3, "readLine", "(LBiscuitLore$Larder;)V"⟩
abbrev cX3_readNumbers : ByteArray := prog_5_method_5_code
def yX3_readNumbers : MethodName := ⟨RX3, "readNumbers", "(I)V"⟩
abbrev cX3_readMark : ByteArray := prog_5_method_6_code
def yX3_readMark : MethodName := ⟨RX3, "readMark", "()V"⟩
abbrev cX3_isTwice : ByteArray := prog_5_method_7_code
def yX3_isTwice : MethodName := ⟨RX3, "isTwice", "(I)Z"⟩
abbrev cX3_isFull : ByteArray := prog_5_method_8_code
def yX3_isFull : MethodName := ⟨RX3, "isFull", "(ILBiscuitLore$Larder;)Z"⟩
abbrev cX3_write : ByteArray := prog_5_method_9_code
def yX3_write : MethodName := ⟨RX3, "write", "(ILBiscuitLore$Larder;)V"⟩
abbrev cX3_seekFellows : ByteArray := prog_5_method_10_code
def yX3_seekFellows : MethodName := ⟨RX3, "seekFellows", "(LBiscuitLore$Larder;)V"⟩
abbrev cX3_readToken : ByteArray := prog_5_method_11_code
def yX3_readToken : MethodName := ⟨RX3, "readToken", "()V"⟩
abbrev cX3_skipName : ByteArray := prog_5_method_12_code
def yX3_skipName : MethodName := ⟨RX3, "skipName", "()V"⟩
abbrev cX3_readFigures : ByteArray := prog_5_method_13_code
def yX3_readFigures : MethodName := ⟨RX3, "readFigures", "()V"⟩
abbrev cX3_isLetter : ByteArray := prog_5_method_14_code
def yX3_isLetter : MethodName := ⟨RX3, "isLetter", "(I)Z"⟩
abbrev cX3_isFigure : ByteArray := prog_5_method_15_code
def yX3_isFigure : MethodName := ⟨RX3, "isFigure", "(I)Z"⟩
abbrev cX3_findWord : ByteArray := prog_5_method_16_code
def yX3_findWord : MethodName := ⟨RX3, "findWord", "()I"⟩
abbrev cX3_isWord : ByteArray := prog_5_method_17_code
def yX3_isWord : MethodName := ⟨RX3, "isWord", "(Ljava/lang/String;)Z"⟩
abbrev cX3_wordOf : ByteArray := prog_5_method_18_code
def yX3_wordOf : MethodName := ⟨RX3, "wordOf", "(I)Ljava/lang/String;"⟩
def RX4 : String := "BiscuitLore"
def TX4 : u_T := fun k => match k with
  | 0 => ("BiscuitLore", "tape", "LBiscuitLore$Tape;", true)
  | 1 => ("BiscuitLore", "now", "LBiscuitLore$Larder;", true)
  | 2 => ("BiscuitLore", "trial", "LBiscuitLore$Larder;", true)
  | 3 => ("BiscuitLore", "images", "[LBiscuitLore$Larder;", true)
  | 4 => ("BiscuitLore", "kept", "[Z", true)
  | 5 => ("BiscuitLore", "seen", "LBiscuitLore$Sight;", true)
  | 6 => ("BiscuitLore", "sheets", "[LBiscuitLore$Sheet;", true)
  | 7 => ("BiscuitLore", "crumbsAt", "[[I", true)
  | 8 => ("BiscuitLore", "knewAt", "[I", true)
  | _ => ("BiscuitLore", "tear", "I", false)
def tyX4 : Nat → FieldType := fun k => match k with
  | 0 => .object "BiscuitLore$Tape"
  | 1 => .object "BiscuitLore$Larder"
  | 2 => .object "BiscuitLore$Larder"
  | 3 => .array (.object "BiscuitLore$Larder")
  | 4 => .array .boolean
  | 5 => .object "BiscuitLore$Sight"
  | 6 => .array (.object "BiscuitLore$Sheet")
  | 7 => .array (.array .int)
  | 8 => .array .int
  | _ => .int
abbrev wsX40 : List Cond := u_ws RX4 TX4 10
theorem nmX4 : ∀ a, a < 10 → ∀ b, b < 10 → a ≠ b → (TX4 a).2.1 ≠ (TX4 b).2.1 := by decide +kernel
theorem tyX4_ok : ∀ k, k < 10 → parseFieldDescriptor (TX4 k).2.2.1 = some (tyX4 k) := by decide +kernel
abbrev cX4_init : ByteArray := prog_1_method_1_code
def yX4_init : MethodName := ⟨RX4, "<init>", "()V"⟩
abbrev cX4_feed : ByteArray := prog_1_method_2_code
def yX4_feed : MethodName := ⟨RX4, "feed", "(I)I"⟩
abbrev cX4_end : ByteArray := prog_1_method_3_code
def yX4_end : MethodName := ⟨RX4, "end", "(I)I"⟩
abbrev cX4_text : ByteArray := prog_1_method_4_code
def yX4_text : MethodName := ⟨RX4, "text", "()I"⟩
abbrev cX4_fault : ByteArray := prog_1_method_5_code
def yX4_fault : MethodName := ⟨RX4, "fault", "()I"⟩
abbrev cX4_rule : ByteArray := prog_1_method_6_code
def yX4_rule : MethodName := ⟨RX4, "rule", "(I)I"⟩
abbrev cX4_fellow : ByteArray := prog_1_method_7_code
def yX4_fellow : MethodName := ⟨RX4, "fellow", "(II)I"⟩
abbrev cX4_biscuit : ByteArray := prog_1_method_8_code
def yX4_biscuit : MethodName := ⟨RX4, "biscuit", "(II)I"⟩
abbrev cX4_question : ByteArray := prog_1_method_9_code
def yX4_question : MethodName := ⟨RX4, "question", "(II)I"⟩
abbrev cX4_knows : ByteArray := prog_1_method_10_code
def yX4_knows : MethodName := ⟨RX4, "knows", "(I)I"⟩
abbrev cX4_alter : ByteArray := prog_1_method_11_code
def yX4_alter : MethodName := ⟨RX4, "alter", "(III)I"⟩
abbrev cX4_diet : ByteArray := prog_1_method_12_code
def yX4_diet : MethodName := ⟨RX4, "diet", "(II)I"⟩
abbrev cX4_damp : ByteArray := prog_1_method_13_code
def yX4_damp : MethodName := ⟨RX4, "damp", "(I)I"⟩
abbrev cX4_bite : ByteArray := prog_1_method_14_code
def yX4_bite : MethodName := ⟨RX4, "bite", "(I)I"⟩
abbrev cX4_pose : ByteArray := prog_1_method_15_code
def yX4_pose : MethodName := ⟨RX4, "pose", "(II)I"⟩
abbrev cX4_drop : ByteArray := prog_1_method_16_code
def yX4_drop : MethodName := ⟨RX4, "drop", "(I)I"⟩
abbrev cX4_bake : ByteArray := prog_1_method_17_code
def yX4_bake : MethodName := ⟨RX4, "bake", "(IIII)I"⟩
abbrev cX4_days : ByteArray := prog_1_method_18_code
def yX4_days : MethodName := ⟨RX4, "days", "(I)I"⟩
abbrev cX4_runs : ByteArray := prog_1_method_19_code
def yX4_runs : MethodName := ⟨RX4, "runs", "(II)I"⟩
abbrev cX4_ahead : ByteArray := prog_1_method_20_code
def yX4_ahead : MethodName := ⟨RX4, "ahead", "(II)I"⟩
abbrev cX4_lasts : ByteArray := prog_1_method_21_code
def yX4_lasts : MethodName := ⟨RX4, "lasts", "(I)I"⟩
abbrev cX4_starves : ByteArray := prog_1_method_22_code
def yX4_starves : MethodName := ⟨RX4, "starves", "(I)I"⟩
abbrev cX4_need : ByteArray := prog_1_method_23_code
def yX4_need : MethodName := ⟨RX4, "need", "(II)I"⟩
abbrev cX4_thrift : ByteArray := prog_1_method_24_code
def yX4_thrift : MethodName := ⟨RX4, "thrift", "(II)I"⟩
abbrev cX4_heir : ByteArray := prog_1_method_25_code
def yX4_heir : MethodName := ⟨RX4, "heir", "(II)I"⟩
abbrev cX4_swap : ByteArray := prog_1_method_26_code
def yX4_swap : MethodName := ⟨RX4, "swap", "(I)I"⟩
abbrev cX4_wise : ByteArray := prog_1_method_27_code
def yX4_wise : MethodName := ⟨RX4, "wise", "(II)I"⟩
abbrev cX4_chew : ByteArray := prog_1_method_28_code
def yX4_chew : MethodName := ⟨RX4, "chew", "(I)I"⟩
abbrev cX4_luck : ByteArray := prog_1_method_29_code
def yX4_luck : MethodName := ⟨RX4, "luck", "(IIIII)J"⟩
abbrev cX4_mean : ByteArray := prog_1_method_30_code
def yX4_mean : MethodName := ⟨RX4, "mean", "(III)J"⟩
abbrev cX4_see : ByteArray := prog_1_method_31_code
def yX4_see : MethodName := ⟨RX4, "see", "(IIIZ)I"⟩
abbrev cX4_forget : ByteArray := prog_1_method_32_code
def yX4_forget : MethodName := ⟨RX4, "forget", "(I)I"⟩
abbrev cX4_kinds : ByteArray := prog_1_method_33_code
def yX4_kinds : MethodName := ⟨RX4, "kinds", "(I)I"⟩
abbrev cX4_subjects : ByteArray := prog_1_method_34_code
def yX4_subjects : MethodName := ⟨RX4, "subjects", "(I)I"⟩
abbrev cX4_ask : ByteArray := prog_1_method_35_code
def yX4_ask : MethodName := ⟨RX4, "ask", "(II)I"⟩
abbrev cX4_drift : ByteArray := prog_1_method_36_code
def yX4_drift : MethodName := ⟨RX4, "drift", "(III)I"⟩
abbrev cX4_keep : ByteArray := prog_1_method_37_code
def yX4_keep : MethodName := ⟨RX4, "keep", "(I)I"⟩
abbrev cX4_back : ByteArray := prog_1_method_38_code
def yX4_back : MethodName := ⟨RX4, "back", "(I)I"⟩
abbrev cX4_sheet : ByteArray := prog_1_method_39_code
def yX4_sheet : MethodName := ⟨RX4, "sheet", "(III)I"⟩
abbrev cX4_lay : ByteArray := prog_1_method_40_code
def yX4_lay : MethodName := ⟨RX4, "lay", "(III)I"⟩
abbrev cX4_read : ByteArray := prog_1_method_41_code
def yX4_read : MethodName := ⟨RX4, "read", "(IIII)I"⟩
abbrev cX4_torn : ByteArray := prog_1_method_42_code
def yX4_torn : MethodName := ⟨RX4, "torn", "()I"⟩
abbrev cX4_count : ByteArray := prog_1_method_43_code
def yX4_count : MethodName := ⟨RX4, "count", "(I)I"⟩
abbrev cX4_within : ByteArray := prog_1_method_44_code
def yX4_within : MethodName := ⟨RX4, "within", "(III)Z"⟩
abbrev cX4_isHalf : ByteArray := prog_1_method_45_code
def yX4_isHalf : MethodName := ⟨RX4, "isHalf", "(I)Z"⟩
abbrev cX4_areOdds : ByteArray := prog_1_method_46_code
def yX4_areOdds : MethodName := ⟨RX4, "areOdds", "(III)Z"⟩
abbrev cX4_put : ByteArray := prog_1_method_47_code
def yX4_put : MethodName := ⟨RX4, "put", "([IIII)I"⟩
abbrev cX4_tryDays : ByteArray := prog_1_method_48_code
def yX4_tryDays : MethodName := ⟨RX4, "tryDays", "(I)I"⟩
abbrev cX4_countAnswered : ByteArray := prog_1_method_49_code
def yX4_countAnswered : MethodName := ⟨RX4, "countAnswered", "()I"⟩
abbrev cX4_isKnownBy : ByteArray := prog_1_method_50_code
def yX4_isKnownBy : MethodName := ⟨RX4, "isKnownBy", "(III)Z"⟩
abbrev cX4_kindsLeft : ByteArray := prog_1_method_51_code
def yX4_kindsLeft : MethodName := ⟨RX4, "kindsLeft", "(I)I"⟩
abbrev cX4_tallyKnowers : ByteArray := prog_1_method_52_code
def yX4_tallyKnowers : MethodName := ⟨RX4, "tallyKnowers", "(II)V"⟩
abbrev cX4_tallyDays : ByteArray := prog_1_method_53_code
def yX4_tallyDays : MethodName := ⟨RX4, "tallyDays", "(I)V"⟩
abbrev cX4_weigh : ByteArray := prog_1_method_54_code
def yX4_weigh : MethodName := ⟨RX4, "weigh", "(IIIII)J"⟩
abbrev cX4_outcome : ByteArray := prog_1_method_55_code
def yX4_outcome : MethodName := ⟨RX4, "outcome", "(II)J"⟩
abbrev cX4_powerOfTen : ByteArray := prog_1_method_56_code
def yX4_powerOfTen : MethodName := ⟨RX4, "powerOfTen", "(I)J"⟩
abbrev cX4_partOf : ByteArray := prog_1_method_57_code
def yX4_partOf : MethodName := ⟨RX4, "partOf", "(JJI)J"⟩
def RX5 : String := "BiscuitLoreModel"
def TX5 : u_T := fun k => match k with
  | 0 => ("BiscuitLoreModel", "state", "[I", true)
  | 1 => ("BiscuitLoreModel", "fellowMany", "I", false)
  | 2 => ("BiscuitLoreModel", "readPage", "[I", true)
  | 3 => ("BiscuitLoreModel", "readFellows", "I", false)
  | 4 => ("BiscuitLoreModel", "toldOnce", "I", false)
  | 5 => ("BiscuitLoreModel", "high", "I", false)
  | 6 => ("BiscuitLoreModel", "tape", "[I", true)
  | 7 => ("BiscuitLoreModel", "taped", "I", false)
  | 8 => ("BiscuitLoreModel", "fault", "I", false)
  | 9 => ("BiscuitLoreModel", "broken", "I", false)
  | 10 => ("BiscuitLoreModel", "brokenAt", "I", false)
  | 11 => ("BiscuitLoreModel", "spot", "I", false)
  | 12 => ("BiscuitLoreModel", "here", "I", false)
  | 13 => ("BiscuitLoreModel", "token", "I", false)
  | 14 => ("BiscuitLoreModel", "value", "I", false)
  | 15 => ("BiscuitLoreModel", "cuts", "[I", true)
  | 16 => ("BiscuitLoreModel", "letters", "[I", true)
  | 17 => ("BiscuitLoreModel", "answered", "I", false)
  | 18 => ("BiscuitLoreModel", "seen", "[I", true)
  | 19 => ("BiscuitLoreModel", "seenMany", "I", false)
  | 20 => ("BiscuitLoreModel", "knowsBy", "[I", true)
  | 21 => ("BiscuitLoreModel", "isKept", "[Z", true)
  | 22 => ("BiscuitLoreModel", "lanes", "[I", true)
  | 23 => ("BiscuitLoreModel", "lengths", "[I", true)
  | 24 => ("BiscuitLoreModel", "cells", "[I", true)
  | _ => ("BiscuitLoreModel", "torn", "I", false)
def tyX5 : Nat → FieldType := fun k => match k with
  | 0 => .array .int
  | 1 => .int
  | 2 => .array .int
  | 3 => .int
  | 4 => .int
  | 5 => .int
  | 6 => .array .int
  | 7 => .int
  | 8 => .int
  | 9 => .int
  | 10 => .int
  | 11 => .int
  | 12 => .int
  | 13 => .int
  | 14 => .int
  | 15 => .array .int
  | 16 => .array .int
  | 17 => .int
  | 18 => .array .int
  | 19 => .int
  | 20 => .array .int
  | 21 => .array .boolean
  | 22 => .array .int
  | 23 => .array .int
  | 24 => .array .int
  | _ => .int
abbrev wsX50 : List Cond := u_ws RX5 TX5 26
theorem nmX5 : ∀ a, a < 26 → ∀ b, b < 26 → a ≠ b → (TX5 a).2.1 ≠ (TX5 b).2.1 := by decide +kernel
theorem tyX5_ok : ∀ k, k < 26 → parseFieldDescriptor (TX5 k).2.2.1 = some (tyX5 k) := by decide +kernel
abbrev cX5_init : ByteArray := prog_7_method_1_code
def yX5_init : MethodName := ⟨RX5, "<init>", "()V"⟩
abbrev cX5_in : ByteArray := prog_7_method_3_code
def yX5_in : MethodName := ⟨RX5, "in", "(JJJ)Z"⟩
abbrev cX5_feed : ByteArray := prog_7_method_4_code
def yX5_feed : MethodName := ⟨RX5, "feed", "(I)I"⟩
abbrev cX5_end : ByteArray := prog_7_method_5_code
def yX5_end : MethodName := ⟨RX5, "end", "(I)I"⟩
abbrev cX5_byteAt : ByteArray := prog_7_method_6_code
def yX5_byteAt : MethodName := ⟨RX5, "byteAt", "(I)I"⟩
abbrev cX5_fails : ByteArray := prog_7_method_7_code
def yX5_fails : MethodName := ⟨RX5, "fails", "(I)V"⟩
abbrev cX5_nameHere : ByteArray := prog_7_method_8_code
def yX5_nameHere : MethodName := ⟨RX5, "nameHere", "()I"⟩
abbrev cX5_step : ByteArray := prog_7_method_9_code
def yX5_step : MethodName := ⟨RX5, "step", "()V"⟩
abbrev cX5_number : ByteArray := prog_7_method_10_code
def yX5_number : MethodName := ⟨RX5, "number", "(II)I"⟩
abbrev cX5_readBiscuit : ByteArray := prog_7_method_11_code
def yX5_readBiscuit : MethodName := ⟨RX5, "readBiscuit", "(I)V"⟩
abbrev cX5_readMore : ByteArray := prog_7_method_12_code
def yX5_readMore : MethodName := ⟨RX5, "readMore", "(I)V"⟩
abbrev cX5_isFull : ByteArray := prog_7_method_13_code
def yX5_isFull : MethodName := ⟨RX5, "isFull", "(I)Z"⟩
abbrev cX5_readLine : ByteArray := prog_7_method_14_code
def yX5_readLine : MethodName := ⟨RX5, "readLine", "()V"⟩
abbrev cX5_text : ByteArray := prog_7_method_15_code
def yX5_text : MethodName := ⟨RX5, "text", "()I"⟩
abbrev cX5_fault : ByteArray := prog_7_method_16_code
def yX5_fault : MethodName := ⟨RX5, "fault", "()I"⟩
abbrev cX5_isFellow : ByteArray := prog_7_method_17_code
def yX5_isFellow : MethodName := ⟨RX5, "isFellow", "(I)Z"⟩
abbrev cX5_isBiscuit : ByteArray := prog_7_method_18_code
def yX5_isBiscuit : MethodName := ⟨RX5, "isBiscuit", "(I)Z"⟩
abbrev cX5_isSubject : ByteArray := prog_7_method_19_code
def yX5_isSubject : MethodName := ⟨RX5, "isSubject", "(I)Z"⟩
abbrev cX5_spoilsOn : ByteArray := prog_7_method_20_code
def yX5_spoilsOn : MethodName := ⟨RX5, "spoilsOn", "(III)I"⟩
abbrev cX5_dampOn : ByteArray := prog_7_method_21_code
def yX5_dampOn : MethodName := ⟨RX5, "dampOn", "(I)I"⟩
abbrev cX5_subjectsOn : ByteArray := prog_7_method_22_code
def yX5_subjectsOn : MethodName := ⟨RX5, "subjectsOn", "(II)I"⟩
abbrev cX5_crumbsOn : ByteArray := prog_7_method_23_code
def yX5_crumbsOn : MethodName := ⟨RX5, "crumbsOn", "(II)I"⟩
abbrev cX5_hungerOn : ByteArray := prog_7_method_24_code
def yX5_hungerOn : MethodName := ⟨RX5, "hungerOn", "(I)I"⟩
abbrev cX5_asksOn : ByteArray := prog_7_method_25_code
def yX5_asksOn : MethodName := ⟨RX5, "asksOn", "(I)V"⟩
abbrev cX5_eatsOn : ByteArray := prog_7_method_26_code
def yX5_eatsOn : MethodName := ⟨RX5, "eatsOn", "(II)I"⟩
abbrev cX5_dayOn : ByteArray := prog_7_method_27_code
def yX5_dayOn : MethodName := ⟨RX5, "dayOn", "(II)I"⟩
abbrev cX5_rule : ByteArray := prog_7_method_28_code
def yX5_rule : MethodName := ⟨RX5, "rule", "(I)I"⟩
abbrev cX5_fellow : ByteArray := prog_7_method_29_code
def yX5_fellow : MethodName := ⟨RX5, "fellow", "(II)I"⟩
abbrev cX5_biscuit : ByteArray := prog_7_method_30_code
def yX5_biscuit : MethodName := ⟨RX5, "biscuit", "(II)I"⟩
abbrev cX5_question : ByteArray := prog_7_method_31_code
def yX5_question : MethodName := ⟨RX5, "question", "(II)I"⟩
abbrev cX5_knows : ByteArray := prog_7_method_32_code
def yX5_knows : MethodName := ⟨RX5, "knows", "(I)I"⟩
abbrev cX5_puts : ByteArray := prog_7_method_33_code
def yX5_puts : MethodName := ⟨RX5, "puts", "(ZIII)I"⟩
abbrev cX5_isGood : ByteArray := prog_7_method_34_code
def yX5_isGood : MethodName := ⟨RX5, "isGood", "(II)Z"⟩
abbrev cX5_alter : ByteArray := prog_7_method_35_code
def yX5_alter : MethodName := ⟨RX5, "alter", "(III)I"⟩
abbrev cX5_diet : ByteArray := prog_7_method_36_code
def yX5_diet : MethodName := ⟨RX5, "diet", "(II)I"⟩
abbrev cX5_damp : ByteArray := prog_7_method_37_code
def yX5_damp : MethodName := ⟨RX5, "damp", "(I)I"⟩
abbrev cX5_bite : ByteArray := prog_7_method_38_code
def yX5_bite : MethodName := ⟨RX5, "bite", "(I)I"⟩
abbrev cX5_pose : ByteArray := prog_7_method_39_code
def yX5_pose : MethodName := ⟨RX5, "pose", "(II)I"⟩
abbrev cX5_drop : ByteArray := prog_7_method_40_code
def yX5_drop : MethodName := ⟨RX5, "drop", "(I)I"⟩
abbrev cX5_bakes : ByteArray := prog_7_method_41_code
def yX5_bakes : MethodName := ⟨RX5, "bakes", "(IIII)I"⟩
abbrev cX5_bake : ByteArray := prog_7_method_42_code
def yX5_bake : MethodName := ⟨RX5, "bake", "(IIII)I"⟩
abbrev cX5_days : ByteArray := prog_7_method_43_code
def yX5_days : MethodName := ⟨RX5, "days", "(I)I"⟩
abbrev cX5_copies : ByteArray := prog_7_method_44_code
def yX5_copies : MethodName := ⟨RX5, "copies", "(II)V"⟩
abbrev cX5_daysGo : ByteArray := prog_7_method_45_code
def yX5_daysGo : MethodName := ⟨RX5, "daysGo", "(II)V"⟩
abbrev cX5_runs : ByteArray := prog_7_method_46_code
def yX5_runs : MethodName := ⟨RX5, "runs", "(II)I"⟩
abbrev cX5_ahead : ByteArray := prog_7_method_47_code
def yX5_ahead : MethodName := ⟨RX5, "ahead", "(II)I"⟩
abbrev cX5_lasts : ByteArray := prog_7_method_48_code
def yX5_lasts : MethodName := ⟨RX5, "lasts", "(I)I"⟩
abbrev cX5_starves : ByteArray := prog_7_method_49_code
def yX5_starves : MethodName := ⟨RX5, "starves", "(I)I"⟩
abbrev cX5_need : ByteArray := prog_7_method_50_code
def yX5_need : MethodName := ⟨RX5, "need", "(II)I"⟩
abbrev cX5_bitsOf : ByteArray := prog_7_method_51_code
def yX5_bitsOf : MethodName := ⟨RX5, "bitsOf", "(I)I"⟩
abbrev cX5_answersOf : ByteArray := prog_7_method_52_code
def yX5_answersOf : MethodName := ⟨RX5, "answersOf", "(I)I"⟩
abbrev cX5_thrift : ByteArray := prog_7_method_53_code
def yX5_thrift : MethodName := ⟨RX5, "thrift", "(II)I"⟩
abbrev cX5_heir : ByteArray := prog_7_method_54_code
def yX5_heir : MethodName := ⟨RX5, "heir", "(II)I"⟩
abbrev cX5_swap : ByteArray := prog_7_method_55_code
def yX5_swap : MethodName := ⟨RX5, "swap", "(I)I"⟩
abbrev cX5_wise : ByteArray := prog_7_method_56_code
def yX5_wise : MethodName := ⟨RX5, "wise", "(II)I"⟩
abbrev cX5_chew : ByteArray := prog_7_method_57_code
def yX5_chew : MethodName := ⟨RX5, "chew", "(I)I"⟩
abbrev cX5_lowest : ByteArray := prog_7_method_58_code
def yX5_lowest : MethodName := ⟨RX5, "lowest", "(JJI)J"⟩
abbrev cX5_byDamp : ByteArray := prog_7_method_59_code
def yX5_byDamp : MethodName := ⟨RX5, "byDamp", "(IIIII)J"⟩
abbrev cX5_luck : ByteArray := prog_7_method_60_code
def yX5_luck : MethodName := ⟨RX5, "luck", "(IIIII)J"⟩
abbrev cX5_mean : ByteArray := prog_7_method_61_code
def yX5_mean : MethodName := ⟨RX5, "mean", "(III)J"⟩
abbrev cX5_see : ByteArray := prog_7_method_62_code
def yX5_see : MethodName := ⟨RX5, "see", "(IIIZ)I"⟩
abbrev cX5_forget : ByteArray := prog_7_method_63_code
def yX5_forget : MethodName := ⟨RX5, "forget", "(I)I"⟩
abbrev cX5_isAsSeen : ByteArray := prog_7_method_64_code
def yX5_isAsSeen : MethodName := ⟨RX5, "isAsSeen", "(II)Z"⟩
abbrev cX5_kindsOf : ByteArray := prog_7_method_65_code
def yX5_kindsOf : MethodName := ⟨RX5, "kindsOf", "(I)I"⟩
abbrev cX5_kinds : ByteArray := prog_7_method_66_code
def yX5_kinds : MethodName := ⟨RX5, "kinds", "(I)I"⟩
abbrev cX5_subjects : ByteArray := prog_7_method_67_code
def yX5_subjects : MethodName := ⟨RX5, "subjects", "(I)I"⟩
abbrev cX5_ask : ByteArray := prog_7_method_68_code
def yX5_ask : MethodName := ⟨RX5, "ask", "(II)I"⟩
abbrev cX5_drift : ByteArray := prog_7_method_69_code
def yX5_drift : MethodName := ⟨RX5, "drift", "(III)I"⟩
abbrev cX5_keep : ByteArray := prog_7_method_70_code
def yX5_keep : MethodName := ⟨RX5, "keep", "(I)I"⟩
abbrev cX5_back : ByteArray := prog_7_method_71_code
def yX5_back : MethodName := ⟨RX5, "back", "(I)I"⟩
abbrev cX5_sheet : ByteArray := prog_7_method_72_code
def yX5_sheet : MethodName := ⟨RX5, "sheet", "(III)I"⟩
abbrev cX5_lay : ByteArray := prog_7_method_73_code
def yX5_lay : MethodName := ⟨RX5, "lay", "(III)I"⟩
abbrev cX5_read : ByteArray := prog_7_method_74_code
def yX5_read : MethodName := ⟨RX5, "read", "(IIII)I"⟩
abbrev cX5_torn : ByteArray := prog_7_method_75_code
def yX5_torn : MethodName := ⟨RX5, "torn", "()I"⟩
abbrev cX5_count : ByteArray := prog_7_method_76_code
def yX5_count : MethodName := ⟨RX5, "count", "(I)I"⟩
def RJ6 : String := "java/lang/Integer"
def TJ6 : u_T := fun k => match k with
  | _ => ("", "", "", false)
def tyJ6 : Nat → FieldType := fun k => match k with
  | _ => .int
abbrev wsJ60 : List Cond := u_ws RJ6 TJ6 0
theorem nmJ6 : ∀ a, a < 0 → ∀ b, b < 0 → a ≠ b → (TJ6 a).2.1 ≠ (TJ6 b).2.1 := by decide +kernel
theorem tyJ6_ok : ∀ k, k < 0 → parseFieldDescriptor (TJ6 k).2.2.1 = some (tyJ6 k) := by decide +kernel
abbrev cJ6_bitCount_0f7a4 : ByteArray := prog_8_method_49_code
def yJ6_bitCount_0f7a4 : MethodName := ⟨RJ6, "bitCount", "(I)I"⟩
def RJ9 : String := "java/lang/Math"
def TJ9 : u_T := fun k => match k with
  | _ => ("", "", "", false)
def tyJ9 : Nat → FieldType := fun k => match k with
  | _ => .int
abbrev wsJ90 : List Cond := u_ws RJ9 TJ9 0
theorem nmJ9 : ∀ a, a < 0 → ∀ b, b < 0 → a ≠ b → (TJ9 a).2.1 ≠ (TJ9 b).2.1 := by decide +kernel
theorem tyJ9_ok : ∀ k, k < 0 → parseFieldDescriptor (TJ9 k).2.2.1 = some (tyJ9 k) := by decide +kernel
abbrev cJ9_max_7cf53 : ByteArray := prog_9_method_65_code
def yJ9_max_7cf53 : MethodName := ⟨RJ9, "max", "(II)I"⟩
abbrev cJ9_min_7cf53 : ByteArray := prog_9_method_69_code
def yJ9_min_7cf53 : MethodName := ⟨RJ9, "min", "(II)I"⟩
def RJ0 : String := "java/lang/String"
def TJ0 : u_T := fun k => match k with
  | _ => ("", "", "", false)
def tyJ0 : Nat → FieldType := fun k => match k with
  | _ => .int
abbrev wsJ00 : List Cond := u_ws RJ0 TJ0 0
theorem nmJ0 : ∀ a, a < 0 → ∀ b, b < 0 → a ≠ b → (TJ0 a).2.1 ≠ (TJ0 b).2.1 := by decide +kernel
theorem tyJ0_ok : ∀ k, k < 0 → parseFieldDescriptor (TJ0 k).2.2.1 = some (tyJ0 k) := by decide +kernel
abbrev cJ0_length_8abf5 : ByteArray := prog_10_method_54_code
def yJ0_length_8abf5 : MethodName := ⟨RJ0, "length", "()I"⟩
abbrev cJ0_charAt_5068e : ByteArray := prog_10_method_56_code
def yJ0_charAt_5068e : MethodName := ⟨RJ0, "charAt", "(I)C"⟩
abbrev cJ0_coder_7d493 : ByteArray := prog_10_method_152_code
def yJ0_coder_7d493 : MethodName := ⟨RJ0, "coder", "()B"⟩
abbrev cJ0_isLatin1_aae02 : ByteArray := prog_10_method_154_code
def yJ0_isLatin1_aae02 : MethodName := ⟨RJ0, "isLatin1", "()Z"⟩
abbrev cJ0_checkIndex_df160 : ByteArray := prog_10_method_155_code
def yJ0_checkIndex_df160 : MethodName := ⟨RJ0, "checkIndex", "(II)V"⟩
def RJ1 : String := "java/lang/StringLatin1"
def TJ1 : u_T := fun k => match k with
  | _ => ("", "", "", false)
def tyJ1 : Nat → FieldType := fun k => match k with
  | _ => .int
abbrev wsJ10 : List Cond := u_ws RJ1 TJ1 0
theorem nmJ1 : ∀ a, a < 0 → ∀ b, b < 0 → a ≠ b → (TJ1 a).2.1 ≠ (TJ1 b).2.1 := by decide +kernel
theorem tyJ1_ok : ∀ k, k < 0 → parseFieldDescriptor (TJ1 k).2.2.1 = some (tyJ1 k) := by decide +kernel
abbrev cJ1_charAt_3b067 : ByteArray := prog_11_method_2_code
def yJ1_charAt_3b067 : MethodName := ⟨RJ1, "charAt", "([BI)C"⟩
def RJ2 : String := "java/lang/StringUTF16"
def TJ2 : u_T := fun k => match k with
  | _ => ("", "", "", false)
def tyJ2 : Nat → FieldType := fun k => match k with
  | _ => .int
abbrev wsJ20 : List Cond := u_ws RJ2 TJ2 0
theorem nmJ2 : ∀ a, a < 0 → ∀ b, b < 0 → a ≠ b → (TJ2 a).2.1 ≠ (TJ2 b).2.1 := by decide +kernel
theorem tyJ2_ok : ∀ k, k < 0 → parseFieldDescriptor (TJ2 k).2.2.1 = some (tyJ2 k) := by decide +kernel
abbrev cJ2_getChar_3b067 : ByteArray := prog_12_method_5_code
def yJ2_getChar_3b067 : MethodName := ⟨RJ2, "getChar", "([BI)C"⟩
abbrev cJ2_length_9d52b : ByteArray := prog_12_method_6_code
def yJ2_length_9d52b : MethodName := ⟨RJ2, "length", "([B)I"⟩
abbrev cJ2_charAt_3b067 : ByteArray := prog_12_method_83_code
def yJ2_charAt_3b067 : MethodName := ⟨RJ2, "charAt", "([BI)C"⟩
abbrev cJ2_checkIndex_2214a : ByteArray := prog_12_method_91_code
def yJ2_checkIndex_2214a : MethodName := ⟨RJ2, "checkIndex", "(I[B)V"⟩
def RJ10 : String := "java/lang/System"
def TJ10 : u_T := fun k => match k with
  | _ => ("", "", "", false)
def tyJ10 : Nat → FieldType := fun k => match k with
  | _ => .int
abbrev wsJ100 : List Cond := u_ws RJ10 TJ10 0
theorem nmJ10 : ∀ a, a < 0 → ∀ b, b < 0 → a ≠ b → (TJ10 a).2.1 ≠ (TJ10 b).2.1 := by decide +kernel
theorem tyJ10_ok : ∀ k, k < 0 → parseFieldDescriptor (TJ10 k).2.2.1 = some (tyJ10 k) := by decide +kernel
def RJ3 : String := "jdk/internal/util/Preconditions"
def TJ3 : u_T := fun k => match k with
  | _ => ("", "", "", false)
def tyJ3 : Nat → FieldType := fun k => match k with
  | _ => .int
abbrev wsJ30 : List Cond := u_ws RJ3 TJ3 0
theorem nmJ3 : ∀ a, a < 0 → ∀ b, b < 0 → a ≠ b → (TJ3 a).2.1 ≠ (TJ3 b).2.1 := by decide +kernel
theorem tyJ3_ok : ∀ k, k < 0 → parseFieldDescriptor (TJ3 k).2.2.1 = some (tyJ3 k) := by decide +kernel
abbrev cJ3_checkIndex_8e157 : ByteArray := prog_14_method_11_code
def yJ3_checkIndex_8e157 : MethodName := ⟨RJ3, "checkIndex", "(IILjava/util/function/BiFunction;)I"⟩
def RL : String := "BiscuitLoreLaw"
abbrev cL_law : ByteArray := code
def yL_law : MethodName := ⟨RL, "law", "([I)Z"⟩
end
section
/-! THE PURE MACHINE, its world. A cell is named by a triple (class, instance, sub-cell): classes 0 Larder (4), 1 Sheet (4), 2 Sight, 3 Tape, 4 BiscuitLore, 5 BiscuitLoreModel, 6 the rows of crumbsAt (8); sub-cell 0 is the object, the others its arrays; class 7: the two static tables, class 8: the words. References never change after the constructors, so that a heap is numbers alone: pm_H. -/
abbrev pm_R : Type := Nat × Nat × Nat
abbrev pm_V : Type := Int32 ⊕ (Int64 ⊕ pm_R)
abbrev pm_H : Type := Nat → Nat → Nat → Nat → Int32
abbrev pm_L : Type := List (Nat × pm_V)
abbrev pm_S : Type := pm_L × List pm_V × pm_H
abbrev pm_K : Type := Option Nat → pm_S → Prop
abbrev pm_T : Type := pm_K → pm_S → Prop
def pm_cnt (c : Nat) : Nat := [4, 4, 1, 1, 1, 1, 8].getD c 0
def pm_sub (c : Nat) : Nat := [9, 2, 5, 3, 6, 12, 1].getD c 0
def pm_nf (c : Nat) : Nat := [14, 4, 5, 12, 10, 26].getD c 0
def pm_cells : List pm_R := (List.range 7).flatMap fun c => (List.range (pm_cnt c)).flatMap fun i => (List.range (pm_sub c)).map fun s => (c, i, s)
def pm_fs (c : Nat) : List Nat := [[0, 1, 2, 0, 3, 4, 5, 6, 0, 0, 0, 0, 7, 8], [0, 0, 0, 1], [0, 1, 2, 3, 4], [1, 0, 0, 0, 0, 0, 0, 0, 0, 0, 0, 2], [], [1, 0, 2, 0, 0, 0, 3, 0, 0, 0, 0, 0, 0, 0, 0, 4, 5, 0, 6, 0, 7, 8, 9, 10, 11, 0]].getD c []
def pm_fr (c i j : Nat) : Option pm_R :=
  if c = 4 then [some (3, 0, 0), some (0, 0, 0), some (0, 1, 0), some (4, 0, 1), some (4, 0, 2), some (2, 0, 0), some (4, 0, 3), some (4, 0, 4), some (4, 0, 5)].getD j none
  else if (pm_fs c).getD j 0 = 0 then none else some (c, i, (pm_fs c).getD j 0)
/-- an array's kind: 0 int, 1 byte, 2 boolean, 3 Larder, 4 Sheet, 5 int[] -/
def pm_ak (c s : Nat) : Nat := ([[0, 0, 0, 0, 0, 0, 0, 0, 0], [0, 0], [0, 0, 0, 0, 2], [0, 1, 0], [0, 3, 2, 4, 5, 0], [0, 0, 0, 0, 0, 0, 0, 0, 2, 0, 0, 0], [0]].getD c []).getD s 0
def pm_an (c s : Nat) : Nat := ([[0, 4, 4, 6, 6, 6, 6, 6, 6], [0, 40], [0, 6, 6, 6, 6], [0, 160, 3], [0, 2, 2, 4, 8, 124], [0, 294, 49, 160, 9, 37, 24, 496, 2, 4, 4, 160], [6]].getD c []).getD s 0
def pm_el (k j : Nat) : pm_R := if k = 3 then (0, 2 + j, 0) else if k = 4 then (1, j, 0) else (6, j, 0)
def pm_fv (ad : pm_R → Nat) (h : pm_H) (c i j : Nat) : Value := match pm_fr c i j with
  | none => .int (h c i 0 j)
  | some r => .ref (ad r)
def pm_ce (ad : pm_R → Nat) (ta : Nat → ClassId) (h : pm_H) (r : pm_R) : va_E :=
  if r.2.2 = 0 ∧ r.1 < 6 then .inr (r.1, (List.range (pm_nf r.1)).map (pm_fv ad h r.1 r.2.1))
  else if pm_ak r.1 r.2.2 < 3 then .inl (ta (pm_ak r.1 r.2.2), pm_an r.1 r.2.2, .inl (h r.1 r.2.1 r.2.2))
  else .inl (ta (pm_ak r.1 r.2.2), pm_an r.1 r.2.2, .inr (.inr (.inr (.inr (fun j => if j < pm_an r.1 r.2.2 then some (ad (pm_el (pm_ak r.1 r.2.2) j)) else none)))))
def pm_wd (ad : pm_R → Nat) (ta : Nat → ClassId) (h : pm_H) : va_W := pm_cells.map fun r => (ad r, pm_ce ad ta h r)
def pm_tys (ta : Nat → ClassId) : List (ClassId × FieldType) := [(ta 0, .int), (ta 1, .byte), (ta 2, .boolean), (ta 3, .object RX0), (ta 4, .object RX1), (ta 5, .array .int)]
abbrev pm_cl : List vw_C := [(RX0, TX0, 14), (RX1, TX1, 4), (RX2, TX2, 5), (RX3, TX3, 12), (RX4, TX4, 10), (RX5, TX5, 26)]
def pm_A (ad : pm_R → Nat) : Nat → Prop := fun q => ∃ r ∈ pm_cells, q = ad r
/-- a heap with one number changed -/
def pm_up (h : pm_H) (c i s j : Nat) (v : Int32) : pm_H := fun c' i' s' j' => if c' = c ∧ i' = i ∧ s' = s ∧ j' = j then v else h c' i' s' j'
/-- a heap with one array's numbers changed -/
def pm_ua (h : pm_H) (c i s : Nat) (f : Nat → Int32) : pm_H := fun c' i' s' j' => if c' = c ∧ i' = i ∧ s' = s then f j' else h c' i' s' j'
theorem pm_up_ua (h : pm_H) (c i s j : Nat) (v : Int32) : pm_up h c i s j v = pm_ua h c i s (upd (h c i s) j v) := by
  funext c' i' s' j'
  unfold pm_up pm_ua upd
  by_cases h1 : c' = c ∧ i' = i ∧ s' = s
  · obtain ⟨rfl, rfl, rfl⟩ := h1
    by_cases h2 : j' = j <;> simp [h2]
  · rw [if_neg h1, if_neg (fun q => h1 ⟨q.1, q.2.1, q.2.2.1⟩)]
theorem pm_nodup : pm_cells.Nodup := by decide +kernel
theorem pm_in_iff {c i s : Nat} : (c, i, s) ∈ pm_cells ↔ c < 7 ∧ i < pm_cnt c ∧ s < pm_sub c := by
  simp only [pm_cells, List.mem_flatMap, List.mem_range, List.mem_map, Prod.mk.injEq]
  constructor
  · rintro ⟨a, ha, b, hb, d, hd, rfl, rfl, rfl⟩
    exact ⟨ha, hb, hd⟩
  · rintro ⟨h1, h2, h3⟩
    exact ⟨c, h1, i, h2, s, h3, rfl, rfl, rfl⟩
theorem pm_len : pm_cells.length = 78 := by decide +kernel
theorem pm_wd_at {ad : pm_R → Nat} {ta : Nat → ClassId} {h : pm_H} {q : Nat} {r : pm_R} (hq : pm_cells[q]? = some r) : (pm_wd ad ta h)[q]? = some (ad r, pm_ce ad ta h r) := by
  unfold pm_wd
  rw [List.getElem?_map, hq]
  rfl
theorem pm_wd_set {ad : pm_R → Nat} {ta : Nat → ClassId} {h h' : pm_H} {q : Nat} {r : pm_R} (hq : pm_cells[q]? = some r) (ho : ∀ r' ∈ pm_cells, r' ≠ r → pm_ce ad ta h' r' = pm_ce ad ta h r') : (pm_wd ad ta h).set q (ad r, pm_ce ad ta h' r) = pm_wd ad ta h' := by
  apply List.ext_getElem?
  intro k
  unfold pm_wd
  by_cases hk : k = q
  · subst hk
    have hl : k < pm_cells.length := (List.getElem?_eq_some_iff.mp hq).1
    rw [List.getElem?_set_self (by rw [List.length_map]; exact hl), List.getElem?_map, hq]
    rfl
  · rw [List.getElem?_set_ne (fun e => hk e.symm), List.getElem?_map, List.getElem?_map]
    cases hc : pm_cells[k]? with
    | none => rfl
    | some r' =>
      have hne : r' ≠ r := by
        rintro rfl
        have h1 := List.getElem?_eq_some_iff.mp hc
        have h2 := List.getElem?_eq_some_iff.mp hq
        have h3 := List.pairwise_iff_getElem.mp pm_nodup
        rcases Nat.lt_trichotomy k q with h4 | h4 | h4
        · exact h3 k q h1.1 h2.1 h4 (h1.2.trans h2.2.symm)
        · exact hk h4
        · exact h3 q k h2.1 h1.1 h4 (h2.2.trans h1.2.symm)
      simp only [Option.map_some]
      rw [ho r' (List.mem_of_getElem? hc) hne]
theorem pm_ce_ua {ad : pm_R → Nat} {ta : Nat → ClassId} {h : pm_H} {c i s : Nat} {f : Nat → Int32} (r' : pm_R) (hne : r' ≠ (c, i, s)) : pm_ce ad ta (pm_ua h c i s f) r' = pm_ce ad ta h r' := by
  obtain ⟨c', i', s'⟩ := r'
  have hn : ¬ (c' = c ∧ i' = i ∧ s' = s) := fun ⟨e1, e2, e3⟩ => hne (by rw [e1, e2, e3])
  have e1 : pm_ua h c i s f c' i' s' = h c' i' s' := by
    funext j
    simp [pm_ua, hn]
  unfold pm_ce
  by_cases h1 : (c', i', s').2.2 = 0 ∧ (c', i', s').1 < 6
  · rw [if_pos h1, if_pos h1]
    have h2 : s' = 0 := h1.1
    subst h2
    congr 2
    apply List.map_congr_left
    intro j _
    unfold pm_fv
    cases pm_fr c' i' j with
    | none => simp only; rw [e1]
    | some r => rfl
  · rw [if_neg h1, if_neg h1]
    simp only
    rw [e1]
/-- a ref that the machine may hold: a cell of the world, or a constant -/
def pm_ok (v : pm_V) : Prop := match v with
  | .inr (.inr r) => r ∈ pm_cells ∨ 7 ≤ r.1
  | _ => True
def pm_rv (ad : pm_R → Nat) (v : pm_V) : Value := match v with
  | .inl x => .int x
  | .inr (.inl x) => .long x
  | .inr (.inr r) => .ref (ad r)
theorem pm_fr_ok : ∀ c, c < 6 → ∀ i, i < 4 → ∀ j, j < 26 → i < pm_cnt c → ∀ r, pm_fr c i j = some r → r ∈ pm_cells := by
  have h : ∀ c : Fin 6, ∀ i : Fin 4, ∀ j : Fin 26, i.val < pm_cnt c.val → (match pm_fr c.val i.val j.val with | some r => decide (r ∈ pm_cells) | none => true) = true := by decide +kernel
  intro c hc i hi j hj hcn r hr
  have h1 := h ⟨c, hc⟩ ⟨i, hi⟩ ⟨j, hj⟩ hcn
  simp only [hr] at h1
  exact of_decide_eq_true h1
end
section
/-! THE PURE MACHINE, its steps. -/
/-- the tables' words that travel -/
def pm_tbl : List Cond := lw_tbl.filter goodWord
theorem pm_tin {w : Cond} (h : w ∈ lw_tbl) (g : goodWord w = true) : w ∈ pm_tbl := List.mem_filter.mpr ⟨h, g⟩
def pm_get : pm_L → Nat → (pm_V → Prop) → Prop
  | [], _, _ => False
  | (j, v) :: t, i, k => bif Nat.beq j i then k v else pm_get t i k
def pm_lg : pm_V → Bool
  | .inr (.inl _) => true
  | _ => false
def pm_bad (j : Nat) (w : pm_V) (i : Nat) (g : Bool) : Bool := Nat.beq j i || (Nat.beq (j + 1) i && pm_lg w) || (g && Nat.beq j (i + 1))
def pm_set : pm_L → Nat → pm_V → (pm_L → Prop) → Prop
  | [], i, v, k => k [(i, v)]
  | (j, w) :: t, i, v, k => bif pm_bad j w i (pm_lg v) then pm_set t i v k else pm_set t i v (fun t' => k ((j, w) :: t'))
theorem pm_get_spec : ∀ {lv : pm_L} {i : Nat} {k : pm_V → Prop}, pm_get lv i k → ∃ v, (i, v) ∈ lv ∧ k v
  | (j, v) :: t, i, k, h => by
    unfold pm_get at h
    cases hb : Nat.beq j i with
    | true =>
      rw [hb] at h
      have e : j = i := Nat.eq_of_beq_eq_true hb
      subst e
      exact ⟨v, List.mem_cons_self, h⟩
    | false =>
      rw [hb] at h
      obtain ⟨u, h1, h2⟩ := pm_get_spec (lv := t) h
      exact ⟨u, List.mem_cons_of_mem _ h1, h2⟩
theorem pm_set_spec : ∀ {lv : pm_L} {i : Nat} {v : pm_V} {k : pm_L → Prop}, pm_set lv i v k → k (lv.filter (fun q => !pm_bad q.1 q.2 i (pm_lg v)) ++ [(i, v)])
  | [], i, v, k, h => h
  | (j, w) :: t, i, v, k, h => by
    unfold pm_set at h
    cases hb : pm_bad j w i (pm_lg v) with
    | true =>
      rw [hb] at h
      have h2 := pm_set_spec (lv := t) h
      rw [List.filter_cons_of_neg (by simp [hb])]
      exact h2
    | false =>
      rw [hb] at h
      have h2 := pm_set_spec (lv := t) (k := fun t' => k ((j, w) :: t')) h
      rw [List.filter_cons_of_pos (by simp [hb])]
      exact h2
theorem pm_get_mono : ∀ {lv : pm_L} {i : Nat} {k k' : pm_V → Prop}, (∀ v, k v → k' v) → pm_get lv i k → pm_get lv i k'
  | (j, v) :: t, i, k, k', hk, h => by
    unfold pm_get at h ⊢
    cases hb : Nat.beq j i with
    | true => rw [hb] at h; exact hk v h
    | false => rw [hb] at h; exact pm_get_mono (lv := t) hk h
def pm_cat (v : pm_V) : Nat := bif pm_lg v then 2 else 1
def pm_cs : List pm_V → Nat
  | [] => 0
  | v :: t => pm_cat v + pm_cs t
theorem pm_cat_rv (ad : pm_R → Nat) (v : pm_V) : (pm_rv ad v).category = pm_cat v := by
  rcases v with x | x | x <;> rfl
theorem pm_cs_rv (ad : pm_R → Nat) : ∀ st : List pm_V, ((st.map (pm_rv ad)).map fun v => v.category).sum = pm_cs st
  | [] => rfl
  | v :: t => by
    simp only [List.map_cons, List.sum_cons, pm_cs]
    rw [pm_cat_rv, pm_cs_rv ad t]
def pm_room (d : Nat) : Room := { frames := d, cells := 0, slots := 0, locals := 64 * d }
def pm_num (j : Nat) : Int32 := [3, 3, 3, 3, 1, 1, 1, 2].getD j 0
def pm_bnd (j : Nat) : Int32 := [9, 99, 3, 9, 99, 3, 9, 99, 3, 9, 99, 3, 9, 0, 0, 9, 0, 0, 20, 0, 0, 99, 9, 0].getD j 0
def pm_wi : List Nat := [159, 161, 163, 165, 167, 169, 170, 171]
def pm_wt : List String := ["plain", "law", "arts", "theology", "fellow", "damp", "bite", "ask"]
def pm_wl : List Nat := [5, 3, 4, 8, 6, 4, 4, 3]
def pm_wb : List (List Int32) := [[112, 108, 97, 105, 110], [108, 97, 119], [97, 114, 116, 115], [116, 104, 101, 111, 108, 111, 103, 121], [102, 101, 108, 108, 111, 119], [100, 97, 109, 112], [98, 105, 116, 101], [97, 115, 107]]
/-- what stands outside the world: the static tables, the words -/
def pm_Z (ad : pm_R → Nat) (U : State) : Prop :=
  va_Z RX3 "NUMBERS" "[I" (.ref (ad (7, 0, 0))) (pm_A ad) U U.heap ∧ va_T .int (ad (7, 0, 0)) 8 (fun j => .int (pm_num j)) (pm_A ad) U U.heap ∧
  va_Z RX3 "BOUNDS" "[I" (.ref (ad (7, 1, 0))) (pm_A ad) U U.heap ∧ va_T .int (ad (7, 1, 0)) 24 (fun j => .int (pm_bnd j)) (pm_A ad) U U.heap ∧
  va_Z RJ0 "COMPACT_STRINGS" "Z" (.int 1) (pm_A ad) U U.heap ∧
  (∀ i, i < 8 → vk_R RX3 (pm_wi.getD i 0) (pm_wt.getD i "") (ad (8, i, 0)) U) ∧ vk_S 8 pm_wl pm_wb (fun i => ad (8, i, 0)) (fun i => ad (8, i, 1)) (pm_A ad) U U.heap
theorem pm_Z.to {ad : pm_R → Nat} {s U : State} {H : Heap} {locs : List Loc} (h : pm_Z ad s) (hS : va_S (pm_A ad) s.heap H locs) (hU : U.heap = H) (hW : s.WarmedH U.vm) : pm_Z ad U := by
  obtain ⟨h1, h2, h3, h4, h5, h6, h7⟩ := h
  have hq : ∀ a : Nat, a < s.heap.size → ¬ pm_A ad a → U.heap[a]? = s.heap[a]? := fun a h8 h9 => by rw [hU]; exact hS.2.1 a h8 h9
  have hv := hW.alike
  exact ⟨va_Z.moved hv (h1.kept hq), va_T.moved hv (h2.kept hq), va_Z.moved hv (h3.kept hq), va_T.moved hv (h4.kept hq), va_Z.moved hv (h5.kept hq), fun i hi => (h6 i hi).warm hW, vk_S.moved hv (h7.kept hq)⟩
def pm_rt (rt : Nat) : Option FieldType := match rt with
  | 0 => none
  | 1 => some .int
  | 2 => some .long
  | 3 => some .boolean
  | 4 => some .char
  | _ => some .byte
def pm_B (D : va_G) (ad : pm_R → Nat) (ta : Nat → ClassId) (h : pm_H) (t : State) : Prop := va_P D pm_cl (pm_wd ad ta h) t.heap
def pm_Qc (rt : Nat) (D : va_G) (ad : pm_R → Nat) (ta : Nat → ClassId) (post : List pm_V → pm_H → Prop) : Array Value → State → Outcome → State → Prop := match rt with
  | 0 => va_Qv (fun h : pm_H => post [] h) (pm_B D ad ta) (pm_A ad)
  | 2 => va_Ql (fun (r : Int64) (h : pm_H) => post [.inr (.inl r)] h) (pm_B D ad ta) (pm_A ad)
  | _ => va_Qi (fun (r : Int32) (h : pm_H) => post [.inl r] h) (pm_B D ad ta) (pm_A ad)
section PMW
variable (own : String) (cc : ByteArray) (nL d rt : Nat) (post : List pm_V → pm_H → Prop) (p : Program) (l : Launch) (e : Env) (s : State) (m : MethodId) (args : Array Value) (below : List Frame) (meth : Method) (c : Code) (D : va_G) (ad : pm_R → Nat) (ta : Nat → ClassId)
def pm_X : Prop := p.tables.exec = Jvm.exec ∧ c.code = cc ∧ c.maxLocals = nL ∧ s.vm.findClass own = some m.cls ∧ (∀ w ∈ pm_tbl, w.before args s = true) ∧ va_K D pm_cl (pm_tys ta) s ∧ pm_Z ad s ∧ meth.sig.returnType = pm_rt rt ∧ meth.locks = false
def pm_W (pc : Nat) (x : pm_S) : Prop := (∀ q ∈ x.1, pm_ok q.2) → (∀ v ∈ x.2.1, pm_ok v) → ∀ (H : Heap) (locs : List Loc) (ls : Array Slot), va_P D pm_cl (pm_wd ad ta x.2.2) H → va_D (pm_A ad) (pm_wd ad ta x.2.2) → va_S (pm_A ad) s.heap H locs → lv_has ls nL (x.1.map fun q => (q.1, pm_rv ad q.2)) → W p l e (pm_room d) s m args below meth c H locs 0 0 (MQ below (pm_Qc rt D ad ta post) args s 0 0 (pm_A ad)) (F0 m pc ls (x.2.1.map (pm_rv ad)))
def pm_KK : pm_K := fun o x => match o with
  | none => post x.2.1 x.2.2
  | some pc => pm_W nL d rt post p l e s m args below meth c D ad ta pc x
end PMW
/-- a step's transformer is sound at pc -/
def pm_sd (own : String) (cc : ByteArray) (nL d rt : Nat) (pc : Nat) (tr : pm_T) : Prop := ∀ (post : List pm_V → pm_H → Prop) (p : Program) (l : Launch) (e : Env) (s : State) (m : MethodId) (args : Array Value) (below : List Frame) (meth : Method) (c : Code) (D : va_G) (ad : pm_R → Nat) (ta : Nat → ClassId), pm_X own cc nL rt p s m args meth c D ad ta → ∀ K : pm_K, (∀ o x, K o x → pm_KK nL d rt post p l e s m args below meth c D ad ta o x) → ∀ x, tr K x → pm_W nL d rt post p l e s m args below meth c D ad ta pc x
theorem pm_lat {ad : pm_R → Nat} {ls : Array Slot} {nL : Nat} {lv : pm_L} {i : Nat} {v : pm_V} (hl : lv_has ls nL (lv.map fun q => (q.1, pm_rv ad q.2))) (hv : (i, v) ∈ lv) : ls[i]? = some (.val (pm_rv ad v)) := hl.2.2 (i, pm_rv ad v) (List.mem_map.mpr ⟨(i, v), hv, rfl⟩)
theorem pm_kks {nL d rt : Nat} {post : List pm_V → pm_H → Prop} {p : Program} {l : Launch} {e : Env} {s : State} {m : MethodId} {args : Array Value} {below : List Frame} {meth : Method} {c : Code} {D : va_G} {ad : pm_R → Nat} {ta : Nat → ClassId} {pc : Nat} {x : pm_S} (h : pm_KK nL d rt post p l e s m args below meth c D ad ta (some pc) x) : pm_W nL d rt post p l e s m args below meth c D ad ta pc x := h
theorem pm_ok1 {v : pm_V} {st : List pm_V} (h : pm_ok v) (o : ∀ v ∈ st, pm_ok v) : ∀ u ∈ v :: st, pm_ok u := List.forall_mem_cons.mpr ⟨h, o⟩
theorem pm_okt {v : pm_V} {st : List pm_V} (o : ∀ u ∈ v :: st, pm_ok u) : ∀ u ∈ st, pm_ok u := fun u h => o u (List.mem_cons_of_mem _ h)
theorem pm_okh {v : pm_V} {st : List pm_V} (o : ∀ u ∈ v :: st, pm_ok u) : pm_ok v := o v List.mem_cons_self
theorem pm_nb {j i : Nat} (h : Nat.beq j i = false) : (j == i) = false := by
  rw [beq_eq_false_iff_ne]
  intro e
  subst e
  rw [Nat.beq_refl] at h
  cases h
/-- a store into the locals -/
theorem pm_lset {ad : pm_R → Nat} {ls : Array Slot} {nL i : Nat} {lv : pm_L} {v : pm_V} (hk : lv_has ls nL ((i, pm_rv ad v) :: (lv.map fun q => (q.1, pm_rv ad q.2)).filter (fun q => !(q.1 == i) && !(q.1 + 1 == i && q.2.category == 2)))) (hv : pm_lg v = false) : lv_has ls nL ((lv.filter (fun q => !pm_bad q.1 q.2 i (pm_lg v)) ++ [(i, v)]).map fun q => (q.1, pm_rv ad q.2)) := by
  refine ⟨hk.1, hk.2.1, fun q hq => ?_⟩
  obtain ⟨⟨j, w⟩, hw, rfl⟩ := List.mem_map.mp hq
  refine hk.2.2 _ ?_
  rcases List.mem_append.mp hw with h | h
  · obtain ⟨h1, h2⟩ := List.mem_filter.mp h
    refine List.mem_cons_of_mem _ (List.mem_filter.mpr ⟨List.mem_map.mpr ⟨_, h1, rfl⟩, ?_⟩)
    simp only [pm_bad, Bool.not_or, Bool.and_eq_true] at h2
    have h3 : (j == i) = false := pm_nb (by simpa using h2.1.1)
    have h4 : ((j + 1 == i) && (pm_rv ad w).category == 2) = false := by
      have h5 := h2.1.2
      rw [pm_cat_rv]
      cases hg : pm_lg w with
      | true => rw [pm_nb (by simpa [hg] using h5)]; rfl
      | false => simp [pm_cat, hg]
    simp only [h3, h4]
    rfl
  · cases List.mem_singleton.mp h
    exact List.mem_cons_self
theorem pm_lset2 {ad : pm_R → Nat} {ls : Array Slot} {nL i : Nat} {lv : pm_L} {v : pm_V} (hk : lv_has ls nL ((i, pm_rv ad v) :: (lv.map fun q => (q.1, pm_rv ad q.2)).filter (fun q => !(q.1 == i) && (!(q.1 == i + 1) && !(q.1 + 1 == i && q.2.category == 2))))) (hv : pm_lg v = true) : lv_has ls nL ((lv.filter (fun q => !pm_bad q.1 q.2 i (pm_lg v)) ++ [(i, v)]).map fun q => (q.1, pm_rv ad q.2)) := by
  refine ⟨hk.1, hk.2.1, fun q hq => ?_⟩
  obtain ⟨⟨j, w⟩, hw, rfl⟩ := List.mem_map.mp hq
  refine hk.2.2 _ ?_
  rcases List.mem_append.mp hw with h | h
  · obtain ⟨h1, h2⟩ := List.mem_filter.mp h
    refine List.mem_cons_of_mem _ (List.mem_filter.mpr ⟨List.mem_map.mpr ⟨_, h1, rfl⟩, ?_⟩)
    simp only [pm_bad, Bool.not_or, Bool.and_eq_true, hv, Bool.true_and] at h2
    have h3 : (j == i) = false := pm_nb (by simpa using h2.1.1)
    have h6 : (j == i + 1) = false := pm_nb (by simpa using h2.2)
    have h4 : ((j + 1 == i) && (pm_rv ad w).category == 2) = false := by
      have h5 := h2.1.2
      rw [pm_cat_rv]
      cases hg : pm_lg w with
      | true => rw [pm_nb (by simpa [hg] using h5)]; rfl
      | false => simp [pm_cat, hg]
    simp only [h3, h4, h6]
    rfl
  · cases List.mem_singleton.mp h
    exact List.mem_cons_self
theorem pm_oks {lv : pm_L} {i : Nat} {v : pm_V} {g : Nat × pm_V → Bool} (o : ∀ q ∈ lv, pm_ok q.2) (h : pm_ok v) : ∀ q ∈ lv.filter g ++ [(i, v)], pm_ok q.2 := by
  intro q hq
  rcases List.mem_append.mp hq with h1 | h1
  · exact o q (List.mem_filter.mp h1).1
  · cases List.mem_singleton.mp h1
    exact h

def i_il (i nx : Nat) : pm_T := fun K x => match x with
  | (lv, st, h) => pm_get lv i (fun v => match v with
    | .inl a => K (some nx) (lv, .inl a :: st, h)
    | _ => False)
theorem sd_iln {own : String} {cc : ByteArray} {nL d rt pc nx i : Nat} {k : Fin 4} (hd : decode cc pc = .ok (.iload_n k, 1)) (hi : (k : Nat) = i) (hn : pc + 1 = nx) : pm_sd own cc nL d rt pc (i_il i nx) := by
  intro post p l e s m args below meth c D ad ta X K hK x h
  obtain ⟨lv, st, hh⟩ := x
  subst hn
  obtain ⟨v, hv, h1⟩ := pm_get_spec h
  match v, hv, h1 with
  | .inl a, hv, h1 =>
    have h2 := pm_kks (hK _ _ h1)
    intro o1 o2 H locs ls hP hD hS hl
    exact lv_iload_n X.1 X.2.1 hd hi (pm_lat hl hv) (h2 o1 (pm_ok1 trivial o2) H locs ls hP hD hS hl)
  | .inr (.inl a), _, h1 => exact h1.elim
  | .inr (.inr a), _, h1 => exact h1.elim
theorem sd_il {own : String} {cc : ByteArray} {nL d rt pc nx i : Nat} (hd : decode cc pc = .ok (.iload i, 2)) (hn : pc + 2 = nx) : pm_sd own cc nL d rt pc (i_il i nx) := by
  intro post p l e s m args below meth c D ad ta X K hK x h
  obtain ⟨lv, st, hh⟩ := x
  subst hn
  obtain ⟨v, hv, h1⟩ := pm_get_spec h
  match v, hv, h1 with
  | .inl a, hv, h1 =>
    have h2 := pm_kks (hK _ _ h1)
    intro o1 o2 H locs ls hP hD hS hl
    exact lv_iload X.1 X.2.1 hd (pm_lat hl hv) (h2 o1 (pm_ok1 trivial o2) H locs ls hP hD hS hl)
  | .inr (.inl a), _, h1 => exact h1.elim
  | .inr (.inr a), _, h1 => exact h1.elim
def i_ll (i nx : Nat) : pm_T := fun K x => match x with
  | (lv, st, h) => pm_get lv i (fun v => match v with
    | .inr (.inl a) => K (some nx) (lv, .inr (.inl a) :: st, h)
    | _ => False)
theorem sd_lln {own : String} {cc : ByteArray} {nL d rt pc nx i : Nat} {k : Fin 4} (hd : decode cc pc = .ok (.lload_n k, 1)) (hi : (k : Nat) = i) (hn : pc + 1 = nx) : pm_sd own cc nL d rt pc (i_ll i nx) := by
  intro post p l e s m args below meth c D ad ta X K hK x h
  obtain ⟨lv, st, hh⟩ := x
  subst hn
  obtain ⟨v, hv, h1⟩ := pm_get_spec h
  match v, hv, h1 with
  | .inr (.inl a), hv, h1 =>
    have h2 := pm_kks (hK _ _ h1)
    intro o1 o2 H locs ls hP hD hS hl
    exact lv_lload_n X.1 X.2.1 hd hi (pm_lat hl hv) (h2 o1 (pm_ok1 trivial o2) H locs ls hP hD hS hl)
  | .inl a, _, h1 => exact h1.elim
  | .inr (.inr a), _, h1 => exact h1.elim
theorem sd_ll {own : String} {cc : ByteArray} {nL d rt pc nx i : Nat} (hd : decode cc pc = .ok (.lload i, 2)) (hn : pc + 2 = nx) : pm_sd own cc nL d rt pc (i_ll i nx) := by
  intro post p l e s m args below meth c D ad ta X K hK x h
  obtain ⟨lv, st, hh⟩ := x
  subst hn
  obtain ⟨v, hv, h1⟩ := pm_get_spec h
  match v, hv, h1 with
  | .inr (.inl a), hv, h1 =>
    have h2 := pm_kks (hK _ _ h1)
    intro o1 o2 H locs ls hP hD hS hl
    exact lv_lload X.1 X.2.1 hd (pm_lat hl hv) (h2 o1 (pm_ok1 trivial o2) H locs ls hP hD hS hl)
  | .inl a, _, h1 => exact h1.elim
  | .inr (.inr a), _, h1 => exact h1.elim
def i_al (i nx : Nat) : pm_T := fun K x => match x with
  | (lv, st, h) => pm_get lv i (fun v => match v with
    | .inr (.inr a) => K (some nx) (lv, .inr (.inr a) :: st, h)
    | _ => False)
theorem sd_aln {own : String} {cc : ByteArray} {nL d rt pc nx i : Nat} {k : Fin 4} (hd : decode cc pc = .ok (.aload_n k, 1)) (hi : (k : Nat) = i) (hn : pc + 1 = nx) : pm_sd own cc nL d rt pc (i_al i nx) := by
  intro post p l e s m args below meth c D ad ta X K hK x h
  obtain ⟨lv, st, hh⟩ := x
  subst hn
  obtain ⟨v, hv, h1⟩ := pm_get_spec h
  match v, hv, h1 with
  | .inr (.inr a), hv, h1 =>
    have h2 := pm_kks (hK _ _ h1)
    intro o1 o2 H locs ls hP hD hS hl
    exact lv_aload_n X.1 X.2.1 hd hi (pm_lat hl hv) (h2 o1 (pm_ok1 (o1 _ hv) o2) H locs ls hP hD hS hl)
  | .inl a, _, h1 => exact h1.elim
  | .inr (.inl a), _, h1 => exact h1.elim
theorem sd_al {own : String} {cc : ByteArray} {nL d rt pc nx i : Nat} (hd : decode cc pc = .ok (.aload i, 2)) (hn : pc + 2 = nx) : pm_sd own cc nL d rt pc (i_al i nx) := by
  intro post p l e s m args below meth c D ad ta X K hK x h
  obtain ⟨lv, st, hh⟩ := x
  subst hn
  obtain ⟨v, hv, h1⟩ := pm_get_spec h
  match v, hv, h1 with
  | .inr (.inr a), hv, h1 =>
    have h2 := pm_kks (hK _ _ h1)
    intro o1 o2 H locs ls hP hD hS hl
    exact lv_aload X.1 X.2.1 hd (pm_lat hl hv) (h2 o1 (pm_ok1 (o1 _ hv) o2) H locs ls hP hD hS hl)
  | .inl a, _, h1 => exact h1.elim
  | .inr (.inl a), _, h1 => exact h1.elim
def i_is (i nx : Nat) : pm_T := fun K x => match x with
  | (lv, .inl a :: st, h) => pm_set lv i (.inl a) (fun lv' => K (some nx) (lv', st, h))
  | _ => False
theorem sd_isn {own : String} {cc : ByteArray} {nL d rt pc nx i : Nat} {k : Fin 4} (hd : decode cc pc = .ok (.istore_n k, 1)) (hi : (k : Nat) = i) (hn : pc + 1 = nx) (hi2 : i < nL) : pm_sd own cc nL d rt pc (i_is i nx) := by
  intro post p l e s m args below meth c D ad ta X K hK x h
  obtain ⟨lv, st, hh⟩ := x
  subst hn
  match st, h with
  | .inl a :: st, h =>
    have h2 := pm_kks (hK _ _ (pm_set_spec h))
    intro o1 o2 H locs ls hP hD hS hl
    exact lv_istore_n X.1 X.2.1 hd hi hl hi2 rfl (fun ls' hl' => h2 (pm_oks o1 (pm_okh o2)) (pm_okt o2) H locs ls' hP hD hS (pm_lset (v := .inl a) hl' rfl))
  | .inr (.inl a) :: st, h => exact h.elim
  | .inr (.inr a) :: st, h => exact h.elim
  | [], h => exact h.elim
theorem sd_is {own : String} {cc : ByteArray} {nL d rt pc nx i : Nat} (hd : decode cc pc = .ok (.istore i, 2)) (hn : pc + 2 = nx) (hi2 : i < nL) : pm_sd own cc nL d rt pc (i_is i nx) := by
  intro post p l e s m args below meth c D ad ta X K hK x h
  obtain ⟨lv, st, hh⟩ := x
  subst hn
  match st, h with
  | .inl a :: st, h =>
    have h2 := pm_kks (hK _ _ (pm_set_spec h))
    intro o1 o2 H locs ls hP hD hS hl
    exact lv_istore X.1 X.2.1 hd hl hi2 rfl (fun ls' hl' => h2 (pm_oks o1 (pm_okh o2)) (pm_okt o2) H locs ls' hP hD hS (pm_lset (v := .inl a) hl' rfl))
  | .inr (.inl a) :: st, h => exact h.elim
  | .inr (.inr a) :: st, h => exact h.elim
  | [], h => exact h.elim
def i_ls (i nx : Nat) : pm_T := fun K x => match x with
  | (lv, .inr (.inl a) :: st, h) => pm_set lv i (.inr (.inl a)) (fun lv' => K (some nx) (lv', st, h))
  | _ => False
theorem sd_lsn {own : String} {cc : ByteArray} {nL d rt pc nx i : Nat} {k : Fin 4} (hd : decode cc pc = .ok (.lstore_n k, 1)) (hi : (k : Nat) = i) (hn : pc + 1 = nx) (hi2 : i + 1 < nL) : pm_sd own cc nL d rt pc (i_ls i nx) := by
  intro post p l e s m args below meth c D ad ta X K hK x h
  obtain ⟨lv, st, hh⟩ := x
  subst hn
  match st, h with
  | .inr (.inl a) :: st, h =>
    have h2 := pm_kks (hK _ _ (pm_set_spec h))
    intro o1 o2 H locs ls hP hD hS hl
    exact lv_lstore_n X.1 X.2.1 hd hi hl hi2 rfl (fun ls' hl' => h2 (pm_oks o1 (pm_okh o2)) (pm_okt o2) H locs ls' hP hD hS (pm_lset2 (v := .inr (.inl a)) hl' rfl))
  | .inl a :: st, h => exact h.elim
  | .inr (.inr a) :: st, h => exact h.elim
  | [], h => exact h.elim
theorem sd_ls {own : String} {cc : ByteArray} {nL d rt pc nx i : Nat} (hd : decode cc pc = .ok (.lstore i, 2)) (hn : pc + 2 = nx) (hi2 : i + 1 < nL) : pm_sd own cc nL d rt pc (i_ls i nx) := by
  intro post p l e s m args below meth c D ad ta X K hK x h
  obtain ⟨lv, st, hh⟩ := x
  subst hn
  match st, h with
  | .inr (.inl a) :: st, h =>
    have h2 := pm_kks (hK _ _ (pm_set_spec h))
    intro o1 o2 H locs ls hP hD hS hl
    exact lv_lstore X.1 X.2.1 hd hl hi2 rfl (fun ls' hl' => h2 (pm_oks o1 (pm_okh o2)) (pm_okt o2) H locs ls' hP hD hS (pm_lset2 (v := .inr (.inl a)) hl' rfl))
  | .inl a :: st, h => exact h.elim
  | .inr (.inr a) :: st, h => exact h.elim
  | [], h => exact h.elim
def i_as (i nx : Nat) : pm_T := fun K x => match x with
  | (lv, .inr (.inr a) :: st, h) => pm_set lv i (.inr (.inr a)) (fun lv' => K (some nx) (lv', st, h))
  | _ => False
theorem sd_asn {own : String} {cc : ByteArray} {nL d rt pc nx i : Nat} {k : Fin 4} (hd : decode cc pc = .ok (.astore_n k, 1)) (hi : (k : Nat) = i) (hn : pc + 1 = nx) (hi2 : i < nL) : pm_sd own cc nL d rt pc (i_as i nx) := by
  intro post p l e s m args below meth c D ad ta X K hK x h
  obtain ⟨lv, st, hh⟩ := x
  subst hn
  match st, h with
  | .inr (.inr a) :: st, h =>
    have h2 := pm_kks (hK _ _ (pm_set_spec h))
    intro o1 o2 H locs ls hP hD hS hl
    exact lv_astore_n X.1 X.2.1 hd hi hl hi2 rfl (fun ls' hl' => h2 (pm_oks o1 (pm_okh o2)) (pm_okt o2) H locs ls' hP hD hS (pm_lset (v := .inr (.inr a)) hl' rfl))
  | .inl a :: st, h => exact h.elim
  | .inr (.inl a) :: st, h => exact h.elim
  | [], h => exact h.elim
theorem sd_as {own : String} {cc : ByteArray} {nL d rt pc nx i : Nat} (hd : decode cc pc = .ok (.astore i, 2)) (hn : pc + 2 = nx) (hi2 : i < nL) : pm_sd own cc nL d rt pc (i_as i nx) := by
  intro post p l e s m args below meth c D ad ta X K hK x h
  obtain ⟨lv, st, hh⟩ := x
  subst hn
  match st, h with
  | .inr (.inr a) :: st, h =>
    have h2 := pm_kks (hK _ _ (pm_set_spec h))
    intro o1 o2 H locs ls hP hD hS hl
    exact lv_astore X.1 X.2.1 hd hl hi2 rfl (fun ls' hl' => h2 (pm_oks o1 (pm_okh o2)) (pm_okt o2) H locs ls' hP hD hS (pm_lset (v := .inr (.inr a)) hl' rfl))
  | .inl a :: st, h => exact h.elim
  | .inr (.inl a) :: st, h => exact h.elim
  | [], h => exact h.elim
def i_inc (i : Nat) (n : Int32) (nx : Nat) : pm_T := fun K x => match x with
  | (lv, st, h) => pm_get lv i (fun v => match v with
    | .inl a => pm_set lv i (.inl (a + n)) (fun lv' => K (some nx) (lv', st, h))
    | _ => False)
theorem sd_inc {own : String} {cc : ByteArray} {nL d rt pc nx i : Nat} {z : Int} {n : Int32} (hd : decode cc pc = .ok (.iinc i z, 3)) (hz : Int32.ofInt z = n) (hn : pc + 3 = nx) (hi2 : i < nL) : pm_sd own cc nL d rt pc (i_inc i n nx) := by
  intro post p l e s m args below meth c D ad ta X K hK x h
  obtain ⟨lv, st, hh⟩ := x
  subst hn
  obtain ⟨v, hv, h1⟩ := pm_get_spec h
  match v, hv, h1 with
  | .inl a, hv, h1 =>
    have h2 := pm_kks (hK _ _ (pm_set_spec h1))
    intro o1 o2 H locs ls hP hD hS hl
    obtain ⟨k, hk⟩ := List.getElem?_of_mem (List.mem_map.mpr ⟨(i, (.inl a : pm_V)), hv, rfl⟩ : (i, pm_rv ad (.inl a)) ∈ lv.map fun q => (q.1, pm_rv ad q.2))
    exact lv_iinc X.1 X.2.1 hd hl hk (by rw [hz]) hi2 rfl (fun ls' hl' => h2 (pm_oks o1 trivial) o2 H locs ls' hP hD hS (pm_lset (v := .inl (a + n)) hl' rfl))
  | .inr (.inl a), _, h1 => exact h1.elim
  | .inr (.inr a), _, h1 => exact h1.elim
def i_c (v : Int32) (nx : Nat) : pm_T := fun K x => match x with
  | (lv, st, h) => K (some nx) (lv, .inl v :: st, h)
def i_cl (v : Int64) (nx : Nat) : pm_T := fun K x => match x with
  | (lv, st, h) => K (some nx) (lv, .inr (.inl v) :: st, h)
theorem sd_iconst {own : String} {cc : ByteArray} {nL d rt pc nx : Nat} {z : Int} {v : Int32} (hd : decode cc pc = .ok (.iconst z, 1)) (hv : Int32.ofInt z = v) (hn : pc + 1 = nx) : pm_sd own cc nL d rt pc (i_c v nx) := by
  intro post p l e s m args below meth c D ad ta X K hK x h
  obtain ⟨lv, st, hh⟩ := x
  subst hn
  have h2 := pm_kks (hK _ _ h)
  intro o1 o2 H locs ls hP hD hS hl
  exact lv_iconst X.1 X.2.1 hd hv (h2 o1 (pm_ok1 trivial o2) H locs ls hP hD hS hl)
theorem sd_bipush {own : String} {cc : ByteArray} {nL d rt pc nx : Nat} {z : Int} {v : Int32} (hd : decode cc pc = .ok (.bipush z, 2)) (hv : (Int8.ofInt z).toInt32 = v) (hn : pc + 2 = nx) : pm_sd own cc nL d rt pc (i_c v nx) := by
  intro post p l e s m args below meth c D ad ta X K hK x h
  obtain ⟨lv, st, hh⟩ := x
  subst hn
  have h2 := pm_kks (hK _ _ h)
  intro o1 o2 H locs ls hP hD hS hl
  exact lv_bipush X.1 X.2.1 hd hv (h2 o1 (pm_ok1 trivial o2) H locs ls hP hD hS hl)
theorem sd_sipush {own : String} {cc : ByteArray} {nL d rt pc nx : Nat} {z : Int} {v : Int32} (hd : decode cc pc = .ok (.sipush z, 3)) (hv : (Int16.ofInt z).toInt32 = v) (hn : pc + 3 = nx) : pm_sd own cc nL d rt pc (i_c v nx) := by
  intro post p l e s m args below meth c D ad ta X K hK x h
  obtain ⟨lv, st, hh⟩ := x
  subst hn
  have h2 := pm_kks (hK _ _ h)
  intro o1 o2 H locs ls hP hD hS hl
  exact lv_sipush X.1 X.2.1 hd hv (h2 o1 (pm_ok1 trivial o2) H locs ls hP hD hS hl)
theorem sd_lconst {own : String} {cc : ByteArray} {nL d rt pc nx : Nat} {z : Fin 2} {v : Int64} (hd : decode cc pc = .ok (.lconst z, 1)) (hv : Int64.ofNat (z : Nat) = v) (hn : pc + 1 = nx) : pm_sd own cc nL d rt pc (i_cl v nx) := by
  intro post p l e s m args below meth c D ad ta X K hK x h
  obtain ⟨lv, st, hh⟩ := x
  subst hn
  have h2 := pm_kks (hK _ _ h)
  intro o1 o2 H locs ls hP hD hS hl
  exact lv_lconst X.1 X.2.1 hd hv (h2 o1 (pm_ok1 trivial o2) H locs ls hP hD hS hl)
theorem sd_ldc {own : String} {cc : ByteArray} {nL d rt pc nx k : Nat} {v : Int32} (hd : decode cc pc = .ok (.ldc k, 2)) (hv : (.constant own k v : Cond) ∈ pm_tbl) (hn : pc + 2 = nx) : pm_sd own cc nL d rt pc (i_c v nx) := by
  intro post p l e s m args below meth c D ad ta X K hK x h
  obtain ⟨lv, st, hh⟩ := x
  subst hn
  have h2 := pm_kks (hK _ _ h)
  intro o1 o2 H locs ls hP hD hS hl
  exact lv_ldc X.1 X.2.1 X.2.2.2.1 (X.2.2.2.2.1 _ hv) hd (h2 o1 (pm_ok1 trivial o2) H locs ls hP hD hS hl)
theorem sd_ldcw {own : String} {cc : ByteArray} {nL d rt pc nx k : Nat} {v : Int32} (hd : decode cc pc = .ok (.ldc_w k, 3)) (hv : (.constant own k v : Cond) ∈ pm_tbl) (hn : pc + 3 = nx) : pm_sd own cc nL d rt pc (i_c v nx) := by
  intro post p l e s m args below meth c D ad ta X K hK x h
  obtain ⟨lv, st, hh⟩ := x
  subst hn
  have h2 := pm_kks (hK _ _ h)
  intro o1 o2 H locs ls hP hD hS hl
  exact lv_ldcw X.1 X.2.1 X.2.2.2.1 (X.2.2.2.2.1 _ hv) hd (h2 o1 (pm_ok1 trivial o2) H locs ls hP hD hS hl)
theorem sd_ldc2 {own : String} {cc : ByteArray} {nL d rt pc nx k : Nat} {v : Int64} (hd : decode cc pc = .ok (.ldc2_w k, 3)) (hv : (.constantLong own k v : Cond) ∈ pm_tbl) (hn : pc + 3 = nx) : pm_sd own cc nL d rt pc (i_cl v nx) := by
  intro post p l e s m args below meth c D ad ta X K hK x h
  obtain ⟨lv, st, hh⟩ := x
  subst hn
  have h2 := pm_kks (hK _ _ h)
  intro o1 o2 H locs ls hP hD hS hl
  exact lv_ldc2 X.1 X.2.1 X.2.2.2.1 (X.2.2.2.2.1 _ hv) hd (h2 o1 (pm_ok1 trivial o2) H locs ls hP hD hS hl)
def i_iadd (nx : Nat) : pm_T := fun K z => match z with
  | (lv, .inl y :: .inl x :: st, h) => K (some nx) (lv, .inl (x + y) :: st, h)
  | _ => False
theorem sd_iadd {own : String} {cc : ByteArray} {nL d rt pc nx : Nat} (hd : decode cc pc = .ok (.iadd, 1)) (hn : pc + 1 = nx) : pm_sd own cc nL d rt pc (i_iadd nx) := by
  intro post p l e s m args below meth c D ad ta X K hK x h
  obtain ⟨lv, st, hh⟩ := x
  subst hn
  match st, h with
  | .inl y :: .inl x :: st, h =>
    have h2 := pm_kks (hK _ _ h)
    intro o1 o2 H locs ls hP hD hS hl
    exact lv_iadd X.1 X.2.1 hd (h2 o1 (pm_ok1 trivial (pm_okt (pm_okt o2))) H locs ls hP hD hS hl)
  | [], h => exact h.elim
  | [.inl _], h => exact h.elim
  | [.inr (.inl _)], h => exact h.elim
  | [.inr (.inr _)], h => exact h.elim
  | .inl _ :: .inr (.inl _) :: _, h => exact h.elim
  | .inl _ :: .inr (.inr _) :: _, h => exact h.elim
  | .inr (.inl _) :: _ :: _, h => exact h.elim
  | .inr (.inr _) :: _ :: _, h => exact h.elim
def i_isub (nx : Nat) : pm_T := fun K z => match z with
  | (lv, .inl y :: .inl x :: st, h) => K (some nx) (lv, .inl (x - y) :: st, h)
  | _ => False
theorem sd_isub {own : String} {cc : ByteArray} {nL d rt pc nx : Nat} (hd : decode cc pc = .ok (.isub, 1)) (hn : pc + 1 = nx) : pm_sd own cc nL d rt pc (i_isub nx) := by
  intro post p l e s m args below meth c D ad ta X K hK x h
  obtain ⟨lv, st, hh⟩ := x
  subst hn
  match st, h with
  | .inl y :: .inl x :: st, h =>
    have h2 := pm_kks (hK _ _ h)
    intro o1 o2 H locs ls hP hD hS hl
    exact lv_isub X.1 X.2.1 hd (h2 o1 (pm_ok1 trivial (pm_okt (pm_okt o2))) H locs ls hP hD hS hl)
  | [], h => exact h.elim
  | [.inl _], h => exact h.elim
  | [.inr (.inl _)], h => exact h.elim
  | [.inr (.inr _)], h => exact h.elim
  | .inl _ :: .inr (.inl _) :: _, h => exact h.elim
  | .inl _ :: .inr (.inr _) :: _, h => exact h.elim
  | .inr (.inl _) :: _ :: _, h => exact h.elim
  | .inr (.inr _) :: _ :: _, h => exact h.elim
def i_imul (nx : Nat) : pm_T := fun K z => match z with
  | (lv, .inl y :: .inl x :: st, h) => K (some nx) (lv, .inl (x * y) :: st, h)
  | _ => False
theorem sd_imul {own : String} {cc : ByteArray} {nL d rt pc nx : Nat} (hd : decode cc pc = .ok (.imul, 1)) (hn : pc + 1 = nx) : pm_sd own cc nL d rt pc (i_imul nx) := by
  intro post p l e s m args below meth c D ad ta X K hK x h
  obtain ⟨lv, st, hh⟩ := x
  subst hn
  match st, h with
  | .inl y :: .inl x :: st, h =>
    have h2 := pm_kks (hK _ _ h)
    intro o1 o2 H locs ls hP hD hS hl
    exact lv_imul X.1 X.2.1 hd (h2 o1 (pm_ok1 trivial (pm_okt (pm_okt o2))) H locs ls hP hD hS hl)
  | [], h => exact h.elim
  | [.inl _], h => exact h.elim
  | [.inr (.inl _)], h => exact h.elim
  | [.inr (.inr _)], h => exact h.elim
  | .inl _ :: .inr (.inl _) :: _, h => exact h.elim
  | .inl _ :: .inr (.inr _) :: _, h => exact h.elim
  | .inr (.inl _) :: _ :: _, h => exact h.elim
  | .inr (.inr _) :: _ :: _, h => exact h.elim
def i_iand (nx : Nat) : pm_T := fun K z => match z with
  | (lv, .inl y :: .inl x :: st, h) => K (some nx) (lv, .inl (x &&& y) :: st, h)
  | _ => False
theorem sd_iand {own : String} {cc : ByteArray} {nL d rt pc nx : Nat} (hd : decode cc pc = .ok (.iand, 1)) (hn : pc + 1 = nx) : pm_sd own cc nL d rt pc (i_iand nx) := by
  intro post p l e s m args below meth c D ad ta X K hK x h
  obtain ⟨lv, st, hh⟩ := x
  subst hn
  match st, h with
  | .inl y :: .inl x :: st, h =>
    have h2 := pm_kks (hK _ _ h)
    intro o1 o2 H locs ls hP hD hS hl
    exact lv_iand X.1 X.2.1 hd (h2 o1 (pm_ok1 trivial (pm_okt (pm_okt o2))) H locs ls hP hD hS hl)
  | [], h => exact h.elim
  | [.inl _], h => exact h.elim
  | [.inr (.inl _)], h => exact h.elim
  | [.inr (.inr _)], h => exact h.elim
  | .inl _ :: .inr (.inl _) :: _, h => exact h.elim
  | .inl _ :: .inr (.inr _) :: _, h => exact h.elim
  | .inr (.inl _) :: _ :: _, h => exact h.elim
  | .inr (.inr _) :: _ :: _, h => exact h.elim
def i_ior (nx : Nat) : pm_T := fun K z => match z with
  | (lv, .inl y :: .inl x :: st, h) => K (some nx) (lv, .inl (x ||| y) :: st, h)
  | _ => False
theorem sd_ior {own : String} {cc : ByteArray} {nL d rt pc nx : Nat} (hd : decode cc pc = .ok (.ior, 1)) (hn : pc + 1 = nx) : pm_sd own cc nL d rt pc (i_ior nx) := by
  intro post p l e s m args below meth c D ad ta X K hK x h
  obtain ⟨lv, st, hh⟩ := x
  subst hn
  match st, h with
  | .inl y :: .inl x :: st, h =>
    have h2 := pm_kks (hK _ _ h)
    intro o1 o2 H locs ls hP hD hS hl
    exact lv_ior X.1 X.2.1 hd (h2 o1 (pm_ok1 trivial (pm_okt (pm_okt o2))) H locs ls hP hD hS hl)
  | [], h => exact h.elim
  | [.inl _], h => exact h.elim
  | [.inr (.inl _)], h => exact h.elim
  | [.inr (.inr _)], h => exact h.elim
  | .inl _ :: .inr (.inl _) :: _, h => exact h.elim
  | .inl _ :: .inr (.inr _) :: _, h => exact h.elim
  | .inr (.inl _) :: _ :: _, h => exact h.elim
  | .inr (.inr _) :: _ :: _, h => exact h.elim
def i_ishl (nx : Nat) : pm_T := fun K z => match z with
  | (lv, .inl y :: .inl x :: st, h) => K (some nx) (lv, .inl (x <<< (y &&& 31)) :: st, h)
  | _ => False
theorem sd_ishl {own : String} {cc : ByteArray} {nL d rt pc nx : Nat} (hd : decode cc pc = .ok (.ishl, 1)) (hn : pc + 1 = nx) : pm_sd own cc nL d rt pc (i_ishl nx) := by
  intro post p l e s m args below meth c D ad ta X K hK x h
  obtain ⟨lv, st, hh⟩ := x
  subst hn
  match st, h with
  | .inl y :: .inl x :: st, h =>
    have h2 := pm_kks (hK _ _ h)
    intro o1 o2 H locs ls hP hD hS hl
    exact lv_ishl X.1 X.2.1 hd (h2 o1 (pm_ok1 trivial (pm_okt (pm_okt o2))) H locs ls hP hD hS hl)
  | [], h => exact h.elim
  | [.inl _], h => exact h.elim
  | [.inr (.inl _)], h => exact h.elim
  | [.inr (.inr _)], h => exact h.elim
  | .inl _ :: .inr (.inl _) :: _, h => exact h.elim
  | .inl _ :: .inr (.inr _) :: _, h => exact h.elim
  | .inr (.inl _) :: _ :: _, h => exact h.elim
  | .inr (.inr _) :: _ :: _, h => exact h.elim
def i_ishr (nx : Nat) : pm_T := fun K z => match z with
  | (lv, .inl y :: .inl x :: st, h) => K (some nx) (lv, .inl (x >>> (y &&& 31)) :: st, h)
  | _ => False
theorem sd_ishr {own : String} {cc : ByteArray} {nL d rt pc nx : Nat} (hd : decode cc pc = .ok (.ishr, 1)) (hn : pc + 1 = nx) : pm_sd own cc nL d rt pc (i_ishr nx) := by
  intro post p l e s m args below meth c D ad ta X K hK x h
  obtain ⟨lv, st, hh⟩ := x
  subst hn
  match st, h with
  | .inl y :: .inl x :: st, h =>
    have h2 := pm_kks (hK _ _ h)
    intro o1 o2 H locs ls hP hD hS hl
    exact lv_ishr X.1 X.2.1 hd (h2 o1 (pm_ok1 trivial (pm_okt (pm_okt o2))) H locs ls hP hD hS hl)
  | [], h => exact h.elim
  | [.inl _], h => exact h.elim
  | [.inr (.inl _)], h => exact h.elim
  | [.inr (.inr _)], h => exact h.elim
  | .inl _ :: .inr (.inl _) :: _, h => exact h.elim
  | .inl _ :: .inr (.inr _) :: _, h => exact h.elim
  | .inr (.inl _) :: _ :: _, h => exact h.elim
  | .inr (.inr _) :: _ :: _, h => exact h.elim
def i_iushr (nx : Nat) : pm_T := fun K z => match z with
  | (lv, .inl y :: .inl x :: st, h) => K (some nx) (lv, .inl ((x.toUInt32 >>> (y.toUInt32 &&& Int32.toUInt32 31)).toInt32) :: st, h)
  | _ => False
theorem sd_iushr {own : String} {cc : ByteArray} {nL d rt pc nx : Nat} (hd : decode cc pc = .ok (.iushr, 1)) (hn : pc + 1 = nx) : pm_sd own cc nL d rt pc (i_iushr nx) := by
  intro post p l e s m args below meth c D ad ta X K hK x h
  obtain ⟨lv, st, hh⟩ := x
  subst hn
  match st, h with
  | .inl y :: .inl x :: st, h =>
    have h2 := pm_kks (hK _ _ h)
    intro o1 o2 H locs ls hP hD hS hl
    exact lv_iushr X.1 X.2.1 hd rfl (h2 o1 (pm_ok1 trivial (pm_okt (pm_okt o2))) H locs ls hP hD hS hl)
  | [], h => exact h.elim
  | [.inl _], h => exact h.elim
  | [.inr (.inl _)], h => exact h.elim
  | [.inr (.inr _)], h => exact h.elim
  | .inl _ :: .inr (.inl _) :: _, h => exact h.elim
  | .inl _ :: .inr (.inr _) :: _, h => exact h.elim
  | .inr (.inl _) :: _ :: _, h => exact h.elim
  | .inr (.inr _) :: _ :: _, h => exact h.elim
def i_idiv (nx : Nat) : pm_T := fun K z => match z with
  | (lv, .inl y :: .inl x :: st, h) => ¬ y = 0 ∧ K (some nx) (lv, .inl (x / y) :: st, h)
  | _ => False
theorem sd_idiv {own : String} {cc : ByteArray} {nL d rt pc nx : Nat} (hd : decode cc pc = .ok (.idiv, 1)) (hn : pc + 1 = nx) : pm_sd own cc nL d rt pc (i_idiv nx) := by
  intro post p l e s m args below meth c D ad ta X K hK x h
  obtain ⟨lv, st, hh⟩ := x
  subst hn
  match st, h with
  | .inl y :: .inl x :: st, h =>
    have h2 := pm_kks (hK _ _ h.2)
    intro o1 o2 H locs ls hP hD hS hl
    exact lv_idiv X.1 X.2.1 hd h.1 (h2 o1 (pm_ok1 trivial (pm_okt (pm_okt o2))) H locs ls hP hD hS hl)
  | [], h => exact h.elim
  | [.inl _], h => exact h.elim
  | [.inr (.inl _)], h => exact h.elim
  | [.inr (.inr _)], h => exact h.elim
  | .inl _ :: .inr (.inl _) :: _, h => exact h.elim
  | .inl _ :: .inr (.inr _) :: _, h => exact h.elim
  | .inr (.inl _) :: _ :: _, h => exact h.elim
  | .inr (.inr _) :: _ :: _, h => exact h.elim
def i_irem (nx : Nat) : pm_T := fun K z => match z with
  | (lv, .inl y :: .inl x :: st, h) => ¬ y = 0 ∧ K (some nx) (lv, .inl (x - x / y * y) :: st, h)
  | _ => False
theorem sd_irem {own : String} {cc : ByteArray} {nL d rt pc nx : Nat} (hd : decode cc pc = .ok (.irem, 1)) (hn : pc + 1 = nx) : pm_sd own cc nL d rt pc (i_irem nx) := by
  intro post p l e s m args below meth c D ad ta X K hK x h
  obtain ⟨lv, st, hh⟩ := x
  subst hn
  match st, h with
  | .inl y :: .inl x :: st, h =>
    have h2 := pm_kks (hK _ _ h.2)
    intro o1 o2 H locs ls hP hD hS hl
    exact lv_irem X.1 X.2.1 hd h.1 (h2 o1 (pm_ok1 trivial (pm_okt (pm_okt o2))) H locs ls hP hD hS hl)
  | [], h => exact h.elim
  | [.inl _], h => exact h.elim
  | [.inr (.inl _)], h => exact h.elim
  | [.inr (.inr _)], h => exact h.elim
  | .inl _ :: .inr (.inl _) :: _, h => exact h.elim
  | .inl _ :: .inr (.inr _) :: _, h => exact h.elim
  | .inr (.inl _) :: _ :: _, h => exact h.elim
  | .inr (.inr _) :: _ :: _, h => exact h.elim
def i_ladd (nx : Nat) : pm_T := fun K z => match z with
  | (lv, .inr (.inl y) :: .inr (.inl x) :: st, h) => K (some nx) (lv, .inr (.inl (x + y)) :: st, h)
  | _ => False
theorem sd_ladd {own : String} {cc : ByteArray} {nL d rt pc nx : Nat} (hd : decode cc pc = .ok (.ladd, 1)) (hn : pc + 1 = nx) : pm_sd own cc nL d rt pc (i_ladd nx) := by
  intro post p l e s m args below meth c D ad ta X K hK x h
  obtain ⟨lv, st, hh⟩ := x
  subst hn
  match st, h with
  | .inr (.inl y) :: .inr (.inl x) :: st, h =>
    have h2 := pm_kks (hK _ _ h)
    intro o1 o2 H locs ls hP hD hS hl
    exact lv_ladd X.1 X.2.1 hd (h2 o1 (pm_ok1 trivial (pm_okt (pm_okt o2))) H locs ls hP hD hS hl)
  | [], h => exact h.elim
  | [.inl _], h => exact h.elim
  | [.inr (.inl _)], h => exact h.elim
  | [.inr (.inr _)], h => exact h.elim
  | .inr (.inl _) :: .inl _ :: _, h => exact h.elim
  | .inr (.inl _) :: .inr (.inr _) :: _, h => exact h.elim
  | .inl _ :: _ :: _, h => exact h.elim
  | .inr (.inr _) :: _ :: _, h => exact h.elim
def i_lmul (nx : Nat) : pm_T := fun K z => match z with
  | (lv, .inr (.inl y) :: .inr (.inl x) :: st, h) => K (some nx) (lv, .inr (.inl (x * y)) :: st, h)
  | _ => False
theorem sd_lmul {own : String} {cc : ByteArray} {nL d rt pc nx : Nat} (hd : decode cc pc = .ok (.lmul, 1)) (hn : pc + 1 = nx) : pm_sd own cc nL d rt pc (i_lmul nx) := by
  intro post p l e s m args below meth c D ad ta X K hK x h
  obtain ⟨lv, st, hh⟩ := x
  subst hn
  match st, h with
  | .inr (.inl y) :: .inr (.inl x) :: st, h =>
    have h2 := pm_kks (hK _ _ h)
    intro o1 o2 H locs ls hP hD hS hl
    exact lv_lmul X.1 X.2.1 hd (h2 o1 (pm_ok1 trivial (pm_okt (pm_okt o2))) H locs ls hP hD hS hl)
  | [], h => exact h.elim
  | [.inl _], h => exact h.elim
  | [.inr (.inl _)], h => exact h.elim
  | [.inr (.inr _)], h => exact h.elim
  | .inr (.inl _) :: .inl _ :: _, h => exact h.elim
  | .inr (.inl _) :: .inr (.inr _) :: _, h => exact h.elim
  | .inl _ :: _ :: _, h => exact h.elim
  | .inr (.inr _) :: _ :: _, h => exact h.elim
def i_ldiv (nx : Nat) : pm_T := fun K z => match z with
  | (lv, .inr (.inl y) :: .inr (.inl x) :: st, h) => ¬ y = 0 ∧ K (some nx) (lv, .inr (.inl (x / y)) :: st, h)
  | _ => False
theorem sd_ldiv {own : String} {cc : ByteArray} {nL d rt pc nx : Nat} (hd : decode cc pc = .ok (.ldiv, 1)) (hn : pc + 1 = nx) : pm_sd own cc nL d rt pc (i_ldiv nx) := by
  intro post p l e s m args below meth c D ad ta X K hK x h
  obtain ⟨lv, st, hh⟩ := x
  subst hn
  match st, h with
  | .inr (.inl y) :: .inr (.inl x) :: st, h =>
    have h2 := pm_kks (hK _ _ h.2)
    intro o1 o2 H locs ls hP hD hS hl
    exact lv_ldiv X.1 X.2.1 hd h.1 (h2 o1 (pm_ok1 trivial (pm_okt (pm_okt o2))) H locs ls hP hD hS hl)
  | [], h => exact h.elim
  | [.inl _], h => exact h.elim
  | [.inr (.inl _)], h => exact h.elim
  | [.inr (.inr _)], h => exact h.elim
  | .inr (.inl _) :: .inl _ :: _, h => exact h.elim
  | .inr (.inl _) :: .inr (.inr _) :: _, h => exact h.elim
  | .inl _ :: _ :: _, h => exact h.elim
  | .inr (.inr _) :: _ :: _, h => exact h.elim
def i_lrem (nx : Nat) : pm_T := fun K z => match z with
  | (lv, .inr (.inl y) :: .inr (.inl x) :: st, h) => ¬ y = 0 ∧ K (some nx) (lv, .inr (.inl (x - x / y * y)) :: st, h)
  | _ => False
theorem sd_lrem {own : String} {cc : ByteArray} {nL d rt pc nx : Nat} (hd : decode cc pc = .ok (.lrem, 1)) (hn : pc + 1 = nx) : pm_sd own cc nL d rt pc (i_lrem nx) := by
  intro post p l e s m args below meth c D ad ta X K hK x h
  obtain ⟨lv, st, hh⟩ := x
  subst hn
  match st, h with
  | .inr (.inl y) :: .inr (.inl x) :: st, h =>
    have h2 := pm_kks (hK _ _ h.2)
    intro o1 o2 H locs ls hP hD hS hl
    exact lv_lrem X.1 X.2.1 hd h.1 (h2 o1 (pm_ok1 trivial (pm_okt (pm_okt o2))) H locs ls hP hD hS hl)
  | [], h => exact h.elim
  | [.inl _], h => exact h.elim
  | [.inr (.inl _)], h => exact h.elim
  | [.inr (.inr _)], h => exact h.elim
  | .inr (.inl _) :: .inl _ :: _, h => exact h.elim
  | .inr (.inl _) :: .inr (.inr _) :: _, h => exact h.elim
  | .inl _ :: _ :: _, h => exact h.elim
  | .inr (.inr _) :: _ :: _, h => exact h.elim
def i_lcmp (nx : Nat) : pm_T := fun K z => match z with
  | (lv, .inr (.inl y) :: .inr (.inl x) :: st, h) => K (some nx) (lv, .inl (lg_cmp x y) :: st, h)
  | _ => False
theorem sd_lcmp {own : String} {cc : ByteArray} {nL d rt pc nx : Nat} (hd : decode cc pc = .ok (.lcmp, 1)) (hn : pc + 1 = nx) : pm_sd own cc nL d rt pc (i_lcmp nx) := by
  intro post p l e s m args below meth c D ad ta X K hK x h
  obtain ⟨lv, st, hh⟩ := x
  subst hn
  match st, h with
  | .inr (.inl y) :: .inr (.inl x) :: st, h =>
    have h2 := pm_kks (hK _ _ h)
    intro o1 o2 H locs ls hP hD hS hl
    exact W.lcmp X.1 X.2.1 hd (h2 o1 (pm_ok1 trivial (pm_okt (pm_okt o2))) H locs ls hP hD hS hl)
  | [], h => exact h.elim
  | [.inl _], h => exact h.elim
  | [.inr (.inl _)], h => exact h.elim
  | [.inr (.inr _)], h => exact h.elim
  | .inr (.inl _) :: .inl _ :: _, h => exact h.elim
  | .inr (.inl _) :: .inr (.inr _) :: _, h => exact h.elim
  | .inl _ :: _ :: _, h => exact h.elim
  | .inr (.inr _) :: _ :: _, h => exact h.elim
def i_i2l (nx : Nat) : pm_T := fun K z => match z with
  | (lv, .inl x :: st, h) => K (some nx) (lv, .inr (.inl x.toInt64) :: st, h)
  | _ => False
theorem sd_i2l {own : String} {cc : ByteArray} {nL d rt pc nx : Nat} (hd : decode cc pc = .ok (.i2l, 1)) (hn : pc + 1 = nx) : pm_sd own cc nL d rt pc (i_i2l nx) := by
  intro post p l e s m args below meth c D ad ta X K hK x h
  obtain ⟨lv, st, hh⟩ := x
  subst hn
  match st, h with
  | .inl x :: st, h =>
    have h2 := pm_kks (hK _ _ h)
    intro o1 o2 H locs ls hP hD hS hl
    exact lv_i2l X.1 X.2.1 hd rfl (h2 o1 (pm_ok1 trivial (pm_okt o2)) H locs ls hP hD hS hl)
  | [], h => exact h.elim
  | .inr (.inl x) :: _, h => exact h.elim
  | .inr (.inr x) :: _, h => exact h.elim
def i_i2b (nx : Nat) : pm_T := fun K z => match z with
  | (lv, .inl x :: st, h) => K (some nx) (lv, .inl x.toInt8.toInt32 :: st, h)
  | _ => False
theorem sd_i2b {own : String} {cc : ByteArray} {nL d rt pc nx : Nat} (hd : decode cc pc = .ok (.i2b, 1)) (hn : pc + 1 = nx) : pm_sd own cc nL d rt pc (i_i2b nx) := by
  intro post p l e s m args below meth c D ad ta X K hK x h
  obtain ⟨lv, st, hh⟩ := x
  subst hn
  match st, h with
  | .inl x :: st, h =>
    have h2 := pm_kks (hK _ _ h)
    intro o1 o2 H locs ls hP hD hS hl
    exact lv_i2b X.1 X.2.1 hd rfl (h2 o1 (pm_ok1 trivial (pm_okt o2)) H locs ls hP hD hS hl)
  | [], h => exact h.elim
  | .inr (.inl x) :: _, h => exact h.elim
  | .inr (.inr x) :: _, h => exact h.elim
def i_i2s (nx : Nat) : pm_T := fun K z => match z with
  | (lv, .inl x :: st, h) => K (some nx) (lv, .inl x.toInt16.toInt32 :: st, h)
  | _ => False
theorem sd_i2s {own : String} {cc : ByteArray} {nL d rt pc nx : Nat} (hd : decode cc pc = .ok (.i2s, 1)) (hn : pc + 1 = nx) : pm_sd own cc nL d rt pc (i_i2s nx) := by
  intro post p l e s m args below meth c D ad ta X K hK x h
  obtain ⟨lv, st, hh⟩ := x
  subst hn
  match st, h with
  | .inl x :: st, h =>
    have h2 := pm_kks (hK _ _ h)
    intro o1 o2 H locs ls hP hD hS hl
    exact lv_i2s X.1 X.2.1 hd rfl (h2 o1 (pm_ok1 trivial (pm_okt o2)) H locs ls hP hD hS hl)
  | [], h => exact h.elim
  | .inr (.inl x) :: _, h => exact h.elim
  | .inr (.inr x) :: _, h => exact h.elim
def i_i2c (nx : Nat) : pm_T := fun K z => match z with
  | (lv, .inl x :: st, h) => K (some nx) (lv, .inl (x.toUInt32 % 65536).toInt32 :: st, h)
  | _ => False
theorem sd_i2c {own : String} {cc : ByteArray} {nL d rt pc nx : Nat} (hd : decode cc pc = .ok (.i2c, 1)) (hn : pc + 1 = nx) : pm_sd own cc nL d rt pc (i_i2c nx) := by
  intro post p l e s m args below meth c D ad ta X K hK x h
  obtain ⟨lv, st, hh⟩ := x
  subst hn
  match st, h with
  | .inl x :: st, h =>
    have h2 := pm_kks (hK _ _ h)
    intro o1 o2 H locs ls hP hD hS hl
    exact lv_i2c X.1 X.2.1 hd rfl (h2 o1 (pm_ok1 trivial (pm_okt o2)) H locs ls hP hD hS hl)
  | [], h => exact h.elim
  | .inr (.inl x) :: _, h => exact h.elim
  | .inr (.inr x) :: _, h => exact h.elim
def i_dup (nx : Nat) : pm_T := fun K z => match z with
  | (lv, v :: st, h) => bif pm_lg v then False else K (some nx) (lv, v :: v :: st, h)
  | _ => False
theorem pm_c1 {ad : pm_R → Nat} {v : pm_V} (h : pm_lg v = false) : (pm_rv ad v).category = 1 := by rw [pm_cat_rv, pm_cat, h]; rfl
theorem pm_bf {b : Bool} {P : Prop} (h : bif b then False else P) : b = false ∧ P := by cases b with | true => exact h.elim | false => exact ⟨rfl, h⟩
theorem pm_bt {b : Bool} {P : Prop} (h : bif b then P else False) : b = true ∧ P := by cases b with | false => exact h.elim | true => exact ⟨rfl, h⟩
theorem sd_dup {own : String} {cc : ByteArray} {nL d rt pc nx : Nat} (hd : decode cc pc = .ok (.dup, 1)) (hn : pc + 1 = nx) : pm_sd own cc nL d rt pc (i_dup nx) := by
  intro post p l e s m args below meth c D ad ta X K hK x h
  obtain ⟨lv, st, hh⟩ := x
  subst hn
  match st, h with
  | v :: st, h =>
    obtain ⟨hg, h⟩ := pm_bf h
    have h2 := pm_kks (hK _ _ h)
    intro o1 o2 H locs ls hP hD hS hl
    exact lv_dup X.1 X.2.1 hd (pm_c1 hg) (h2 o1 (pm_ok1 (pm_okh o2) o2) H locs ls hP hD hS hl)
  | [], h => exact h.elim
def i_pop (nx : Nat) : pm_T := fun K z => match z with
  | (lv, v :: st, h) => bif pm_lg v then False else K (some nx) (lv, st, h)
  | _ => False
theorem sd_pop {own : String} {cc : ByteArray} {nL d rt pc nx : Nat} (hd : decode cc pc = .ok (.pop, 1)) (hn : pc + 1 = nx) : pm_sd own cc nL d rt pc (i_pop nx) := by
  intro post p l e s m args below meth c D ad ta X K hK x h
  obtain ⟨lv, st, hh⟩ := x
  subst hn
  match st, h with
  | v :: st, h =>
    obtain ⟨hg, h⟩ := pm_bf h
    have h2 := pm_kks (hK _ _ h)
    intro o1 o2 H locs ls hP hD hS hl
    exact lv_pop X.1 X.2.1 hd (pm_c1 hg) (h2 o1 (pm_okt o2) H locs ls hP hD hS hl)
  | [], h => exact h.elim
def i_dup2 (nx : Nat) : pm_T := fun K z => match z with
  | (lv, u :: v :: st, h) => bif pm_lg u || pm_lg v then False else K (some nx) (lv, u :: v :: u :: v :: st, h)
  | _ => False
theorem sd_dup2 {own : String} {cc : ByteArray} {nL d rt pc nx : Nat} (hd : decode cc pc = .ok (.dup2, 1)) (hn : pc + 1 = nx) : pm_sd own cc nL d rt pc (i_dup2 nx) := by
  intro post p l e s m args below meth c D ad ta X K hK x h
  obtain ⟨lv, st, hh⟩ := x
  subst hn
  match st, h with
  | u :: v :: st, h =>
    obtain ⟨hg, h⟩ := pm_bf h
    have h2 := pm_kks (hK _ _ h)
    intro o1 o2 H locs ls hP hD hS hl
    have hu : pm_lg u = false := (Bool.or_eq_false_iff.mp hg).1
    have hv : pm_lg v = false := (Bool.or_eq_false_iff.mp hg).2
    exact lv_dup2_11 X.1 X.2.1 hd (pm_c1 hu) (pm_c1 hv) (h2 o1 (pm_ok1 (pm_okh o2) (pm_ok1 (pm_okh (pm_okt o2)) o2)) H locs ls hP hD hS hl)
  | [], h => exact h.elim
  | [_], h => exact h.elim
def i_go (tgt : Nat) : pm_T := fun K x => K (some tgt) x
theorem sd_go {own : String} {cc : ByteArray} {nL d rt pc tgt : Nat} {off : Int} (hd : decode cc pc = .ok (.goto off, 3)) (ht : (pc : Int) + off = (tgt : Int)) : pm_sd own cc nL d rt pc (i_go tgt) := by
  intro post p l e s m args below meth c D ad ta X K hK x h
  obtain ⟨lv, st, hh⟩ := x
  have h2 := pm_kks (hK _ _ h)
  intro o1 o2 H locs ls hP hD hS hl
  exact lv_goto X.1 X.2.1 hd ht (h2 o1 o2 H locs ls hP hD hS hl)
def i_ifeq (tgt nx : Nat) : pm_T := fun K z => match z with
  | (lv, .inl x :: st, h) => (x = 0 → K (some tgt) (lv, st, h)) ∧ (¬ x = 0 → K (some nx) (lv, st, h))
  | _ => False
theorem sd_ifeq {own : String} {cc : ByteArray} {nL d rt pc nx tgt : Nat} {off : Int} (hd : decode cc pc = .ok (.ifCond .eq off, 3)) (ht : (pc : Int) + off = (tgt : Int)) (hn : pc + 3 = nx) : pm_sd own cc nL d rt pc (i_ifeq tgt nx) := by
  intro post p l e s m args below meth c D ad ta X K hK x h
  obtain ⟨lv, st, hh⟩ := x
  subst hn
  match st, h with
  | .inl x :: st, h =>
    intro o1 o2 H locs ls hP hD hS hl
    exact lv_if_eq X.1 X.2.1 hd ht (fun hc => (pm_kks (hK _ _ (h.1 hc))) o1 (pm_okt o2) H locs ls hP hD hS hl) (fun hc => (pm_kks (hK _ _ (h.2 hc))) o1 (pm_okt o2) H locs ls hP hD hS hl)
  | [], h => exact h.elim
  | .inr (.inl _) :: _, h => exact h.elim
  | .inr (.inr _) :: _, h => exact h.elim
def i_ifne (tgt nx : Nat) : pm_T := fun K z => match z with
  | (lv, .inl x :: st, h) => (¬ x = 0 → K (some tgt) (lv, st, h)) ∧ (x = 0 → K (some nx) (lv, st, h))
  | _ => False
theorem sd_ifne {own : String} {cc : ByteArray} {nL d rt pc nx tgt : Nat} {off : Int} (hd : decode cc pc = .ok (.ifCond .ne off, 3)) (ht : (pc : Int) + off = (tgt : Int)) (hn : pc + 3 = nx) : pm_sd own cc nL d rt pc (i_ifne tgt nx) := by
  intro post p l e s m args below meth c D ad ta X K hK x h
  obtain ⟨lv, st, hh⟩ := x
  subst hn
  match st, h with
  | .inl x :: st, h =>
    intro o1 o2 H locs ls hP hD hS hl
    exact lv_if_ne X.1 X.2.1 hd ht (fun hc => (pm_kks (hK _ _ (h.1 hc))) o1 (pm_okt o2) H locs ls hP hD hS hl) (fun hc => (pm_kks (hK _ _ (h.2 hc))) o1 (pm_okt o2) H locs ls hP hD hS hl)
  | [], h => exact h.elim
  | .inr (.inl _) :: _, h => exact h.elim
  | .inr (.inr _) :: _, h => exact h.elim
def i_iflt (tgt nx : Nat) : pm_T := fun K z => match z with
  | (lv, .inl x :: st, h) => (x < 0 → K (some tgt) (lv, st, h)) ∧ (¬ x < 0 → K (some nx) (lv, st, h))
  | _ => False
theorem sd_iflt {own : String} {cc : ByteArray} {nL d rt pc nx tgt : Nat} {off : Int} (hd : decode cc pc = .ok (.ifCond .lt off, 3)) (ht : (pc : Int) + off = (tgt : Int)) (hn : pc + 3 = nx) : pm_sd own cc nL d rt pc (i_iflt tgt nx) := by
  intro post p l e s m args below meth c D ad ta X K hK x h
  obtain ⟨lv, st, hh⟩ := x
  subst hn
  match st, h with
  | .inl x :: st, h =>
    intro o1 o2 H locs ls hP hD hS hl
    exact lv_if_lt X.1 X.2.1 hd ht (fun hc => (pm_kks (hK _ _ (h.1 hc))) o1 (pm_okt o2) H locs ls hP hD hS hl) (fun hc => (pm_kks (hK _ _ (h.2 hc))) o1 (pm_okt o2) H locs ls hP hD hS hl)
  | [], h => exact h.elim
  | .inr (.inl _) :: _, h => exact h.elim
  | .inr (.inr _) :: _, h => exact h.elim
def i_ifge (tgt nx : Nat) : pm_T := fun K z => match z with
  | (lv, .inl x :: st, h) => (0 ≤ x → K (some tgt) (lv, st, h)) ∧ (¬ 0 ≤ x → K (some nx) (lv, st, h))
  | _ => False
theorem sd_ifge {own : String} {cc : ByteArray} {nL d rt pc nx tgt : Nat} {off : Int} (hd : decode cc pc = .ok (.ifCond .ge off, 3)) (ht : (pc : Int) + off = (tgt : Int)) (hn : pc + 3 = nx) : pm_sd own cc nL d rt pc (i_ifge tgt nx) := by
  intro post p l e s m args below meth c D ad ta X K hK x h
  obtain ⟨lv, st, hh⟩ := x
  subst hn
  match st, h with
  | .inl x :: st, h =>
    intro o1 o2 H locs ls hP hD hS hl
    exact lv_if_ge X.1 X.2.1 hd ht (fun hc => (pm_kks (hK _ _ (h.1 hc))) o1 (pm_okt o2) H locs ls hP hD hS hl) (fun hc => (pm_kks (hK _ _ (h.2 hc))) o1 (pm_okt o2) H locs ls hP hD hS hl)
  | [], h => exact h.elim
  | .inr (.inl _) :: _, h => exact h.elim
  | .inr (.inr _) :: _, h => exact h.elim
def i_ifgt (tgt nx : Nat) : pm_T := fun K z => match z with
  | (lv, .inl x :: st, h) => (0 < x → K (some tgt) (lv, st, h)) ∧ (¬ 0 < x → K (some nx) (lv, st, h))
  | _ => False
theorem sd_ifgt {own : String} {cc : ByteArray} {nL d rt pc nx tgt : Nat} {off : Int} (hd : decode cc pc = .ok (.ifCond .gt off, 3)) (ht : (pc : Int) + off = (tgt : Int)) (hn : pc + 3 = nx) : pm_sd own cc nL d rt pc (i_ifgt tgt nx) := by
  intro post p l e s m args below meth c D ad ta X K hK x h
  obtain ⟨lv, st, hh⟩ := x
  subst hn
  match st, h with
  | .inl x :: st, h =>
    intro o1 o2 H locs ls hP hD hS hl
    exact lv_if_gt X.1 X.2.1 hd ht (fun hc => (pm_kks (hK _ _ (h.1 hc))) o1 (pm_okt o2) H locs ls hP hD hS hl) (fun hc => (pm_kks (hK _ _ (h.2 hc))) o1 (pm_okt o2) H locs ls hP hD hS hl)
  | [], h => exact h.elim
  | .inr (.inl _) :: _, h => exact h.elim
  | .inr (.inr _) :: _, h => exact h.elim
def i_ifle (tgt nx : Nat) : pm_T := fun K z => match z with
  | (lv, .inl x :: st, h) => (x ≤ 0 → K (some tgt) (lv, st, h)) ∧ (¬ x ≤ 0 → K (some nx) (lv, st, h))
  | _ => False
theorem sd_ifle {own : String} {cc : ByteArray} {nL d rt pc nx tgt : Nat} {off : Int} (hd : decode cc pc = .ok (.ifCond .le off, 3)) (ht : (pc : Int) + off = (tgt : Int)) (hn : pc + 3 = nx) : pm_sd own cc nL d rt pc (i_ifle tgt nx) := by
  intro post p l e s m args below meth c D ad ta X K hK x h
  obtain ⟨lv, st, hh⟩ := x
  subst hn
  match st, h with
  | .inl x :: st, h =>
    intro o1 o2 H locs ls hP hD hS hl
    exact lv_if_le X.1 X.2.1 hd ht (fun hc => (pm_kks (hK _ _ (h.1 hc))) o1 (pm_okt o2) H locs ls hP hD hS hl) (fun hc => (pm_kks (hK _ _ (h.2 hc))) o1 (pm_okt o2) H locs ls hP hD hS hl)
  | [], h => exact h.elim
  | .inr (.inl _) :: _, h => exact h.elim
  | .inr (.inr _) :: _, h => exact h.elim
def i_iceq (tgt nx : Nat) : pm_T := fun K z => match z with
  | (lv, .inl y :: .inl x :: st, h) => (x = y → K (some tgt) (lv, st, h)) ∧ (¬ x = y → K (some nx) (lv, st, h))
  | _ => False
theorem sd_iceq {own : String} {cc : ByteArray} {nL d rt pc nx tgt : Nat} {off : Int} (hd : decode cc pc = .ok (.if_icmp .eq off, 3)) (ht : (pc : Int) + off = (tgt : Int)) (hn : pc + 3 = nx) : pm_sd own cc nL d rt pc (i_iceq tgt nx) := by
  intro post p l e s m args below meth c D ad ta X K hK x h
  obtain ⟨lv, st, hh⟩ := x
  subst hn
  match st, h with
  | .inl y :: .inl x :: st, h =>
    intro o1 o2 H locs ls hP hD hS hl
    exact lv_icmp_eq X.1 X.2.1 hd ht (fun hc => (pm_kks (hK _ _ (h.1 hc))) o1 (pm_okt (pm_okt o2)) H locs ls hP hD hS hl) (fun hc => (pm_kks (hK _ _ (h.2 hc))) o1 (pm_okt (pm_okt o2)) H locs ls hP hD hS hl)
  | [], h => exact h.elim
  | [.inl _], h => exact h.elim
  | [.inr (.inl _)], h => exact h.elim
  | [.inr (.inr _)], h => exact h.elim
  | .inl _ :: .inr (.inl _) :: _, h => exact h.elim
  | .inl _ :: .inr (.inr _) :: _, h => exact h.elim
  | .inr (.inl _) :: _ :: _, h => exact h.elim
  | .inr (.inr _) :: _ :: _, h => exact h.elim
def i_icne (tgt nx : Nat) : pm_T := fun K z => match z with
  | (lv, .inl y :: .inl x :: st, h) => (¬ x = y → K (some tgt) (lv, st, h)) ∧ (x = y → K (some nx) (lv, st, h))
  | _ => False
theorem sd_icne {own : String} {cc : ByteArray} {nL d rt pc nx tgt : Nat} {off : Int} (hd : decode cc pc = .ok (.if_icmp .ne off, 3)) (ht : (pc : Int) + off = (tgt : Int)) (hn : pc + 3 = nx) : pm_sd own cc nL d rt pc (i_icne tgt nx) := by
  intro post p l e s m args below meth c D ad ta X K hK x h
  obtain ⟨lv, st, hh⟩ := x
  subst hn
  match st, h with
  | .inl y :: .inl x :: st, h =>
    intro o1 o2 H locs ls hP hD hS hl
    exact lv_icmp_ne X.1 X.2.1 hd ht (fun hc => (pm_kks (hK _ _ (h.1 hc))) o1 (pm_okt (pm_okt o2)) H locs ls hP hD hS hl) (fun hc => (pm_kks (hK _ _ (h.2 hc))) o1 (pm_okt (pm_okt o2)) H locs ls hP hD hS hl)
  | [], h => exact h.elim
  | [.inl _], h => exact h.elim
  | [.inr (.inl _)], h => exact h.elim
  | [.inr (.inr _)], h => exact h.elim
  | .inl _ :: .inr (.inl _) :: _, h => exact h.elim
  | .inl _ :: .inr (.inr _) :: _, h => exact h.elim
  | .inr (.inl _) :: _ :: _, h => exact h.elim
  | .inr (.inr _) :: _ :: _, h => exact h.elim
def i_iclt (tgt nx : Nat) : pm_T := fun K z => match z with
  | (lv, .inl y :: .inl x :: st, h) => (x < y → K (some tgt) (lv, st, h)) ∧ (¬ x < y → K (some nx) (lv, st, h))
  | _ => False
theorem sd_iclt {own : String} {cc : ByteArray} {nL d rt pc nx tgt : Nat} {off : Int} (hd : decode cc pc = .ok (.if_icmp .lt off, 3)) (ht : (pc : Int) + off = (tgt : Int)) (hn : pc + 3 = nx) : pm_sd own cc nL d rt pc (i_iclt tgt nx) := by
  intro post p l e s m args below meth c D ad ta X K hK x h
  obtain ⟨lv, st, hh⟩ := x
  subst hn
  match st, h with
  | .inl y :: .inl x :: st, h =>
    intro o1 o2 H locs ls hP hD hS hl
    exact lv_icmp_lt X.1 X.2.1 hd ht (fun hc => (pm_kks (hK _ _ (h.1 hc))) o1 (pm_okt (pm_okt o2)) H locs ls hP hD hS hl) (fun hc => (pm_kks (hK _ _ (h.2 hc))) o1 (pm_okt (pm_okt o2)) H locs ls hP hD hS hl)
  | [], h => exact h.elim
  | [.inl _], h => exact h.elim
  | [.inr (.inl _)], h => exact h.elim
  | [.inr (.inr _)], h => exact h.elim
  | .inl _ :: .inr (.inl _) :: _, h => exact h.elim
  | .inl _ :: .inr (.inr _) :: _, h => exact h.elim
  | .inr (.inl _) :: _ :: _, h => exact h.elim
  | .inr (.inr _) :: _ :: _, h => exact h.elim
def i_icge (tgt nx : Nat) : pm_T := fun K z => match z with
  | (lv, .inl y :: .inl x :: st, h) => (y ≤ x → K (some tgt) (lv, st, h)) ∧ (¬ y ≤ x → K (some nx) (lv, st, h))
  | _ => False
theorem sd_icge {own : String} {cc : ByteArray} {nL d rt pc nx tgt : Nat} {off : Int} (hd : decode cc pc = .ok (.if_icmp .ge off, 3)) (ht : (pc : Int) + off = (tgt : Int)) (hn : pc + 3 = nx) : pm_sd own cc nL d rt pc (i_icge tgt nx) := by
  intro post p l e s m args below meth c D ad ta X K hK x h
  obtain ⟨lv, st, hh⟩ := x
  subst hn
  match st, h with
  | .inl y :: .inl x :: st, h =>
    intro o1 o2 H locs ls hP hD hS hl
    exact lv_icmp_ge X.1 X.2.1 hd ht (fun hc => (pm_kks (hK _ _ (h.1 hc))) o1 (pm_okt (pm_okt o2)) H locs ls hP hD hS hl) (fun hc => (pm_kks (hK _ _ (h.2 hc))) o1 (pm_okt (pm_okt o2)) H locs ls hP hD hS hl)
  | [], h => exact h.elim
  | [.inl _], h => exact h.elim
  | [.inr (.inl _)], h => exact h.elim
  | [.inr (.inr _)], h => exact h.elim
  | .inl _ :: .inr (.inl _) :: _, h => exact h.elim
  | .inl _ :: .inr (.inr _) :: _, h => exact h.elim
  | .inr (.inl _) :: _ :: _, h => exact h.elim
  | .inr (.inr _) :: _ :: _, h => exact h.elim
def i_icgt (tgt nx : Nat) : pm_T := fun K z => match z with
  | (lv, .inl y :: .inl x :: st, h) => (y < x → K (some tgt) (lv, st, h)) ∧ (¬ y < x → K (some nx) (lv, st, h))
  | _ => False
theorem sd_icgt {own : String} {cc : ByteArray} {nL d rt pc nx tgt : Nat} {off : Int} (hd : decode cc pc = .ok (.if_icmp .gt off, 3)) (ht : (pc : Int) + off = (tgt : Int)) (hn : pc + 3 = nx) : pm_sd own cc nL d rt pc (i_icgt tgt nx) := by
  intro post p l e s m args below meth c D ad ta X K hK x h
  obtain ⟨lv, st, hh⟩ := x
  subst hn
  match st, h with
  | .inl y :: .inl x :: st, h =>
    intro o1 o2 H locs ls hP hD hS hl
    exact lv_icmp_gt X.1 X.2.1 hd ht (fun hc => (pm_kks (hK _ _ (h.1 hc))) o1 (pm_okt (pm_okt o2)) H locs ls hP hD hS hl) (fun hc => (pm_kks (hK _ _ (h.2 hc))) o1 (pm_okt (pm_okt o2)) H locs ls hP hD hS hl)
  | [], h => exact h.elim
  | [.inl _], h => exact h.elim
  | [.inr (.inl _)], h => exact h.elim
  | [.inr (.inr _)], h => exact h.elim
  | .inl _ :: .inr (.inl _) :: _, h => exact h.elim
  | .inl _ :: .inr (.inr _) :: _, h => exact h.elim
  | .inr (.inl _) :: _ :: _, h => exact h.elim
  | .inr (.inr _) :: _ :: _, h => exact h.elim
def i_icle (tgt nx : Nat) : pm_T := fun K z => match z with
  | (lv, .inl y :: .inl x :: st, h) => (x ≤ y → K (some tgt) (lv, st, h)) ∧ (¬ x ≤ y → K (some nx) (lv, st, h))
  | _ => False
theorem sd_icle {own : String} {cc : ByteArray} {nL d rt pc nx tgt : Nat} {off : Int} (hd : decode cc pc = .ok (.if_icmp .le off, 3)) (ht : (pc : Int) + off = (tgt : Int)) (hn : pc + 3 = nx) : pm_sd own cc nL d rt pc (i_icle tgt nx) := by
  intro post p l e s m args below meth c D ad ta X K hK x h
  obtain ⟨lv, st, hh⟩ := x
  subst hn
  match st, h with
  | .inl y :: .inl x :: st, h =>
    intro o1 o2 H locs ls hP hD hS hl
    exact lv_icmp_le X.1 X.2.1 hd ht (fun hc => (pm_kks (hK _ _ (h.1 hc))) o1 (pm_okt (pm_okt o2)) H locs ls hP hD hS hl) (fun hc => (pm_kks (hK _ _ (h.2 hc))) o1 (pm_okt (pm_okt o2)) H locs ls hP hD hS hl)
  | [], h => exact h.elim
  | [.inl _], h => exact h.elim
  | [.inr (.inl _)], h => exact h.elim
  | [.inr (.inr _)], h => exact h.elim
  | .inl _ :: .inr (.inl _) :: _, h => exact h.elim
  | .inl _ :: .inr (.inr _) :: _, h => exact h.elim
  | .inr (.inl _) :: _ :: _, h => exact h.elim
  | .inr (.inr _) :: _ :: _, h => exact h.elim
def i_ir : pm_T := fun K z => match z with
  | (_, [.inl x], h) => K none ([], [.inl x], h)
  | _ => False
def i_zr : pm_T := fun K z => match z with
  | (_, [.inl x], h) => (x = 0 ∨ x = 1) ∧ K none ([], [.inl x], h)
  | _ => False
def i_lr : pm_T := fun K z => match z with
  | (_, [.inr (.inl x)], h) => K none ([], [.inr (.inl x)], h)
  | _ => False
def i_vr : pm_T := fun K z => match z with
  | (_, [], h) => K none ([], [], h)
  | _ => False
theorem pm_nz {x : Int32} (h : x = 0 ∨ x = 1) : narrow .boolean (.int x) = .int x := by
  rcases h with rfl | rfl <;> decide +kernel
theorem sd_ir {own : String} {cc : ByteArray} {nL d pc : Nat} (hd : decode cc pc = .ok (.ireturn, 1)) : pm_sd own cc nL d 1 pc i_ir := by
  intro post p l e s m args below meth c D ad ta X K hK x h
  obtain ⟨lv, st, hh⟩ := x
  match st, h with
  | [.inl x], h =>
    have h2 : post [.inl x] hh := hK _ _ h
    intro o1 o2 H locs ls hP hD hS hl
    exact W.iret (v := x) X.1 X.2.1 X.2.2.2.2.2.2.2.1 (fun t ht hW => ⟨⟨x, hh, rfl, h2, by rw [pm_B, ht]; exact hP⟩, hS.F ht⟩) hS.2.2 hd X.2.2.2.2.2.2.2.2
  | [], h => exact h.elim
  | [.inr (.inl _)], h => exact h.elim
  | [.inr (.inr _)], h => exact h.elim
  | .inl _ :: _ :: _, h => exact h.elim
  | .inr (.inl _) :: _ :: _, h => exact h.elim
  | .inr (.inr _) :: _ :: _, h => exact h.elim
theorem sd_zr {own : String} {cc : ByteArray} {nL d pc : Nat} (hd : decode cc pc = .ok (.ireturn, 1)) : pm_sd own cc nL d 3 pc i_zr := by
  intro post p l e s m args below meth c D ad ta X K hK x h
  obtain ⟨lv, st, hh⟩ := x
  match st, h with
  | [.inl x], h =>
    have h2 : post [.inl x] hh := hK _ _ h.2
    intro o1 o2 H locs ls hP hD hS hl
    exact W.zret (v := x) (ty := .boolean) X.1 X.2.1 X.2.2.2.2.2.2.2.1 (pm_nz h.1) (fun t ht hW => ⟨⟨x, hh, rfl, h2, by rw [pm_B, ht]; exact hP⟩, hS.F ht⟩) hS.2.2 hd X.2.2.2.2.2.2.2.2
  | [], h => exact h.elim
  | [.inr (.inl _)], h => exact h.elim
  | [.inr (.inr _)], h => exact h.elim
  | .inl _ :: _ :: _, h => exact h.elim
  | .inr (.inl _) :: _ :: _, h => exact h.elim
  | .inr (.inr _) :: _ :: _, h => exact h.elim
theorem sd_lr {own : String} {cc : ByteArray} {nL d pc : Nat} (hd : decode cc pc = .ok (.lreturn, 1)) : pm_sd own cc nL d 2 pc i_lr := by
  intro post p l e s m args below meth c D ad ta X K hK x h
  obtain ⟨lv, st, hh⟩ := x
  match st, h with
  | [.inr (.inl x)], h =>
    have h2 : post [.inr (.inl x)] hh := hK _ _ h
    intro o1 o2 H locs ls hP hD hS hl
    exact W.lret (v := x) X.1 X.2.1 X.2.2.2.2.2.2.2.1 (fun t ht hW => ⟨⟨x, hh, rfl, h2, by rw [pm_B, ht]; exact hP⟩, hS.F ht⟩) hS.2.2 hd X.2.2.2.2.2.2.2.2
  | [], h => exact h.elim
  | [.inl _], h => exact h.elim
  | [.inr (.inr _)], h => exact h.elim
  | .inl _ :: _ :: _, h => exact h.elim
  | .inr (.inl _) :: _ :: _, h => exact h.elim
  | .inr (.inr _) :: _ :: _, h => exact h.elim
theorem sd_vr {own : String} {cc : ByteArray} {nL d pc : Nat} (hd : decode cc pc = .ok (.return_, 1)) : pm_sd own cc nL d 0 pc i_vr := by
  intro post p l e s m args below meth c D ad ta X K hK x h
  obtain ⟨lv, st, hh⟩ := x
  match st, h with
  | [], h =>
    have h2 : post [] hh := hK _ _ h
    intro o1 o2 H locs ls hP hD hS hl
    exact W.vret X.1 X.2.1 X.2.2.2.2.2.2.2.1 (fun t ht hW => ⟨⟨hh, rfl, h2, by rw [pm_B, ht]; exact hP⟩, hS.F ht⟩) hS.2.2 hd X.2.2.2.2.2.2.2.2
  | .inl _ :: _, h => exact h.elim
  | .inr _ :: _, h => exact h.elim
end
section
/-! THE PURE MACHINE, its heap. -/
section PMO
variable {D : va_G} {ad : pm_R → Nat} {ta : Nat → ClassId} {h : pm_H}
theorem pm_obj {c i : Nat} (hc : c < 6) : pm_ce ad ta h (c, i, 0) = .inr (c, (List.range (pm_nf c)).map (pm_fv ad h c i)) := by
  unfold pm_ce
  rw [if_pos ⟨rfl, hc⟩]
theorem pm_arr {c i s : Nat} (hs : 0 < s ∨ c = 6) (hk : pm_ak c s < 3) : pm_ce ad ta h (c, i, s) = .inl (ta (pm_ak c s), pm_an c s, .inl (h c i s)) := by
  unfold pm_ce
  have hn : ¬ ((c, i, s).2.2 = 0 ∧ (c, i, s).1 < 6) := by
    rintro ⟨h1, h2⟩
    have h1 : s = 0 := h1
    have h2 : c < 6 := h2
    omega
  rw [if_neg hn, if_pos hk]
theorem pm_rar {c i s : Nat} (hs : 0 < s ∨ c = 6) (hk : ¬ pm_ak c s < 3) : pm_ce ad ta h (c, i, s) = .inl (ta (pm_ak c s), pm_an c s, .inr (.inr (.inr (.inr (fun j => if j < pm_an c s then some (ad (pm_el (pm_ak c s) j)) else none))))) := by
  unfold pm_ce
  have hn : ¬ ((c, i, s).2.2 = 0 ∧ (c, i, s).1 < 6) := by
    rintro ⟨h1, h2⟩
    have h1 : s = 0 := h1
    have h2 : c < 6 := h2
    omega
  rw [if_neg hn, if_neg hk]
theorem pm_okin {r : pm_R} (o : pm_ok (.inr (.inr r))) (h7 : r.1 < 7) : r ∈ pm_cells := by
  rcases o with o | o
  · exact o
  · omega
theorem pm_pl {r : pm_R} (hr : r ∈ pm_cells) : ∃ q : Nat, pm_cells[q]? = some r := List.getElem?_of_mem hr
theorem pm_fget {c i j : Nat} (hj : j < pm_nf c) : ((List.range (pm_nf c)).map (pm_fv ad h c i))[j]? = some (pm_fv ad h c i j) := by
  rw [List.getElem?_map, List.getElem?_range hj]
  rfl
theorem pm_fset {c i j : Nat} {v : Int32} (hj : j < pm_nf c) (hf : ∀ i, pm_fr c i j = none) : ((List.range (pm_nf c)).map (pm_fv ad h c i)).set j (.int v) = (List.range (pm_nf c)).map (pm_fv ad (pm_up h c i 0 j v) c i) := by
  apply List.ext_getElem?
  intro k
  by_cases hk : k = j
  · subst hk
    rw [List.getElem?_set_self (by simpa using hj), List.getElem?_map, List.getElem?_range hj]
    simp [pm_fv, hf, pm_up]
  · rw [List.getElem?_set_ne (fun e => hk e.symm), List.getElem?_map, List.getElem?_map]
    by_cases hr : k < pm_nf c
    · rw [List.getElem?_range hr]
      simp only [Option.map_some]
      congr 1
      unfold pm_fv
      cases pm_fr c i k with
      | none => simp [pm_up, hk]
      | some r => rfl
    · rw [List.getElem?_eq_none (by simpa using hr)]
      rfl
end PMO
theorem nI_toNat {k : Nat} (h : k < 2 ^ 31) : (nI k).toNatClampNeg = k := nI_clamp h
theorem pm_an_lt {c s : Nat} (hc : c < 7) (hs : s < pm_sub c) : pm_an c s < 2 ^ 31 := by
  have h : ∀ c : Fin 7, ∀ s : Fin 12, pm_an c.val s.val < 2 ^ 31 := by decide +kernel
  have h2 : ∀ c : Fin 7, pm_sub c.val ≤ 12 := by decide +kernel
  have h3 := h2 ⟨c, hc⟩
  exact h ⟨c, hc⟩ ⟨s, Nat.lt_of_lt_of_le hs h3⟩
/-- getfield of a number, of a reference -/
def i_gi (c j nx : Nat) : pm_T := fun K z => match z with
  | (lv, .inr (.inr (c', i, s)) :: st, h) => bif Nat.beq c' c && Nat.beq s 0 then K (some nx) (lv, .inl (h c i 0 j) :: st, h) else False
  | _ => False
def i_gr (c : Nat) (t : Nat → pm_R) (nx : Nat) : pm_T := fun K z => match z with
  | (lv, .inr (.inr (c', i, s)) :: st, h) => bif Nat.beq c' c && Nat.beq s 0 then K (some nx) (lv, .inr (.inr (t i)) :: st, h) else False
  | _ => False
theorem pm_bt2 {a b c d : Nat} {P : Prop} (h : bif Nat.beq a b && Nat.beq c d then P else False) : a = b ∧ c = d ∧ P := by
  obtain ⟨h1, h2⟩ := pm_bt h
  have h3 := Bool.and_eq_true_iff.mp h1
  exact ⟨Nat.eq_of_beq_eq_true h3.1, Nat.eq_of_beq_eq_true h3.2, h2⟩
theorem pm_cl_lt {c : Nat} {q : vw_C} (h : pm_cl[c]? = some q) : c < 6 := (List.getElem?_eq_some_iff.mp h).1
theorem pm_cl_nf : ∀ c, c < 6 → ∀ q : vw_C, pm_cl[c]? = some q → q.2.2 = pm_nf c := by
  intro c hc q hq
  match c, hc, hq with
  | 0, _, hq => cases hq; rfl
  | 1, _, hq => cases hq; rfl
  | 2, _, hq => cases hq; rfl
  | 3, _, hq => cases hq; rfl
  | 4, _, hq => cases hq; rfl
  | 5, _, hq => cases hq; rfl
theorem sd_gi {own : String} {cc : ByteArray} {nL d rt pc nx c j idx : Nat} {C : String} {T : u_T} {N : Nat} (hc : pm_cl[c]? = some (C, T, N)) (hin : ∀ w ∈ u_ws C T N, w ∈ pm_tbl) (hj : j < N) (hf : ∀ i, pm_fr c i j = none) (hk : Cond.fieldLink own idx (T j).1 (T j).2.1 (T j).2.2.1 ∈ pm_tbl) (hd : decode cc pc = .ok (.getfield idx, 3)) (hn : pc + 3 = nx) : pm_sd own cc nL d rt pc (i_gi c j nx) := by
  intro post p l e s m args below meth c9 D ad ta X K hK x h
  obtain ⟨lv, st, hh⟩ := x
  subst hn
  match st, h with
  | .inr (.inr (c', i, s0)) :: st, h =>
    have h : bif Nat.beq c' c && Nat.beq s0 0 then K (some (pc + 3)) (lv, .inl (hh c i 0 j) :: st, hh) else False := h
    obtain ⟨e1, e2, h9⟩ := pm_bt2 h
    subst e1; subst e2
    have h2 := pm_kks (hK _ _ h9)
    intro o1 o2 H locs ls hP hD hS hl
    have hc6 := pm_cl_lt hc
    have hN : N = pm_nf c' := pm_cl_nf c' hc6 _ hc
    obtain ⟨q, hq⟩ := pm_pl (pm_okin (pm_okh o2) (by show c' < 7; omega))
    have hw := pm_wd_at (ad := ad) (ta := ta) (h := hh) hq
    rw [pm_obj hc6] at hw
    refine va_get (C := C) (T := T) (N := N) X.1 X.2.1 X.2.2.2.2.1 hin X.2.2.2.1 X.2.2.2.2.2.1 hP q hw hc j hj (X.2.2.2.2.1 _ hk) (fun _ h9 => h9) (pm_fget (by rw [← hN]; exact hj)) hd ?_
    have e3 : pm_fv ad hh c' i j = .int (hh c' i 0 j) := by unfold pm_fv; rw [hf]
    rw [e3]
    exact h2 o1 (pm_ok1 trivial (pm_okt o2)) H locs ls hP hD hS hl
  | [], h => exact h.elim
  | .inl _ :: _, h => exact h.elim
  | .inr (.inl _) :: _, h => exact h.elim
theorem pm_in3 {c i s : Nat} (h : (c, i, s) ∈ pm_cells) : c < 7 ∧ i < pm_cnt c ∧ s < pm_sub c := pm_in_iff.mp h
theorem pm_cnt8 (c : Nat) (hc : c < 6) : pm_cnt c ≤ 4 := by
  have h : ∀ c : Fin 6, pm_cnt c.val ≤ 4 := by decide +kernel
  exact h ⟨c, hc⟩
theorem pm_nf26 (c : Nat) (hc : c < 6) : pm_nf c ≤ 26 := by
  have h : ∀ c : Fin 6, pm_nf c.val ≤ 26 := by decide +kernel
  exact h ⟨c, hc⟩
theorem sd_gr {own : String} {cc : ByteArray} {nL d rt pc nx c j idx : Nat} {C : String} {T : u_T} {N : Nat} {t : Nat → pm_R} (hc : pm_cl[c]? = some (C, T, N)) (hin : ∀ w ∈ u_ws C T N, w ∈ pm_tbl) (hj : j < N) (hf : ∀ i, pm_fr c i j = some (t i)) (hk : Cond.fieldLink own idx (T j).1 (T j).2.1 (T j).2.2.1 ∈ pm_tbl) (hd : decode cc pc = .ok (.getfield idx, 3)) (hn : pc + 3 = nx) : pm_sd own cc nL d rt pc (i_gr c t nx) := by
  intro post p l e s m args below meth c9 D ad ta X K hK x h
  obtain ⟨lv, st, hh⟩ := x
  subst hn
  match st, h with
  | .inr (.inr (c', i, s0)) :: st, h =>
    have h : bif Nat.beq c' c && Nat.beq s0 0 then K (some (pc + 3)) (lv, .inr (.inr (t i)) :: st, hh) else False := h
    obtain ⟨e1, e2, h9⟩ := pm_bt2 h
    subst e1; subst e2
    have h2 := pm_kks (hK _ _ h9)
    intro o1 o2 H locs ls hP hD hS hl
    have hc6 := pm_cl_lt hc
    have hN : N = pm_nf c' := pm_cl_nf c' hc6 _ hc
    have hi := pm_okin (pm_okh o2) (by show c' < 7; omega)
    obtain ⟨q, hq⟩ := pm_pl hi
    have hw := pm_wd_at (ad := ad) (ta := ta) (h := hh) hq
    rw [pm_obj hc6] at hw
    refine va_get (C := C) (T := T) (N := N) X.1 X.2.1 X.2.2.2.2.1 hin X.2.2.2.1 X.2.2.2.2.2.1 hP q hw hc j hj (X.2.2.2.2.1 _ hk) (fun _ h9 => h9) (pm_fget (by rw [← hN]; exact hj)) hd ?_
    have e3 : pm_fv ad hh c' i j = .ref (ad (t i)) := by unfold pm_fv; rw [hf]
    rw [e3]
    have h3 := pm_in3 hi
    have h4 := pm_cnt8 c' hc6
    have h5 := pm_nf26 c' hc6
    exact h2 o1 (pm_ok1 (Or.inl (pm_fr_ok c' hc6 i (by omega) j (by omega) h3.2.1 _ (hf i))) (pm_okt o2)) H locs ls hP hD hS hl
  | [], h => exact h.elim
  | .inl _ :: _, h => exact h.elim
  | .inr (.inl _) :: _, h => exact h.elim
/-- putfield of an int, of a boolean -/
def i_pi (c j nx : Nat) : pm_T := fun K z => match z with
  | (lv, .inl v :: .inr (.inr (c', i, s)) :: st, h) => bif Nat.beq c' c && Nat.beq s 0 then K (some nx) (lv, st, pm_up h c i 0 j v) else False
  | _ => False
def i_pz (c j nx : Nat) : pm_T := fun K z => match z with
  | (lv, .inl v :: .inr (.inr (c', i, s)) :: st, h) => bif Nat.beq c' c && Nat.beq s 0 then (v = 0 ∨ v = 1) ∧ K (some nx) (lv, st, pm_up h c i 0 j v) else False
  | _ => False
theorem pm_put {own : String} {cc : ByteArray} {nL d rt pc c j idx i : Nat} {C : String} {T : u_T} {N : Nat} {ty : FieldType} {v : Int32} {post : List pm_V → pm_H → Prop} {p : Program} {l : Launch} {e : Env} {s : State} {m : MethodId} {args : Array Value} {below : List Frame} {meth : Method} {c9 : Code} {D : va_G} {ad : pm_R → Nat} {ta : Nat → ClassId} (X : pm_X own cc nL rt p s m args meth c9 D ad ta) (hc : pm_cl[c]? = some (C, T, N)) (hin : ∀ w ∈ u_ws C T N, w ∈ pm_tbl) (ty0 : Nat → FieldType) (hty : ∀ k, k < N → parseFieldDescriptor (T k).2.2.1 = some (ty0 k)) (hnm : ∀ a, a < N → ∀ b, b < N → a ≠ b → (T a).2.1 ≠ (T b).2.1) (hj : j < N) (hf : ∀ i, pm_fr c i j = none) (hfin : (T j).2.2.2 = false) (hk : Cond.fieldLink own idx (T j).1 (T j).2.1 (T j).2.2.1 ∈ pm_tbl) (hd : decode cc pc = .ok (.putfield idx, 3)) (hty2 : ty0 j = ty) (hnar : narrow ty (.int v) = .int v) (hfit : fits ty (.int v) = true) {lv : pm_L} {st : List pm_V} {hh : pm_H} (h2 : pm_W nL d rt post p l e s m args below meth c9 D ad ta (pc + 3) (lv, st, pm_up hh c i 0 j v)) : pm_W nL d rt post p l e s m args below meth c9 D ad ta pc (lv, .inl v :: .inr (.inr (c, i, 0)) :: st, hh) := by
  intro o1 o2 H locs ls hP hD hS hl
  have hc6 := pm_cl_lt hc
  have hN : N = pm_nf c := pm_cl_nf c hc6 _ hc
  obtain ⟨q, hq⟩ := pm_pl (pm_okin (pm_okh (pm_okt o2)) (by show c < 7; omega))
  have hw := pm_wd_at (ad := ad) (ta := ta) (h := hh) hq
  rw [pm_obj hc6] at hw
  refine va_put (C := C) (T := T) (N := N) (v := .int v) (ty := ty) X.1 X.2.1 X.2.2.2.2.1 hin ty0 hty hnm X.2.2.2.1 X.2.2.2.2.2.1 hP hD hS q hw hc j hj (X.2.2.2.2.1 _ hk) (fun _ h9 => h9) hfin (by rw [hty j hj, hty2]) hnar hfit (by simp; omega) hd (fun H1 locs1 hP1 hD1 hS1 => ?_)
  have e1 : (pm_wd ad ta hh).set q (ad (c, i, 0), .inr (c, ((List.range (pm_nf c)).map (pm_fv ad hh c i)).set j (.int v))) = pm_wd ad ta (pm_up hh c i 0 j v) := by
    rw [pm_fset (by omega) hf, ← pm_obj (ad := ad) (ta := ta) (h := pm_up hh c i 0 j v) hc6]
    refine pm_wd_set hq (fun r' _ hne => ?_)
    rw [pm_up_ua]
    exact pm_ce_ua r' hne
  rw [e1] at hP1 hD1
  exact h2 o1 (pm_okt (pm_okt o2)) H1 locs1 ls hP1 hD1 hS1 hl
theorem pm_st3 {st : List pm_V} {P : Int32 → pm_R → List pm_V → Prop} (h : match st with | .inl v :: .inr (.inr r) :: t => P v r t | _ => False) : ∃ v r t, st = .inl v :: .inr (.inr r) :: t ∧ P v r t := by
  match st, h with
  | .inl v :: .inr (.inr r) :: t, h => exact ⟨v, r, t, rfl, h⟩
  | [], h => exact h.elim
  | [.inl _], h => exact h.elim
  | [.inr (.inl _)], h => exact h.elim
  | [.inr (.inr _)], h => exact h.elim
  | .inl _ :: .inl _ :: _, h => exact h.elim
  | .inl _ :: .inr (.inl _) :: _, h => exact h.elim
  | .inr (.inl _) :: _ :: _, h => exact h.elim
  | .inr (.inr _) :: _ :: _, h => exact h.elim
theorem sd_pi {own : String} {cc : ByteArray} {nL d rt pc nx c j idx : Nat} {C : String} {T : u_T} {N : Nat} (hc : pm_cl[c]? = some (C, T, N)) (hin : ∀ w ∈ u_ws C T N, w ∈ pm_tbl) (ty0 : Nat → FieldType) (hty : ∀ k, k < N → parseFieldDescriptor (T k).2.2.1 = some (ty0 k)) (hnm : ∀ a, a < N → ∀ b, b < N → a ≠ b → (T a).2.1 ≠ (T b).2.1) (hj : j < N) (hf : ∀ i, pm_fr c i j = none) (hfin : (T j).2.2.2 = false) (hty2 : ty0 j = .int) (hk : Cond.fieldLink own idx (T j).1 (T j).2.1 (T j).2.2.1 ∈ pm_tbl) (hd : decode cc pc = .ok (.putfield idx, 3)) (hn : pc + 3 = nx) : pm_sd own cc nL d rt pc (i_pi c j nx) := by
  intro post p l e s m args below meth c9 D ad ta X K hK x h
  obtain ⟨lv, st, hh⟩ := x
  subst hn
  obtain ⟨v, ⟨c', i, s0⟩, t, rfl, h8⟩ := pm_st3 (st := st) (P := fun v r t => bif Nat.beq r.1 c && Nat.beq r.2.2 0 then K (some (pc + 3)) (lv, t, pm_up hh c r.2.1 0 j v) else False) (by
    match st, h with
    | .inl v :: .inr (.inr (c', i, s0)) :: t, h => exact h
    | [], h => exact h.elim
    | [.inl _], h => exact h.elim
    | [.inr (.inl _)], h => exact h.elim
    | [.inr (.inr _)], h => exact h.elim
    | .inl _ :: .inl _ :: _, h => exact h.elim
    | .inl _ :: .inr (.inl _) :: _, h => exact h.elim
    | .inr (.inl _) :: _ :: _, h => exact h.elim
    | .inr (.inr _) :: _ :: _, h => exact h.elim)
  obtain ⟨e1, e2, h9⟩ := pm_bt2 h8
  have e1 : c' = c := e1
  have e2 : s0 = 0 := e2
  subst e1; subst e2
  exact pm_put X hc hin ty0 hty hnm hj hf hfin hk hd hty2 rfl rfl (pm_kks (hK _ _ h9))
theorem sd_pz {own : String} {cc : ByteArray} {nL d rt pc nx c j idx : Nat} {C : String} {T : u_T} {N : Nat} (hc : pm_cl[c]? = some (C, T, N)) (hin : ∀ w ∈ u_ws C T N, w ∈ pm_tbl) (ty0 : Nat → FieldType) (hty : ∀ k, k < N → parseFieldDescriptor (T k).2.2.1 = some (ty0 k)) (hnm : ∀ a, a < N → ∀ b, b < N → a ≠ b → (T a).2.1 ≠ (T b).2.1) (hj : j < N) (hf : ∀ i, pm_fr c i j = none) (hfin : (T j).2.2.2 = false) (hty2 : ty0 j = .boolean) (hk : Cond.fieldLink own idx (T j).1 (T j).2.1 (T j).2.2.1 ∈ pm_tbl) (hd : decode cc pc = .ok (.putfield idx, 3)) (hn : pc + 3 = nx) : pm_sd own cc nL d rt pc (i_pz c j nx) := by
  intro post p l e s m args below meth c9 D ad ta X K hK x h
  obtain ⟨lv, st, hh⟩ := x
  subst hn
  obtain ⟨v, ⟨c', i, s0⟩, t, rfl, h8⟩ := pm_st3 (st := st) (P := fun v r t => bif Nat.beq r.1 c && Nat.beq r.2.2 0 then (v = 0 ∨ v = 1) ∧ K (some (pc + 3)) (lv, t, pm_up hh c r.2.1 0 j v) else False) (by
    match st, h with
    | .inl v :: .inr (.inr (c', i, s0)) :: t, h => exact h
    | [], h => exact h.elim
    | [.inl _], h => exact h.elim
    | [.inr (.inl _)], h => exact h.elim
    | [.inr (.inr _)], h => exact h.elim
    | .inl _ :: .inl _ :: _, h => exact h.elim
    | .inl _ :: .inr (.inl _) :: _, h => exact h.elim
    | .inr (.inl _) :: _ :: _, h => exact h.elim
    | .inr (.inr _) :: _ :: _, h => exact h.elim)
  obtain ⟨e1, e2, h9⟩ := pm_bt2 h8
  have e1 : c' = c := e1
  have e2 : s0 = 0 := e2
  subst e1; subst e2
  exact pm_put X hc hin ty0 hty hnm hj hf hfin hk hd hty2 (pm_nz h9.1) (by rcases h9.1 with rfl | rfl <;> rfl) (pm_kks (hK _ _ h9.2))
end
section
/-! THE PURE MACHINE: arrays, tables, switches, calls; a method's contract out of its table of steps. -/
def pm_atab : List (Nat × Nat × Nat) := [(1, 0, 4), (2, 0, 4), (3, 0, 6), (4, 0, 6), (5, 0, 6), (6, 0, 6), (7, 0, 6), (8, 0, 6), (17, 0, 40), (33, 0, 6), (34, 0, 6), (35, 0, 6), (36, 2, 6), (49, 1, 160), (50, 0, 3), (65, 3, 2), (66, 2, 2), (67, 4, 4), (68, 5, 8), (69, 0, 124), (81, 0, 294), (82, 0, 49), (83, 0, 160), (84, 0, 9), (85, 0, 37), (86, 0, 24), (87, 0, 496), (88, 2, 2), (89, 0, 4), (90, 0, 4), (91, 0, 160), (96, 0, 6)]
def pm_af : List (Nat × Nat × Nat) → Nat → Nat → (Nat → Prop) → Prop
  | [], _, _, _ => False
  | (q, kd, n) :: t, key, kind, k => bif Nat.beq q key && Nat.beq kd kind then k n else pm_af t key kind k
theorem pm_af_spec : ∀ {t : List (Nat × Nat × Nat)} {key kind : Nat} {k : Nat → Prop}, pm_af t key kind k → ∃ n, (key, kind, n) ∈ t ∧ k n
  | (q, kd, n) :: t, key, kind, k, h => by
    unfold pm_af at h
    cases hb : (Nat.beq q key && Nat.beq kd kind) with
    | true =>
      rw [hb] at h
      have h1 := Bool.and_eq_true_iff.mp hb
      have e1 := Nat.eq_of_beq_eq_true h1.1
      have e2 := Nat.eq_of_beq_eq_true h1.2
      subst e1; subst e2
      exact ⟨n, List.mem_cons_self, h⟩
    | false =>
      rw [hb] at h
      obtain ⟨u, h1, h2⟩ := pm_af_spec (t := t) h
      exact ⟨u, List.mem_cons_of_mem _ h1, h2⟩
theorem pm_atab_ok : ∀ x ∈ pm_atab, pm_ak (x.1 / 16) (x.1 % 16) = x.2.1 ∧ pm_an (x.1 / 16) (x.1 % 16) = x.2.2 ∧ x.1 / 16 < 7 ∧ (0 < x.1 % 16 ∨ x.1 / 16 = 6) := by decide +kernel
theorem pm_sub16 {c s : Nat} (hc : c < 7) (hs : s < pm_sub c) : s < 16 := by
  have h2 : ∀ c : Fin 7, pm_sub c.val ≤ 12 := by decide +kernel
  have h3 := h2 ⟨c, hc⟩
  have h4 : s < pm_sub c := hs
  have h5 : pm_sub c ≤ 12 := h3
  omega
theorem pm_af_at {c i s kind : Nat} {k : Nat → Prop} (h : pm_af pm_atab (16 * c + s) kind k) (o : pm_ok (.inr (.inr (c, i, s)))) (hc : c < 7) : (c, i, s) ∈ pm_cells ∧ (0 < s ∨ c = 6) ∧ pm_ak c s = kind ∧ k (pm_an c s) ∧ pm_an c s < 2 ^ 31 := by
  obtain ⟨n, h1, h2⟩ := pm_af_spec h
  have hi := pm_okin o hc
  have h3 := pm_in3 hi
  have h4 := pm_sub16 h3.1 h3.2.2
  obtain ⟨e1, e2, e3, e4⟩ := pm_atab_ok _ h1
  have e5 : (16 * c + s) / 16 = c := by omega
  have e6 : (16 * c + s) % 16 = s := by omega
  simp only [e5, e6] at e1 e2 e3 e4
  refine ⟨hi, e4, e1, ?_, pm_an_lt h3.1 h3.2.2⟩
  rw [e2]
  exact h2
theorem pm_ua_self (h : pm_H) (c i s : Nat) (f : Nat → Int32) : pm_ua h c i s f c i s = f := by
  funext j
  simp [pm_ua]
theorem pm_in_nI {k n : Nat} (h : k < n) (hn : n < 2 ^ 31) : vp_in (nI k) n := vp_in_nI h hn

def i_ia (nx : Nat) : pm_T := fun K z => match z with
  | (lv, .inl x :: .inr (.inr (c, i, s)) :: st, h) => bif Nat.blt c 7 then pm_af pm_atab (16 * c + s) 0 (fun n => ∃ k : Nat, x = nI k ∧ k < n ∧ K (some nx) (lv, .inl (h c i s k) :: st, h)) else False
  | _ => False
theorem sd_ia {own : String} {cc : ByteArray} {nL d rt pc nx : Nat} (hd : decode cc pc = .ok (.iaload, 1)) (hn : pc + 1 = nx) : pm_sd own cc nL d rt pc (i_ia nx) := by
  intro post p l e s m args below meth c9 D ad ta X K hK x h
  obtain ⟨lv, st, hh⟩ := x
  subst hn
  match st, h with
  | .inl x :: .inr (.inr (c, i, s0)) :: st, h =>
    intro o1 o2 H locs ls hP hD hS hl
    obtain ⟨h7, h⟩ := pm_bt (b := Nat.blt c 7) h
    have h7 : c < 7 := Nat.ble_eq.mp h7
    obtain ⟨hi, hs0, hak, ⟨k, rfl, hk, h⟩, hlt⟩ := pm_af_at h (pm_okh (pm_okt o2)) h7
    obtain ⟨q, hq⟩ := pm_pl hi
    have hw := pm_wd_at (ad := ad) (ta := ta) (h := hh) hq
    rw [pm_arr hs0 (by rw [hak]; decide), hak] at hw
    have h2 := pm_kks (hK _ _ h) o1 (pm_ok1 trivial (pm_okt (pm_okt o2))) H locs ls hP hD hS hl
    refine va_iald X.1 X.2.1 X.2.2.2.2.2.1 hP q 0 hw rfl (pm_in_nI hk hlt) hd ?_
    rw [nI_clamp (by omega)]
    exact h2
  | [], h => exact h.elim
  | [.inl _], h => exact h.elim
  | [.inr (.inl _)], h => exact h.elim
  | [.inr (.inr _)], h => exact h.elim
  | .inl _ :: .inl _ :: _, h => exact h.elim
  | .inl _ :: .inr (.inl _) :: _, h => exact h.elim
  | .inr (.inl _) :: _ :: _, h => exact h.elim
  | .inr (.inr _) :: _ :: _, h => exact h.elim
def i_ba (nx : Nat) : pm_T := fun K z => match z with
  | (lv, .inl x :: .inr (.inr (c, i, s)) :: st, h) => bif Nat.blt c 7 then pm_af pm_atab (16 * c + s) 1 (fun n => ∃ k : Nat, x = nI k ∧ k < n ∧ K (some nx) (lv, .inl (h c i s k) :: st, h)) else False
  | _ => False
theorem sd_ba {own : String} {cc : ByteArray} {nL d rt pc nx : Nat} (hd : decode cc pc = .ok (.baload, 1)) (hn : pc + 1 = nx) : pm_sd own cc nL d rt pc (i_ba nx) := by
  intro post p l e s m args below meth c9 D ad ta X K hK x h
  obtain ⟨lv, st, hh⟩ := x
  subst hn
  match st, h with
  | .inl x :: .inr (.inr (c, i, s0)) :: st, h =>
    intro o1 o2 H locs ls hP hD hS hl
    obtain ⟨h7, h⟩ := pm_bt (b := Nat.blt c 7) h
    have h7 : c < 7 := Nat.ble_eq.mp h7
    obtain ⟨hi, hs0, hak, ⟨k, rfl, hk, h⟩, hlt⟩ := pm_af_at h (pm_okh (pm_okt o2)) h7
    obtain ⟨q, hq⟩ := pm_pl hi
    have hw := pm_wd_at (ad := ad) (ta := ta) (h := hh) hq
    rw [pm_arr hs0 (by rw [hak]; decide), hak] at hw
    have h2 := pm_kks (hK _ _ h) o1 (pm_ok1 trivial (pm_okt (pm_okt o2))) H locs ls hP hD hS hl
    refine va_bald X.1 X.2.1 X.2.2.2.2.2.1 hP q 1 hw rfl (pm_in_nI hk hlt) hd ?_
    rw [nI_clamp (by omega)]
    exact h2
  | [], h => exact h.elim
  | [.inl _], h => exact h.elim
  | [.inr (.inl _)], h => exact h.elim
  | [.inr (.inr _)], h => exact h.elim
  | .inl _ :: .inl _ :: _, h => exact h.elim
  | .inl _ :: .inr (.inl _) :: _, h => exact h.elim
  | .inr (.inl _) :: _ :: _, h => exact h.elim
  | .inr (.inr _) :: _ :: _, h => exact h.elim
def i_za (nx : Nat) : pm_T := fun K z => match z with
  | (lv, .inl x :: .inr (.inr (c, i, s)) :: st, h) => bif Nat.blt c 7 then pm_af pm_atab (16 * c + s) 2 (fun n => ∃ k : Nat, x = nI k ∧ k < n ∧ K (some nx) (lv, .inl (h c i s k) :: st, h)) else False
  | _ => False
theorem sd_za {own : String} {cc : ByteArray} {nL d rt pc nx : Nat} (hd : decode cc pc = .ok (.baload, 1)) (hn : pc + 1 = nx) : pm_sd own cc nL d rt pc (i_za nx) := by
  intro post p l e s m args below meth c9 D ad ta X K hK x h
  obtain ⟨lv, st, hh⟩ := x
  subst hn
  match st, h with
  | .inl x :: .inr (.inr (c, i, s0)) :: st, h =>
    intro o1 o2 H locs ls hP hD hS hl
    obtain ⟨h7, h⟩ := pm_bt (b := Nat.blt c 7) h
    have h7 : c < 7 := Nat.ble_eq.mp h7
    obtain ⟨hi, hs0, hak, ⟨k, rfl, hk, h⟩, hlt⟩ := pm_af_at h (pm_okh (pm_okt o2)) h7
    obtain ⟨q, hq⟩ := pm_pl hi
    have hw := pm_wd_at (ad := ad) (ta := ta) (h := hh) hq
    rw [pm_arr hs0 (by rw [hak]; decide), hak] at hw
    have h2 := pm_kks (hK _ _ h) o1 (pm_ok1 trivial (pm_okt (pm_okt o2))) H locs ls hP hD hS hl
    refine va_zald X.1 X.2.1 X.2.2.2.2.2.1 hP q 2 hw rfl (pm_in_nI hk hlt) hd ?_
    rw [nI_clamp (by omega)]
    exact h2
  | [], h => exact h.elim
  | [.inl _], h => exact h.elim
  | [.inr (.inl _)], h => exact h.elim
  | [.inr (.inr _)], h => exact h.elim
  | .inl _ :: .inl _ :: _, h => exact h.elim
  | .inl _ :: .inr (.inl _) :: _, h => exact h.elim
  | .inr (.inl _) :: _ :: _, h => exact h.elim
  | .inr (.inr _) :: _ :: _, h => exact h.elim
def i_ias (nx : Nat) : pm_T := fun K z => match z with
  | (lv, .inl v :: .inl x :: .inr (.inr (c, i, s)) :: st, h) => bif Nat.blt c 7 then pm_af pm_atab (16 * c + s) 0 (fun n => ∃ k : Nat, x = nI k ∧ k < n ∧ K (some nx) (lv, st, pm_up h c i s k (v))) else False
  | _ => False
theorem sd_ias {own : String} {cc : ByteArray} {nL d rt pc nx : Nat} (hd : decode cc pc = .ok (.iastore, 1)) (hn : pc + 1 = nx) : pm_sd own cc nL d rt pc (i_ias nx) := by
  intro post p l e s m args below meth c9 D ad ta X K hK x h
  obtain ⟨lv, st, hh⟩ := x
  subst hn
  match st, h with
  | .inl v :: .inl x :: .inr (.inr (c, i, s0)) :: st, h =>
    intro o1 o2 H locs ls hP hD hS hl
    obtain ⟨h7, h⟩ := pm_bt (b := Nat.blt c 7) h
    have h7 : c < 7 := Nat.ble_eq.mp h7
    obtain ⟨hi, hs0, hak, ⟨k, rfl, hk, h⟩, hlt⟩ := pm_af_at h (pm_okh (pm_okt (pm_okt o2))) h7
    obtain ⟨q, hq⟩ := pm_pl hi
    have hw := pm_wd_at (ad := ad) (ta := ta) (h := hh) hq
    have hak3 : pm_ak c s0 < 3 := by rw [hak]; decide
    rw [pm_arr hs0 hak3, hak] at hw
    refine va_iast X.1 X.2.1 X.2.2.2.2.2.1 hP hD hS q 0 hw rfl (pm_in_nI hk hlt) hd (fun H1 locs1 hP1 hD1 hS1 => ?_)
    rw [nI_clamp (by omega)] at hP1 hD1
    have e1 : (pm_wd ad ta hh).set q (ad (c, i, s0), .inl (ta 0, pm_an c s0, .inl (upd (hh c i s0) k (v)))) = pm_wd ad ta (pm_up hh c i s0 k (v)) := by
      have e2 : pm_ce ad ta (pm_up hh c i s0 k (v)) (c, i, s0) = .inl (ta 0, pm_an c s0, .inl (upd (hh c i s0) k (v))) := by
        rw [pm_arr hs0 hak3, hak, pm_up_ua, pm_ua_self]
      rw [← e2]
      refine pm_wd_set hq (fun r' _ hne => ?_)
      rw [pm_up_ua]
      exact pm_ce_ua r' hne
    rw [e1] at hP1 hD1
    exact pm_kks (hK _ _ h) o1 (pm_okt (pm_okt (pm_okt o2))) H1 locs1 ls hP1 hD1 hS1 hl
  | [], h => exact h.elim
  | [.inl _], h => exact h.elim
  | [.inr (.inl _)], h => exact h.elim
  | [.inr (.inr _)], h => exact h.elim
  | .inr (.inl _) :: _ :: _, h => exact h.elim
  | .inr (.inr _) :: _ :: _, h => exact h.elim
  | .inl _ :: .inr (.inl _) :: _, h => exact h.elim
  | .inl _ :: .inr (.inr _) :: _, h => exact h.elim
  | [.inl _, .inl _], h => exact h.elim
  | .inl _ :: .inl _ :: .inl _ :: _, h => exact h.elim
  | .inl _ :: .inl _ :: .inr (.inl _) :: _, h => exact h.elim
def i_bas (nx : Nat) : pm_T := fun K z => match z with
  | (lv, .inl v :: .inl x :: .inr (.inr (c, i, s)) :: st, h) => bif Nat.blt c 7 then pm_af pm_atab (16 * c + s) 1 (fun n => ∃ k : Nat, x = nI k ∧ k < n ∧ K (some nx) (lv, st, pm_up h c i s k (v.toInt8.toInt32))) else False
  | _ => False
theorem sd_bas {own : String} {cc : ByteArray} {nL d rt pc nx : Nat} (hd : decode cc pc = .ok (.bastore, 1)) (hn : pc + 1 = nx) : pm_sd own cc nL d rt pc (i_bas nx) := by
  intro post p l e s m args below meth c9 D ad ta X K hK x h
  obtain ⟨lv, st, hh⟩ := x
  subst hn
  match st, h with
  | .inl v :: .inl x :: .inr (.inr (c, i, s0)) :: st, h =>
    intro o1 o2 H locs ls hP hD hS hl
    obtain ⟨h7, h⟩ := pm_bt (b := Nat.blt c 7) h
    have h7 : c < 7 := Nat.ble_eq.mp h7
    obtain ⟨hi, hs0, hak, ⟨k, rfl, hk, h⟩, hlt⟩ := pm_af_at h (pm_okh (pm_okt (pm_okt o2))) h7
    obtain ⟨q, hq⟩ := pm_pl hi
    have hw := pm_wd_at (ad := ad) (ta := ta) (h := hh) hq
    have hak3 : pm_ak c s0 < 3 := by rw [hak]; decide
    rw [pm_arr hs0 hak3, hak] at hw
    refine va_bast X.1 X.2.1 X.2.2.2.2.2.1 hP hD hS q 1 hw rfl (pm_in_nI hk hlt) hd (fun H1 locs1 hP1 hD1 hS1 => ?_)
    rw [nI_clamp (by omega)] at hP1 hD1
    rw [vp_nar_byte] at hP1 hD1
    have e1 : (pm_wd ad ta hh).set q (ad (c, i, s0), .inl (ta 1, pm_an c s0, .inl (upd (hh c i s0) k (v.toInt8.toInt32)))) = pm_wd ad ta (pm_up hh c i s0 k (v.toInt8.toInt32)) := by
      have e2 : pm_ce ad ta (pm_up hh c i s0 k (v.toInt8.toInt32)) (c, i, s0) = .inl (ta 1, pm_an c s0, .inl (upd (hh c i s0) k (v.toInt8.toInt32))) := by
        rw [pm_arr hs0 hak3, hak, pm_up_ua, pm_ua_self]
      rw [← e2]
      refine pm_wd_set hq (fun r' _ hne => ?_)
      rw [pm_up_ua]
      exact pm_ce_ua r' hne
    rw [e1] at hP1 hD1
    exact pm_kks (hK _ _ h) o1 (pm_okt (pm_okt (pm_okt o2))) H1 locs1 ls hP1 hD1 hS1 hl
  | [], h => exact h.elim
  | [.inl _], h => exact h.elim
  | [.inr (.inl _)], h => exact h.elim
  | [.inr (.inr _)], h => exact h.elim
  | .inr (.inl _) :: _ :: _, h => exact h.elim
  | .inr (.inr _) :: _ :: _, h => exact h.elim
  | .inl _ :: .inr (.inl _) :: _, h => exact h.elim
  | .inl _ :: .inr (.inr _) :: _, h => exact h.elim
  | [.inl _, .inl _], h => exact h.elim
  | .inl _ :: .inl _ :: .inl _ :: _, h => exact h.elim
  | .inl _ :: .inl _ :: .inr (.inl _) :: _, h => exact h.elim
def i_zas (nx : Nat) : pm_T := fun K z => match z with
  | (lv, .inl v :: .inl x :: .inr (.inr (c, i, s)) :: st, h) => bif Nat.blt c 7 then pm_af pm_atab (16 * c + s) 2 (fun n => (v = 0 ∨ v = 1) ∧ ∃ k : Nat, x = nI k ∧ k < n ∧ K (some nx) (lv, st, pm_up h c i s k (v))) else False
  | _ => False
theorem sd_zas {own : String} {cc : ByteArray} {nL d rt pc nx : Nat} (hd : decode cc pc = .ok (.bastore, 1)) (hn : pc + 1 = nx) : pm_sd own cc nL d rt pc (i_zas nx) := by
  intro post p l e s m args below meth c9 D ad ta X K hK x h
  obtain ⟨lv, st, hh⟩ := x
  subst hn
  match st, h with
  | .inl v :: .inl x :: .inr (.inr (c, i, s0)) :: st, h =>
    intro o1 o2 H locs ls hP hD hS hl
    obtain ⟨h7, h⟩ := pm_bt (b := Nat.blt c 7) h
    have h7 : c < 7 := Nat.ble_eq.mp h7
    obtain ⟨hi, hs0, hak, ⟨hv, k, rfl, hk, h⟩, hlt⟩ := pm_af_at h (pm_okh (pm_okt (pm_okt o2))) h7
    obtain ⟨q, hq⟩ := pm_pl hi
    have hw := pm_wd_at (ad := ad) (ta := ta) (h := hh) hq
    have hak3 : pm_ak c s0 < 3 := by rw [hak]; decide
    rw [pm_arr hs0 hak3, hak] at hw
    refine va_zast X.1 X.2.1 X.2.2.2.2.2.1 hP hD hS q 2 hw rfl (pm_in_nI hk hlt) hd (fun H1 locs1 hP1 hD1 hS1 => ?_)
    rw [nI_clamp (by omega)] at hP1 hD1
    rw [show vp_nar .boolean v = v by rcases hv with rfl | rfl <;> decide +kernel] at hP1 hD1
    have e1 : (pm_wd ad ta hh).set q (ad (c, i, s0), .inl (ta 2, pm_an c s0, .inl (upd (hh c i s0) k (v)))) = pm_wd ad ta (pm_up hh c i s0 k (v)) := by
      have e2 : pm_ce ad ta (pm_up hh c i s0 k (v)) (c, i, s0) = .inl (ta 2, pm_an c s0, .inl (upd (hh c i s0) k (v))) := by
        rw [pm_arr hs0 hak3, hak, pm_up_ua, pm_ua_self]
      rw [← e2]
      refine pm_wd_set hq (fun r' _ hne => ?_)
      rw [pm_up_ua]
      exact pm_ce_ua r' hne
    rw [e1] at hP1 hD1
    exact pm_kks (hK _ _ h) o1 (pm_okt (pm_okt (pm_okt o2))) H1 locs1 ls hP1 hD1 hS1 hl
  | [], h => exact h.elim
  | [.inl _], h => exact h.elim
  | [.inr (.inl _)], h => exact h.elim
  | [.inr (.inr _)], h => exact h.elim
  | .inr (.inl _) :: _ :: _, h => exact h.elim
  | .inr (.inr _) :: _ :: _, h => exact h.elim
  | .inl _ :: .inr (.inl _) :: _, h => exact h.elim
  | .inl _ :: .inr (.inr _) :: _, h => exact h.elim
  | [.inl _, .inl _], h => exact h.elim
  | .inl _ :: .inl _ :: .inl _ :: _, h => exact h.elim
  | .inl _ :: .inl _ :: .inr (.inl _) :: _, h => exact h.elim
/-- what an array of references holds -/
def i_aa (kind : Nat) (t : Nat → pm_R) (nx : Nat) : pm_T := fun K z => match z with
  | (lv, .inl x :: .inr (.inr (c, i, s)) :: st, h) => bif Nat.blt c 7 then pm_af pm_atab (16 * c + s) kind (fun n => ∃ k : Nat, x = nI k ∧ k < n ∧ K (some nx) (lv, .inr (.inr (t k)) :: st, h)) else False
  | _ => False
def pm_rty (kind : Nat) : FieldType := if kind = 3 then .object RX0 else if kind = 4 then .object RX1 else .array .int
theorem pm_el_ok {c s k : Nat} (hc : c < 7) (hs : s < pm_sub c) (hk : k < pm_an c s) (h3 : ¬ pm_ak c s < 3) : pm_el (pm_ak c s) k ∈ pm_cells := by
  have h : ∀ c : Fin 7, ∀ s : Fin 12, ¬ pm_ak c.val s.val < 3 → ∀ k : Fin 8, pm_an c.val s.val ≤ 8 ∧ (k.val < pm_an c.val s.val → pm_el (pm_ak c.val s.val) k.val ∈ pm_cells) := by decide +kernel
  have h2 : ∀ c : Fin 7, pm_sub c.val ≤ 12 := by decide +kernel
  have h4 := h2 ⟨c, hc⟩
  have hs2 : s < 12 := Nat.lt_of_lt_of_le hs h4
  have h5 := (h ⟨c, hc⟩ ⟨s, hs2⟩ h3 0).1
  exact (h ⟨c, hc⟩ ⟨s, hs2⟩ h3 ⟨k, Nat.lt_of_lt_of_le hk h5⟩).2 hk
theorem sd_aa {own : String} {cc : ByteArray} {nL d rt pc nx kind : Nat} {t : Nat → pm_R} (hk3 : kind = 3 ∨ kind = 4 ∨ kind = 5) (ht : ∀ k, pm_el kind k = t k) (hd : decode cc pc = .ok (.aaload, 1)) (hn : pc + 1 = nx) : pm_sd own cc nL d rt pc (i_aa kind t nx) := by
  intro post p l e s m args below meth c9 D ad ta X K hK x h
  obtain ⟨lv, st, hh⟩ := x
  subst hn
  match st, h with
  | .inl x :: .inr (.inr (c, i, s0)) :: st, h =>
    intro o1 o2 H locs ls hP hD hS hl
    obtain ⟨h7, h⟩ := pm_bt (b := Nat.blt c 7) h
    have h7 : c < 7 := Nat.ble_eq.mp h7
    obtain ⟨hi, hs0, hak, ⟨k, rfl, hk, h⟩, hlt⟩ := pm_af_at h (pm_okh (pm_okt o2)) h7
    obtain ⟨q, hq⟩ := pm_pl hi
    have hw := pm_wd_at (ad := ad) (ta := ta) (h := hh) hq
    have hk9 : ¬ pm_ak c s0 < 3 := by rw [hak]; omega
    rw [pm_rar hs0 hk9] at hw
    have hin3 := pm_in3 hi
    have hel := pm_el_ok h7 hin3.2.2 hk hk9
    rw [hak] at hel
    rw [ht k] at hel
    have h2 := pm_kks (hK _ _ h) o1 (pm_ok1 (Or.inl hel) (pm_okt (pm_okt o2))) H locs ls hP hD hS hl
    have hty : (pm_tys ta)[kind]? = some (ta (pm_ak c s0), pm_rty kind) := by
      rw [hak]
      rcases hk3 with rfl | rfl | rfl <;> rfl
    have harr := (X.2.2.2.2.2.1.2 kind _ hty).1 (pm_an c s0) (fun j => va_rf (if j < pm_an c s0 then some (ad (pm_el (pm_ak c s0) j)) else none))
    refine W.aald (v := .ref (ad (t k))) (ty := pm_rty kind) X.1 X.2.1 (hP q _ hw) harr (by rcases hk3 with rfl | rfl | rfl <;> rfl) (fun q => by cases q) (by show ¬ (nI k < 0 ∨ (arrV _ _ _).slots.size ≤ _); rw [arrV_size]; exact pm_in_nI hk hlt) (by
      show (arrV _ _ _).slots[_]? = _
      rw [nI_clamp (by omega), arrV_read _ _ hk]
      simp only [hk, if_true, hak, ht]
      rfl) rfl rfl hd h2
  | [], h => exact h.elim
  | [.inl _], h => exact h.elim
  | [.inr (.inl _)], h => exact h.elim
  | [.inr (.inr _)], h => exact h.elim
  | .inl _ :: .inl _ :: _, h => exact h.elim
  | .inl _ :: .inr (.inl _) :: _, h => exact h.elim
  | .inr (.inl _) :: _ :: _, h => exact h.elim
  | .inr (.inr _) :: _ :: _, h => exact h.elim
def i_len (nx : Nat) : pm_T := fun K z => match z with
  | (lv, .inr (.inr (c, i, s)) :: st, h) => bif Nat.blt c 7 then pm_af pm_atab (16 * c + s) 0 (fun n => K (some nx) (lv, .inl (nI n) :: st, h)) else False
  | _ => False
theorem sd_len {own : String} {cc : ByteArray} {nL d rt pc nx : Nat} (hd : decode cc pc = .ok (.arraylength, 1)) (hn : pc + 1 = nx) : pm_sd own cc nL d rt pc (i_len nx) := by
  intro post p l e s m args below meth c9 D ad ta X K hK x h
  obtain ⟨lv, st, hh⟩ := x
  subst hn
  match st, h with
  | .inr (.inr (c, i, s0)) :: st, h =>
    intro o1 o2 H locs ls hP hD hS hl
    obtain ⟨h7, h⟩ := pm_bt (b := Nat.blt c 7) h
    have h7 : c < 7 := Nat.ble_eq.mp h7
    obtain ⟨hi, hs0, hak, h, hlt⟩ := pm_af_at h (pm_okh o2) h7
    obtain ⟨q, hq⟩ := pm_pl hi
    have hw := pm_wd_at (ad := ad) (ta := ta) (h := hh) hq
    rw [pm_arr hs0 (by rw [hak]; decide), hak] at hw
    have h2 := pm_kks (hK _ _ h) o1 (pm_ok1 trivial (pm_okt o2)) H locs ls hP hD hS hl
    exact va_alen X.1 X.2.1 X.2.2.2.2.2.1 hP q 0 hw rfl rfl hd h2
  | [], h => exact h.elim
  | .inl _ :: _, h => exact h.elim
  | .inr (.inl _) :: _, h => exact h.elim
def i_stn (nx : Nat) : pm_T := fun K z => match z with
  | (lv, st, h) => K (some nx) (lv, .inr (.inr (7, 0, 0)) :: st, h)
theorem sd_stn {own : String} {cc : ByteArray} {nL d rt pc nx idx : Nat} (hk : Cond.fieldLink own idx RX3 "NUMBERS" "[I" ∈ pm_tbl) (hd : decode cc pc = .ok (.getstatic idx, 3)) (hn : pc + 3 = nx) : pm_sd own cc nL d rt pc (i_stn nx) := by
  intro post p l e s m args below meth c9 D ad ta X K hK x h
  obtain ⟨lv, st, hh⟩ := x
  subst hn
  intro o1 o2 H locs ls hP hD hS hl
  exact va_gets X.1 X.2.1 X.2.2.2.2.2.2.1.1 hS X.2.2.2.1 (X.2.2.2.2.1 _ hk) (fun _ h9 => h9) hd (pm_kks (hK _ _ h) o1 (pm_ok1 (Or.inr (Nat.le_refl 7)) o2) H locs ls hP hD hS hl)
def i_tn (nx : Nat) : pm_T := fun K z => match z with
  | (lv, .inl x :: .inr (.inr (c, i, s)) :: st, h) => bif Nat.beq c 7 && Nat.beq i 0 && Nat.beq s 0 then ∃ k : Nat, x = nI k ∧ k < 8 ∧ K (some nx) (lv, .inl (pm_num k) :: st, h) else False
  | _ => False
theorem sd_tn {own : String} {cc : ByteArray} {nL d rt pc nx : Nat} (hd : decode cc pc = .ok (.iaload, 1)) (hn : pc + 1 = nx) : pm_sd own cc nL d rt pc (i_tn nx) := by
  intro post p l e s m args below meth c9 D ad ta X K hK x h
  obtain ⟨lv, st, hh⟩ := x
  subst hn
  match st, h with
  | .inl x :: .inr (.inr (c, i, s0)) :: st, h =>
    intro o1 o2 H locs ls hP hD hS hl
    obtain ⟨hb, k, rfl, hk, h9⟩ := pm_bt (b := Nat.beq c 7 && Nat.beq i 0 && Nat.beq s0 0) h
    have h3 := Bool.and_eq_true_iff.mp hb
    have h4 := Bool.and_eq_true_iff.mp h3.1
    have e1 := Nat.eq_of_beq_eq_true h4.1
    have e2 := Nat.eq_of_beq_eq_true h4.2
    have e3 := Nat.eq_of_beq_eq_true h3.2
    subst e1; subst e2; subst e3
    have o3 : ∀ v ∈ st, pm_ok v := fun v hv => o2 v (List.mem_cons_of_mem _ (List.mem_cons_of_mem _ hv))
    have h2 := pm_kks (hK _ _ h9) o1 (pm_ok1 trivial o3) H locs ls hP hD hS hl
    exact va_ti X.1 X.2.1 X.2.2.2.2.2.2.1.2.1 hS (pm_in_nI hk (by decide)) (by rw [nI_clamp (by omega)]; rfl) hd h2
  | [], h => exact h.elim
  | [.inl _], h => exact h.elim
  | [.inr (.inl _)], h => exact h.elim
  | [.inr (.inr _)], h => exact h.elim
  | .inl _ :: .inl _ :: _, h => exact h.elim
  | .inl _ :: .inr (.inl _) :: _, h => exact h.elim
  | .inr (.inl _) :: _ :: _, h => exact h.elim
  | .inr (.inr _) :: _ :: _, h => exact h.elim
def i_stb (nx : Nat) : pm_T := fun K z => match z with
  | (lv, st, h) => K (some nx) (lv, .inr (.inr (7, 1, 0)) :: st, h)
theorem sd_stb {own : String} {cc : ByteArray} {nL d rt pc nx idx : Nat} (hk : Cond.fieldLink own idx RX3 "BOUNDS" "[I" ∈ pm_tbl) (hd : decode cc pc = .ok (.getstatic idx, 3)) (hn : pc + 3 = nx) : pm_sd own cc nL d rt pc (i_stb nx) := by
  intro post p l e s m args below meth c9 D ad ta X K hK x h
  obtain ⟨lv, st, hh⟩ := x
  subst hn
  intro o1 o2 H locs ls hP hD hS hl
  exact va_gets X.1 X.2.1 X.2.2.2.2.2.2.1.2.2.1 hS X.2.2.2.1 (X.2.2.2.2.1 _ hk) (fun _ h9 => h9) hd (pm_kks (hK _ _ h) o1 (pm_ok1 (Or.inr (Nat.le_refl 7)) o2) H locs ls hP hD hS hl)
def i_tb (nx : Nat) : pm_T := fun K z => match z with
  | (lv, .inl x :: .inr (.inr (c, i, s)) :: st, h) => bif Nat.beq c 7 && Nat.beq i 1 && Nat.beq s 0 then ∃ k : Nat, x = nI k ∧ k < 24 ∧ K (some nx) (lv, .inl (pm_bnd k) :: st, h) else False
  | _ => False
theorem sd_tb {own : String} {cc : ByteArray} {nL d rt pc nx : Nat} (hd : decode cc pc = .ok (.iaload, 1)) (hn : pc + 1 = nx) : pm_sd own cc nL d rt pc (i_tb nx) := by
  intro post p l e s m args below meth c9 D ad ta X K hK x h
  obtain ⟨lv, st, hh⟩ := x
  subst hn
  match st, h with
  | .inl x :: .inr (.inr (c, i, s0)) :: st, h =>
    intro o1 o2 H locs ls hP hD hS hl
    obtain ⟨hb, k, rfl, hk, h9⟩ := pm_bt (b := Nat.beq c 7 && Nat.beq i 1 && Nat.beq s0 0) h
    have h3 := Bool.and_eq_true_iff.mp hb
    have h4 := Bool.and_eq_true_iff.mp h3.1
    have e1 := Nat.eq_of_beq_eq_true h4.1
    have e2 := Nat.eq_of_beq_eq_true h4.2
    have e3 := Nat.eq_of_beq_eq_true h3.2
    subst e1; subst e2; subst e3
    have o3 : ∀ v ∈ st, pm_ok v := fun v hv => o2 v (List.mem_cons_of_mem _ (List.mem_cons_of_mem _ hv))
    have h2 := pm_kks (hK _ _ h9) o1 (pm_ok1 trivial o3) H locs ls hP hD hS hl
    exact va_ti X.1 X.2.1 X.2.2.2.2.2.2.1.2.2.2.1 hS (pm_in_nI hk (by decide)) (by rw [nI_clamp (by omega)]; rfl) hd h2
  | [], h => exact h.elim
  | [.inl _], h => exact h.elim
  | [.inr (.inl _)], h => exact h.elim
  | [.inr (.inr _)], h => exact h.elim
  | .inl _ :: .inl _ :: _, h => exact h.elim
  | .inl _ :: .inr (.inl _) :: _, h => exact h.elim
  | .inr (.inl _) :: _ :: _, h => exact h.elim
  | .inr (.inr _) :: _ :: _, h => exact h.elim
def i_mmin (nx : Nat) : pm_T := fun K z => match z with
  | (lv, .inl y :: .inl x :: st, h) => bif Nat.ble (pm_cs st) 8 then K (some nx) (lv, .inl (if y < x then y else x) :: st, h) else False
  | _ => False
def i_mmax (nx : Nat) : pm_T := fun K z => match z with
  | (lv, .inl y :: .inl x :: st, h) => bif Nat.ble (pm_cs st) 8 then K (some nx) (lv, .inl (if x < y then y else x) :: st, h) else False
  | _ => False
theorem sd_mmin {own : String} {cc : ByteArray} {nL d rt pc nx idx : Nat} (hk : Cond.methodLink own idx Lib.Math.min.name ∈ pm_tbl) (hks : Cond.static Lib.Math.min.name ∈ pm_tbl) (hki : Cond.initialized "java/lang/Math" ∈ pm_tbl) (hkc : Cond.code Lib.Math.min.name Lib.Math.min.code 2 (some .int) ∈ pm_tbl) (h1 : 1 ≤ d) (hd : decode cc pc = .ok (.invokestatic idx, 3)) (hn : pc + 3 = nx) : pm_sd own cc nL d rt pc (i_mmin nx) := by
  intro post p l e s m args below meth c9 D ad ta X K hK x h
  obtain ⟨lv, st, hh⟩ := x
  subst hn
  match st, h with
  | .inl y :: .inl x :: st, h =>
    intro o1 o2 H locs ls hP hD hS hl
    obtain ⟨hb, h⟩ := pm_bt (b := Nat.ble (pm_cs st) 8) h
    have hcs : pm_cs st ≤ 8 := Nat.ble_eq.mp hb
    have h2 := pm_kks (hK _ _ h) o1 (pm_ok1 trivial (pm_okt (pm_okt o2))) H locs ls hP hD hS hl
    exact va_mmin X.1 X.2.1 (X.2.2.1.trans hl.1.symm) X.2.2.2.1 (X.2.2.2.2.1 _ hk) (X.2.2.2.2.1 _ hks) (X.2.2.2.2.1 _ hki) (X.2.2.2.2.1 _ hkc) h1 (by rw [pm_cs_rv]; show _ ≤ 64 * d; omega) (Nat.zero_le _) (Nat.zero_le _) hd h2
  | [], h => exact h.elim
  | [.inl _], h => exact h.elim
  | [.inr (.inl _)], h => exact h.elim
  | [.inr (.inr _)], h => exact h.elim
  | .inl _ :: .inr (.inl _) :: _, h => exact h.elim
  | .inl _ :: .inr (.inr _) :: _, h => exact h.elim
  | .inr (.inl _) :: _ :: _, h => exact h.elim
  | .inr (.inr _) :: _ :: _, h => exact h.elim
theorem sd_mmax {own : String} {cc : ByteArray} {nL d rt pc nx idx : Nat} (hk : Cond.methodLink own idx Lib.Math.max.name ∈ pm_tbl) (hks : Cond.static Lib.Math.max.name ∈ pm_tbl) (hki : Cond.initialized "java/lang/Math" ∈ pm_tbl) (hkc : Cond.code Lib.Math.max.name Lib.Math.max.code 2 (some .int) ∈ pm_tbl) (h1 : 1 ≤ d) (hd : decode cc pc = .ok (.invokestatic idx, 3)) (hn : pc + 3 = nx) : pm_sd own cc nL d rt pc (i_mmax nx) := by
  intro post p l e s m args below meth c9 D ad ta X K hK x h
  obtain ⟨lv, st, hh⟩ := x
  subst hn
  match st, h with
  | .inl y :: .inl x :: st, h =>
    intro o1 o2 H locs ls hP hD hS hl
    obtain ⟨hb, h⟩ := pm_bt (b := Nat.ble (pm_cs st) 8) h
    have hcs : pm_cs st ≤ 8 := Nat.ble_eq.mp hb
    have h2 := pm_kks (hK _ _ h) o1 (pm_ok1 trivial (pm_okt (pm_okt o2))) H locs ls hP hD hS hl
    exact va_mmax X.1 X.2.1 (X.2.2.1.trans hl.1.symm) X.2.2.2.1 (X.2.2.2.2.1 _ hk) (X.2.2.2.2.1 _ hks) (X.2.2.2.2.1 _ hki) (X.2.2.2.2.1 _ hkc) h1 (by rw [pm_cs_rv]; show _ ≤ 64 * d; omega) (Nat.zero_le _) (Nat.zero_le _) hd h2
  | [], h => exact h.elim
  | [.inl _], h => exact h.elim
  | [.inr (.inl _)], h => exact h.elim
  | [.inr (.inr _)], h => exact h.elim
  | .inl _ :: .inr (.inl _) :: _, h => exact h.elim
  | .inl _ :: .inr (.inr _) :: _, h => exact h.elim
  | .inr (.inl _) :: _ :: _, h => exact h.elim
  | .inr (.inr _) :: _ :: _, h => exact h.elim
/-- System.arraycopy of the first n numbers -/
def pm_cp (f g : Nat → Int32) (n : Nat) : Nat → Int32 := fun j => if j < n then f j else g j
def i_cp (nx : Nat) : pm_T := fun K z => match z with
  | (lv, .inl n :: .inl dp :: .inr (.inr (c1, i1, s1)) :: .inl sp :: .inr (.inr (c0, i0, s0)) :: st, h) => bif Nat.ble (pm_cs st) 8 && Nat.blt c0 7 && Nat.blt c1 7 then pm_af pm_atab (16 * c0 + s0) 0 (fun n0 => pm_af pm_atab (16 * c1 + s1) 0 (fun n1 => ∃ k : Nat, n = nI k ∧ sp = 0 ∧ dp = 0 ∧ k ≤ n0 ∧ k ≤ n1 ∧ K (some nx) (lv, st, pm_ua h c1 i1 s1 (pm_cp (h c0 i0 s0) (h c1 i1 s1) k)))) else False
  | _ => False
theorem pm_cpy0 (f g : Nat → Int32) (n : Nat) : va_cpy f g 0 0 n = pm_cp f g n := by
  funext j
  unfold va_cpy pm_cp
  by_cases h : j < n
  · rw [if_pos ⟨Nat.zero_le _, by omega⟩, if_pos h]
    congr 1
    omega
  · rw [if_neg (by omega), if_neg h]
theorem sd_cp {own : String} {cc : ByteArray} {nL d rt pc nx idx : Nat} (hk : Cond.methodLink own idx arraycopyName ∈ pm_tbl) (hkn : Cond.native arraycopyName ∈ pm_tbl) (hks : Cond.static arraycopyName ∈ pm_tbl) (hki : Cond.initialized "java/lang/System" ∈ pm_tbl) (h1 : 1 ≤ d) (hd : decode cc pc = .ok (.invokestatic idx, 3)) (hn : pc + 3 = nx) : pm_sd own cc nL d rt pc (i_cp nx) := by
  intro post p l e s m args below meth c9 D ad ta X K hK x h
  obtain ⟨lv, st, hh⟩ := x
  subst hn
  unfold i_cp at h
  split at h
  case h_2 => exact h.elim
  case h_1 lv9 n dp c1 i1 s1 sp c0 i0 s0 st9 hx9 he =>
    simp only [Prod.mk.injEq] at he
    obtain ⟨rfl, rfl, rfl⟩ := he
    intro o1 o2 H locs ls hP hD hS hl
    obtain ⟨hb, h⟩ := pm_bt h
    have h3 := Bool.and_eq_true_iff.mp hb
    have h4 := Bool.and_eq_true_iff.mp h3.1
    have hcs : pm_cs st9 ≤ 8 := Nat.ble_eq.mp h4.1
    have hc0 : c0 < 7 := Nat.ble_eq.mp h4.2
    have hc1 : c1 < 7 := Nat.ble_eq.mp h3.2
    obtain ⟨hi0, hs0, hak0, h, hlt0⟩ := pm_af_at h (pm_okh (pm_okt (pm_okt (pm_okt (pm_okt o2))))) hc0
    obtain ⟨hi1, hs1, hak1, ⟨k, rfl, rfl, rfl, hk0, hk1, h⟩, hlt1⟩ := pm_af_at h (pm_okh (pm_okt (pm_okt o2))) hc1
    obtain ⟨q0, hq0⟩ := pm_pl hi0
    obtain ⟨q1, hq1⟩ := pm_pl hi1
    have hw0 := pm_wd_at (ad := ad) (ta := ta) (h := hh) hq0
    have hw1 := pm_wd_at (ad := ad) (ta := ta) (h := hh) hq1
    have hak03 : pm_ak c0 s0 < 3 := by rw [hak0]; decide
    have hak13 : pm_ak c1 s1 < 3 := by rw [hak1]; decide
    rw [pm_arr hs0 hak03, hak0] at hw0
    rw [pm_arr hs1 hak13, hak1] at hw1
    have e0 : (0 : Int32).toNatClampNeg = 0 := by decide +kernel
    refine va_copyi (ty := .int) X.1 X.2.1 (X.2.2.1.trans hl.1.symm) X.2.2.2.1 (X.2.2.2.2.1 _ hk) (X.2.2.2.2.1 _ hkn) (X.2.2.2.2.1 _ hks) (X.2.2.2.2.1 _ hki) X.2.2.2.2.2.1 hP hD hS q0 q1 0 0 hw0 hw1 rfl rfl rfl (by decide +kernel) (by decide +kernel) (nI_pos (by omega)) (by rw [e0, nI_clamp (by omega)]; omega) (by rw [e0, nI_clamp (by omega)]; omega) (fun _ _ => rfl) h1 ?_ hd (fun H1 locs1 hP1 hD1 hS1 => ?_)
    · rw [pm_cs_rv]
      have : nativeFrameWords "java/lang/System" "arraycopy" 5 + 11 ≤ 56 := by decide +kernel
      show _ ≤ 64 * d
      omega
    · rw [e0, nI_clamp (by omega), pm_cpy0] at hP1 hD1
      have e1 : (pm_wd ad ta hh).set q1 (ad (c1, i1, s1), .inl (ta 0, pm_an c1 s1, .inl (pm_cp (hh c0 i0 s0) (hh c1 i1 s1) k))) = pm_wd ad ta (pm_ua hh c1 i1 s1 (pm_cp (hh c0 i0 s0) (hh c1 i1 s1) k)) := by
        have e2 : pm_ce ad ta (pm_ua hh c1 i1 s1 (pm_cp (hh c0 i0 s0) (hh c1 i1 s1) k)) (c1, i1, s1) = .inl (ta 0, pm_an c1 s1, .inl (pm_cp (hh c0 i0 s0) (hh c1 i1 s1) k)) := by
          rw [pm_arr hs1 hak13, hak1, pm_ua_self]
        rw [← e2]
        exact pm_wd_set hq1 (fun r' _ hne => pm_ce_ua r' hne)
      rw [e1] at hP1 hD1
      exact pm_kks (hK _ _ h) o1 (pm_okt (pm_okt (pm_okt (pm_okt (pm_okt o2))))) H1 locs1 ls hP1 hD1 hS1 hl
def pm_sw (x : Int32) (k : Nat → Prop) : Nat → List Nat → Nat → Prop
  | _, [], d => k d
  | j, t :: ts, d => (x = nI j → k t) ∧ (¬ x = nI j → pm_sw x k (j + 1) ts d)
def i_sw (lo : Nat) (ts : List Nat) (df : Nat) : pm_T := fun K z => match z with
  | (lv, .inl x :: st, h) => pm_sw x (fun t => K (some t) (lv, st, h)) lo ts df
  | _ => False
theorem pm_sw_in {x : Int32} {k : Nat → Prop} : ∀ {ts : List Nat} {lo df j t : Nat}, pm_sw x k lo ts df → x = nI (lo + j) → lo + ts.length < 2 ^ 31 → ts[j]? = some t → k t
  | [], lo, df, j, t, _, _, _, hj => by simp at hj
  | t0 :: ts, lo, df, 0, t, h, hx, _, hj => by
    cases hj
    exact h.1 hx
  | t0 :: ts, lo, df, j + 1, t, h, hx, hb, hj => by
    have hlt : j < ts.length := Nat.lt_of_succ_lt_succ (List.getElem?_eq_some_iff.mp hj).1
    simp only [List.length_cons] at hb
    refine pm_sw_in (ts := ts) (h.2 ?_) (by rw [hx]; congr 1; omega) (by omega) hj
    rw [hx, nI_eq (by omega) (by omega)]
    omega
theorem pm_sw_out {x : Int32} {k : Nat → Prop} : ∀ {ts : List Nat} {lo df : Nat}, pm_sw x k lo ts df → (∀ j, j < ts.length → ¬ x = nI (lo + j)) → k df
  | [], lo, df, h, _ => h
  | t0 :: ts, lo, df, h, hx => pm_sw_out (ts := ts) (h.2 (hx 0 (by simp))) (fun j hj => by
      have := hx (j + 1) (by simp; omega)
      rwa [show lo + (j + 1) = lo + 1 + j by omega] at this)
theorem sd_sw {own : String} {cc : ByteArray} {nL d rt pc lo df len : Nat} {ts : List Nat} {dflt lo' hi : Int} {offs : Array Int} (hd : decode cc pc = .ok (.tableswitch dflt lo' hi offs, len)) (hlo : lo' = (lo : Int)) (hhi : hi = ((lo + ts.length : Nat) : Int) - 1) (hb : lo + ts.length < 1000) (ho : offs.toList = ts.map (fun t : Nat => (t : Int) - (pc : Int))) (hdf : (pc : Int) + dflt = (df : Int)) : pm_sd own cc nL d rt pc (i_sw lo ts df) := by
  intro post p l e s m args below meth c9 D ad ta X K hK x h
  obtain ⟨lv, st, hh⟩ := x
  match st, h with
  | .inl x :: st, h =>
    intro o1 o2 H locs ls hP hD hS hl
    by_cases hx : x.toInt < lo' ∨ hi < x.toInt
    · refine lv_tableOut X.1 X.2.1 hd hx hdf (pm_kks (hK _ _ (pm_sw_out h (fun j hj e9 => ?_))) o1 (pm_okt o2) H locs ls hP hD hS hl)
      rw [e9, nI_toInt (by omega)] at hx
      omega
    · have h1 : ¬ x.toInt < lo' := fun q => hx (Or.inl q)
      have h2 : ¬ hi < x.toInt := fun q => hx (Or.inr q)
      obtain ⟨j, hj⟩ : ∃ j : Nat, x.toInt = ((lo + j : Nat) : Int) := ⟨(x.toInt - lo).toNat, by omega⟩
      have hjl : j < ts.length := by omega
      have hxe : x = nI (lo + j) := by
        rw [← Int32.toInt_inj, nI_toInt (by omega)]
        exact hj
      obtain ⟨t, ht⟩ : ∃ t, ts[j]? = some t := ⟨ts[j], List.getElem?_eq_getElem hjl⟩
      refine lv_tableIn (off := (t : Int) - pc) (tgt := t) X.1 X.2.1 hd h1 h2 ?_ (by omega) (pm_kks (hK _ _ (pm_sw_in h hxe (by omega) ht)) o1 (pm_okt o2) H locs ls hP hD hS hl)
      rw [← Array.getElem?_toList, ho, List.getElem?_map, show (x.toInt - lo').toNat = j by omega, ht]
      rfl
  | [], h => exact h.elim
  | .inr (.inl _) :: _, h => exact h.elim
  | .inr (.inr _) :: _, h => exact h.elim
end
section
/-! THE PURE MACHINE: calls, runs, a method's contract out of its table of steps. -/
def pm_pop : Nat → List pm_V → List pm_V → (List pm_V → List pm_V → Prop) → Prop
  | 0, st, acc, k => k acc st
  | n + 1, v :: st, acc, k => pm_pop n st (v :: acc) k
  | _ + 1, [], _, _ => False
theorem pm_pop_spec : ∀ {n : Nat} {st acc : List pm_V} {k : List pm_V → List pm_V → Prop}, pm_pop n st acc k → ∃ as st', st = as.reverse ++ st' ∧ as.length = n ∧ k (as ++ acc) st'
  | 0, st, acc, k, h => ⟨[], st, rfl, rfl, h⟩
  | n + 1, v :: st, acc, k, h => by
    obtain ⟨as, st', h1, h2, h3⟩ := pm_pop_spec (n := n) (st := st) (acc := v :: acc) h
    refine ⟨as ++ [v], st', ?_, ?_, ?_⟩
    · rw [h1]
      simp
    · simp [h2]
    · rw [List.append_assoc]
      exact h3
  | n + 1, [], acc, k, h => h.elim
theorem pm_D_any {A : Nat → Prop} {ad : pm_R → Nat} {ta : Nat → ClassId} {h h' : pm_H} (hD : va_D A (pm_wd ad ta h)) : va_D A (pm_wd ad ta h') := by
  have key : ∀ (k : Nat) (q : Nat × va_E), (pm_wd ad ta h')[k]? = some q → ∃ e, (pm_wd ad ta h)[k]? = some (q.1, e) := by
    intro k q hq
    unfold pm_wd at hq ⊢
    rw [List.getElem?_map] at hq ⊢
    cases hc : pm_cells[k]? with
    | none => rw [hc] at hq; cases hq
    | some r =>
      rw [hc] at hq
      cases hq
      exact ⟨pm_ce ad ta h r, rfl⟩
  refine ⟨fun i j p q hp hq e => ?_, fun k q hq => ?_⟩
  · obtain ⟨e1, h1⟩ := key i p hp
    obtain ⟨e2, h2⟩ := key j q hq
    exact hD.1 i j _ _ h1 h2 e
  · obtain ⟨e1, h1⟩ := key k q hq
    exact hD.2 k (q.1, e1) h1
theorem pm_good : ∀ w ∈ pm_tbl, goodWord w = true := fun w h => (List.mem_filter.mp h).2
/-- what a method is held to: from arguments and a heap that meet 'pre', it comes back with an answer and a heap that meet 'post' -/
def pm_MT (y : MethodName) (b : ByteArray) (nL rt d : Nat) {Γ : Type} (pre : Γ → List pm_V → pm_H → Prop) (post : Γ → List pm_V → pm_H → Prop) : Prop := ∀ (l : Launch) (D : va_G) (ad : pm_R → Nat) (ta : Nat → ClassId) (g : Γ) (av : List pm_V) (h : pm_H), (∀ v ∈ av, pm_ok v) → pre g av h → Met l y (.code y b nL (pm_rt rt) :: pm_tbl) (pm_room d) (va_Pc (av.map (pm_rv ad)) (fun U => va_P D pm_cl (pm_wd ad ta h) U.heap ∧ va_K D pm_cl (pm_tys ta) U ∧ va_D (pm_A ad) (pm_wd ad ta h) ∧ pm_Z ad U)) (pm_Qc rt D ad ta (post g)) 0 0 (pm_A ad)
def pm_pi {Γ : Type} (q : Γ → Int32 → pm_H → Prop) : Γ → List pm_V → pm_H → Prop := fun g r h => match r with
  | [.inl v] => q g v h
  | _ => False
def pm_pl2 {Γ : Type} (q : Γ → Int64 → pm_H → Prop) : Γ → List pm_V → pm_H → Prop := fun g r h => match r with
  | [.inr (.inl v)] => q g v h
  | _ => False
def pm_pv {Γ : Type} (q : Γ → pm_H → Prop) : Γ → List pm_V → pm_H → Prop := fun g r h => match r with
  | [] => q g h
  | _ => False
theorem pm_blind {D : va_G} {ad : pm_R → Nat} {ta : Nat → ClassId} {av : List Value} {h : pm_H} : FrameBlind (va_Pc av (fun U => va_P D pm_cl (pm_wd ad ta h) U.heap ∧ va_K D pm_cl (pm_tys ta) U ∧ va_D (pm_A ad) (pm_wd ad ta h) ∧ pm_Z ad U)) := by
  intro a U g mk q
  obtain ⟨q0, qP, qK, qD, qZ⟩ := q
  refine ⟨q0, qP, va_K.moved (u := U) (U := U.calling g mk a) (Vm.Alike.refl U.vm) qK, qD, ?_⟩
  obtain ⟨h1, h2, h3, h4, h5, h6, h7⟩ := qZ
  have hv : U.vm.Alike (U.calling g mk a).vm := Vm.Alike.refl U.vm
  exact ⟨va_Z.moved (u := U) hv h1, va_T.moved (u := U) hv h2, va_Z.moved (u := U) hv h3, va_T.moved (u := U) hv h4, va_Z.moved (u := U) hv h5, fun i hi => vk_R.same (u := U) rfl (h6 i hi), vk_S.moved (u := U) hv h7⟩
theorem pm_goodV {own : String} {idx : Nat} {C : String} {y : MethodName} {w0 : Cond} (h0 : w0 ∈ pm_tbl) (h1 : Cond.methodLink own idx y ∈ pm_tbl) (h2 : Cond.instanceMethod y ∈ pm_tbl) (h3 : Cond.selects C y y ∈ pm_tbl) (h4 : Cond.initialized C ∈ pm_tbl) : GoodIn pm_tbl (wsV own idx C y (w0 :: pm_tbl)) := by
  intro w hw
  have hm : w ∈ pm_tbl := by
    unfold wsV at hw
    rcases List.mem_append.mp hw with h | h
    · simp only [List.mem_cons, List.not_mem_nil, or_false] at h
      rcases h with rfl | rfl | rfl | rfl
      · exact h1
      · exact h2
      · exact h3
      · exact h4
    · rcases List.mem_cons.mp h with rfl | h
      · exact h0
      · exact h
  exact ⟨hm, good_of_word (pm_good w hm)⟩
theorem pm_goodS {own : String} {idx : Nat} {y : MethodName} {w0 : Cond} (h0 : w0 ∈ pm_tbl) (h1 : Cond.methodLink own idx y ∈ pm_tbl) (h2 : Cond.static y ∈ pm_tbl) (h4 : Cond.initialized y.cls ∈ pm_tbl) : GoodIn pm_tbl (va_wsS own idx y (w0 :: pm_tbl)) := by
  intro w hw
  have hm : w ∈ pm_tbl := by
    unfold va_wsS at hw
    rcases List.mem_append.mp hw with h | h
    · simp only [List.mem_cons, List.not_mem_nil, or_false] at h
      rcases h with rfl | rfl | rfl
      · exact h1
      · exact h2
      · exact h4
    · rcases List.mem_cons.mp h with rfl | h
      · exact h0
      · exact h
  exact ⟨hm, good_of_word (pm_good w hm)⟩
theorem pm_map_rev (ad : pm_R → Nat) (as st : List pm_V) : (as.reverse ++ st).map (pm_rv ad) = (as.map (pm_rv ad)).reverse ++ st.map (pm_rv ad) := by
  rw [List.map_append, List.map_reverse]

def i_ci {Γ : Type} (n : Nat) (pre : Γ → List pm_V → pm_H → Prop) (q : Γ → Int32 → pm_H → Prop) (nx : Nat) : pm_T := fun K z => match z with
  | (lv, st, h) => pm_pop n st [] (fun as st' => bif Nat.ble (pm_cs st') 8 then ∃ g, pre g as h ∧ ∀ v h', q g v h' → K (some nx) (lv, .inl v :: st', h') else False)
theorem sd_civ {Γ : Type} {own : String} {cc : ByteArray} {nL d rt pc nx idx n d' nL' rt' c : Nat} {C : String} {T : u_T} {N : Nat} {y : MethodName} {b : ByteArray} {pre : Γ → List pm_V → pm_H → Prop} {q : Γ → Int32 → pm_H → Prop} (hM : pm_MT y b nL' rt' d' pre (pm_pi q)) (hrt : rt' = 1 ∨ rt' = 3 ∨ rt' = 4 ∨ rt' = 5) (h0 : Cond.code y b nL' (pm_rt rt') ∈ pm_tbl) (hr : ∀ g av h, pre g av h → ∃ i t, av = .inr (.inr (c, i, 0)) :: t) (hcl : pm_cl[c]? = some (C, T, N)) (h1 : Cond.methodLink own idx y ∈ pm_tbl) (h2 : Cond.instanceMethod y ∈ pm_tbl) (h3 : Cond.selects C y y ∈ pm_tbl) (h4 : Cond.initialized C ∈ pm_tbl) (hy : y.cls = C ∧ y.cls ≠ "java/lang/invoke/MethodHandle" ∧ y.cls ≠ "java/lang/invoke/VarHandle" ∧ (parseMethodDescriptor y.desc).map (fun d => d.parameters.length) = some n) (hd' : d' + 1 ≤ d) (hL' : nL' ≤ 45) (hd : decode cc pc = .ok (.invokevirtual idx, 3)) (hn : pc + 3 = nx) : pm_sd own cc nL d rt pc (i_ci (n + 1) pre q nx) := by
  intro post p l e s m args below meth c9 D ad ta X K hK x h
  obtain ⟨lv, st, hh⟩ := x
  subst hn
  obtain ⟨as, st', rfl, hlen, h⟩ := pm_pop_spec h
  rw [List.append_nil] at h
  obtain ⟨hb, g, hp, hk9⟩ := pm_bt (b := Nat.ble (pm_cs st') 8) h
  have hcs : pm_cs st' ≤ 8 := Nat.ble_eq.mp hb
  intro o1 o2 H locs ls hP hD hS hl
  have o3 : ∀ v ∈ st', pm_ok v := fun v hv => o2 v (List.mem_append_right _ hv)
  have o4 : ∀ v ∈ as, pm_ok v := fun v hv => o2 v (List.mem_append_left _ (List.mem_reverse.mpr hv))
  rcases hrt with rfl | rfl | rfl | rfl
  · obtain ⟨i, t, rfl⟩ := hr g as hh hp
    have hc6 := pm_cl_lt hcl
    have hri := pm_okin (o4 _ List.mem_cons_self) (by show c < 7; omega)
    obtain ⟨q0, hq0⟩ := pm_pl hri
    have hw0 := pm_wd_at (ad := ad) (ta := ta) (h := hh) hq0
    rw [pm_obj hc6] at hw0
    have hlen9 : t.length = n := by simpa using hlen
    refine va_calli (va_runV (C := C) (b := ad (c, i, 0)) (As := t.map (pm_rv ad)) (rest := st'.map (pm_rv ad)) (Ts := pm_tbl) ⟨X.1, X.2.1, X.2.2.1, X.2.2.2.1, X.2.2.2.2.1⟩ (hM l D ad ta g _ hh o4 hp) (cwV n X.2.2.2.2.1 (pm_goodV h0 h1 h2 h3 h4) rfl rfl rfl hy ⟨hd', by show 8 + (nL' + 11) + 64 * d' ≤ 64 * d; omega⟩) ⟨pm_blind, va_recv X.2.2.2.2.2.1 hP hcl hw0, fun U hU hW => ⟨rfl, by rw [hU]; exact hP, va_K.moved hW.alike X.2.2.2.2.2.1, hD, X.2.2.2.2.2.2.1.to hS hU hW⟩⟩ rfl (by rw [List.length_map]; exact hlen9) hl.1 (by show List.map (pm_rv ad) _ = _; rw [pm_map_rev]; simp [pm_rv]) (lv_room (by rw [pm_cs_rv]; exact hcs)) hd ⟨Nat.le_refl _, Nat.le_refl _⟩) hS (fun q _ h => h) (fun q h => h) (fun r u tq H1 locs1 ht hvm hw hB hz1 hk1 hS1 => ?_)
    have hB : va_P D pm_cl (pm_wd ad ta u) tq.heap := hB
    rw [ht] at hB
    exact pm_kks (hK _ _ (hk9 r u hw)) o1 (pm_ok1 trivial o3) H1 locs1 ls hB (pm_D_any hD) hS1 hl
  · obtain ⟨i, t, rfl⟩ := hr g as hh hp
    have hc6 := pm_cl_lt hcl
    have hri := pm_okin (o4 _ List.mem_cons_self) (by show c < 7; omega)
    obtain ⟨q0, hq0⟩ := pm_pl hri
    have hw0 := pm_wd_at (ad := ad) (ta := ta) (h := hh) hq0
    rw [pm_obj hc6] at hw0
    have hlen9 : t.length = n := by simpa using hlen
    refine va_calli (va_runV (C := C) (b := ad (c, i, 0)) (As := t.map (pm_rv ad)) (rest := st'.map (pm_rv ad)) (Ts := pm_tbl) ⟨X.1, X.2.1, X.2.2.1, X.2.2.2.1, X.2.2.2.2.1⟩ (hM l D ad ta g _ hh o4 hp) (cwV n X.2.2.2.2.1 (pm_goodV h0 h1 h2 h3 h4) rfl rfl rfl hy ⟨hd', by show 8 + (nL' + 11) + 64 * d' ≤ 64 * d; omega⟩) ⟨pm_blind, va_recv X.2.2.2.2.2.1 hP hcl hw0, fun U hU hW => ⟨rfl, by rw [hU]; exact hP, va_K.moved hW.alike X.2.2.2.2.2.1, hD, X.2.2.2.2.2.2.1.to hS hU hW⟩⟩ rfl (by rw [List.length_map]; exact hlen9) hl.1 (by show List.map (pm_rv ad) _ = _; rw [pm_map_rev]; simp [pm_rv]) (lv_room (by rw [pm_cs_rv]; exact hcs)) hd ⟨Nat.le_refl _, Nat.le_refl _⟩) hS (fun q _ h => h) (fun q h => h) (fun r u tq H1 locs1 ht hvm hw hB hz1 hk1 hS1 => ?_)
    have hB : va_P D pm_cl (pm_wd ad ta u) tq.heap := hB
    rw [ht] at hB
    exact pm_kks (hK _ _ (hk9 r u hw)) o1 (pm_ok1 trivial o3) H1 locs1 ls hB (pm_D_any hD) hS1 hl
  · obtain ⟨i, t, rfl⟩ := hr g as hh hp
    have hc6 := pm_cl_lt hcl
    have hri := pm_okin (o4 _ List.mem_cons_self) (by show c < 7; omega)
    obtain ⟨q0, hq0⟩ := pm_pl hri
    have hw0 := pm_wd_at (ad := ad) (ta := ta) (h := hh) hq0
    rw [pm_obj hc6] at hw0
    have hlen9 : t.length = n := by simpa using hlen
    refine va_calli (va_runV (C := C) (b := ad (c, i, 0)) (As := t.map (pm_rv ad)) (rest := st'.map (pm_rv ad)) (Ts := pm_tbl) ⟨X.1, X.2.1, X.2.2.1, X.2.2.2.1, X.2.2.2.2.1⟩ (hM l D ad ta g _ hh o4 hp) (cwV n X.2.2.2.2.1 (pm_goodV h0 h1 h2 h3 h4) rfl rfl rfl hy ⟨hd', by show 8 + (nL' + 11) + 64 * d' ≤ 64 * d; omega⟩) ⟨pm_blind, va_recv X.2.2.2.2.2.1 hP hcl hw0, fun U hU hW => ⟨rfl, by rw [hU]; exact hP, va_K.moved hW.alike X.2.2.2.2.2.1, hD, X.2.2.2.2.2.2.1.to hS hU hW⟩⟩ rfl (by rw [List.length_map]; exact hlen9) hl.1 (by show List.map (pm_rv ad) _ = _; rw [pm_map_rev]; simp [pm_rv]) (lv_room (by rw [pm_cs_rv]; exact hcs)) hd ⟨Nat.le_refl _, Nat.le_refl _⟩) hS (fun q _ h => h) (fun q h => h) (fun r u tq H1 locs1 ht hvm hw hB hz1 hk1 hS1 => ?_)
    have hB : va_P D pm_cl (pm_wd ad ta u) tq.heap := hB
    rw [ht] at hB
    exact pm_kks (hK _ _ (hk9 r u hw)) o1 (pm_ok1 trivial o3) H1 locs1 ls hB (pm_D_any hD) hS1 hl
  · obtain ⟨i, t, rfl⟩ := hr g as hh hp
    have hc6 := pm_cl_lt hcl
    have hri := pm_okin (o4 _ List.mem_cons_self) (by show c < 7; omega)
    obtain ⟨q0, hq0⟩ := pm_pl hri
    have hw0 := pm_wd_at (ad := ad) (ta := ta) (h := hh) hq0
    rw [pm_obj hc6] at hw0
    have hlen9 : t.length = n := by simpa using hlen
    refine va_calli (va_runV (C := C) (b := ad (c, i, 0)) (As := t.map (pm_rv ad)) (rest := st'.map (pm_rv ad)) (Ts := pm_tbl) ⟨X.1, X.2.1, X.2.2.1, X.2.2.2.1, X.2.2.2.2.1⟩ (hM l D ad ta g _ hh o4 hp) (cwV n X.2.2.2.2.1 (pm_goodV h0 h1 h2 h3 h4) rfl rfl rfl hy ⟨hd', by show 8 + (nL' + 11) + 64 * d' ≤ 64 * d; omega⟩) ⟨pm_blind, va_recv X.2.2.2.2.2.1 hP hcl hw0, fun U hU hW => ⟨rfl, by rw [hU]; exact hP, va_K.moved hW.alike X.2.2.2.2.2.1, hD, X.2.2.2.2.2.2.1.to hS hU hW⟩⟩ rfl (by rw [List.length_map]; exact hlen9) hl.1 (by show List.map (pm_rv ad) _ = _; rw [pm_map_rev]; simp [pm_rv]) (lv_room (by rw [pm_cs_rv]; exact hcs)) hd ⟨Nat.le_refl _, Nat.le_refl _⟩) hS (fun q _ h => h) (fun q h => h) (fun r u tq H1 locs1 ht hvm hw hB hz1 hk1 hS1 => ?_)
    have hB : va_P D pm_cl (pm_wd ad ta u) tq.heap := hB
    rw [ht] at hB
    exact pm_kks (hK _ _ (hk9 r u hw)) o1 (pm_ok1 trivial o3) H1 locs1 ls hB (pm_D_any hD) hS1 hl
theorem sd_cis {Γ : Type} {own : String} {cc : ByteArray} {nL d rt pc nx idx n d' nL' rt' : Nat} {y : MethodName} {b : ByteArray} {pre : Γ → List pm_V → pm_H → Prop} {q : Γ → Int32 → pm_H → Prop} (hM : pm_MT y b nL' rt' d' pre (pm_pi q)) (hrt : rt' = 1 ∨ rt' = 3 ∨ rt' = 4 ∨ rt' = 5) (h0 : Cond.code y b nL' (pm_rt rt') ∈ pm_tbl) (h1 : Cond.methodLink own idx y ∈ pm_tbl) (h2 : Cond.static y ∈ pm_tbl) (h4 : Cond.initialized y.cls ∈ pm_tbl) (hy : y.cls ≠ "java/lang/invoke/MethodHandle" ∧ y.cls ≠ "java/lang/invoke/VarHandle" ∧ (parseMethodDescriptor y.desc).map (fun d => d.parameters.length) = some n) (hd' : d' + 1 ≤ d) (hL' : nL' ≤ 45) (hd : decode cc pc = .ok (.invokestatic idx, 3)) (hn : pc + 3 = nx) : pm_sd own cc nL d rt pc (i_ci n pre q nx) := by
  intro post p l e s m args below meth c9 D ad ta X K hK x h
  obtain ⟨lv, st, hh⟩ := x
  subst hn
  obtain ⟨as, st', rfl, hlen, h⟩ := pm_pop_spec h
  rw [List.append_nil] at h
  obtain ⟨hb, g, hp, hk9⟩ := pm_bt (b := Nat.ble (pm_cs st') 8) h
  have hcs : pm_cs st' ≤ 8 := Nat.ble_eq.mp hb
  intro o1 o2 H locs ls hP hD hS hl
  have o3 : ∀ v ∈ st', pm_ok v := fun v hv => o2 v (List.mem_append_right _ hv)
  have o4 : ∀ v ∈ as, pm_ok v := fun v hv => o2 v (List.mem_append_left _ (List.mem_reverse.mpr hv))
  rcases hrt with rfl | rfl | rfl | rfl
  · refine va_calli (va_runS (As := as.map (pm_rv ad)) (rest := st'.map (pm_rv ad)) (Ts := pm_tbl) ⟨X.1, X.2.1, X.2.2.1, X.2.2.2.1, X.2.2.2.2.1⟩ (hM l D ad ta g _ hh o4 hp) (va_cwS n X.2.2.2.2.1 (pm_goodS h0 h1 h2 h4) rfl rfl rfl hy ⟨hd', by show 8 + (nL' + 11) + 64 * d' ≤ 64 * d; omega⟩) ⟨pm_blind, fun U hU hW => ⟨rfl, by rw [hU]; exact hP, va_K.moved hW.alike X.2.2.2.2.2.1, hD, X.2.2.2.2.2.2.1.to hS hU hW⟩⟩ rfl (by rw [List.length_map]; exact hlen) hl.1 (by show List.map (pm_rv ad) _ = _; rw [pm_map_rev]) (lv_room (by rw [pm_cs_rv]; exact hcs)) hd ⟨Nat.le_refl _, Nat.le_refl _⟩) hS (fun q _ h => h) (fun q h => h) (fun r u tq H1 locs1 ht hvm hw hB hz1 hk1 hS1 => ?_)
    have hB : va_P D pm_cl (pm_wd ad ta u) tq.heap := hB
    rw [ht] at hB
    exact pm_kks (hK _ _ (hk9 r u hw)) o1 (pm_ok1 trivial o3) H1 locs1 ls hB (pm_D_any hD) hS1 hl
  · refine va_calli (va_runS (As := as.map (pm_rv ad)) (rest := st'.map (pm_rv ad)) (Ts := pm_tbl) ⟨X.1, X.2.1, X.2.2.1, X.2.2.2.1, X.2.2.2.2.1⟩ (hM l D ad ta g _ hh o4 hp) (va_cwS n X.2.2.2.2.1 (pm_goodS h0 h1 h2 h4) rfl rfl rfl hy ⟨hd', by show 8 + (nL' + 11) + 64 * d' ≤ 64 * d; omega⟩) ⟨pm_blind, fun U hU hW => ⟨rfl, by rw [hU]; exact hP, va_K.moved hW.alike X.2.2.2.2.2.1, hD, X.2.2.2.2.2.2.1.to hS hU hW⟩⟩ rfl (by rw [List.length_map]; exact hlen) hl.1 (by show List.map (pm_rv ad) _ = _; rw [pm_map_rev]) (lv_room (by rw [pm_cs_rv]; exact hcs)) hd ⟨Nat.le_refl _, Nat.le_refl _⟩) hS (fun q _ h => h) (fun q h => h) (fun r u tq H1 locs1 ht hvm hw hB hz1 hk1 hS1 => ?_)
    have hB : va_P D pm_cl (pm_wd ad ta u) tq.heap := hB
    rw [ht] at hB
    exact pm_kks (hK _ _ (hk9 r u hw)) o1 (pm_ok1 trivial o3) H1 locs1 ls hB (pm_D_any hD) hS1 hl
  · refine va_calli (va_runS (As := as.map (pm_rv ad)) (rest := st'.map (pm_rv ad)) (Ts := pm_tbl) ⟨X.1, X.2.1, X.2.2.1, X.2.2.2.1, X.2.2.2.2.1⟩ (hM l D ad ta g _ hh o4 hp) (va_cwS n X.2.2.2.2.1 (pm_goodS h0 h1 h2 h4) rfl rfl rfl hy ⟨hd', by show 8 + (nL' + 11) + 64 * d' ≤ 64 * d; omega⟩) ⟨pm_blind, fun U hU hW => ⟨rfl, by rw [hU]; exact hP, va_K.moved hW.alike X.2.2.2.2.2.1, hD, X.2.2.2.2.2.2.1.to hS hU hW⟩⟩ rfl (by rw [List.length_map]; exact hlen) hl.1 (by show List.map (pm_rv ad) _ = _; rw [pm_map_rev]) (lv_room (by rw [pm_cs_rv]; exact hcs)) hd ⟨Nat.le_refl _, Nat.le_refl _⟩) hS (fun q _ h => h) (fun q h => h) (fun r u tq H1 locs1 ht hvm hw hB hz1 hk1 hS1 => ?_)
    have hB : va_P D pm_cl (pm_wd ad ta u) tq.heap := hB
    rw [ht] at hB
    exact pm_kks (hK _ _ (hk9 r u hw)) o1 (pm_ok1 trivial o3) H1 locs1 ls hB (pm_D_any hD) hS1 hl
  · refine va_calli (va_runS (As := as.map (pm_rv ad)) (rest := st'.map (pm_rv ad)) (Ts := pm_tbl) ⟨X.1, X.2.1, X.2.2.1, X.2.2.2.1, X.2.2.2.2.1⟩ (hM l D ad ta g _ hh o4 hp) (va_cwS n X.2.2.2.2.1 (pm_goodS h0 h1 h2 h4) rfl rfl rfl hy ⟨hd', by show 8 + (nL' + 11) + 64 * d' ≤ 64 * d; omega⟩) ⟨pm_blind, fun U hU hW => ⟨rfl, by rw [hU]; exact hP, va_K.moved hW.alike X.2.2.2.2.2.1, hD, X.2.2.2.2.2.2.1.to hS hU hW⟩⟩ rfl (by rw [List.length_map]; exact hlen) hl.1 (by show List.map (pm_rv ad) _ = _; rw [pm_map_rev]) (lv_room (by rw [pm_cs_rv]; exact hcs)) hd ⟨Nat.le_refl _, Nat.le_refl _⟩) hS (fun q _ h => h) (fun q h => h) (fun r u tq H1 locs1 ht hvm hw hB hz1 hk1 hS1 => ?_)
    have hB : va_P D pm_cl (pm_wd ad ta u) tq.heap := hB
    rw [ht] at hB
    exact pm_kks (hK _ _ (hk9 r u hw)) o1 (pm_ok1 trivial o3) H1 locs1 ls hB (pm_D_any hD) hS1 hl
def i_cL {Γ : Type} (n : Nat) (pre : Γ → List pm_V → pm_H → Prop) (q : Γ → Int64 → pm_H → Prop) (nx : Nat) : pm_T := fun K z => match z with
  | (lv, st, h) => pm_pop n st [] (fun as st' => bif Nat.ble (pm_cs st') 8 then ∃ g, pre g as h ∧ ∀ v h', q g v h' → K (some nx) (lv, .inr (.inl v) :: st', h') else False)
theorem sd_cLv {Γ : Type} {own : String} {cc : ByteArray} {nL d rt pc nx idx n d' nL' c : Nat} {C : String} {T : u_T} {N : Nat} {y : MethodName} {b : ByteArray} {pre : Γ → List pm_V → pm_H → Prop} {q : Γ → Int64 → pm_H → Prop} (hM : pm_MT y b nL' 2 d' pre (pm_pl2 q)) (h0 : Cond.code y b nL' (pm_rt 2) ∈ pm_tbl) (hr : ∀ g av h, pre g av h → ∃ i t, av = .inr (.inr (c, i, 0)) :: t) (hcl : pm_cl[c]? = some (C, T, N)) (h1 : Cond.methodLink own idx y ∈ pm_tbl) (h2 : Cond.instanceMethod y ∈ pm_tbl) (h3 : Cond.selects C y y ∈ pm_tbl) (h4 : Cond.initialized C ∈ pm_tbl) (hy : y.cls = C ∧ y.cls ≠ "java/lang/invoke/MethodHandle" ∧ y.cls ≠ "java/lang/invoke/VarHandle" ∧ (parseMethodDescriptor y.desc).map (fun d => d.parameters.length) = some n) (hd' : d' + 1 ≤ d) (hL' : nL' ≤ 45) (hd : decode cc pc = .ok (.invokevirtual idx, 3)) (hn : pc + 3 = nx) : pm_sd own cc nL d rt pc (i_cL (n + 1) pre q nx) := by
  intro post p l e s m args below meth c9 D ad ta X K hK x h
  obtain ⟨lv, st, hh⟩ := x
  subst hn
  obtain ⟨as, st', rfl, hlen, h⟩ := pm_pop_spec h
  rw [List.append_nil] at h
  obtain ⟨hb, g, hp, hk9⟩ := pm_bt (b := Nat.ble (pm_cs st') 8) h
  have hcs : pm_cs st' ≤ 8 := Nat.ble_eq.mp hb
  intro o1 o2 H locs ls hP hD hS hl
  have o3 : ∀ v ∈ st', pm_ok v := fun v hv => o2 v (List.mem_append_right _ hv)
  have o4 : ∀ v ∈ as, pm_ok v := fun v hv => o2 v (List.mem_append_left _ (List.mem_reverse.mpr hv))
  obtain ⟨i, t, rfl⟩ := hr g as hh hp
  have hc6 := pm_cl_lt hcl
  have hri := pm_okin (o4 _ List.mem_cons_self) (by show c < 7; omega)
  obtain ⟨q0, hq0⟩ := pm_pl hri
  have hw0 := pm_wd_at (ad := ad) (ta := ta) (h := hh) hq0
  rw [pm_obj hc6] at hw0
  have hlen9 : t.length = n := by simpa using hlen
  refine va_calll (va_runV (C := C) (b := ad (c, i, 0)) (As := t.map (pm_rv ad)) (rest := st'.map (pm_rv ad)) (Ts := pm_tbl) ⟨X.1, X.2.1, X.2.2.1, X.2.2.2.1, X.2.2.2.2.1⟩ (hM l D ad ta g _ hh o4 hp) (cwV n X.2.2.2.2.1 (pm_goodV h0 h1 h2 h3 h4) rfl rfl rfl hy ⟨hd', by show 8 + (nL' + 11) + 64 * d' ≤ 64 * d; omega⟩) ⟨pm_blind, va_recv X.2.2.2.2.2.1 hP hcl hw0, fun U hU hW => ⟨rfl, by rw [hU]; exact hP, va_K.moved hW.alike X.2.2.2.2.2.1, hD, X.2.2.2.2.2.2.1.to hS hU hW⟩⟩ rfl (by rw [List.length_map]; exact hlen9) hl.1 (by show List.map (pm_rv ad) _ = _; rw [pm_map_rev]; simp [pm_rv]) (lv_room (by rw [pm_cs_rv]; exact hcs)) hd ⟨Nat.le_refl _, Nat.le_refl _⟩) hS (fun q _ h => h) (fun q h => h) (fun r u tq H1 locs1 ht hvm hw hB hz1 hk1 hS1 => ?_)
  have hB : va_P D pm_cl (pm_wd ad ta u) tq.heap := hB
  rw [ht] at hB
  exact pm_kks (hK _ _ (hk9 r u hw)) o1 (pm_ok1 trivial o3) H1 locs1 ls hB (pm_D_any hD) hS1 hl
theorem sd_cLs {Γ : Type} {own : String} {cc : ByteArray} {nL d rt pc nx idx n d' nL' : Nat} {y : MethodName} {b : ByteArray} {pre : Γ → List pm_V → pm_H → Prop} {q : Γ → Int64 → pm_H → Prop} (hM : pm_MT y b nL' 2 d' pre (pm_pl2 q)) (h0 : Cond.code y b nL' (pm_rt 2) ∈ pm_tbl) (h1 : Cond.methodLink own idx y ∈ pm_tbl) (h2 : Cond.static y ∈ pm_tbl) (h4 : Cond.initialized y.cls ∈ pm_tbl) (hy : y.cls ≠ "java/lang/invoke/MethodHandle" ∧ y.cls ≠ "java/lang/invoke/VarHandle" ∧ (parseMethodDescriptor y.desc).map (fun d => d.parameters.length) = some n) (hd' : d' + 1 ≤ d) (hL' : nL' ≤ 45) (hd : decode cc pc = .ok (.invokestatic idx, 3)) (hn : pc + 3 = nx) : pm_sd own cc nL d rt pc (i_cL n pre q nx) := by
  intro post p l e s m args below meth c9 D ad ta X K hK x h
  obtain ⟨lv, st, hh⟩ := x
  subst hn
  obtain ⟨as, st', rfl, hlen, h⟩ := pm_pop_spec h
  rw [List.append_nil] at h
  obtain ⟨hb, g, hp, hk9⟩ := pm_bt (b := Nat.ble (pm_cs st') 8) h
  have hcs : pm_cs st' ≤ 8 := Nat.ble_eq.mp hb
  intro o1 o2 H locs ls hP hD hS hl
  have o3 : ∀ v ∈ st', pm_ok v := fun v hv => o2 v (List.mem_append_right _ hv)
  have o4 : ∀ v ∈ as, pm_ok v := fun v hv => o2 v (List.mem_append_left _ (List.mem_reverse.mpr hv))
  refine va_calll (va_runS (As := as.map (pm_rv ad)) (rest := st'.map (pm_rv ad)) (Ts := pm_tbl) ⟨X.1, X.2.1, X.2.2.1, X.2.2.2.1, X.2.2.2.2.1⟩ (hM l D ad ta g _ hh o4 hp) (va_cwS n X.2.2.2.2.1 (pm_goodS h0 h1 h2 h4) rfl rfl rfl hy ⟨hd', by show 8 + (nL' + 11) + 64 * d' ≤ 64 * d; omega⟩) ⟨pm_blind, fun U hU hW => ⟨rfl, by rw [hU]; exact hP, va_K.moved hW.alike X.2.2.2.2.2.1, hD, X.2.2.2.2.2.2.1.to hS hU hW⟩⟩ rfl (by rw [List.length_map]; exact hlen) hl.1 (by show List.map (pm_rv ad) _ = _; rw [pm_map_rev]) (lv_room (by rw [pm_cs_rv]; exact hcs)) hd ⟨Nat.le_refl _, Nat.le_refl _⟩) hS (fun q _ h => h) (fun q h => h) (fun r u tq H1 locs1 ht hvm hw hB hz1 hk1 hS1 => ?_)
  have hB : va_P D pm_cl (pm_wd ad ta u) tq.heap := hB
  rw [ht] at hB
  exact pm_kks (hK _ _ (hk9 r u hw)) o1 (pm_ok1 trivial o3) H1 locs1 ls hB (pm_D_any hD) hS1 hl
def i_cv {Γ : Type} (n : Nat) (pre : Γ → List pm_V → pm_H → Prop) (q : Γ → pm_H → Prop) (nx : Nat) : pm_T := fun K z => match z with
  | (lv, st, h) => pm_pop n st [] (fun as st' => bif Nat.ble (pm_cs st') 8 then ∃ g, pre g as h ∧ ∀ h', q g h' → K (some nx) (lv, st', h') else False)
theorem sd_cvv {Γ : Type} {own : String} {cc : ByteArray} {nL d rt pc nx idx n d' nL' c : Nat} {C : String} {T : u_T} {N : Nat} {y : MethodName} {b : ByteArray} {pre : Γ → List pm_V → pm_H → Prop} {q : Γ → pm_H → Prop} (hM : pm_MT y b nL' 0 d' pre (pm_pv q)) (h0 : Cond.code y b nL' (pm_rt 0) ∈ pm_tbl) (hr : ∀ g av h, pre g av h → ∃ i t, av = .inr (.inr (c, i, 0)) :: t) (hcl : pm_cl[c]? = some (C, T, N)) (h1 : Cond.methodLink own idx y ∈ pm_tbl) (h2 : Cond.instanceMethod y ∈ pm_tbl) (h3 : Cond.selects C y y ∈ pm_tbl) (h4 : Cond.initialized C ∈ pm_tbl) (hy : y.cls = C ∧ y.cls ≠ "java/lang/invoke/MethodHandle" ∧ y.cls ≠ "java/lang/invoke/VarHandle" ∧ (parseMethodDescriptor y.desc).map (fun d => d.parameters.length) = some n) (hd' : d' + 1 ≤ d) (hL' : nL' ≤ 45) (hd : decode cc pc = .ok (.invokevirtual idx, 3)) (hn : pc + 3 = nx) : pm_sd own cc nL d rt pc (i_cv (n + 1) pre q nx) := by
  intro post p l e s m args below meth c9 D ad ta X K hK x h
  obtain ⟨lv, st, hh⟩ := x
  subst hn
  obtain ⟨as, st', rfl, hlen, h⟩ := pm_pop_spec h
  rw [List.append_nil] at h
  obtain ⟨hb, g, hp, hk9⟩ := pm_bt (b := Nat.ble (pm_cs st') 8) h
  have hcs : pm_cs st' ≤ 8 := Nat.ble_eq.mp hb
  intro o1 o2 H locs ls hP hD hS hl
  have o3 : ∀ v ∈ st', pm_ok v := fun v hv => o2 v (List.mem_append_right _ hv)
  have o4 : ∀ v ∈ as, pm_ok v := fun v hv => o2 v (List.mem_append_left _ (List.mem_reverse.mpr hv))
  obtain ⟨i, t, rfl⟩ := hr g as hh hp
  have hc6 := pm_cl_lt hcl
  have hri := pm_okin (o4 _ List.mem_cons_self) (by show c < 7; omega)
  obtain ⟨q0, hq0⟩ := pm_pl hri
  have hw0 := pm_wd_at (ad := ad) (ta := ta) (h := hh) hq0
  rw [pm_obj hc6] at hw0
  have hlen9 : t.length = n := by simpa using hlen
  refine va_callv (va_runV (C := C) (b := ad (c, i, 0)) (As := t.map (pm_rv ad)) (rest := st'.map (pm_rv ad)) (Ts := pm_tbl) ⟨X.1, X.2.1, X.2.2.1, X.2.2.2.1, X.2.2.2.2.1⟩ (hM l D ad ta g _ hh o4 hp) (cwV n X.2.2.2.2.1 (pm_goodV h0 h1 h2 h3 h4) rfl rfl rfl hy ⟨hd', by show 8 + (nL' + 11) + 64 * d' ≤ 64 * d; omega⟩) ⟨pm_blind, va_recv X.2.2.2.2.2.1 hP hcl hw0, fun U hU hW => ⟨rfl, by rw [hU]; exact hP, va_K.moved hW.alike X.2.2.2.2.2.1, hD, X.2.2.2.2.2.2.1.to hS hU hW⟩⟩ rfl (by rw [List.length_map]; exact hlen9) hl.1 (by show List.map (pm_rv ad) _ = _; rw [pm_map_rev]; simp [pm_rv]) (lv_room (by rw [pm_cs_rv]; exact hcs)) hd ⟨Nat.le_refl _, Nat.le_refl _⟩) hS (fun q _ h => h) (fun q h => h) (fun u tq H1 locs1 ht hvm hw hB hz1 hk1 hS1 => ?_)
  have hB : va_P D pm_cl (pm_wd ad ta u) tq.heap := hB
  rw [ht] at hB
  exact pm_kks (hK _ _ (hk9 u hw)) o1 o3 H1 locs1 ls hB (pm_D_any hD) hS1 hl
theorem sd_cvs {Γ : Type} {own : String} {cc : ByteArray} {nL d rt pc nx idx n d' nL' : Nat} {y : MethodName} {b : ByteArray} {pre : Γ → List pm_V → pm_H → Prop} {q : Γ → pm_H → Prop} (hM : pm_MT y b nL' 0 d' pre (pm_pv q)) (h0 : Cond.code y b nL' (pm_rt 0) ∈ pm_tbl) (h1 : Cond.methodLink own idx y ∈ pm_tbl) (h2 : Cond.static y ∈ pm_tbl) (h4 : Cond.initialized y.cls ∈ pm_tbl) (hy : y.cls ≠ "java/lang/invoke/MethodHandle" ∧ y.cls ≠ "java/lang/invoke/VarHandle" ∧ (parseMethodDescriptor y.desc).map (fun d => d.parameters.length) = some n) (hd' : d' + 1 ≤ d) (hL' : nL' ≤ 45) (hd : decode cc pc = .ok (.invokestatic idx, 3)) (hn : pc + 3 = nx) : pm_sd own cc nL d rt pc (i_cv n pre q nx) := by
  intro post p l e s m args below meth c9 D ad ta X K hK x h
  obtain ⟨lv, st, hh⟩ := x
  subst hn
  obtain ⟨as, st', rfl, hlen, h⟩ := pm_pop_spec h
  rw [List.append_nil] at h
  obtain ⟨hb, g, hp, hk9⟩ := pm_bt (b := Nat.ble (pm_cs st') 8) h
  have hcs : pm_cs st' ≤ 8 := Nat.ble_eq.mp hb
  intro o1 o2 H locs ls hP hD hS hl
  have o3 : ∀ v ∈ st', pm_ok v := fun v hv => o2 v (List.mem_append_right _ hv)
  have o4 : ∀ v ∈ as, pm_ok v := fun v hv => o2 v (List.mem_append_left _ (List.mem_reverse.mpr hv))
  refine va_callv (va_runS (As := as.map (pm_rv ad)) (rest := st'.map (pm_rv ad)) (Ts := pm_tbl) ⟨X.1, X.2.1, X.2.2.1, X.2.2.2.1, X.2.2.2.2.1⟩ (hM l D ad ta g _ hh o4 hp) (va_cwS n X.2.2.2.2.1 (pm_goodS h0 h1 h2 h4) rfl rfl rfl hy ⟨hd', by show 8 + (nL' + 11) + 64 * d' ≤ 64 * d; omega⟩) ⟨pm_blind, fun U hU hW => ⟨rfl, by rw [hU]; exact hP, va_K.moved hW.alike X.2.2.2.2.2.1, hD, X.2.2.2.2.2.2.1.to hS hU hW⟩⟩ rfl (by rw [List.length_map]; exact hlen) hl.1 (by show List.map (pm_rv ad) _ = _; rw [pm_map_rev]) (lv_room (by rw [pm_cs_rv]; exact hcs)) hd ⟨Nat.le_refl _, Nat.le_refl _⟩) hS (fun q _ h => h) (fun q h => h) (fun u tq H1 locs1 ht hvm hw hB hz1 hk1 hS1 => ?_)
  have hB : va_P D pm_cl (pm_wd ad ta u) tq.heap := hB
  rw [ht] at hB
  exact pm_kks (hK _ _ (hk9 u hw)) o1 o3 H1 locs1 ls hB (pm_D_any hD) hS1 hl
/-! runs -/
def pm_fd : List (Nat × pm_T) → Nat → (pm_T → Prop) → Prop
  | [], _, _ => False
  | (j, t) :: r, i, k => bif Nat.beq j i then k t else pm_fd r i k
theorem pm_fd_spec : ∀ {T : List (Nat × pm_T)} {i : Nat} {k : pm_T → Prop}, pm_fd T i k → ∃ t, (i, t) ∈ T ∧ k t
  | (j, t) :: r, i, k, h => by
    unfold pm_fd at h
    cases hb : Nat.beq j i with
    | true =>
      rw [hb] at h
      have e : j = i := Nat.eq_of_beq_eq_true hb
      subst e
      exact ⟨t, List.mem_cons_self, h⟩
    | false =>
      rw [hb] at h
      obtain ⟨u, h1, h2⟩ := pm_fd_spec (T := r) h
      exact ⟨u, List.mem_cons_of_mem _ h1, h2⟩
def pm_pj : List Nat → pm_L → (pm_L → Prop) → Prop
  | [], _, k => k []
  | i :: is, lv, k => pm_get lv i (fun v => pm_pj is lv (fun t => k ((i, v) :: t)))
theorem pm_pj_spec : ∀ {is : List Nat} {lv : pm_L} {k : pm_L → Prop}, pm_pj is lv k → ∃ lv', (∀ q ∈ lv', q ∈ lv) ∧ k lv'
  | [], lv, k, h => ⟨[], fun _ h => absurd h List.not_mem_nil, h⟩
  | i :: is, lv, k, h => by
    obtain ⟨v, h1, h2⟩ := pm_get_spec h
    obtain ⟨lv', h3, h4⟩ := pm_pj_spec (is := is) h2
    exact ⟨(i, v) :: lv', List.forall_mem_cons.mpr ⟨h1, h3⟩, h4⟩
/-- where a run stops: at the heads of loops, with the locals that live there -/
def pm_sp : List (Nat × List Nat) → Nat → (List Nat → Prop) → Prop → Prop
  | [], _, _, d => d
  | (j, t) :: r, i, k, d => bif Nat.beq j i then k t else pm_sp r i k d
theorem pm_sp_spec : ∀ {S : List (Nat × List Nat)} {i : Nat} {k : List Nat → Prop} {d : Prop}, pm_sp S i k d → (∃ is, k is) ∨ d
  | [], i, k, d, h => Or.inr h
  | (j, t) :: r, i, k, d, h => by
    unfold pm_sp at h
    cases hb : Nat.beq j i with
    | true => rw [hb] at h; exact Or.inl ⟨t, h⟩
    | false => rw [hb] at h; exact pm_sp_spec (S := r) h
def pm_wp (T : List (Nat × pm_T)) (S : List (Nat × List Nat)) : Nat → pm_K → Nat → pm_S → Prop
  | 0, K, pc, x => K (some pc) x
  | n + 1, K, pc, x => pm_fd T pc (fun t => t (fun o y => match o with
    | none => K none y
    | some pc' => pm_sp S pc' (fun is => match y with
      | (lv, st, h) => pm_pj is lv (fun lv' => K (some pc') (lv', st, h))) (pm_wp T S n K pc' y)) x)
theorem pm_W_weak {nL d rt : Nat} {post : List pm_V → pm_H → Prop} {p : Program} {l : Launch} {e : Env} {s : State} {m : MethodId} {args : Array Value} {below : List Frame} {meth : Method} {c : Code} {D : va_G} {ad : pm_R → Nat} {ta : Nat → ClassId} {pc : Nat} {lv lv' : pm_L} {st : List pm_V} {h : pm_H} (hs : ∀ q ∈ lv', q ∈ lv) (hw : pm_W nL d rt post p l e s m args below meth c D ad ta pc (lv', st, h)) : pm_W nL d rt post p l e s m args below meth c D ad ta pc (lv, st, h) := by
  intro o1 o2 H locs ls hP hD hS hl
  refine hw (fun q hq => o1 q (hs q hq)) o2 H locs ls hP hD hS ⟨hl.1, hl.2.1, fun q hq => ?_⟩
  obtain ⟨q', hq', rfl⟩ := List.mem_map.mp hq
  exact hl.2.2 _ (List.mem_map.mpr ⟨q', hs q' hq', rfl⟩)
theorem pm_wp_sound {own : String} {cc : ByteArray} {nL d rt : Nat} {T : List (Nat × pm_T)} (hT : ∀ q ∈ T, pm_sd own cc nL d rt q.1 q.2) {post : List pm_V → pm_H → Prop} {p : Program} {l : Launch} {e : Env} {s : State} {m : MethodId} {args : Array Value} {below : List Frame} {meth : Method} {c : Code} {D : va_G} {ad : pm_R → Nat} {ta : Nat → ClassId} (X : pm_X own cc nL rt p s m args meth c D ad ta) (S : List (Nat × List Nat)) : ∀ (n pc : Nat) (x : pm_S), pm_wp T S n (pm_KK nL d rt post p l e s m args below meth c D ad ta) pc x → pm_W nL d rt post p l e s m args below meth c D ad ta pc x
  | 0, pc, x, h => h
  | n + 1, pc, x, h => by
    obtain ⟨t, ht, h1⟩ := pm_fd_spec h
    refine hT _ ht post p l e s m args below meth c D ad ta X _ (fun o y hy => ?_) x h1
    cases o with
    | none => exact hy
    | some pc' =>
      obtain ⟨lv, st, hh⟩ := y
      rcases pm_sp_spec hy with ⟨is, h2⟩ | h2
      · obtain ⟨lv', h3, h4⟩ := pm_pj_spec h2
        exact pm_W_weak h3 h4
      · exact pm_wp_sound hT X S n pc' _ h2
def pm_ar : Nat → List pm_V → pm_L
  | _, [] => []
  | i, v :: vs => (i, v) :: pm_ar (bif pm_lg v then i + 2 else i + 1) vs
theorem pm_ar_rv (ad : pm_R → Nat) : ∀ (vs : List pm_V) (i : Nat), (pm_ar i vs).map (fun q => (q.1, pm_rv ad q.2)) = lv_args i (vs.map (pm_rv ad))
  | [], i => rfl
  | v :: vs, i => by
    simp only [pm_ar, List.map_cons, lv_args]
    rw [pm_ar_rv ad vs, pm_cat_rv]
    cases hg : pm_lg v with
    | true => simp [pm_cat, hg]
    | false => simp [pm_cat, hg]
theorem pm_ar_mem : ∀ {vs : List pm_V} {i : Nat} {q : Nat × pm_V}, q ∈ pm_ar i vs → q.2 ∈ vs
  | v :: vs, i, q, h => by
    rcases List.mem_cons.mp h with rfl | h
    · exact List.mem_cons_self
    · exact List.mem_cons_of_mem _ (pm_ar_mem h)
theorem pm_sl_cs (ad : pm_R → Nat) : ∀ vs : List pm_V, (lg_sl (vs.map (pm_rv ad))).length = pm_cs vs
  | [] => rfl
  | v :: vs => by
    have ih := pm_sl_cs ad vs
    unfold lg_sl at ih ⊢
    rw [List.map_cons, List.flatMap_cons, List.length_append, ih, pm_cs, pm_cat_rv]
    cases hg : pm_lg v with
    | true => simp [pm_cat, hg]
    | false => simp [pm_cat, hg]
/-- what a proof of a method shows: from its entry a run over its table ends, with 'post'; K is any predicate that runs keep -/
def pm_pf (T : List (Nat × pm_T)) {Γ : Type} (pre : Γ → List pm_V → pm_H → Prop) (post : Γ → List pm_V → pm_H → Prop) : Prop := ∀ (g : Γ) (av : List pm_V) (h : pm_H) (K : pm_K), (∀ (S : List (Nat × List Nat)) (n pc : Nat) (x : pm_S), pm_wp T S n K pc x → K (some pc) x) → pre g av h → (∀ (r : List pm_V) (h' : pm_H), post g r h' → K none ([], r, h')) → K (some 0) (pm_ar 0 av, [], h)
theorem pm_met {own : String} {cc : ByteArray} {nL d rt : Nat} {T : List (Nat × pm_T)} (hT : ∀ q ∈ T, pm_sd own cc nL d rt q.1 q.2) {y : MethodName} (hy : plainName y.cls = true) (hyo : y.cls = own) {Γ : Type} {pre : Γ → List pm_V → pm_H → Prop} {post : Γ → List pm_V → pm_H → Prop} (hc : ∀ g av h, pre g av h → pm_cs av ≤ nL) (hp : pm_pf T pre post) : pm_MT y cc nL rt d pre post := by
  intro l D ad ta g av h hok hpre
  refine Met.ofW (cc := cc) (maxL := nL) (ret := pm_rt rt) hy rfl ?_
  intro p e s m args below meth c s₁ B hml hv
  obtain ⟨rfl, hP, hK, hD, hZ⟩ := hv
  have hts := atoms_spec (ws := .code y cc nL (pm_rt rt) :: pm_tbl) B.pre
  have hown : s.vm.findClass own = some m.cls := by rw [← hyo]; exact findClass_of_methodNamed B.named
  have X : pm_X own cc nL rt p s m (List.map (pm_rv ad) av).toArray meth c D ad ta := ⟨B.exec, B.bytes, hml, hown, fun w hw => hts w (List.mem_cons_of_mem _ hw), hK, hZ, B.returns, B.notSynchronized⟩
  have h1 := hp g av h (pm_KK nL d rt (post g) p l e s m (List.map (pm_rv ad) av).toArray below meth c D ad ta) (fun S n pc x hx => pm_wp_sound hT X S n pc x hx) hpre (fun r h' hr => hr)
  have hl := lv_entry (av.map (pm_rv ad)) (n := nL) (by rw [pm_sl_cs]; exact hc g av h hpre)
  rw [lg_entry_eq]
  exact pm_kks h1 (fun q hq => hok _ (pm_ar_mem hq)) (fun _ h => absurd h List.not_mem_nil) s.heap [] _ hP hD va_S.rf (by rw [pm_ar_rv]; exact hl)
end
section
theorem cl0_ : pm_cl[0]? = some (RX0, TX0, 14) := rfl
theorem in0_ : ∀ w ∈ u_ws RX0 TX0 14, w ∈ pm_tbl := by
  have h : ∀ w ∈ u_ws RX0 TX0 14, w ∈ lw_tbl ∧ goodWord w = true := by decide +kernel
  exact fun w hw => pm_tin (h w hw).1 (h w hw).2
theorem cl1_ : pm_cl[1]? = some (RX1, TX1, 4) := rfl
theorem in1_ : ∀ w ∈ u_ws RX1 TX1 4, w ∈ pm_tbl := by
  have h : ∀ w ∈ u_ws RX1 TX1 4, w ∈ lw_tbl ∧ goodWord w = true := by decide +kernel
  exact fun w hw => pm_tin (h w hw).1 (h w hw).2
theorem cl2_ : pm_cl[2]? = some (RX2, TX2, 5) := rfl
theorem in2_ : ∀ w ∈ u_ws RX2 TX2 5, w ∈ pm_tbl := by
  have h : ∀ w ∈ u_ws RX2 TX2 5, w ∈ lw_tbl ∧ goodWord w = true := by decide +kernel
  exact fun w hw => pm_tin (h w hw).1 (h w hw).2
theorem cl3_ : pm_cl[3]? = some (RX3, TX3, 12) := rfl
theorem in3_ : ∀ w ∈ u_ws RX3 TX3 12, w ∈ pm_tbl := by
  have h : ∀ w ∈ u_ws RX3 TX3 12, w ∈ lw_tbl ∧ goodWord w = true := by decide +kernel
  exact fun w hw => pm_tin (h w hw).1 (h w hw).2
theorem cl4_ : pm_cl[4]? = some (RX4, TX4, 10) := rfl
theorem in4_ : ∀ w ∈ u_ws RX4 TX4 10, w ∈ pm_tbl := by
  have h : ∀ w ∈ u_ws RX4 TX4 10, w ∈ lw_tbl ∧ goodWord w = true := by decide +kernel
  exact fun w hw => pm_tin (h w hw).1 (h w hw).2
theorem cl5_ : pm_cl[5]? = some (RX5, TX5, 26) := rfl
theorem in5_ : ∀ w ∈ u_ws RX5 TX5 26, w ∈ pm_tbl := by
  have h : ∀ w ∈ u_ws RX5 TX5 26, w ∈ lw_tbl ∧ goodWord w = true := by decide +kernel
  exact fun w hw => pm_tin (h w hw).1 (h w hw).2
theorem fl_X4_10 : Cond.fieldLink RX4 10 (TX4 0).1 (TX4 0).2.1 (TX4 0).2.2.1 ∈ pm_tbl := pm_tin (by decide +kernel) rfl
theorem fl_X4_19 : Cond.fieldLink RX4 19 (TX4 1).1 (TX4 1).2.1 (TX4 1).2.2.1 ∈ pm_tbl := pm_tin (by decide +kernel) rfl
theorem fl_X4_23 : Cond.fieldLink RX4 23 (TX4 2).1 (TX4 2).2.1 (TX4 2).2.2.1 ∈ pm_tbl := pm_tin (by decide +kernel) rfl
theorem fl_X4_26 : Cond.fieldLink RX4 26 (TX4 3).1 (TX4 3).2.1 (TX4 3).2.2.1 ∈ pm_tbl := pm_tin (by decide +kernel) rfl
theorem fl_X4_30 : Cond.fieldLink RX4 30 (TX4 4).1 (TX4 4).2.1 (TX4 4).2.2.1 ∈ pm_tbl := pm_tin (by decide +kernel) rfl
theorem fl_X4_37 : Cond.fieldLink RX4 37 (TX4 5).1 (TX4 5).2.1 (TX4 5).2.2.1 ∈ pm_tbl := pm_tin (by decide +kernel) rfl
theorem fl_X4_43 : Cond.fieldLink RX4 43 (TX4 6).1 (TX4 6).2.1 (TX4 6).2.2.1 ∈ pm_tbl := pm_tin (by decide +kernel) rfl
theorem fl_X4_49 : Cond.fieldLink RX4 49 (TX4 7).1 (TX4 7).2.1 (TX4 7).2.2.1 ∈ pm_tbl := pm_tin (by decide +kernel) rfl
theorem fl_X4_52 : Cond.fieldLink RX4 52 (TX4 8).1 (TX4 8).2.1 (TX4 8).2.2.1 ∈ pm_tbl := pm_tin (by decide +kernel) rfl
theorem fl_X4_61 : Cond.fieldLink RX4 61 (TX3 1).1 (TX3 1).2.1 (TX3 1).2.2.1 ∈ pm_tbl := pm_tin (by decide +kernel) rfl
theorem fl_X4_65 : Cond.fieldLink RX4 65 (TX3 0).1 (TX3 0).2.1 (TX3 0).2.2.1 ∈ pm_tbl := pm_tin (by decide +kernel) rfl
theorem fl_X4_73 : Cond.fieldLink RX4 73 (TX3 3).1 (TX3 3).2.1 (TX3 3).2.2.1 ∈ pm_tbl := pm_tin (by decide +kernel) rfl
theorem fl_X4_80 : Cond.fieldLink RX4 80 (TX2 0).1 (TX2 0).2.1 (TX2 0).2.2.1 ∈ pm_tbl := pm_tin (by decide +kernel) rfl
theorem fl_X4_83 : Cond.fieldLink RX4 83 (TX3 4).1 (TX3 4).2.1 (TX3 4).2.2.1 ∈ pm_tbl := pm_tin (by decide +kernel) rfl
theorem fl_X4_86 : Cond.fieldLink RX4 86 (TX3 2).1 (TX3 2).2.1 (TX3 2).2.2.1 ∈ pm_tbl := pm_tin (by decide +kernel) rfl
theorem fl_X4_89 : Cond.fieldLink RX4 89 (TX0 0).1 (TX0 0).2.1 (TX0 0).2.2.1 ∈ pm_tbl := pm_tin (by decide +kernel) rfl
theorem fl_X4_92 : Cond.fieldLink RX4 92 (TX0 3).1 (TX0 3).2.1 (TX0 3).2.2.1 ∈ pm_tbl := pm_tin (by decide +kernel) rfl
theorem fl_X4_95 : Cond.fieldLink RX4 95 (TX0 8).1 (TX0 8).2.1 (TX0 8).2.2.1 ∈ pm_tbl := pm_tin (by decide +kernel) rfl
theorem fl_X4_98 : Cond.fieldLink RX4 98 (TX0 9).1 (TX0 9).2.1 (TX0 9).2.2.1 ∈ pm_tbl := pm_tin (by decide +kernel) rfl
theorem fl_X4_101 : Cond.fieldLink RX4 101 (TX0 10).1 (TX0 10).2.1 (TX0 10).2.2.1 ∈ pm_tbl := pm_tin (by decide +kernel) rfl
theorem fl_X4_115 : Cond.fieldLink RX4 115 (TX0 1).1 (TX0 1).2.1 (TX0 1).2.2.1 ∈ pm_tbl := pm_tin (by decide +kernel) rfl
theorem fl_X4_125 : Cond.fieldLink RX4 125 (TX0 2).1 (TX0 2).2.1 (TX0 2).2.2.1 ∈ pm_tbl := pm_tin (by decide +kernel) rfl
theorem fl_X4_134 : Cond.fieldLink RX4 134 (TX0 4).1 (TX0 4).2.1 (TX0 4).2.2.1 ∈ pm_tbl := pm_tin (by decide +kernel) rfl
theorem fl_X4_137 : Cond.fieldLink RX4 137 (TX0 5).1 (TX0 5).2.1 (TX0 5).2.2.1 ∈ pm_tbl := pm_tin (by decide +kernel) rfl
theorem fl_X4_140 : Cond.fieldLink RX4 140 (TX0 6).1 (TX0 6).2.1 (TX0 6).2.2.1 ∈ pm_tbl := pm_tin (by decide +kernel) rfl
theorem fl_X4_143 : Cond.fieldLink RX4 143 (TX0 7).1 (TX0 7).2.1 (TX0 7).2.2.1 ∈ pm_tbl := pm_tin (by decide +kernel) rfl
theorem fl_X4_149 : Cond.fieldLink RX4 149 (TX0 11).1 (TX0 11).2.1 (TX0 11).2.2.1 ∈ pm_tbl := pm_tin (by decide +kernel) rfl
theorem fl_X4_155 : Cond.fieldLink RX4 155 (TX0 12).1 (TX0 12).2.1 (TX0 12).2.2.1 ∈ pm_tbl := pm_tin (by decide +kernel) rfl
theorem fl_X4_158 : Cond.fieldLink RX4 158 (TX0 13).1 (TX0 13).2.1 (TX0 13).2.2.1 ∈ pm_tbl := pm_tin (by decide +kernel) rfl
theorem fl_X4_240 : Cond.fieldLink RX4 240 (TX1 1).1 (TX1 1).2.1 (TX1 1).2.2.1 ∈ pm_tbl := pm_tin (by decide +kernel) rfl
theorem fl_X4_247 : Cond.fieldLink RX4 247 (TX1 3).1 (TX1 3).2.1 (TX1 3).2.2.1 ∈ pm_tbl := pm_tin (by decide +kernel) rfl
theorem fl_X4_257 : Cond.fieldLink RX4 257 (TX4 9).1 (TX4 9).2.1 (TX4 9).2.2.1 ∈ pm_tbl := pm_tin (by decide +kernel) rfl
theorem fl_X4_260 : Cond.fieldLink RX4 260 (TX1 0).1 (TX1 0).2.1 (TX1 0).2.2.1 ∈ pm_tbl := pm_tin (by decide +kernel) rfl
theorem fl_X4_264 : Cond.fieldLink RX4 264 (TX1 2).1 (TX1 2).2.1 (TX1 2).2.2.1 ∈ pm_tbl := pm_tin (by decide +kernel) rfl
theorem fl_X0_9 : Cond.fieldLink RX0 9 (TX0 1).1 (TX0 1).2.1 (TX0 1).2.2.1 ∈ pm_tbl := pm_tin (by decide +kernel) rfl
theorem fl_X0_15 : Cond.fieldLink RX0 15 (TX0 2).1 (TX0 2).2.1 (TX0 2).2.2.1 ∈ pm_tbl := pm_tin (by decide +kernel) rfl
theorem fl_X0_18 : Cond.fieldLink RX0 18 (TX0 4).1 (TX0 4).2.1 (TX0 4).2.2.1 ∈ pm_tbl := pm_tin (by decide +kernel) rfl
theorem fl_X0_21 : Cond.fieldLink RX0 21 (TX0 5).1 (TX0 5).2.1 (TX0 5).2.2.1 ∈ pm_tbl := pm_tin (by decide +kernel) rfl
theorem fl_X0_24 : Cond.fieldLink RX0 24 (TX0 6).1 (TX0 6).2.1 (TX0 6).2.2.1 ∈ pm_tbl := pm_tin (by decide +kernel) rfl
theorem fl_X0_27 : Cond.fieldLink RX0 27 (TX0 7).1 (TX0 7).2.1 (TX0 7).2.2.1 ∈ pm_tbl := pm_tin (by decide +kernel) rfl
theorem fl_X0_30 : Cond.fieldLink RX0 30 (TX0 8).1 (TX0 8).2.1 (TX0 8).2.2.1 ∈ pm_tbl := pm_tin (by decide +kernel) rfl
theorem fl_X0_34 : Cond.fieldLink RX0 34 (TX0 9).1 (TX0 9).2.1 (TX0 9).2.2.1 ∈ pm_tbl := pm_tin (by decide +kernel) rfl
theorem fl_X0_37 : Cond.fieldLink RX0 37 (TX0 12).1 (TX0 12).2.1 (TX0 12).2.2.1 ∈ pm_tbl := pm_tin (by decide +kernel) rfl
theorem fl_X0_40 : Cond.fieldLink RX0 40 (TX0 13).1 (TX0 13).2.1 (TX0 13).2.2.1 ∈ pm_tbl := pm_tin (by decide +kernel) rfl
theorem fl_X0_43 : Cond.fieldLink RX0 43 (TX0 0).1 (TX0 0).2.1 (TX0 0).2.2.1 ∈ pm_tbl := pm_tin (by decide +kernel) rfl
theorem fl_X0_46 : Cond.fieldLink RX0 46 (TX0 3).1 (TX0 3).2.1 (TX0 3).2.2.1 ∈ pm_tbl := pm_tin (by decide +kernel) rfl
theorem fl_X0_49 : Cond.fieldLink RX0 49 (TX0 11).1 (TX0 11).2.1 (TX0 11).2.2.1 ∈ pm_tbl := pm_tin (by decide +kernel) rfl
theorem fl_X0_52 : Cond.fieldLink RX0 52 (TX0 10).1 (TX0 10).2.1 (TX0 10).2.2.1 ∈ pm_tbl := pm_tin (by decide +kernel) rfl
theorem fl_X1_9 : Cond.fieldLink RX1 9 (TX1 3).1 (TX1 3).2.1 (TX1 3).2.2.1 ∈ pm_tbl := pm_tin (by decide +kernel) rfl
theorem fl_X1_15 : Cond.fieldLink RX1 15 (TX1 0).1 (TX1 0).2.1 (TX1 0).2.2.1 ∈ pm_tbl := pm_tin (by decide +kernel) rfl
theorem fl_X1_19 : Cond.fieldLink RX1 19 (TX1 1).1 (TX1 1).2.1 (TX1 1).2.2.1 ∈ pm_tbl := pm_tin (by decide +kernel) rfl
theorem fl_X1_23 : Cond.fieldLink RX1 23 (TX1 2).1 (TX1 2).2.1 (TX1 2).2.2.1 ∈ pm_tbl := pm_tin (by decide +kernel) rfl
theorem fl_X2_9 : Cond.fieldLink RX2 9 (TX2 1).1 (TX2 1).2.1 (TX2 1).2.2.1 ∈ pm_tbl := pm_tin (by decide +kernel) rfl
theorem fl_X2_15 : Cond.fieldLink RX2 15 (TX2 2).1 (TX2 2).2.1 (TX2 2).2.2.1 ∈ pm_tbl := pm_tin (by decide +kernel) rfl
theorem fl_X2_18 : Cond.fieldLink RX2 18 (TX2 3).1 (TX2 3).2.1 (TX2 3).2.2.1 ∈ pm_tbl := pm_tin (by decide +kernel) rfl
theorem fl_X2_21 : Cond.fieldLink RX2 21 (TX2 4).1 (TX2 4).2.1 (TX2 4).2.2.1 ∈ pm_tbl := pm_tin (by decide +kernel) rfl
theorem fl_X2_25 : Cond.fieldLink RX2 25 (TX2 0).1 (TX2 0).2.1 (TX2 0).2.2.1 ∈ pm_tbl := pm_tin (by decide +kernel) rfl
theorem fl_X3_9 : Cond.fieldLink RX3 9 (TX3 0).1 (TX3 0).2.1 (TX3 0).2.2.1 ∈ pm_tbl := pm_tin (by decide +kernel) rfl
theorem fl_X3_15 : Cond.fieldLink RX3 15 (TX3 11).1 (TX3 11).2.1 (TX3 11).2.2.1 ∈ pm_tbl := pm_tin (by decide +kernel) rfl
theorem fl_X3_24 : Cond.fieldLink RX3 24 (TX3 5).1 (TX3 5).2.1 (TX3 5).2.2.1 ∈ pm_tbl := pm_tin (by decide +kernel) rfl
theorem fl_X3_28 : Cond.fieldLink RX3 28 (TX3 2).1 (TX3 2).2.1 (TX3 2).2.2.1 ∈ pm_tbl := pm_tin (by decide +kernel) rfl
theorem fl_X3_31 : Cond.fieldLink RX3 31 (TX3 3).1 (TX3 3).2.1 (TX3 3).2.2.1 ∈ pm_tbl := pm_tin (by decide +kernel) rfl
theorem fl_X3_34 : Cond.fieldLink RX3 34 (TX3 4).1 (TX3 4).2.1 (TX3 4).2.2.1 ∈ pm_tbl := pm_tin (by decide +kernel) rfl
theorem fl_X3_37 : Cond.fieldLink RX3 37 (TX3 9).1 (TX3 9).2.1 (TX3 9).2.2.1 ∈ pm_tbl := pm_tin (by decide +kernel) rfl
theorem fl_X3_41 : Cond.fieldLink RX3 41 (TX3 10).1 (TX3 10).2.1 (TX3 10).2.2.1 ∈ pm_tbl := pm_tin (by decide +kernel) rfl
theorem fl_X3_47 : Cond.fieldLink RX3 47 (TX3 7).1 (TX3 7).2.1 (TX3 7).2.2.1 ∈ pm_tbl := pm_tin (by decide +kernel) rfl
theorem fl_X3_61 : Cond.fieldLink RX3 61 (TX3 6).1 (TX3 6).2.1 (TX3 6).2.2.1 ∈ pm_tbl := pm_tin (by decide +kernel) rfl
theorem fl_X3_87 : Cond.fieldLink RX3 87 RX3 "NUMBERS" "[I" ∈ pm_tbl := pm_tin (by decide +kernel) rfl
theorem fl_X3_90 : Cond.fieldLink RX3 90 (TX3 8).1 (TX3 8).2.1 (TX3 8).2.2.1 ∈ pm_tbl := pm_tin (by decide +kernel) rfl
theorem fl_X3_93 : Cond.fieldLink RX3 93 RX3 "BOUNDS" "[I" ∈ pm_tbl := pm_tin (by decide +kernel) rfl
theorem fl_X3_96 : Cond.fieldLink RX3 96 (TX0 3).1 (TX0 3).2.1 (TX0 3).2.2.1 ∈ pm_tbl := pm_tin (by decide +kernel) rfl
theorem fl_X3_99 : Cond.fieldLink RX3 99 (TX0 0).1 (TX0 0).2.1 (TX0 0).2.2.1 ∈ pm_tbl := pm_tin (by decide +kernel) rfl
theorem fl_X3_102 : Cond.fieldLink RX3 102 (TX0 11).1 (TX0 11).2.1 (TX0 11).2.2.1 ∈ pm_tbl := pm_tin (by decide +kernel) rfl
theorem fl_X3_108 : Cond.fieldLink RX3 108 (TX0 8).1 (TX0 8).2.1 (TX0 8).2.2.1 ∈ pm_tbl := pm_tin (by decide +kernel) rfl
theorem fl_X3_111 : Cond.fieldLink RX3 111 (TX0 9).1 (TX0 9).2.1 (TX0 9).2.2.1 ∈ pm_tbl := pm_tin (by decide +kernel) rfl
theorem fl_X3_122 : Cond.fieldLink RX3 122 (TX0 7).1 (TX0 7).2.1 (TX0 7).2.2.1 ∈ pm_tbl := pm_tin (by decide +kernel) rfl
theorem fl_X3_128 : Cond.fieldLink RX3 128 (TX3 1).1 (TX3 1).2.1 (TX3 1).2.2.1 ∈ pm_tbl := pm_tin (by decide +kernel) rfl
theorem fl_X5_7 : Cond.fieldLink RX5 7 (TX5 0).1 (TX5 0).2.1 (TX5 0).2.2.1 ∈ pm_tbl := pm_tin (by decide +kernel) rfl
theorem fl_X5_13 : Cond.fieldLink RX5 13 (TX5 2).1 (TX5 2).2.1 (TX5 2).2.2.1 ∈ pm_tbl := pm_tin (by decide +kernel) rfl
theorem fl_X5_16 : Cond.fieldLink RX5 16 (TX5 6).1 (TX5 6).2.1 (TX5 6).2.2.1 ∈ pm_tbl := pm_tin (by decide +kernel) rfl
theorem fl_X5_19 : Cond.fieldLink RX5 19 (TX5 15).1 (TX5 15).2.1 (TX5 15).2.2.1 ∈ pm_tbl := pm_tin (by decide +kernel) rfl
theorem fl_X5_22 : Cond.fieldLink RX5 22 (TX5 16).1 (TX5 16).2.1 (TX5 16).2.2.1 ∈ pm_tbl := pm_tin (by decide +kernel) rfl
theorem fl_X5_25 : Cond.fieldLink RX5 25 (TX5 18).1 (TX5 18).2.1 (TX5 18).2.2.1 ∈ pm_tbl := pm_tin (by decide +kernel) rfl
theorem fl_X5_28 : Cond.fieldLink RX5 28 (TX5 20).1 (TX5 20).2.1 (TX5 20).2.2.1 ∈ pm_tbl := pm_tin (by decide +kernel) rfl
theorem fl_X5_31 : Cond.fieldLink RX5 31 (TX5 21).1 (TX5 21).2.1 (TX5 21).2.2.1 ∈ pm_tbl := pm_tin (by decide +kernel) rfl
theorem fl_X5_35 : Cond.fieldLink RX5 35 (TX5 22).1 (TX5 22).2.1 (TX5 22).2.2.1 ∈ pm_tbl := pm_tin (by decide +kernel) rfl
theorem fl_X5_38 : Cond.fieldLink RX5 38 (TX5 23).1 (TX5 23).2.1 (TX5 23).2.2.1 ∈ pm_tbl := pm_tin (by decide +kernel) rfl
theorem fl_X5_41 : Cond.fieldLink RX5 41 (TX5 24).1 (TX5 24).2.1 (TX5 24).2.2.1 ∈ pm_tbl := pm_tin (by decide +kernel) rfl
theorem fl_X5_50 : Cond.fieldLink RX5 50 (TX5 7).1 (TX5 7).2.1 (TX5 7).2.2.1 ∈ pm_tbl := pm_tin (by decide +kernel) rfl
theorem fl_X5_54 : Cond.fieldLink RX5 54 (TX5 9).1 (TX5 9).2.1 (TX5 9).2.2.1 ∈ pm_tbl := pm_tin (by decide +kernel) rfl
theorem fl_X5_57 : Cond.fieldLink RX5 57 (TX5 12).1 (TX5 12).2.1 (TX5 12).2.2.1 ∈ pm_tbl := pm_tin (by decide +kernel) rfl
theorem fl_X5_60 : Cond.fieldLink RX5 60 (TX5 10).1 (TX5 10).2.1 (TX5 10).2.2.1 ∈ pm_tbl := pm_tin (by decide +kernel) rfl
theorem fl_X5_63 : Cond.fieldLink RX5 63 (TX5 13).1 (TX5 13).2.1 (TX5 13).2.2.1 ∈ pm_tbl := pm_tin (by decide +kernel) rfl
theorem fl_X5_66 : Cond.fieldLink RX5 66 (TX5 11).1 (TX5 11).2.1 (TX5 11).2.2.1 ∈ pm_tbl := pm_tin (by decide +kernel) rfl
theorem fl_X5_73 : Cond.fieldLink RX5 73 (TX5 14).1 (TX5 14).2.1 (TX5 14).2.2.1 ∈ pm_tbl := pm_tin (by decide +kernel) rfl
theorem fl_X5_95 : Cond.fieldLink RX5 95 (TX5 5).1 (TX5 5).2.1 (TX5 5).2.2.1 ∈ pm_tbl := pm_tin (by decide +kernel) rfl
theorem fl_X5_101 : Cond.fieldLink RX5 101 (TX5 3).1 (TX5 3).2.1 (TX5 3).2.2.1 ∈ pm_tbl := pm_tin (by decide +kernel) rfl
theorem fl_X5_114 : Cond.fieldLink RX5 114 (TX5 4).1 (TX5 4).2.1 (TX5 4).2.2.1 ∈ pm_tbl := pm_tin (by decide +kernel) rfl
theorem fl_X5_123 : Cond.fieldLink RX5 123 (TX5 8).1 (TX5 8).2.1 (TX5 8).2.2.1 ∈ pm_tbl := pm_tin (by decide +kernel) rfl
theorem fl_X5_126 : Cond.fieldLink RX5 126 (TX5 1).1 (TX5 1).2.1 (TX5 1).2.2.1 ∈ pm_tbl := pm_tin (by decide +kernel) rfl
theorem fl_X5_129 : Cond.fieldLink RX5 129 (TX5 19).1 (TX5 19).2.1 (TX5 19).2.2.1 ∈ pm_tbl := pm_tin (by decide +kernel) rfl
theorem fl_X5_137 : Cond.fieldLink RX5 137 (TX5 17).1 (TX5 17).2.1 (TX5 17).2.2.1 ∈ pm_tbl := pm_tin (by decide +kernel) rfl
theorem fl_X5_231 : Cond.fieldLink RX5 231 (TX5 25).1 (TX5 25).2.1 (TX5 25).2.2.1 ∈ pm_tbl := pm_tin (by decide +kernel) rfl
theorem ml_X4_57 : Cond.methodLink RX4 57 yX4_within ∈ pm_tbl := pm_tin (by decide +kernel) rfl
theorem cd_X4_within : Cond.code yX4_within cX4_within 3 (pm_rt 3) ∈ pm_tbl := pm_tin (by decide +kernel) rfl
theorem st_X4_within : Cond.static yX4_within ∈ pm_tbl := pm_tin (by decide +kernel) rfl
theorem ml_X4_69 : Cond.methodLink RX4 69 yX3_tell ∈ pm_tbl := pm_tin (by decide +kernel) rfl
theorem cd_X3_tell : Cond.code yX3_tell cX3_tell 2 (pm_rt 3) ∈ pm_tbl := pm_tin (by decide +kernel) rfl
theorem im_X3_tell : Cond.instanceMethod yX3_tell ∈ pm_tbl := pm_tin (by decide +kernel) rfl
theorem se_X3_tell : Cond.selects RX3 yX3_tell yX3_tell ∈ pm_tbl := pm_tin (by decide +kernel) rfl
theorem ml_X4_76 : Cond.methodLink RX4 76 yX0_take ∈ pm_tbl := pm_tin (by decide +kernel) rfl
theorem cd_X0_take : Cond.code yX0_take cX0_take 2 (pm_rt 0) ∈ pm_tbl := pm_tin (by decide +kernel) rfl
theorem im_X0_take : Cond.instanceMethod yX0_take ∈ pm_tbl := pm_tin (by decide +kernel) rfl
theorem se_X0_take : Cond.selects RX0 yX0_take yX0_take ∈ pm_tbl := pm_tin (by decide +kernel) rfl
theorem ml_X4_104 : Cond.methodLink RX4 104 yX0_allCrumbs ∈ pm_tbl := pm_tin (by decide +kernel) rfl
theorem cd_X0_allCrumbs : Cond.code yX0_allCrumbs cX0_allCrumbs 1 (pm_rt 1) ∈ pm_tbl := pm_tin (by decide +kernel) rfl
theorem im_X0_allCrumbs : Cond.instanceMethod yX0_allCrumbs ∈ pm_tbl := pm_tin (by decide +kernel) rfl
theorem se_X0_allCrumbs : Cond.selects RX0 yX0_allCrumbs yX0_allCrumbs ∈ pm_tbl := pm_tin (by decide +kernel) rfl
theorem ml_X4_108 : Cond.methodLink RX4 108 yX0_allLore ∈ pm_tbl := pm_tin (by decide +kernel) rfl
theorem cd_X0_allLore : Cond.code yX0_allLore cX0_allLore 3 (pm_rt 1) ∈ pm_tbl := pm_tin (by decide +kernel) rfl
theorem im_X0_allLore : Cond.instanceMethod yX0_allLore ∈ pm_tbl := pm_tin (by decide +kernel) rfl
theorem se_X0_allLore : Cond.selects RX0 yX0_allLore yX0_allLore ∈ pm_tbl := pm_tin (by decide +kernel) rfl
theorem ml_X4_111 : Cond.methodLink RX4 111 yX0_hasFellow ∈ pm_tbl := pm_tin (by decide +kernel) rfl
theorem cd_X0_hasFellow : Cond.code yX0_hasFellow cX0_hasFellow 2 (pm_rt 3) ∈ pm_tbl := pm_tin (by decide +kernel) rfl
theorem im_X0_hasFellow : Cond.instanceMethod yX0_hasFellow ∈ pm_tbl := pm_tin (by decide +kernel) rfl
theorem se_X0_hasFellow : Cond.selects RX0 yX0_hasFellow yX0_hasFellow ∈ pm_tbl := pm_tin (by decide +kernel) rfl
theorem ml_X4_118 : Cond.methodLink RX4 118 yX0_loreOf ∈ pm_tbl := pm_tin (by decide +kernel) rfl
theorem cd_X0_loreOf : Cond.code yX0_loreOf cX0_loreOf 4 (pm_rt 1) ∈ pm_tbl := pm_tin (by decide +kernel) rfl
theorem im_X0_loreOf : Cond.instanceMethod yX0_loreOf ∈ pm_tbl := pm_tin (by decide +kernel) rfl
theorem se_X0_loreOf : Cond.selects RX0 yX0_loreOf yX0_loreOf ∈ pm_tbl := pm_tin (by decide +kernel) rfl
theorem ml_X4_122 : Cond.methodLink RX4 122 yX0_crumbsOf ∈ pm_tbl := pm_tin (by decide +kernel) rfl
theorem cd_X0_crumbsOf : Cond.code yX0_crumbsOf cX0_crumbsOf 4 (pm_rt 1) ∈ pm_tbl := pm_tin (by decide +kernel) rfl
theorem im_X0_crumbsOf : Cond.instanceMethod yX0_crumbsOf ∈ pm_tbl := pm_tin (by decide +kernel) rfl
theorem se_X0_crumbsOf : Cond.selects RX0 yX0_crumbsOf yX0_crumbsOf ∈ pm_tbl := pm_tin (by decide +kernel) rfl
theorem ml_X4_128 : Cond.methodLink RX4 128 yX0_ownedBy ∈ pm_tbl := pm_tin (by decide +kernel) rfl
theorem cd_X0_ownedBy : Cond.code yX0_ownedBy cX0_ownedBy 4 (pm_rt 1) ∈ pm_tbl := pm_tin (by decide +kernel) rfl
theorem im_X0_ownedBy : Cond.instanceMethod yX0_ownedBy ∈ pm_tbl := pm_tin (by decide +kernel) rfl
theorem se_X0_ownedBy : Cond.selects RX0 yX0_ownedBy yX0_ownedBy ∈ pm_tbl := pm_tin (by decide +kernel) rfl
theorem ml_X4_131 : Cond.methodLink RX4 131 yX0_hasBiscuit ∈ pm_tbl := pm_tin (by decide +kernel) rfl
theorem cd_X0_hasBiscuit : Cond.code yX0_hasBiscuit cX0_hasBiscuit 2 (pm_rt 3) ∈ pm_tbl := pm_tin (by decide +kernel) rfl
theorem im_X0_hasBiscuit : Cond.instanceMethod yX0_hasBiscuit ∈ pm_tbl := pm_tin (by decide +kernel) rfl
theorem se_X0_hasBiscuit : Cond.selects RX0 yX0_hasBiscuit yX0_hasBiscuit ∈ pm_tbl := pm_tin (by decide +kernel) rfl
theorem ml_X4_146 : Cond.methodLink RX4 146 yX0_spoilOf ∈ pm_tbl := pm_tin (by decide +kernel) rfl
theorem cd_X0_spoilOf : Cond.code yX0_spoilOf cX0_spoilOf 4 (pm_rt 1) ∈ pm_tbl := pm_tin (by decide +kernel) rfl
theorem im_X0_spoilOf : Cond.instanceMethod yX0_spoilOf ∈ pm_tbl := pm_tin (by decide +kernel) rfl
theorem se_X0_spoilOf : Cond.selects RX0 yX0_spoilOf yX0_spoilOf ∈ pm_tbl := pm_tin (by decide +kernel) rfl
theorem ml_X4_152 : Cond.methodLink RX4 152 yX4_isHalf ∈ pm_tbl := pm_tin (by decide +kernel) rfl
theorem cd_X4_isHalf : Cond.code yX4_isHalf cX4_isHalf 1 (pm_rt 3) ∈ pm_tbl := pm_tin (by decide +kernel) rfl
theorem st_X4_isHalf : Cond.static yX4_isHalf ∈ pm_tbl := pm_tin (by decide +kernel) rfl
theorem ml_X4_161 : Cond.methodLink RX4 161 yX0_knowersOf ∈ pm_tbl := pm_tin (by decide +kernel) rfl
theorem cd_X0_knowersOf : Cond.code yX0_knowersOf cX0_knowersOf 4 (pm_rt 1) ∈ pm_tbl := pm_tin (by decide +kernel) rfl
theorem im_X0_knowersOf : Cond.instanceMethod yX0_knowersOf ∈ pm_tbl := pm_tin (by decide +kernel) rfl
theorem se_X0_knowersOf : Cond.selects RX0 yX0_knowersOf yX0_knowersOf ∈ pm_tbl := pm_tin (by decide +kernel) rfl
theorem ml_X4_164 : Cond.methodLink RX4 164 yX4_put ∈ pm_tbl := pm_tin (by decide +kernel) rfl
theorem cd_X4_put : Cond.code yX4_put cX4_put 5 (pm_rt 1) ∈ pm_tbl := pm_tin (by decide +kernel) rfl
theorem st_X4_put : Cond.static yX4_put ∈ pm_tbl := pm_tin (by decide +kernel) rfl
theorem ml_X4_168 : Cond.methodLink RX4 168 yX0_addQuestion ∈ pm_tbl := pm_tin (by decide +kernel) rfl
theorem cd_X0_addQuestion : Cond.code yX0_addQuestion cX0_addQuestion 3 (pm_rt 3) ∈ pm_tbl := pm_tin (by decide +kernel) rfl
theorem im_X0_addQuestion : Cond.instanceMethod yX0_addQuestion ∈ pm_tbl := pm_tin (by decide +kernel) rfl
theorem se_X0_addQuestion : Cond.selects RX0 yX0_addQuestion yX0_addQuestion ∈ pm_tbl := pm_tin (by decide +kernel) rfl
theorem ml_X4_172 : Cond.methodLink RX4 172 yX0_addBiscuit ∈ pm_tbl := pm_tin (by decide +kernel) rfl
theorem cd_X0_addBiscuit : Cond.code yX0_addBiscuit cX0_addBiscuit 5 (pm_rt 3) ∈ pm_tbl := pm_tin (by decide +kernel) rfl
theorem im_X0_addBiscuit : Cond.instanceMethod yX0_addBiscuit ∈ pm_tbl := pm_tin (by decide +kernel) rfl
theorem se_X0_addBiscuit : Cond.selects RX0 yX0_addBiscuit yX0_addBiscuit ∈ pm_tbl := pm_tin (by decide +kernel) rfl
theorem ml_X4_176 : Cond.methodLink RX4 176 yX0_live ∈ pm_tbl := pm_tin (by decide +kernel) rfl
theorem cd_X0_live : Cond.code yX0_live cX0_live 3 (pm_rt 1) ∈ pm_tbl := pm_tin (by decide +kernel) rfl
theorem im_X0_live : Cond.instanceMethod yX0_live ∈ pm_tbl := pm_tin (by decide +kernel) rfl
theorem se_X0_live : Cond.selects RX0 yX0_live yX0_live ∈ pm_tbl := pm_tin (by decide +kernel) rfl
theorem ml_X4_179 : Cond.methodLink RX4 179 yX4_tryDays ∈ pm_tbl := pm_tin (by decide +kernel) rfl
theorem cd_X4_tryDays : Cond.code yX4_tryDays cX4_tryDays 4 (pm_rt 1) ∈ pm_tbl := pm_tin (by decide +kernel) rfl
theorem im_X4_tryDays : Cond.instanceMethod yX4_tryDays ∈ pm_tbl := pm_tin (by decide +kernel) rfl
theorem se_X4_tryDays : Cond.selects RX4 yX4_tryDays yX4_tryDays ∈ pm_tbl := pm_tin (by decide +kernel) rfl
theorem ml_X4_182 : Cond.methodLink RX4 182 yX0_allHunger ∈ pm_tbl := pm_tin (by decide +kernel) rfl
theorem cd_X0_allHunger : Cond.code yX0_allHunger cX0_allHunger 1 (pm_rt 1) ∈ pm_tbl := pm_tin (by decide +kernel) rfl
theorem im_X0_allHunger : Cond.instanceMethod yX0_allHunger ∈ pm_tbl := pm_tin (by decide +kernel) rfl
theorem se_X0_allHunger : Cond.selects RX0 yX0_allHunger yX0_allHunger ∈ pm_tbl := pm_tin (by decide +kernel) rfl
theorem ml_X4_185 : Cond.methodLink RX4 185 yX4_isKnownBy ∈ pm_tbl := pm_tin (by decide +kernel) rfl
theorem cd_X4_isKnownBy : Cond.code yX4_isKnownBy cX4_isKnownBy 4 (pm_rt 3) ∈ pm_tbl := pm_tin (by decide +kernel) rfl
theorem im_X4_isKnownBy : Cond.instanceMethod yX4_isKnownBy ∈ pm_tbl := pm_tin (by decide +kernel) rfl
theorem se_X4_isKnownBy : Cond.selects RX4 yX4_isKnownBy yX4_isKnownBy ∈ pm_tbl := pm_tin (by decide +kernel) rfl
theorem ml_X4_188 : Cond.methodLink RX4 188 yX4_countAnswered ∈ pm_tbl := pm_tin (by decide +kernel) rfl
theorem cd_X4_countAnswered : Cond.code yX4_countAnswered cX4_countAnswered 1 (pm_rt 1) ∈ pm_tbl := pm_tin (by decide +kernel) rfl
theorem im_X4_countAnswered : Cond.instanceMethod yX4_countAnswered ∈ pm_tbl := pm_tin (by decide +kernel) rfl
theorem se_X4_countAnswered : Cond.selects RX4 yX4_countAnswered yX4_countAnswered ∈ pm_tbl := pm_tin (by decide +kernel) rfl
theorem ml_X4_191 : Cond.methodLink RX4 191 yX0_exchange ∈ pm_tbl := pm_tin (by decide +kernel) rfl
theorem cd_X0_exchange : Cond.code yX0_exchange cX0_exchange 3 (pm_rt 0) ∈ pm_tbl := pm_tin (by decide +kernel) rfl
theorem im_X0_exchange : Cond.instanceMethod yX0_exchange ∈ pm_tbl := pm_tin (by decide +kernel) rfl
theorem se_X0_exchange : Cond.selects RX0 yX0_exchange yX0_exchange ∈ pm_tbl := pm_tin (by decide +kernel) rfl
theorem ml_X4_195 : Cond.methodLink RX4 195 yJ6_bitCount_0f7a4 ∈ pm_tbl := pm_tin (by decide +kernel) rfl
theorem cd_J6_bitCount_0f7a4 : Cond.code yJ6_bitCount_0f7a4 cJ6_bitCount_0f7a4 1 (pm_rt 1) ∈ pm_tbl := pm_tin (by decide +kernel) rfl
theorem st_J6_bitCount_0f7a4 : Cond.static yJ6_bitCount_0f7a4 ∈ pm_tbl := pm_tin (by decide +kernel) rfl
theorem ml_X4_200 : Cond.methodLink RX4 200 yX4_areOdds ∈ pm_tbl := pm_tin (by decide +kernel) rfl
theorem cd_X4_areOdds : Cond.code yX4_areOdds cX4_areOdds 3 (pm_rt 3) ∈ pm_tbl := pm_tin (by decide +kernel) rfl
theorem st_X4_areOdds : Cond.static yX4_areOdds ∈ pm_tbl := pm_tin (by decide +kernel) rfl
theorem ml_X4_205 : Cond.methodLink RX4 205 yX4_weigh ∈ pm_tbl := pm_tin (by decide +kernel) rfl
theorem cd_X4_weigh : Cond.code yX4_weigh cX4_weigh 9 (pm_rt 2) ∈ pm_tbl := pm_tin (by decide +kernel) rfl
theorem im_X4_weigh : Cond.instanceMethod yX4_weigh ∈ pm_tbl := pm_tin (by decide +kernel) rfl
theorem se_X4_weigh : Cond.selects RX4 yX4_weigh yX4_weigh ∈ pm_tbl := pm_tin (by decide +kernel) rfl
theorem ml_X4_209 : Cond.methodLink RX4 209 yX4_powerOfTen ∈ pm_tbl := pm_tin (by decide +kernel) rfl
theorem cd_X4_powerOfTen : Cond.code yX4_powerOfTen cX4_powerOfTen 4 (pm_rt 2) ∈ pm_tbl := pm_tin (by decide +kernel) rfl
theorem st_X4_powerOfTen : Cond.static yX4_powerOfTen ∈ pm_tbl := pm_tin (by decide +kernel) rfl
theorem ml_X4_213 : Cond.methodLink RX4 213 yX4_partOf ∈ pm_tbl := pm_tin (by decide +kernel) rfl
theorem cd_X4_partOf : Cond.code yX4_partOf cX4_partOf 12 (pm_rt 2) ∈ pm_tbl := pm_tin (by decide +kernel) rfl
theorem st_X4_partOf : Cond.static yX4_partOf ∈ pm_tbl := pm_tin (by decide +kernel) rfl
theorem ml_X4_217 : Cond.methodLink RX4 217 yX2_add ∈ pm_tbl := pm_tin (by decide +kernel) rfl
theorem cd_X2_add : Cond.code yX2_add cX2_add 5 (pm_rt 3) ∈ pm_tbl := pm_tin (by decide +kernel) rfl
theorem im_X2_add : Cond.instanceMethod yX2_add ∈ pm_tbl := pm_tin (by decide +kernel) rfl
theorem se_X2_add : Cond.selects RX2 yX2_add yX2_add ∈ pm_tbl := pm_tin (by decide +kernel) rfl
theorem ml_X4_221 : Cond.methodLink RX4 221 yX4_kindsLeft ∈ pm_tbl := pm_tin (by decide +kernel) rfl
theorem cd_X4_kindsLeft : Cond.code yX4_kindsLeft cX4_kindsLeft 4 (pm_rt 1) ∈ pm_tbl := pm_tin (by decide +kernel) rfl
theorem im_X4_kindsLeft : Cond.instanceMethod yX4_kindsLeft ∈ pm_tbl := pm_tin (by decide +kernel) rfl
theorem se_X4_kindsLeft : Cond.selects RX4 yX4_kindsLeft yX4_kindsLeft ∈ pm_tbl := pm_tin (by decide +kernel) rfl
theorem ml_X4_224 : Cond.methodLink RX4 224 yX2_fits ∈ pm_tbl := pm_tin (by decide +kernel) rfl
theorem cd_X2_fits : Cond.code yX2_fits cX2_fits 4 (pm_rt 3) ∈ pm_tbl := pm_tin (by decide +kernel) rfl
theorem im_X2_fits : Cond.instanceMethod yX2_fits ∈ pm_tbl := pm_tin (by decide +kernel) rfl
theorem se_X2_fits : Cond.selects RX2 yX2_fits yX2_fits ∈ pm_tbl := pm_tin (by decide +kernel) rfl
theorem ml_X4_227 : Cond.methodLink RX4 227 yX4_tallyKnowers ∈ pm_tbl := pm_tin (by decide +kernel) rfl
theorem cd_X4_tallyKnowers : Cond.code yX4_tallyKnowers cX4_tallyKnowers 4 (pm_rt 0) ∈ pm_tbl := pm_tin (by decide +kernel) rfl
theorem im_X4_tallyKnowers : Cond.instanceMethod yX4_tallyKnowers ∈ pm_tbl := pm_tin (by decide +kernel) rfl
theorem se_X4_tallyKnowers : Cond.selects RX4 yX4_tallyKnowers yX4_tallyKnowers ∈ pm_tbl := pm_tin (by decide +kernel) rfl
theorem ml_X4_230 : Cond.methodLink RX4 230 Lib.Math.max.name ∈ pm_tbl := pm_tin (by decide +kernel) rfl
theorem st_max : Cond.static Lib.Math.max.name ∈ pm_tbl := pm_tin (by decide +kernel) rfl
theorem cd_max : Cond.code Lib.Math.max.name Lib.Math.max.code 2 (some .int) ∈ pm_tbl := pm_tin (by decide +kernel) rfl
theorem ml_X4_237 : Cond.methodLink RX4 237 yX1_renew ∈ pm_tbl := pm_tin (by decide +kernel) rfl
theorem cd_X1_renew : Cond.code yX1_renew cX1_renew 4 (pm_rt 0) ∈ pm_tbl := pm_tin (by decide +kernel) rfl
theorem im_X1_renew : Cond.instanceMethod yX1_renew ∈ pm_tbl := pm_tin (by decide +kernel) rfl
theorem se_X1_renew : Cond.selects RX1 yX1_renew yX1_renew ∈ pm_tbl := pm_tin (by decide +kernel) rfl
theorem ml_X4_243 : Cond.methodLink RX4 243 yX1_faultAt ∈ pm_tbl := pm_tin (by decide +kernel) rfl
theorem cd_X1_faultAt : Cond.code yX1_faultAt cX1_faultAt 4 (pm_rt 1) ∈ pm_tbl := pm_tin (by decide +kernel) rfl
theorem im_X1_faultAt : Cond.instanceMethod yX1_faultAt ∈ pm_tbl := pm_tin (by decide +kernel) rfl
theorem se_X1_faultAt : Cond.selects RX1 yX1_faultAt yX1_faultAt ∈ pm_tbl := pm_tin (by decide +kernel) rfl
theorem ml_X4_250 : Cond.methodLink RX4 250 yX1_narrow ∈ pm_tbl := pm_tin (by decide +kernel) rfl
theorem cd_X1_narrow : Cond.code yX1_narrow cX1_narrow 2 (pm_rt 1) ∈ pm_tbl := pm_tin (by decide +kernel) rfl
theorem im_X1_narrow : Cond.instanceMethod yX1_narrow ∈ pm_tbl := pm_tin (by decide +kernel) rfl
theorem se_X1_narrow : Cond.selects RX1 yX1_narrow yX1_narrow ∈ pm_tbl := pm_tin (by decide +kernel) rfl
theorem ml_X4_253 : Cond.methodLink RX4 253 yX4_bake ∈ pm_tbl := pm_tin (by decide +kernel) rfl
theorem cd_X4_bake : Cond.code yX4_bake cX4_bake 5 (pm_rt 1) ∈ pm_tbl := pm_tin (by decide +kernel) rfl
theorem im_X4_bake : Cond.instanceMethod yX4_bake ∈ pm_tbl := pm_tin (by decide +kernel) rfl
theorem se_X4_bake : Cond.selects RX4 yX4_bake yX4_bake ∈ pm_tbl := pm_tin (by decide +kernel) rfl
theorem ml_X4_267 : Cond.methodLink RX4 267 yX0_allAppetites ∈ pm_tbl := pm_tin (by decide +kernel) rfl
theorem cd_X0_allAppetites : Cond.code yX0_allAppetites cX0_allAppetites 1 (pm_rt 1) ∈ pm_tbl := pm_tin (by decide +kernel) rfl
theorem im_X0_allAppetites : Cond.instanceMethod yX0_allAppetites ∈ pm_tbl := pm_tin (by decide +kernel) rfl
theorem se_X0_allAppetites : Cond.selects RX0 yX0_allAppetites yX0_allAppetites ∈ pm_tbl := pm_tin (by decide +kernel) rfl
theorem ml_X4_270 : Cond.methodLink RX4 270 yX0_answers ∈ pm_tbl := pm_tin (by decide +kernel) rfl
theorem cd_X0_answers : Cond.code yX0_answers cX0_answers 3 (pm_rt 1) ∈ pm_tbl := pm_tin (by decide +kernel) rfl
theorem im_X0_answers : Cond.instanceMethod yX0_answers ∈ pm_tbl := pm_tin (by decide +kernel) rfl
theorem se_X0_answers : Cond.selects RX0 yX0_answers yX0_answers ∈ pm_tbl := pm_tin (by decide +kernel) rfl
theorem ml_X4_273 : Cond.methodLink RX4 273 yX0_isKnower ∈ pm_tbl := pm_tin (by decide +kernel) rfl
theorem cd_X0_isKnower : Cond.code yX0_isKnower cX0_isKnower 4 (pm_rt 3) ∈ pm_tbl := pm_tin (by decide +kernel) rfl
theorem im_X0_isKnower : Cond.instanceMethod yX0_isKnower ∈ pm_tbl := pm_tin (by decide +kernel) rfl
theorem se_X0_isKnower : Cond.selects RX0 yX0_isKnower yX0_isKnower ∈ pm_tbl := pm_tin (by decide +kernel) rfl
theorem ml_X4_276 : Cond.methodLink RX4 276 yX4_tallyDays ∈ pm_tbl := pm_tin (by decide +kernel) rfl
theorem cd_X4_tallyDays : Cond.code yX4_tallyDays cX4_tallyDays 5 (pm_rt 0) ∈ pm_tbl := pm_tin (by decide +kernel) rfl
theorem im_X4_tallyDays : Cond.instanceMethod yX4_tallyDays ∈ pm_tbl := pm_tin (by decide +kernel) rfl
theorem se_X4_tallyDays : Cond.selects RX4 yX4_tallyDays yX4_tallyDays ∈ pm_tbl := pm_tin (by decide +kernel) rfl
theorem ml_X4_280 : Cond.methodLink RX4 280 yX4_outcome ∈ pm_tbl := pm_tin (by decide +kernel) rfl
theorem cd_X4_outcome : Cond.code yX4_outcome cX4_outcome 3 (pm_rt 2) ∈ pm_tbl := pm_tin (by decide +kernel) rfl
theorem im_X4_outcome : Cond.instanceMethod yX4_outcome ∈ pm_tbl := pm_tin (by decide +kernel) rfl
theorem se_X4_outcome : Cond.selects RX4 yX4_outcome yX4_outcome ∈ pm_tbl := pm_tin (by decide +kernel) rfl
theorem ml_X4_284 : Cond.methodLink RX4 284 arraycopyName ∈ pm_tbl := pm_tin (by decide +kernel) rfl
theorem st_arraycopy : Cond.static arraycopyName ∈ pm_tbl := pm_tin (by decide +kernel) rfl
theorem nt_arraycopy : Cond.native arraycopyName ∈ pm_tbl := pm_tin (by decide +kernel) rfl
theorem ml_X0_55 : Cond.methodLink RX0 55 arraycopyName ∈ pm_tbl := pm_tin (by decide +kernel) rfl
theorem ml_X0_61 : Cond.methodLink RX0 61 yX0_trade ∈ pm_tbl := pm_tin (by decide +kernel) rfl
theorem cd_X0_trade : Cond.code yX0_trade cX0_trade 4 (pm_rt 0) ∈ pm_tbl := pm_tin (by decide +kernel) rfl
theorem st_X0_trade : Cond.static yX0_trade ∈ pm_tbl := pm_tin (by decide +kernel) rfl
theorem ml_X0_65 : Cond.methodLink RX0 65 Lib.Math.min.name ∈ pm_tbl := pm_tin (by decide +kernel) rfl
theorem st_min : Cond.static Lib.Math.min.name ∈ pm_tbl := pm_tin (by decide +kernel) rfl
theorem cd_min : Cond.code Lib.Math.min.name Lib.Math.min.code 2 (some .int) ∈ pm_tbl := pm_tin (by decide +kernel) rfl
theorem ml_X0_71 : Cond.methodLink RX0 71 yX0_sumOf ∈ pm_tbl := pm_tin (by decide +kernel) rfl
theorem cd_X0_sumOf : Cond.code yX0_sumOf cX0_sumOf 4 (pm_rt 1) ∈ pm_tbl := pm_tin (by decide +kernel) rfl
theorem st_X0_sumOf : Cond.static yX0_sumOf ∈ pm_tbl := pm_tin (by decide +kernel) rfl
theorem ml_X0_75 : Cond.methodLink RX0 75 yX0_knowersOf ∈ pm_tbl := pm_tin (by decide +kernel) rfl
theorem ml_X0_79 : Cond.methodLink RX0 79 yX0_spoilOf ∈ pm_tbl := pm_tin (by decide +kernel) rfl
theorem ml_X0_82 : Cond.methodLink RX0 82 yX0_feast ∈ pm_tbl := pm_tin (by decide +kernel) rfl
theorem cd_X0_feast : Cond.code yX0_feast cX0_feast 5 (pm_rt 1) ∈ pm_tbl := pm_tin (by decide +kernel) rfl
theorem im_X0_feast : Cond.instanceMethod yX0_feast ∈ pm_tbl := pm_tin (by decide +kernel) rfl
theorem se_X0_feast : Cond.selects RX0 yX0_feast yX0_feast ∈ pm_tbl := pm_tin (by decide +kernel) rfl
theorem ml_X2_29 : Cond.methodLink RX2 29 yX2_lastDay ∈ pm_tbl := pm_tin (by decide +kernel) rfl
theorem cd_X2_lastDay : Cond.code yX2_lastDay cX2_lastDay 3 (pm_rt 1) ∈ pm_tbl := pm_tin (by decide +kernel) rfl
theorem im_X2_lastDay : Cond.instanceMethod yX2_lastDay ∈ pm_tbl := pm_tin (by decide +kernel) rfl
theorem se_X2_lastDay : Cond.selects RX2 yX2_lastDay yX2_lastDay ∈ pm_tbl := pm_tin (by decide +kernel) rfl
theorem ml_X2_33 : Cond.methodLink RX2 33 yX2_fitsBehind ∈ pm_tbl := pm_tin (by decide +kernel) rfl
theorem cd_X2_fitsBehind : Cond.code yX2_fitsBehind cX2_fitsBehind 4 (pm_rt 3) ∈ pm_tbl := pm_tin (by decide +kernel) rfl
theorem im_X2_fitsBehind : Cond.instanceMethod yX2_fitsBehind ∈ pm_tbl := pm_tin (by decide +kernel) rfl
theorem se_X2_fitsBehind : Cond.selects RX2 yX2_fitsBehind yX2_fitsBehind ∈ pm_tbl := pm_tin (by decide +kernel) rfl
theorem ml_X2_37 : Cond.methodLink RX2 37 yX0_live ∈ pm_tbl := pm_tin (by decide +kernel) rfl
theorem ml_X2_42 : Cond.methodLink RX2 42 Lib.Math.max.name ∈ pm_tbl := pm_tin (by decide +kernel) rfl
theorem ml_X2_48 : Cond.methodLink RX2 48 yX0_isKnower ∈ pm_tbl := pm_tin (by decide +kernel) rfl
theorem ml_X3_19 : Cond.methodLink RX3 19 yX0_empty ∈ pm_tbl := pm_tin (by decide +kernel) rfl
theorem cd_X0_empty : Cond.code yX0_empty cX0_empty 1 (pm_rt 0) ∈ pm_tbl := pm_tin (by decide +kernel) rfl
theorem im_X0_empty : Cond.instanceMethod yX0_empty ∈ pm_tbl := pm_tin (by decide +kernel) rfl
theorem se_X0_empty : Cond.selects RX0 yX0_empty yX0_empty ∈ pm_tbl := pm_tin (by decide +kernel) rfl
theorem ml_X3_44 : Cond.methodLink RX3 44 yX3_readToken ∈ pm_tbl := pm_tin (by decide +kernel) rfl
theorem cd_X3_readToken : Cond.code yX3_readToken cX3_readToken 1 (pm_rt 0) ∈ pm_tbl := pm_tin (by decide +kernel) rfl
theorem im_X3_readToken : Cond.instanceMethod yX3_readToken ∈ pm_tbl := pm_tin (by decide +kernel) rfl
theorem se_X3_readToken : Cond.selects RX3 yX3_readToken yX3_readToken ∈ pm_tbl := pm_tin (by decide +kernel) rfl
theorem ml_X3_50 : Cond.methodLink RX3 50 yX3_readLine ∈ pm_tbl := pm_tin (by decide +kernel) rfl
theorem cd_X3_readLine : Cond.code yX3_readLine cX3_readLine 3 (pm_rt 0) ∈ pm_tbl := pm_tin (by decide +kernel) rfl
theorem im_X3_readLine : Cond.instanceMethod yX3_readLine ∈ pm_tbl := pm_tin (by decide +kernel) rfl
theorem se_X3_readLine : Cond.selects RX3 yX3_readLine yX3_readLine ∈ pm_tbl := pm_tin (by decide +kernel) rfl
theorem ml_X3_54 : Cond.methodLink RX3 54 yX3_seekFellows ∈ pm_tbl := pm_tin (by decide +kernel) rfl
theorem cd_X3_seekFellows : Cond.code yX3_seekFellows cX3_seekFellows 3 (pm_rt 0) ∈ pm_tbl := pm_tin (by decide +kernel) rfl
theorem im_X3_seekFellows : Cond.instanceMethod yX3_seekFellows ∈ pm_tbl := pm_tin (by decide +kernel) rfl
theorem se_X3_seekFellows : Cond.selects RX3 yX3_seekFellows yX3_seekFellows ∈ pm_tbl := pm_tin (by decide +kernel) rfl
theorem ml_X3_57 : Cond.methodLink RX3 57 yX3_findWord ∈ pm_tbl := pm_tin (by decide +kernel) rfl
theorem cd_X3_findWord : Cond.code yX3_findWord cX3_findWord 2 (pm_rt 1) ∈ pm_tbl := pm_tin (by decide +kernel) rfl
theorem im_X3_findWord : Cond.instanceMethod yX3_findWord ∈ pm_tbl := pm_tin (by decide +kernel) rfl
theorem se_X3_findWord : Cond.selects RX3 yX3_findWord yX3_findWord ∈ pm_tbl := pm_tin (by decide +kernel) rfl
theorem ml_X3_64 : Cond.methodLink RX3 64 yX3_blame ∈ pm_tbl := pm_tin (by decide +kernel) rfl
theorem cd_X3_blame : Cond.code yX3_blame cX3_blame 3 (pm_rt 0) ∈ pm_tbl := pm_tin (by decide +kernel) rfl
theorem im_X3_blame : Cond.instanceMethod yX3_blame ∈ pm_tbl := pm_tin (by decide +kernel) rfl
theorem se_X3_blame : Cond.selects RX3 yX3_blame yX3_blame ∈ pm_tbl := pm_tin (by decide +kernel) rfl
theorem ml_X3_68 : Cond.methodLink RX3 68 yX3_isTwice ∈ pm_tbl := pm_tin (by decide +kernel) rfl
theorem cd_X3_isTwice : Cond.code yX3_isTwice cX3_isTwice 2 (pm_rt 3) ∈ pm_tbl := pm_tin (by decide +kernel) rfl
theorem im_X3_isTwice : Cond.instanceMethod yX3_isTwice ∈ pm_tbl := pm_tin (by decide +kernel) rfl
theorem se_X3_isTwice : Cond.selects RX3 yX3_isTwice yX3_isTwice ∈ pm_tbl := pm_tin (by decide +kernel) rfl
theorem ml_X3_72 : Cond.methodLink RX3 72 yX3_isFull ∈ pm_tbl := pm_tin (by decide +kernel) rfl
theorem cd_X3_isFull : Cond.code yX3_isFull cX3_isFull 2 (pm_rt 3) ∈ pm_tbl := pm_tin (by decide +kernel) rfl
theorem st_X3_isFull : Cond.static yX3_isFull ∈ pm_tbl := pm_tin (by decide +kernel) rfl
theorem ml_X3_76 : Cond.methodLink RX3 76 yX3_readNumbers ∈ pm_tbl := pm_tin (by decide +kernel) rfl
theorem cd_X3_readNumbers : Cond.code yX3_readNumbers cX3_readNumbers 4 (pm_rt 0) ∈ pm_tbl := pm_tin (by decide +kernel) rfl
theorem im_X3_readNumbers : Cond.instanceMethod yX3_readNumbers ∈ pm_tbl := pm_tin (by decide +kernel) rfl
theorem se_X3_readNumbers : Cond.selects RX3 yX3_readNumbers yX3_readNumbers ∈ pm_tbl := pm_tin (by decide +kernel) rfl
theorem ml_X3_80 : Cond.methodLink RX3 80 yX3_readMark ∈ pm_tbl := pm_tin (by decide +kernel) rfl
theorem cd_X3_readMark : Cond.code yX3_readMark cX3_readMark 1 (pm_rt 0) ∈ pm_tbl := pm_tin (by decide +kernel) rfl
theorem im_X3_readMark : Cond.instanceMethod yX3_readMark ∈ pm_tbl := pm_tin (by decide +kernel) rfl
theorem se_X3_readMark : Cond.selects RX3 yX3_readMark yX3_readMark ∈ pm_tbl := pm_tin (by decide +kernel) rfl
theorem ml_X3_83 : Cond.methodLink RX3 83 yX3_write ∈ pm_tbl := pm_tin (by decide +kernel) rfl
theorem cd_X3_write : Cond.code yX3_write cX3_write 3 (pm_rt 0) ∈ pm_tbl := pm_tin (by decide +kernel) rfl
theorem im_X3_write : Cond.instanceMethod yX3_write ∈ pm_tbl := pm_tin (by decide +kernel) rfl
theorem se_X3_write : Cond.selects RX3 yX3_write yX3_write ∈ pm_tbl := pm_tin (by decide +kernel) rfl
theorem ml_X3_105 : Cond.methodLink RX3 105 yX0_addFellow ∈ pm_tbl := pm_tin (by decide +kernel) rfl
theorem cd_X0_addFellow : Cond.code yX0_addFellow cX0_addFellow 2 (pm_rt 3) ∈ pm_tbl := pm_tin (by decide +kernel) rfl
theorem im_X0_addFellow : Cond.instanceMethod yX0_addFellow ∈ pm_tbl := pm_tin (by decide +kernel) rfl
theorem se_X0_addFellow : Cond.selects RX0 yX0_addFellow yX0_addFellow ∈ pm_tbl := pm_tin (by decide +kernel) rfl
theorem ml_X3_114 : Cond.methodLink RX3 114 yX0_addQuestion ∈ pm_tbl := pm_tin (by decide +kernel) rfl
theorem ml_X3_118 : Cond.methodLink RX3 118 yX0_addBiscuit ∈ pm_tbl := pm_tin (by decide +kernel) rfl
theorem ml_X3_125 : Cond.methodLink RX3 125 yX0_hasFellow ∈ pm_tbl := pm_tin (by decide +kernel) rfl
theorem ml_X3_131 : Cond.methodLink RX3 131 yX3_isLetter ∈ pm_tbl := pm_tin (by decide +kernel) rfl
theorem cd_X3_isLetter : Cond.code yX3_isLetter cX3_isLetter 1 (pm_rt 3) ∈ pm_tbl := pm_tin (by decide +kernel) rfl
theorem st_X3_isLetter : Cond.static yX3_isLetter ∈ pm_tbl := pm_tin (by decide +kernel) rfl
theorem ml_X3_134 : Cond.methodLink RX3 134 yX3_skipName ∈ pm_tbl := pm_tin (by decide +kernel) rfl
theorem cd_X3_skipName : Cond.code yX3_skipName cX3_skipName 1 (pm_rt 0) ∈ pm_tbl := pm_tin (by decide +kernel) rfl
theorem im_X3_skipName : Cond.instanceMethod yX3_skipName ∈ pm_tbl := pm_tin (by decide +kernel) rfl
theorem se_X3_skipName : Cond.selects RX3 yX3_skipName yX3_skipName ∈ pm_tbl := pm_tin (by decide +kernel) rfl
theorem ml_X3_137 : Cond.methodLink RX3 137 yX3_isFigure ∈ pm_tbl := pm_tin (by decide +kernel) rfl
theorem cd_X3_isFigure : Cond.code yX3_isFigure cX3_isFigure 1 (pm_rt 3) ∈ pm_tbl := pm_tin (by decide +kernel) rfl
theorem st_X3_isFigure : Cond.static yX3_isFigure ∈ pm_tbl := pm_tin (by decide +kernel) rfl
theorem ml_X3_140 : Cond.methodLink RX3 140 yX3_readFigures ∈ pm_tbl := pm_tin (by decide +kernel) rfl
theorem cd_X3_readFigures : Cond.code yX3_readFigures cX3_readFigures 1 (pm_rt 0) ∈ pm_tbl := pm_tin (by decide +kernel) rfl
theorem im_X3_readFigures : Cond.instanceMethod yX3_readFigures ∈ pm_tbl := pm_tin (by decide +kernel) rfl
theorem se_X3_readFigures : Cond.selects RX3 yX3_readFigures yX3_readFigures ∈ pm_tbl := pm_tin (by decide +kernel) rfl
theorem ml_X3_143 : Cond.methodLink RX3 143 yX3_wordOf ∈ pm_tbl := pm_tin (by decide +kernel) rfl
-- X3_wordOf: (some (.object "java/lang/String"))
theorem st_X3_wordOf : Cond.static yX3_wordOf ∈ pm_tbl := pm_tin (by decide +kernel) rfl
theorem ml_X3_147 : Cond.methodLink RX3 147 yX3_isWord ∈ pm_tbl := pm_tin (by decide +kernel) rfl
theorem cd_X3_isWord : Cond.code yX3_isWord cX3_isWord 3 (pm_rt 3) ∈ pm_tbl := pm_tin (by decide +kernel) rfl
theorem im_X3_isWord : Cond.instanceMethod yX3_isWord ∈ pm_tbl := pm_tin (by decide +kernel) rfl
theorem se_X3_isWord : Cond.selects RX3 yX3_isWord yX3_isWord ∈ pm_tbl := pm_tin (by decide +kernel) rfl
theorem ml_X3_151 : Cond.methodLink RX3 151 yJ0_length_8abf5 ∈ pm_tbl := pm_tin (by decide +kernel) rfl
theorem cd_J0_length_8abf5 : Cond.code yJ0_length_8abf5 cJ0_length_8abf5 1 (pm_rt 1) ∈ pm_tbl := pm_tin (by decide +kernel) rfl
theorem im_J0_length_8abf5 : Cond.instanceMethod yJ0_length_8abf5 ∈ pm_tbl := pm_tin (by decide +kernel) rfl
theorem se_J0_length_8abf5 : Cond.selects RJ0 yJ0_length_8abf5 yJ0_length_8abf5 ∈ pm_tbl := pm_tin (by decide +kernel) rfl
theorem ml_X3_155 : Cond.methodLink RX3 155 yJ0_charAt_5068e ∈ pm_tbl := pm_tin (by decide +kernel) rfl
theorem cd_J0_charAt_5068e : Cond.code yJ0_charAt_5068e cJ0_charAt_5068e 2 (pm_rt 4) ∈ pm_tbl := pm_tin (by decide +kernel) rfl
theorem im_J0_charAt_5068e : Cond.instanceMethod yJ0_charAt_5068e ∈ pm_tbl := pm_tin (by decide +kernel) rfl
theorem se_J0_charAt_5068e : Cond.selects RJ0 yJ0_charAt_5068e yJ0_charAt_5068e ∈ pm_tbl := pm_tin (by decide +kernel) rfl
theorem ml_X5_46 : Cond.methodLink RX5 46 yX5_in ∈ pm_tbl := pm_tin (by decide +kernel) rfl
theorem cd_X5_in : Cond.code yX5_in cX5_in 6 (pm_rt 3) ∈ pm_tbl := pm_tin (by decide +kernel) rfl
theorem st_X5_in : Cond.static yX5_in ∈ pm_tbl := pm_tin (by decide +kernel) rfl
theorem ml_X5_69 : Cond.methodLink RX5 69 yX5_byteAt ∈ pm_tbl := pm_tin (by decide +kernel) rfl
theorem cd_X5_byteAt : Cond.code yX5_byteAt cX5_byteAt 2 (pm_rt 1) ∈ pm_tbl := pm_tin (by decide +kernel) rfl
theorem im_X5_byteAt : Cond.instanceMethod yX5_byteAt ∈ pm_tbl := pm_tin (by decide +kernel) rfl
theorem se_X5_byteAt : Cond.selects RX5 yX5_byteAt yX5_byteAt ∈ pm_tbl := pm_tin (by decide +kernel) rfl
theorem ml_X5_84 : Cond.methodLink RX5 84 yX5_fails ∈ pm_tbl := pm_tin (by decide +kernel) rfl
theorem cd_X5_fails : Cond.code yX5_fails cX5_fails 2 (pm_rt 0) ∈ pm_tbl := pm_tin (by decide +kernel) rfl
theorem im_X5_fails : Cond.instanceMethod yX5_fails ∈ pm_tbl := pm_tin (by decide +kernel) rfl
theorem se_X5_fails : Cond.selects RX5 yX5_fails yX5_fails ∈ pm_tbl := pm_tin (by decide +kernel) rfl
theorem ml_X5_88 : Cond.methodLink RX5 88 yX5_step ∈ pm_tbl := pm_tin (by decide +kernel) rfl
theorem cd_X5_step : Cond.code yX5_step cX5_step 2 (pm_rt 0) ∈ pm_tbl := pm_tin (by decide +kernel) rfl
theorem im_X5_step : Cond.instanceMethod yX5_step ∈ pm_tbl := pm_tin (by decide +kernel) rfl
theorem se_X5_step : Cond.selects RX5 yX5_step yX5_step ∈ pm_tbl := pm_tin (by decide +kernel) rfl
theorem ml_X5_91 : Cond.methodLink RX5 91 yX5_number ∈ pm_tbl := pm_tin (by decide +kernel) rfl
theorem cd_X5_number : Cond.code yX5_number cX5_number 4 (pm_rt 1) ∈ pm_tbl := pm_tin (by decide +kernel) rfl
theorem im_X5_number : Cond.instanceMethod yX5_number ∈ pm_tbl := pm_tin (by decide +kernel) rfl
theorem se_X5_number : Cond.selects RX5 yX5_number yX5_number ∈ pm_tbl := pm_tin (by decide +kernel) rfl
theorem ml_X5_98 : Cond.methodLink RX5 98 yX5_readBiscuit ∈ pm_tbl := pm_tin (by decide +kernel) rfl
theorem cd_X5_readBiscuit : Cond.code yX5_readBiscuit cX5_readBiscuit 4 (pm_rt 0) ∈ pm_tbl := pm_tin (by decide +kernel) rfl
theorem im_X5_readBiscuit : Cond.instanceMethod yX5_readBiscuit ∈ pm_tbl := pm_tin (by decide +kernel) rfl
theorem se_X5_readBiscuit : Cond.selects RX5 yX5_readBiscuit yX5_readBiscuit ∈ pm_tbl := pm_tin (by decide +kernel) rfl
theorem ml_X5_104 : Cond.methodLink RX5 104 yX5_nameHere ∈ pm_tbl := pm_tin (by decide +kernel) rfl
theorem cd_X5_nameHere : Cond.code yX5_nameHere cX5_nameHere 4 (pm_rt 1) ∈ pm_tbl := pm_tin (by decide +kernel) rfl
theorem im_X5_nameHere : Cond.instanceMethod yX5_nameHere ∈ pm_tbl := pm_tin (by decide +kernel) rfl
theorem se_X5_nameHere : Cond.selects RX5 yX5_nameHere yX5_nameHere ∈ pm_tbl := pm_tin (by decide +kernel) rfl
theorem ml_X5_110 : Cond.methodLink RX5 110 yX5_isFull ∈ pm_tbl := pm_tin (by decide +kernel) rfl
theorem cd_X5_isFull : Cond.code yX5_isFull cX5_isFull 2 (pm_rt 3) ∈ pm_tbl := pm_tin (by decide +kernel) rfl
theorem im_X5_isFull : Cond.instanceMethod yX5_isFull ∈ pm_tbl := pm_tin (by decide +kernel) rfl
theorem se_X5_isFull : Cond.selects RX5 yX5_isFull yX5_isFull ∈ pm_tbl := pm_tin (by decide +kernel) rfl
theorem ml_X5_117 : Cond.methodLink RX5 117 yX5_readMore ∈ pm_tbl := pm_tin (by decide +kernel) rfl
theorem cd_X5_readMore : Cond.code yX5_readMore cX5_readMore 3 (pm_rt 0) ∈ pm_tbl := pm_tin (by decide +kernel) rfl
theorem im_X5_readMore : Cond.instanceMethod yX5_readMore ∈ pm_tbl := pm_tin (by decide +kernel) rfl
theorem se_X5_readMore : Cond.selects RX5 yX5_readMore yX5_readMore ∈ pm_tbl := pm_tin (by decide +kernel) rfl
theorem ml_X5_120 : Cond.methodLink RX5 120 yX5_readLine ∈ pm_tbl := pm_tin (by decide +kernel) rfl
theorem cd_X5_readLine : Cond.code yX5_readLine cX5_readLine 2 (pm_rt 0) ∈ pm_tbl := pm_tin (by decide +kernel) rfl
theorem im_X5_readLine : Cond.instanceMethod yX5_readLine ∈ pm_tbl := pm_tin (by decide +kernel) rfl
theorem se_X5_readLine : Cond.selects RX5 yX5_readLine yX5_readLine ∈ pm_tbl := pm_tin (by decide +kernel) rfl
theorem ml_X5_134 : Cond.methodLink RX5 134 yX5_subjectsOn ∈ pm_tbl := pm_tin (by decide +kernel) rfl
theorem cd_X5_subjectsOn : Cond.code yX5_subjectsOn cX5_subjectsOn 6 (pm_rt 1) ∈ pm_tbl := pm_tin (by decide +kernel) rfl
theorem im_X5_subjectsOn : Cond.instanceMethod yX5_subjectsOn ∈ pm_tbl := pm_tin (by decide +kernel) rfl
theorem se_X5_subjectsOn : Cond.selects RX5 yX5_subjectsOn yX5_subjectsOn ∈ pm_tbl := pm_tin (by decide +kernel) rfl
theorem ml_X5_140 : Cond.methodLink RX5 140 yX5_asksOn ∈ pm_tbl := pm_tin (by decide +kernel) rfl
theorem cd_X5_asksOn : Cond.code yX5_asksOn cX5_asksOn 4 (pm_rt 0) ∈ pm_tbl := pm_tin (by decide +kernel) rfl
theorem im_X5_asksOn : Cond.instanceMethod yX5_asksOn ∈ pm_tbl := pm_tin (by decide +kernel) rfl
theorem se_X5_asksOn : Cond.selects RX5 yX5_asksOn yX5_asksOn ∈ pm_tbl := pm_tin (by decide +kernel) rfl
theorem ml_X5_143 : Cond.methodLink RX5 143 yX5_spoilsOn ∈ pm_tbl := pm_tin (by decide +kernel) rfl
theorem cd_X5_spoilsOn : Cond.code yX5_spoilsOn cX5_spoilsOn 7 (pm_rt 1) ∈ pm_tbl := pm_tin (by decide +kernel) rfl
theorem im_X5_spoilsOn : Cond.instanceMethod yX5_spoilsOn ∈ pm_tbl := pm_tin (by decide +kernel) rfl
theorem se_X5_spoilsOn : Cond.selects RX5 yX5_spoilsOn yX5_spoilsOn ∈ pm_tbl := pm_tin (by decide +kernel) rfl
theorem ml_X5_147 : Cond.methodLink RX5 147 yX5_eatsOn ∈ pm_tbl := pm_tin (by decide +kernel) rfl
theorem cd_X5_eatsOn : Cond.code yX5_eatsOn cX5_eatsOn 6 (pm_rt 1) ∈ pm_tbl := pm_tin (by decide +kernel) rfl
theorem im_X5_eatsOn : Cond.instanceMethod yX5_eatsOn ∈ pm_tbl := pm_tin (by decide +kernel) rfl
theorem se_X5_eatsOn : Cond.selects RX5 yX5_eatsOn yX5_eatsOn ∈ pm_tbl := pm_tin (by decide +kernel) rfl
theorem ml_X5_150 : Cond.methodLink RX5 150 yX5_dampOn ∈ pm_tbl := pm_tin (by decide +kernel) rfl
theorem cd_X5_dampOn : Cond.code yX5_dampOn cX5_dampOn 2 (pm_rt 1) ∈ pm_tbl := pm_tin (by decide +kernel) rfl
theorem im_X5_dampOn : Cond.instanceMethod yX5_dampOn ∈ pm_tbl := pm_tin (by decide +kernel) rfl
theorem se_X5_dampOn : Cond.selects RX5 yX5_dampOn yX5_dampOn ∈ pm_tbl := pm_tin (by decide +kernel) rfl
theorem ml_X5_153 : Cond.methodLink RX5 153 yX5_crumbsOn ∈ pm_tbl := pm_tin (by decide +kernel) rfl
theorem cd_X5_crumbsOn : Cond.code yX5_crumbsOn cX5_crumbsOn 5 (pm_rt 1) ∈ pm_tbl := pm_tin (by decide +kernel) rfl
theorem im_X5_crumbsOn : Cond.instanceMethod yX5_crumbsOn ∈ pm_tbl := pm_tin (by decide +kernel) rfl
theorem se_X5_crumbsOn : Cond.selects RX5 yX5_crumbsOn yX5_crumbsOn ∈ pm_tbl := pm_tin (by decide +kernel) rfl
theorem ml_X5_156 : Cond.methodLink RX5 156 yX5_isFellow ∈ pm_tbl := pm_tin (by decide +kernel) rfl
theorem cd_X5_isFellow : Cond.code yX5_isFellow cX5_isFellow 2 (pm_rt 3) ∈ pm_tbl := pm_tin (by decide +kernel) rfl
theorem im_X5_isFellow : Cond.instanceMethod yX5_isFellow ∈ pm_tbl := pm_tin (by decide +kernel) rfl
theorem se_X5_isFellow : Cond.selects RX5 yX5_isFellow yX5_isFellow ∈ pm_tbl := pm_tin (by decide +kernel) rfl
theorem ml_X5_159 : Cond.methodLink RX5 159 yX5_isBiscuit ∈ pm_tbl := pm_tin (by decide +kernel) rfl
theorem cd_X5_isBiscuit : Cond.code yX5_isBiscuit cX5_isBiscuit 2 (pm_rt 3) ∈ pm_tbl := pm_tin (by decide +kernel) rfl
theorem im_X5_isBiscuit : Cond.instanceMethod yX5_isBiscuit ∈ pm_tbl := pm_tin (by decide +kernel) rfl
theorem se_X5_isBiscuit : Cond.selects RX5 yX5_isBiscuit yX5_isBiscuit ∈ pm_tbl := pm_tin (by decide +kernel) rfl
theorem ml_X5_164 : Cond.methodLink RX5 164 yX5_isSubject ∈ pm_tbl := pm_tin (by decide +kernel) rfl
theorem cd_X5_isSubject : Cond.code yX5_isSubject cX5_isSubject 1 (pm_rt 3) ∈ pm_tbl := pm_tin (by decide +kernel) rfl
theorem st_X5_isSubject : Cond.static yX5_isSubject ∈ pm_tbl := pm_tin (by decide +kernel) rfl
theorem ml_X5_171 : Cond.methodLink RX5 171 yX5_isGood ∈ pm_tbl := pm_tin (by decide +kernel) rfl
theorem cd_X5_isGood : Cond.code yX5_isGood cX5_isGood 3 (pm_rt 3) ∈ pm_tbl := pm_tin (by decide +kernel) rfl
theorem im_X5_isGood : Cond.instanceMethod yX5_isGood ∈ pm_tbl := pm_tin (by decide +kernel) rfl
theorem se_X5_isGood : Cond.selects RX5 yX5_isGood yX5_isGood ∈ pm_tbl := pm_tin (by decide +kernel) rfl
theorem ml_X5_175 : Cond.methodLink RX5 175 yX5_puts ∈ pm_tbl := pm_tin (by decide +kernel) rfl
theorem cd_X5_puts : Cond.code yX5_puts cX5_puts 6 (pm_rt 1) ∈ pm_tbl := pm_tin (by decide +kernel) rfl
theorem im_X5_puts : Cond.instanceMethod yX5_puts ∈ pm_tbl := pm_tin (by decide +kernel) rfl
theorem se_X5_puts : Cond.selects RX5 yX5_puts yX5_puts ∈ pm_tbl := pm_tin (by decide +kernel) rfl
theorem ml_X5_181 : Cond.methodLink RX5 181 yX5_bakes ∈ pm_tbl := pm_tin (by decide +kernel) rfl
theorem cd_X5_bakes : Cond.code yX5_bakes cX5_bakes 6 (pm_rt 1) ∈ pm_tbl := pm_tin (by decide +kernel) rfl
theorem im_X5_bakes : Cond.instanceMethod yX5_bakes ∈ pm_tbl := pm_tin (by decide +kernel) rfl
theorem se_X5_bakes : Cond.selects RX5 yX5_bakes yX5_bakes ∈ pm_tbl := pm_tin (by decide +kernel) rfl
theorem ml_X5_187 : Cond.methodLink RX5 187 yX5_dayOn ∈ pm_tbl := pm_tin (by decide +kernel) rfl
theorem cd_X5_dayOn : Cond.code yX5_dayOn cX5_dayOn 5 (pm_rt 1) ∈ pm_tbl := pm_tin (by decide +kernel) rfl
theorem im_X5_dayOn : Cond.instanceMethod yX5_dayOn ∈ pm_tbl := pm_tin (by decide +kernel) rfl
theorem se_X5_dayOn : Cond.selects RX5 yX5_dayOn yX5_dayOn ∈ pm_tbl := pm_tin (by decide +kernel) rfl
theorem ml_X5_190 : Cond.methodLink RX5 190 yX5_copies ∈ pm_tbl := pm_tin (by decide +kernel) rfl
theorem cd_X5_copies : Cond.code yX5_copies cX5_copies 4 (pm_rt 0) ∈ pm_tbl := pm_tin (by decide +kernel) rfl
theorem im_X5_copies : Cond.instanceMethod yX5_copies ∈ pm_tbl := pm_tin (by decide +kernel) rfl
theorem se_X5_copies : Cond.selects RX5 yX5_copies yX5_copies ∈ pm_tbl := pm_tin (by decide +kernel) rfl
theorem ml_X5_196 : Cond.methodLink RX5 196 yX5_daysGo ∈ pm_tbl := pm_tin (by decide +kernel) rfl
theorem cd_X5_daysGo : Cond.code yX5_daysGo cX5_daysGo 4 (pm_rt 0) ∈ pm_tbl := pm_tin (by decide +kernel) rfl
theorem im_X5_daysGo : Cond.instanceMethod yX5_daysGo ∈ pm_tbl := pm_tin (by decide +kernel) rfl
theorem se_X5_daysGo : Cond.selects RX5 yX5_daysGo yX5_daysGo ∈ pm_tbl := pm_tin (by decide +kernel) rfl
theorem ml_X5_199 : Cond.methodLink RX5 199 yX5_hungerOn ∈ pm_tbl := pm_tin (by decide +kernel) rfl
theorem cd_X5_hungerOn : Cond.code yX5_hungerOn cX5_hungerOn 4 (pm_rt 1) ∈ pm_tbl := pm_tin (by decide +kernel) rfl
theorem im_X5_hungerOn : Cond.instanceMethod yX5_hungerOn ∈ pm_tbl := pm_tin (by decide +kernel) rfl
theorem se_X5_hungerOn : Cond.selects RX5 yX5_hungerOn yX5_hungerOn ∈ pm_tbl := pm_tin (by decide +kernel) rfl
theorem ml_X5_202 : Cond.methodLink RX5 202 yX5_bitsOf ∈ pm_tbl := pm_tin (by decide +kernel) rfl
theorem cd_X5_bitsOf : Cond.code yX5_bitsOf cX5_bitsOf 3 (pm_rt 1) ∈ pm_tbl := pm_tin (by decide +kernel) rfl
theorem st_X5_bitsOf : Cond.static yX5_bitsOf ∈ pm_tbl := pm_tin (by decide +kernel) rfl
theorem ml_X5_205 : Cond.methodLink RX5 205 yX5_answersOf ∈ pm_tbl := pm_tin (by decide +kernel) rfl
theorem cd_X5_answersOf : Cond.code yX5_answersOf cX5_answersOf 2 (pm_rt 1) ∈ pm_tbl := pm_tin (by decide +kernel) rfl
theorem im_X5_answersOf : Cond.instanceMethod yX5_answersOf ∈ pm_tbl := pm_tin (by decide +kernel) rfl
theorem se_X5_answersOf : Cond.selects RX5 yX5_answersOf yX5_answersOf ∈ pm_tbl := pm_tin (by decide +kernel) rfl
theorem ml_X5_210 : Cond.methodLink RX5 210 yX5_lowest ∈ pm_tbl := pm_tin (by decide +kernel) rfl
theorem cd_X5_lowest : Cond.code yX5_lowest cX5_lowest 11 (pm_rt 2) ∈ pm_tbl := pm_tin (by decide +kernel) rfl
theorem st_X5_lowest : Cond.static yX5_lowest ∈ pm_tbl := pm_tin (by decide +kernel) rfl
theorem ml_X5_216 : Cond.methodLink RX5 216 yX5_byDamp ∈ pm_tbl := pm_tin (by decide +kernel) rfl
theorem cd_X5_byDamp : Cond.code yX5_byDamp cX5_byDamp 15 (pm_rt 2) ∈ pm_tbl := pm_tin (by decide +kernel) rfl
theorem im_X5_byDamp : Cond.instanceMethod yX5_byDamp ∈ pm_tbl := pm_tin (by decide +kernel) rfl
theorem se_X5_byDamp : Cond.selects RX5 yX5_byDamp yX5_byDamp ∈ pm_tbl := pm_tin (by decide +kernel) rfl
theorem ml_X5_222 : Cond.methodLink RX5 222 yX5_isAsSeen ∈ pm_tbl := pm_tin (by decide +kernel) rfl
theorem cd_X5_isAsSeen : Cond.code yX5_isAsSeen cX5_isAsSeen 6 (pm_rt 3) ∈ pm_tbl := pm_tin (by decide +kernel) rfl
theorem im_X5_isAsSeen : Cond.instanceMethod yX5_isAsSeen ∈ pm_tbl := pm_tin (by decide +kernel) rfl
theorem se_X5_isAsSeen : Cond.selects RX5 yX5_isAsSeen yX5_isAsSeen ∈ pm_tbl := pm_tin (by decide +kernel) rfl
theorem ml_X5_225 : Cond.methodLink RX5 225 yX5_kindsOf ∈ pm_tbl := pm_tin (by decide +kernel) rfl
theorem cd_X5_kindsOf : Cond.code yX5_kindsOf cX5_kindsOf 5 (pm_rt 1) ∈ pm_tbl := pm_tin (by decide +kernel) rfl
theorem im_X5_kindsOf : Cond.instanceMethod yX5_kindsOf ∈ pm_tbl := pm_tin (by decide +kernel) rfl
theorem se_X5_kindsOf : Cond.selects RX5 yX5_kindsOf yX5_kindsOf ∈ pm_tbl := pm_tin (by decide +kernel) rfl
theorem nt_X0 : Cond.initialized RX0 ∈ pm_tbl := pm_tin (by decide +kernel) rfl
theorem nt_X1 : Cond.initialized RX1 ∈ pm_tbl := pm_tin (by decide +kernel) rfl
theorem nt_X2 : Cond.initialized RX2 ∈ pm_tbl := pm_tin (by decide +kernel) rfl
theorem nt_X3 : Cond.initialized RX3 ∈ pm_tbl := pm_tin (by decide +kernel) rfl
theorem nt_X4 : Cond.initialized RX4 ∈ pm_tbl := pm_tin (by decide +kernel) rfl
theorem nt_X5 : Cond.initialized RX5 ∈ pm_tbl := pm_tin (by decide +kernel) rfl
theorem nt_J6 : Cond.initialized RJ6 ∈ pm_tbl := pm_tin (by decide +kernel) rfl
theorem nt_J0 : Cond.initialized RJ0 ∈ pm_tbl := pm_tin (by decide +kernel) rfl
theorem nt_J1 : Cond.initialized RJ1 ∈ pm_tbl := pm_tin (by decide +kernel) rfl
theorem nt_Math : Cond.initialized "java/lang/Math" ∈ pm_tbl := pm_tin (by decide +kernel) rfl
theorem nt_System : Cond.initialized "java/lang/System" ∈ pm_tbl := pm_tin (by decide +kernel) rfl
theorem pm_cn {own : String} {cc : ByteArray} {nL d rt pc : Nat} {t : pm_T} {T : List (Nat × pm_T)} (h : pm_sd own cc nL d rt pc t) (hT : ∀ q ∈ T, pm_sd own cc nL d rt q.1 q.2) : ∀ q ∈ (pc, t) :: T, pm_sd own cc nL d rt q.1 q.2 := List.forall_mem_cons.mpr ⟨h, hT⟩
end
section
/-! WHAT A LARDER IS, in numbers: L s j, by the class's own rows: row 0 the fields (0 fellows, 3 biscuits, 8 damp, 9 bite, 10 day, 11 questions), rows 1 .. 8 appetite, hunger, kind, subject, crumbs, whose, askDay, askSubject. -/
abbrev vI (x : Int32) : pm_V := .inl x
abbrev vJ (x : Int64) : pm_V := .inr (.inl x)
abbrev vR (c i s : Nat) : pm_V := .inr (.inr (c, i, s))
abbrev LD : Type := Nat → Nat → Nat
def lu (L : LD) (s j v : Nat) : LD := fun s' j' => if s' = s ∧ j' = j then v else L s' j'
def lr (L : LD) (s : Nat) (f : Nat → Nat) : LD := fun s' j' => if s' = s then f j' else L s' j'
abbrev la_at (h : pm_H) (i : Nat) (L : LD) : Prop := ∀ s j, h 0 i s j = nI (L s j)
def la_put (h : pm_H) (i : Nat) (L : LD) : pm_H := fun c i' s j => if c = 0 ∧ i' = i then nI (L s j) else h c i' s j
theorem la_put_at (h : pm_H) (i : Nat) (L : LD) : la_at (la_put h i L) i L := fun s j => by simp [la_put]
theorem la_put_eq (h : pm_H) (i : Nat) (L : LD) (s j : Nat) : la_put h i L 0 i s j = nI (L s j) := la_put_at h i L s j
theorem la_put_ne {h : pm_H} {i i' : Nat} {L : LD} {c s j : Nat} (hn : ¬ (c = 0 ∧ i' = i)) : la_put h i L c i' s j = h c i' s j := by simp [la_put, hn]
theorem la_self {h : pm_H} {i : Nat} {L : LD} (hL : la_at h i L) : la_put h i L = h := by
  funext c i' s j
  by_cases hc : c = 0 ∧ i' = i
  · obtain ⟨rfl, rfl⟩ := hc
    rw [la_put_eq, hL]
  · rw [la_put_ne hc]
theorem la_put2 (h : pm_H) (i : Nat) (L M : LD) : la_put (la_put h i L) i M = la_put h i M := by
  funext c i' s j
  by_cases hc : c = 0 ∧ i' = i <;> simp [la_put, hc]
theorem la_up (h : pm_H) (i : Nat) (L : LD) (s j v : Nat) : pm_up (la_put h i L) 0 i s j (nI v) = la_put h i (lu L s j v) := by
  funext c i' s' j'
  unfold pm_up la_put lu
  by_cases hc : c = 0 ∧ i' = i
  · obtain ⟨rfl, rfl⟩ := hc
    by_cases hs : s' = s ∧ j' = j <;> simp [hs]
  · have : ¬ (c = 0 ∧ i' = i ∧ s' = s ∧ j' = j) := fun q => hc ⟨q.1, q.2.1⟩
    simp [hc, this]
theorem la_comm (h : pm_H) {i j : Nat} (L M : LD) (hij : i ≠ j) : la_put (la_put h i L) j M = la_put (la_put h j M) i L := by
  funext c i' s k
  unfold la_put
  by_cases h1 : c = 0 ∧ i' = i
  · obtain ⟨rfl, rfl⟩ := h1
    simp [hij]
  · by_cases h2 : c = 0 ∧ i' = j
    · obtain ⟨rfl, rfl⟩ := h2
      simp [Ne.symm hij]
    · simp [h1, h2]
/-- the larder's bounds -/
def la_rel (s j : Nat) : Prop := (s = 0 ∧ (j = 0 ∨ j = 3 ∨ j = 8 ∨ j = 9 ∨ j = 10 ∨ j = 11)) ∨ ((s = 1 ∨ s = 2) ∧ j < 4) ∨ (3 ≤ s ∧ s ≤ 8 ∧ j < 6)
def la_ok (L : LD) : Prop := L 0 0 ≤ 4 ∧ L 0 3 ≤ 6 ∧ L 0 8 ≤ 9 ∧ (1 ≤ L 0 9 ∧ L 0 9 ≤ 20) ∧ L 0 10 ≤ 5000 ∧ L 0 11 ≤ 6 ∧ (∀ f, f < 4 → L 1 f ≤ 9 ∧ L 2 f ≤ 999) ∧ (∀ b, b < 6 → L 3 b ≤ 3 ∧ L 4 b ≤ 9 ∧ L 5 b ≤ 99 ∧ L 6 b ≤ 3) ∧ (∀ q, q < 6 → L 7 q ≤ 99 ∧ L 8 q ≤ 9) ∧ ∀ s j, ¬ la_rel s j → L s j = 0
def sp_sum (f : Nat → Nat) : Nat → Nat
  | 0 => 0
  | n + 1 => sp_sum f n + f n
def sp_or (f : Nat → Nat) : Nat → Nat
  | 0 => 0
  | n + 1 => sp_or f n ||| f n
theorem sp_sum_le {f : Nat → Nat} {m : Nat} : ∀ {n : Nat}, (∀ k, k < n → f k ≤ m) → sp_sum f n ≤ n * m
  | 0, _ => by simp [sp_sum]
  | n + 1, h => by
    have h1 := sp_sum_le (n := n) (fun k hk => h k (by omega))
    have h2 := h n (by omega)
    rw [sp_sum, Nat.add_mul, Nat.one_mul]
    omega
theorem sp_sum_congr {f g : Nat → Nat} : ∀ {n : Nat}, (∀ k, k < n → f k = g k) → sp_sum f n = sp_sum g n
  | 0, _ => rfl
  | n + 1, h => by
    rw [sp_sum, sp_sum, sp_sum_congr (n := n) (fun k hk => h k (by omega)), h n (by omega)]
theorem sp_or_congr {f g : Nat → Nat} : ∀ {n : Nat}, (∀ k, k < n → f k = g k) → sp_or f n = sp_or g n
  | 0, _ => rfl
  | n + 1, h => by
    rw [sp_or, sp_or, sp_or_congr (n := n) (fun k hk => h k (by omega)), h n (by omega)]
theorem sp_or_lt {f : Nat → Nat} {m : Nat} : ∀ {n : Nat}, (∀ k, k < n → f k < 2 ^ m) → sp_or f n < 2 ^ m
  | 0, _ => by simp [sp_or, Nat.two_pow_pos]
  | n + 1, h => by
    rw [sp_or]
    exact Nat.or_lt_two_pow (sp_or_lt (n := n) (fun k hk => h k (by omega))) (h n (by omega))
theorem sp_or_bit {f : Nat → Nat} {j : Nat} : ∀ {n : Nat}, (sp_or f n).testBit j = true ↔ ∃ k, k < n ∧ (f k).testBit j = true
  | 0 => by simp [sp_or]
  | n + 1 => by
    rw [sp_or, Nat.testBit_or, Bool.or_eq_true, sp_or_bit (n := n)]
    constructor
    · rintro (⟨k, h1, h2⟩ | h)
      · exact ⟨k, by omega, h2⟩
      · exact ⟨n, by omega, h⟩
    · rintro ⟨k, h1, h2⟩
      by_cases hk : k = n
      · subst hk; exact Or.inr h2
      · exact Or.inl ⟨k, by omega, h2⟩
theorem sp_bit1 {c : Prop} [Decidable c] {w j : Nat} : (if c then 2 ^ w else 0).testBit j = true ↔ c ∧ w = j := by
  by_cases hc : c
  · simp [hc, Nat.testBit_two_pow]
  · simp [hc]
/-- 1 shifted -/
theorem nI_shl {w : Nat} (h : w < 31) : (1 : Int32) <<< (nI w &&& 31) = nI (2 ^ w) := by
  have key : ∀ w : Fin 31, (1 : Int32) <<< (nI w.val &&& 31) = nI (2 ^ w.val) := by decide +kernel
  exact key ⟨w, h⟩
theorem nI_or (a b : Nat) : nI a ||| nI b = nI (a ||| b) := by
  apply Int32.toBitVec_inj.mp
  show (Int32.ofNat a).toBitVec ||| (Int32.ofNat b).toBitVec = (Int32.ofNat (a ||| b)).toBitVec
  simp [Int32.toBitVec_ofNat', BitVec.ofNat_or]
/-- one's place among n -/
def ixI (x : Int32) (n : Nat) : Prop := ∃ k, k < n ∧ x = nI k
theorem ixI_of {x : Int32} {n : Nat} (hn : n < 2 ^ 31) (h0 : ¬ x < 0) (h1 : ¬ nI n ≤ x) : ixI x n := by
  obtain ⟨j, hj, rfl⟩ := nI_of h0
  rw [nI_leI hn hj] at h1
  exact ⟨j, by omega, rfl⟩
theorem ixI_no0 {x : Int32} {n : Nat} (hn : n < 2 ^ 31) (h0 : x < 0) : ¬ ixI x n := by
  rintro ⟨k, hk, rfl⟩
  exact nI_pos (by omega) h0
theorem ixI_no1 {x : Int32} {n : Nat} (hn : n < 2 ^ 31) (h1 : nI n ≤ x) : ¬ ixI x n := by
  rintro ⟨k, hk, rfl⟩
  rw [nI_leI hn (by omega)] at h1
  omega
/-! the larder's own reckonings -/
def sp_loss (d k : Nat) : Nat := if k = 1 then d / 2 / 2 else if k = 2 then d / 2 + 1 else if k = 3 then 2 * (d / 2 + 1) else d / 2
def sp_spoil (L : LD) (b : Nat) : Nat := min (sp_loss (L 0 8) (L 3 b)) (L 5 b)
def sp_kn (L : LD) (f s : Nat) : Prop := ∃ b, b < L 0 3 ∧ L 6 b = f ∧ L 4 b = s ∧ L 0 9 ≤ L 5 b
def sp_knowers (L : LD) (s : Nat) : Nat := sp_or (fun b => if L 4 b = s ∧ L 0 9 ≤ L 5 b then 2 ^ L 6 b else 0) (L 0 3)
def sp_lore (L : LD) (f : Nat) : Nat := sp_or (fun b => if L 6 b = f ∧ L 0 9 ≤ L 5 b then 2 ^ L 4 b else 0) (L 0 3)
def sp_allLore (L : LD) : Nat := sp_or (fun b => if L 0 9 ≤ L 5 b then 2 ^ L 4 b else 0) (L 0 3)
def sp_owned (L : LD) (f : Nat) : Nat := sp_or (fun b => if L 6 b = f then 2 ^ b else 0) (L 0 3)
def sp_crumbsOf (L : LD) (f : Nat) : Nat := sp_sum (fun b => if L 6 b = f then L 5 b else 0) (L 0 3)
def sp_ans (L : LD) : Nat := sp_or (fun q => if L 7 q = L 0 10 ∧ sp_knowers L (L 8 q) ≠ 0 then 2 ^ q else 0) (L 0 11)
def sp_left (L : LD) (f : Nat) : Nat → Nat
  | 0 => L 1 f
  | n + 1 => if L 6 n = f then sp_left L f n - L 5 n else sp_left L f n
def sp_ate (L : LD) (f n : Nat) : Nat → Nat := fun b => if b < n ∧ L 6 b = f then L 5 b - sp_left L f b else L 5 b
def sp_hun (L : LD) (f : Nat) : Nat := if 0 < sp_left L f (L 0 3) ∧ L 2 f < 999 then L 2 f + 1 else L 2 f
def sp_feast (L : LD) (f : Nat) : LD := lu (lr L 5 (sp_ate L f (L 0 3))) 2 f (sp_hun L f)
def sp_eaten (L : LD) (f : Nat) : Nat := L 1 f - sp_left L f (L 0 3)
def sp_rot (L : LD) (n : Nat) : LD := lr L 5 (fun b => if b < n then L 5 b - sp_spoil L b else L 5 b)
def sp_feasts (L : LD) : Nat → LD
  | 0 => L
  | n + 1 => sp_feast (sp_feasts L n) n
def sp_meals (L : LD) : Nat → Nat
  | 0 => 0
  | n + 1 => sp_meals L n + sp_eaten (sp_feasts L n) n
def sp_live (L : LD) : LD := lu (sp_feasts (sp_rot L (L 0 3)) (L 0 0)) 0 10 (L 0 10 + 1)
def sp_day (L : LD) : Nat := sp_meals (sp_rot L (L 0 3)) (L 0 0)
theorem nz_eq {a : Nat} (h : a < 2 ^ 31) : (nI a = 0) = (a = 0) := by
  rw [show (0 : Int32) = nI 0 from rfl, nI_eq h (by decide)]
theorem nz_lt {a : Nat} (h : a < 2 ^ 31) : (nI a < 0) = False := eq_false (nI_pos h)
theorem nz_ge {a : Nat} (h : a < 2 ^ 31) : (0 ≤ nI a) = True := eq_true (nI_pos' h)
theorem nz_gt {a : Nat} (h : a < 2 ^ 31) : (0 < nI a) = (0 < a) := by
  rw [show (0 : Int32) = nI 0 from rfl, nI_ltI (by decide) h]
theorem nz_le {a : Nat} (h : a < 2 ^ 31) : (nI a ≤ 0) = (a = 0) := by
  rw [show (0 : Int32) = nI 0 from rfl, nI_leI h (by decide)]
  exact propext Nat.le_zero
theorem nz_00 : (0 : Int32) = nI 0 := rfl
theorem nz_10 : (1 : Int32) = nI 1 := rfl
theorem nz_n1 {a : Nat} (h : 1 ≤ a) : nI a + (-1) = nI (a - 1) := by
  obtain ⟨b, rfl⟩ : ∃ b, a = b + 1 := ⟨a - 1, by omega⟩
  exact pk_m1 b
theorem nI_shl1 {w : Nat} (h : w < 31) : nI 1 <<< (nI w &&& 31) = nI (2 ^ w) := nI_shl h
theorem nI_half2 {a : Nat} (h : a < 2 ^ 31) : nI a / nI 2 = nI (a / 2) := pk_div h (by decide) (by decide)
theorem nI_min {a b : Nat} (ha : a < 2 ^ 31) (hb : b < 2 ^ 31) : (if nI b < nI a then nI b else nI a) = nI (min a b) := by
  rw [Nat.min_def]
  by_cases h : b < a
  · rw [if_pos (by rw [nI_ltI hb ha]; exact h), if_neg (by omega)]
  · rw [if_neg (by rw [nI_ltI hb ha]; exact h), if_pos (by omega)]
theorem nI_min2 {a b : Nat} : (if b < a then nI b else nI a) = nI (min a b) := by
  rw [Nat.min_def]
  by_cases h : b < a
  · rw [if_pos h, if_neg (by omega)]
  · rw [if_neg h, if_pos (by omega)]
theorem lr_same {L : LD} {s j : Nat} {f : Nat → Nat} : lr L s f s j = f j := by simp [lr]
theorem lr_ne {L : LD} {s s' j : Nat} {f : Nat → Nat} (h : s' ≠ s) : lr L s f s' j = L s' j := by simp [lr, h]
theorem lu_same {L : LD} {s j v : Nat} : lu L s j v s j = v := by simp [lu]
theorem lu_ne {L : LD} {s j v s' j' : Nat} (h : ¬ (s' = s ∧ j' = j)) : lu L s j v s' j' = L s' j' := by simp [lu, h]
theorem lr_self (L : LD) (s : Nat) : lr L s (L s) = L := by
  funext s' j'
  by_cases h : s' = s
  · subst h; rw [lr_same]
  · rw [lr_ne h]
theorem lu_self (L : LD) (s j : Nat) : lu L s j (L s j) = L := by
  funext s' j'
  by_cases h : s' = s ∧ j' = j
  · obtain ⟨rfl, rfl⟩ := h; rw [lu_same]
  · rw [lu_ne h]
theorem lu_lr {L : LD} {s j v : Nat} {f g : Nat → Nat} (h : ∀ k, g k = if k = j then v else f k) : lu (lr L s f) s j v = lr L s g := by
  funext s' j'
  by_cases hs : s' = s
  · subst hs
    rw [lr_same, h]
    by_cases hj : j' = j
    · subst hj; rw [lu_same, if_pos rfl]
    · rw [lu_ne (by omega), lr_same, if_neg hj]
  · rw [lr_ne hs, lu_ne (by omega), lr_ne hs]
theorem lr_lr {L : LD} {s : Nat} {f g : Nat → Nat} : lr (lr L s f) s g = lr L s g := by
  funext s' j'
  by_cases hs : s' = s
  · subst hs; rw [lr_same, lr_same]
  · rw [lr_ne hs, lr_ne hs, lr_ne hs]
end
section
/-! Larder: its methods that only look. -/
def P_X0_hasFellow : Nat × Int32 × LD × pm_H → List pm_V → pm_H → Prop := fun g av h => match g with
  | (i, f, L, h0) => av = [vR 0 i 0, vI f] ∧ h = h0 ∧ la_at h0 i L ∧ la_ok L
def Q_X0_hasFellow : Nat × Int32 × LD × pm_H → Int32 → pm_H → Prop := fun g v h => match g with
  | (i, f, L, h0) => h = h0 ∧ ((ixI f (L 0 0) ∧ v = nI 1) ∨ (¬ ixI f (L 0 0) ∧ v = nI 0))
def T_X0_hasFellow : List (Nat × pm_T) := [
  (0, i_il 1 1),
  (1, i_iflt 16 4),
  (4, i_il 1 5),
  (5, i_al 0 6),
  (6, i_gi 0 0 9),
  (9, i_icge 16 12),
  (12, i_c (nI 1) 13),
  (13, i_go 17),
  (16, i_c (nI 0) 17),
  (17, i_zr)]
theorem k_X0_hasFellow : ∀ q ∈ T_X0_hasFellow, pm_sd RX0 cX0_hasFellow 2 1 3 q.1 q.2 := by
  unfold T_X0_hasFellow
  refine pm_cn (sd_iln (k := 1) (by decide +kernel) rfl rfl) ?_
  refine pm_cn (sd_iflt (off := 15) (by decide +kernel) (by decide) rfl) ?_
  refine pm_cn (sd_iln (k := 1) (by decide +kernel) rfl rfl) ?_
  refine pm_cn (sd_aln (k := 0) (by decide +kernel) rfl rfl) ?_
  refine pm_cn (sd_gi cl0_ in0_ (by decide) (fun _ => rfl) fl_X0_43 (by decide +kernel) rfl) ?_
  refine pm_cn (sd_icge (off := 7) (by decide +kernel) (by decide) rfl) ?_
  refine pm_cn (sd_iconst (z := 1) (by decide +kernel) (by decide +kernel) rfl) ?_
  refine pm_cn (sd_go (off := 4) (by decide +kernel) (by decide)) ?_
  refine pm_cn (sd_iconst (z := 0) (by decide +kernel) (by decide +kernel) rfl) ?_
  refine pm_cn (sd_zr (by decide +kernel)) ?_
  exact fun _ h => absurd h List.not_mem_nil
set_option maxHeartbeats 4000000 in
set_option maxRecDepth 100000 in
theorem pf_X0_hasFellow : pm_pf T_X0_hasFellow P_X0_hasFellow (pm_pi Q_X0_hasFellow) := by
  rintro ⟨i, f, L, h0⟩ av h K hK ⟨rfl, rfl, hL, hw⟩ hret
  show K (some 0) ([(0, vR 0 i 0), (1, vI f)], [], h)
  have hb : L 0 0 < 2 ^ 31 := by have := hw.1; omega
  refine hK [] 20 _ _ ?_
  conv => whnf
  repeat' (first
    | (refine ⟨fun c => ?_, fun c => ?_⟩ <;> (try simp (disch := omega) only [nI_leI, nI_ltI, nI_eq, nz_eq, nz_lt, nz_gt, nz_le, nz_ge, nz_00, nz_10, nz_n1, nI_add, pk_mul, pk_sub, nI_shl1, nI_or, nI_half2, nI_min2, la_put_eq, la_up, lr_same, lr_ne, lu_same, lu_ne, hL] at c) <;> first | (exfalso; omega) | conv => whnf)
    | (refine ⟨_, rfl, by omega, ?_⟩; conv => whnf)
    | (refine And.intro (by decide) ?_; conv => whnf))
  all_goals (try simp (disch := omega) only [nI_leI, nI_ltI, nI_eq, nz_eq, nz_lt, nz_gt, nz_le, nz_ge, nz_00, nz_10, nz_n1, nI_add, pk_mul, pk_sub, nI_shl1, nI_or, nI_half2, nI_min2, la_put_eq, la_up, lr_same, lr_ne, lu_same, lu_ne, hL])
  · exact hret _ _ ⟨rfl, Or.inr ⟨ixI_no0 hb (by assumption), rfl⟩⟩
  · exact hret _ _ ⟨rfl, Or.inr ⟨ixI_no1 hb (by assumption), rfl⟩⟩
  · exact hret _ _ ⟨rfl, Or.inl ⟨ixI_of hb (by assumption) (by assumption), rfl⟩⟩
theorem M_X0_hasFellow : pm_MT yX0_hasFellow cX0_hasFellow 2 3 1 P_X0_hasFellow (pm_pi Q_X0_hasFellow) := pm_met k_X0_hasFellow (by decide) rfl (by
  rintro ⟨g0, g1, g2, g3⟩ av h hp
  rw [hp.1]
  exact Nat.le_of_ble_eq_true rfl) pf_X0_hasFellow
theorem rc_X0_hasFellow : ∀ g av h, P_X0_hasFellow g av h → ∃ i t, av = .inr (.inr (0, i, 0)) :: t := by
  rintro ⟨g0, g1, g2, g3⟩ av h hp
  exact ⟨_, _, hp.1⟩
def P_X0_hasBiscuit : Nat × Int32 × LD × pm_H → List pm_V → pm_H → Prop := fun g av h => match g with
  | (i, f, L, h0) => av = [vR 0 i 0, vI f] ∧ h = h0 ∧ la_at h0 i L ∧ la_ok L
def Q_X0_hasBiscuit : Nat × Int32 × LD × pm_H → Int32 → pm_H → Prop := fun g v h => match g with
  | (i, f, L, h0) => h = h0 ∧ ((ixI f (L 0 3) ∧ v = nI 1) ∨ (¬ ixI f (L 0 3) ∧ v = nI 0))
def T_X0_hasBiscuit : List (Nat × pm_T) := [
  (0, i_il 1 1),
  (1, i_iflt 16 4),
  (4, i_il 1 5),
  (5, i_al 0 6),
  (6, i_gi 0 3 9),
  (9, i_icge 16 12),
  (12, i_c (nI 1) 13),
  (13, i_go 17),
  (16, i_c (nI 0) 17),
  (17, i_zr)]
theorem k_X0_hasBiscuit : ∀ q ∈ T_X0_hasBiscuit, pm_sd RX0 cX0_hasBiscuit 2 1 3 q.1 q.2 := by
  unfold T_X0_hasBiscuit
  refine pm_cn (sd_iln (k := 1) (by decide +kernel) rfl rfl) ?_
  refine pm_cn (sd_iflt (off := 15) (by decide +kernel) (by decide) rfl) ?_
  refine pm_cn (sd_iln (k := 1) (by decide +kernel) rfl rfl) ?_
  refine pm_cn (sd_aln (k := 0) (by decide +kernel) rfl rfl) ?_
  refine pm_cn (sd_gi cl0_ in0_ (by decide) (fun _ => rfl) fl_X0_46 (by decide +kernel) rfl) ?_
  refine pm_cn (sd_icge (off := 7) (by decide +kernel) (by decide) rfl) ?_
  refine pm_cn (sd_iconst (z := 1) (by decide +kernel) (by decide +kernel) rfl) ?_
  refine pm_cn (sd_go (off := 4) (by decide +kernel) (by decide)) ?_
  refine pm_cn (sd_iconst (z := 0) (by decide +kernel) (by decide +kernel) rfl) ?_
  refine pm_cn (sd_zr (by decide +kernel)) ?_
  exact fun _ h => absurd h List.not_mem_nil
set_option maxHeartbeats 4000000 in
set_option maxRecDepth 100000 in
theorem pf_X0_hasBiscuit : pm_pf T_X0_hasBiscuit P_X0_hasBiscuit (pm_pi Q_X0_hasBiscuit) := by
  rintro ⟨i, f, L, h0⟩ av h K hK ⟨rfl, rfl, hL, hw⟩ hret
  show K (some 0) ([(0, vR 0 i 0), (1, vI f)], [], h)
  have hb : L 0 3 < 2 ^ 31 := by have := hw.2.1; omega
  refine hK [] 20 _ _ ?_
  conv => whnf
  repeat' (first
    | (refine ⟨fun c => ?_, fun c => ?_⟩ <;> (try simp (disch := omega) only [nI_leI, nI_ltI, nI_eq, nz_eq, nz_lt, nz_gt, nz_le, nz_ge, nz_00, nz_10, nz_n1, nI_add, pk_mul, pk_sub, nI_shl1, nI_or, nI_half2, nI_min2, la_put_eq, la_up, lr_same, lr_ne, lu_same, lu_ne, hL] at c) <;> first | (exfalso; omega) | conv => whnf)
    | (refine ⟨_, rfl, by omega, ?_⟩; conv => whnf)
    | (refine And.intro (by decide) ?_; conv => whnf))
  all_goals (try simp (disch := omega) only [nI_leI, nI_ltI, nI_eq, nz_eq, nz_lt, nz_gt, nz_le, nz_ge, nz_00, nz_10, nz_n1, nI_add, pk_mul, pk_sub, nI_shl1, nI_or, nI_half2, nI_min2, la_put_eq, la_up, lr_same, lr_ne, lu_same, lu_ne, hL])
  · exact hret _ _ ⟨rfl, Or.inr ⟨ixI_no0 hb (by assumption), rfl⟩⟩
  · exact hret _ _ ⟨rfl, Or.inr ⟨ixI_no1 hb (by assumption), rfl⟩⟩
  · exact hret _ _ ⟨rfl, Or.inl ⟨ixI_of hb (by assumption) (by assumption), rfl⟩⟩
theorem M_X0_hasBiscuit : pm_MT yX0_hasBiscuit cX0_hasBiscuit 2 3 1 P_X0_hasBiscuit (pm_pi Q_X0_hasBiscuit) := pm_met k_X0_hasBiscuit (by decide) rfl (by
  rintro ⟨g0, g1, g2, g3⟩ av h hp
  rw [hp.1]
  exact Nat.le_of_ble_eq_true rfl) pf_X0_hasBiscuit
theorem rc_X0_hasBiscuit : ∀ g av h, P_X0_hasBiscuit g av h → ∃ i t, av = .inr (.inr (0, i, 0)) :: t := by
  rintro ⟨g0, g1, g2, g3⟩ av h hp
  exact ⟨_, _, hp.1⟩
/-- spoilOf(b) -/
def P_X0_spoilOf : Nat × Nat × LD × pm_H → List pm_V → pm_H → Prop := fun g av h => match g with
  | (i, b, L, h0) => av = [vR 0 i 0, vI (nI b)] ∧ h = h0 ∧ la_at h0 i L ∧ b < 6 ∧ L 0 8 ≤ 9 ∧ L 3 b ≤ 3 ∧ L 5 b ≤ 99
def Q_X0_spoilOf : Nat × Nat × LD × pm_H → Int32 → pm_H → Prop := fun g v h => match g with
  | (i, b, L, h0) => h = h0 ∧ v = nI (sp_spoil L b)
def T_X0_spoilOf : List (Nat × pm_T) := [
  (0, i_al 0 1),
  (1, i_gi 0 8 4),
  (4, i_c (nI 2) 5),
  (5, i_idiv 6),
  (6, i_is 2 7),
  (7, i_il 2 8),
  (8, i_is 3 9),
  (9, i_al 0 10),
  (10, i_gr 0 (fun i => (0, i, 3)) 13),
  (13, i_il 1 14),
  (14, i_ia 15),
  (15, i_c (nI 1) 16),
  (16, i_icne 26 19),
  (19, i_il 2 20),
  (20, i_c (nI 2) 21),
  (21, i_idiv 22),
  (22, i_is 3 23),
  (23, i_go 59),
  (26, i_al 0 27),
  (27, i_gr 0 (fun i => (0, i, 3)) 30),
  (30, i_il 1 31),
  (31, i_ia 32),
  (32, i_c (nI 2) 33),
  (33, i_icne 43 36),
  (36, i_il 2 37),
  (37, i_c (nI 1) 38),
  (38, i_iadd 39),
  (39, i_is 3 40),
  (40, i_go 59),
  (43, i_al 0 44),
  (44, i_gr 0 (fun i => (0, i, 3)) 47),
  (47, i_il 1 48),
  (48, i_ia 49),
  (49, i_c (nI 3) 50),
  (50, i_icne 59 53),
  (53, i_c (nI 2) 54),
  (54, i_il 2 55),
  (55, i_c (nI 1) 56),
  (56, i_iadd 57),
  (57, i_imul 58),
  (58, i_is 3 59),
  (59, i_il 3 60),
  (60, i_al 0 61),
  (61, i_gr 0 (fun i => (0, i, 5)) 64),
  (64, i_il 1 65),
  (65, i_ia 66),
  (66, i_mmin 69),
  (69, i_ir)]
theorem k_X0_spoilOf : ∀ q ∈ T_X0_spoilOf, pm_sd RX0 cX0_spoilOf 4 1 1 q.1 q.2 := by
  unfold T_X0_spoilOf
  refine pm_cn (sd_aln (k := 0) (by decide +kernel) rfl rfl) ?_
  refine pm_cn (sd_gi cl0_ in0_ (by decide) (fun _ => rfl) fl_X0_30 (by decide +kernel) rfl) ?_
  refine pm_cn (sd_iconst (z := 2) (by decide +kernel) (by decide +kernel) rfl) ?_
  refine pm_cn (sd_idiv (by decide +kernel) rfl) ?_
  refine pm_cn (sd_isn (k := 2) (by decide +kernel) rfl rfl (by decide)) ?_
  refine pm_cn (sd_iln (k := 2) (by decide +kernel) rfl rfl) ?_
  refine pm_cn (sd_isn (k := 3) (by decide +kernel) rfl rfl (by decide)) ?_
  refine pm_cn (sd_aln (k := 0) (by decide +kernel) rfl rfl) ?_
  refine pm_cn (sd_gr cl0_ in0_ (j := 4) (by decide) (fun _ => rfl) fl_X0_18 (by decide +kernel) rfl) ?_
  refine pm_cn (sd_iln (k := 1) (by decide +kernel) rfl rfl) ?_
  refine pm_cn (sd_ia (by decide +kernel) rfl) ?_
  refine pm_cn (sd_iconst (z := 1) (by decide +kernel) (by decide +kernel) rfl) ?_
  refine pm_cn (sd_icne (off := 10) (by decide +kernel) (by decide) rfl) ?_
  refine pm_cn (sd_iln (k := 2) (by decide +kernel) rfl rfl) ?_
  refine pm_cn (sd_iconst (z := 2) (by decide +kernel) (by decide +kernel) rfl) ?_
  refine pm_cn (sd_idiv (by decide +kernel) rfl) ?_
  refine pm_cn (sd_isn (k := 3) (by decide +kernel) rfl rfl (by decide)) ?_
  refine pm_cn (sd_go (off := 36) (by decide +kernel) (by decide)) ?_
  refine pm_cn (sd_aln (k := 0) (by decide +kernel) rfl rfl) ?_
  refine pm_cn (sd_gr cl0_ in0_ (j := 4) (by decide) (fun _ => rfl) fl_X0_18 (by decide +kernel) rfl) ?_
  refine pm_cn (sd_iln (k := 1) (by decide +kernel) rfl rfl) ?_
  refine pm_cn (sd_ia (by decide +kernel) rfl) ?_
  refine pm_cn (sd_iconst (z := 2) (by decide +kernel) (by decide +kernel) rfl) ?_
  refine pm_cn (sd_icne (off := 10) (by decide +kernel) (by decide) rfl) ?_
  refine pm_cn (sd_iln (k := 2) (by decide +kernel) rfl rfl) ?_
  refine pm_cn (sd_iconst (z := 1) (by decide +kernel) (by decide +kernel) rfl) ?_
  refine pm_cn (sd_iadd (by decide +kernel) rfl) ?_
  refine pm_cn (sd_isn (k := 3) (by decide +kernel) rfl rfl (by decide)) ?_
  refine pm_cn (sd_go (off := 19) (by decide +kernel) (by decide)) ?_
  refine pm_cn (sd_aln (k := 0) (by decide +kernel) rfl rfl) ?_
  refine pm_cn (sd_gr cl0_ in0_ (j := 4) (by decide) (fun _ => rfl) fl_X0_18 (by decide +kernel) rfl) ?_
  refine pm_cn (sd_iln (k := 1) (by decide +kernel) rfl rfl) ?_
  refine pm_cn (sd_ia (by decide +kernel) rfl) ?_
  refine pm_cn (sd_iconst (z := 3) (by decide +kernel) (by decide +kernel) rfl) ?_
  refine pm_cn (sd_icne (off := 9) (by decide +kernel) (by decide) rfl) ?_
  refine pm_cn (sd_iconst (z := 2) (by decide +kernel) (by decide +kernel) rfl) ?_
  refine pm_cn (sd_iln (k := 2) (by decide +kernel) rfl rfl) ?_
  refine pm_cn (sd_iconst (z := 1) (by decide +kernel) (by decide +kernel) rfl) ?_
  refine pm_cn (sd_iadd (by decide +kernel) rfl) ?_
  refine pm_cn (sd_imul (by decide +kernel) rfl) ?_
  refine pm_cn (sd_isn (k := 3) (by decide +kernel) rfl rfl (by decide)) ?_
  refine pm_cn (sd_iln (k := 3) (by decide +kernel) rfl rfl) ?_
  refine pm_cn (sd_aln (k := 0) (by decide +kernel) rfl rfl) ?_
  refine pm_cn (sd_gr cl0_ in0_ (j := 6) (by decide) (fun _ => rfl) fl_X0_24 (by decide +kernel) rfl) ?_
  refine pm_cn (sd_iln (k := 1) (by decide +kernel) rfl rfl) ?_
  refine pm_cn (sd_ia (by decide +kernel) rfl) ?_
  refine pm_cn (sd_mmin ml_X0_65 st_min nt_Math cd_min (by decide) (by decide +kernel) rfl) ?_
  refine pm_cn (sd_ir (by decide +kernel)) ?_
  exact fun _ h => absurd h List.not_mem_nil
theorem sp_loss_le {d k : Nat} (h : d ≤ 9) : sp_loss d k ≤ 10 := by
  unfold sp_loss
  by_cases h1 : k = 1
  · rw [if_pos h1]; omega
  · by_cases h2 : k = 2
    · rw [if_neg h1, if_pos h2]; omega
    · by_cases h3 : k = 3
      · rw [if_neg h1, if_neg h2, if_pos h3]; omega
      · rw [if_neg h1, if_neg h2, if_neg h3]; omega
set_option maxHeartbeats 4000000 in
set_option maxRecDepth 100000 in
theorem pf_X0_spoilOf : pm_pf T_X0_spoilOf P_X0_spoilOf (pm_pi Q_X0_spoilOf) := by
  rintro ⟨i, b, L, h0⟩ av h K hK ⟨rfl, rfl, hL, hb, h8, h3, h5⟩ hret
  show K (some 0) ([(0, vR 0 i 0), (1, vI (nI b))], [], h)
  have fin : ∀ y : Nat, y = sp_loss (L 0 8) (L 3 b) → K (some 59) ([(0, vR 0 i 0), (1, vI (nI b)), (3, vI (nI y))], [], h) := by
    intro y hy
    have hyb : y ≤ 10 := by rw [hy]; exact sp_loss_le h8
    refine hK [] 20 _ _ ?_
    conv => whnf
    repeat' (first
      | (refine ⟨fun c => ?_, fun c => ?_⟩ <;> (try simp (disch := omega) only [nI_leI, nI_ltI, nI_eq, nz_eq, nz_lt, nz_gt, nz_le, nz_ge, nz_00, nz_10, nz_n1, nI_add, pk_mul, pk_sub, nI_shl1, nI_or, nI_half2, nI_min2, la_put_eq, la_up, lr_same, lr_ne, lu_same, lu_ne, hL] at c) <;> first | (exfalso; omega) | conv => whnf)
      | (refine ⟨_, rfl, by omega, ?_⟩; conv => whnf)
      | (refine And.intro (by decide) ?_; conv => whnf))
    all_goals (try simp (disch := omega) only [nI_leI, nI_ltI, nI_eq, nz_eq, nz_lt, nz_gt, nz_le, nz_ge, nz_00, nz_10, nz_n1, nI_add, pk_mul, pk_sub, nI_shl1, nI_or, nI_half2, nI_min2, la_put_eq, la_up, lr_same, lr_ne, lu_same, lu_ne, hL])
    subst hy
    exact hret _ _ ⟨rfl, rfl⟩
  refine hK [(59, [0, 1, 3])] 40 _ _ ?_
  conv => whnf
  repeat' (first
    | (refine ⟨fun c => ?_, fun c => ?_⟩ <;> (try simp (disch := omega) only [nI_leI, nI_ltI, nI_eq, nz_eq, nz_lt, nz_gt, nz_le, nz_ge, nz_00, nz_10, nz_n1, nI_add, pk_mul, pk_sub, nI_shl1, nI_or, nI_half2, nI_min2, la_put_eq, la_up, lr_same, lr_ne, lu_same, lu_ne, hL] at c) <;> first | (exfalso; omega) | conv => whnf)
    | (refine ⟨_, rfl, by omega, ?_⟩; conv => whnf)
    | (refine And.intro (by decide) ?_; conv => whnf))
  all_goals (try simp (disch := omega) only [nI_leI, nI_ltI, nI_eq, nz_eq, nz_lt, nz_gt, nz_le, nz_ge, nz_00, nz_10, nz_n1, nI_add, pk_mul, pk_sub, nI_shl1, nI_or, nI_half2, nI_min2, la_put_eq, la_up, lr_same, lr_ne, lu_same, lu_ne, hL])
  all_goals (apply fin; unfold sp_loss; simp [*])
theorem M_X0_spoilOf : pm_MT yX0_spoilOf cX0_spoilOf 4 1 1 P_X0_spoilOf (pm_pi Q_X0_spoilOf) := pm_met k_X0_spoilOf (by decide) rfl (by
  rintro ⟨g0, g1, g2, g3⟩ av h hp
  rw [hp.1]
  exact Nat.le_of_ble_eq_true rfl) pf_X0_spoilOf
theorem rc_X0_spoilOf : ∀ g av h, P_X0_spoilOf g av h → ∃ i t, av = .inr (.inr (0, i, 0)) :: t := by
  rintro ⟨g0, g1, g2, g3⟩ av h hp
  exact ⟨_, _, hp.1⟩
/-- isKnower(f, s) -/
def P_X0_isKnower : Nat × Nat × Nat × LD × pm_H → List pm_V → pm_H → Prop := fun g av h => match g with
  | (i, f, s, L, h0) => av = [vR 0 i 0, vI (nI f), vI (nI s)] ∧ h = h0 ∧ la_at h0 i L ∧ la_ok L ∧ f < 2 ^ 31 ∧ s < 2 ^ 31
def Q_X0_isKnower : Nat × Nat × Nat × LD × pm_H → Int32 → pm_H → Prop := fun g v h => match g with
  | (i, f, s, L, h0) => h = h0 ∧ ((sp_kn L f s ∧ v = nI 1) ∨ (¬ sp_kn L f s ∧ v = nI 0))
def T_X0_isKnower : List (Nat × pm_T) := [
  (0, i_c (nI 0) 1),
  (1, i_is 3 2),
  (2, i_il 3 3),
  (3, i_al 0 4),
  (4, i_gi 0 3 7),
  (7, i_icge 51 10),
  (10, i_al 0 11),
  (11, i_gr 0 (fun i => (0, i, 6)) 14),
  (14, i_il 3 15),
  (15, i_ia 16),
  (16, i_il 1 17),
  (17, i_icne 45 20),
  (20, i_al 0 21),
  (21, i_gr 0 (fun i => (0, i, 4)) 24),
  (24, i_il 3 25),
  (25, i_ia 26),
  (26, i_il 2 27),
  (27, i_icne 45 30),
  (30, i_al 0 31),
  (31, i_gr 0 (fun i => (0, i, 5)) 34),
  (34, i_il 3 35),
  (35, i_ia 36),
  (36, i_al 0 37),
  (37, i_gi 0 9 40),
  (40, i_iclt 45 43),
  (43, i_c (nI 1) 44),
  (44, i_zr),
  (45, i_inc 3 (nI 1) 48),
  (48, i_go 2),
  (51, i_c (nI 0) 52),
  (52, i_zr)]
theorem k_X0_isKnower : ∀ q ∈ T_X0_isKnower, pm_sd RX0 cX0_isKnower 4 1 3 q.1 q.2 := by
  unfold T_X0_isKnower
  refine pm_cn (sd_iconst (z := 0) (by decide +kernel) (by decide +kernel) rfl) ?_
  refine pm_cn (sd_isn (k := 3) (by decide +kernel) rfl rfl (by decide)) ?_
  refine pm_cn (sd_iln (k := 3) (by decide +kernel) rfl rfl) ?_
  refine pm_cn (sd_aln (k := 0) (by decide +kernel) rfl rfl) ?_
  refine pm_cn (sd_gi cl0_ in0_ (by decide) (fun _ => rfl) fl_X0_46 (by decide +kernel) rfl) ?_
  refine pm_cn (sd_icge (off := 44) (by decide +kernel) (by decide) rfl) ?_
  refine pm_cn (sd_aln (k := 0) (by decide +kernel) rfl rfl) ?_
  refine pm_cn (sd_gr cl0_ in0_ (j := 7) (by decide) (fun _ => rfl) fl_X0_27 (by decide +kernel) rfl) ?_
  refine pm_cn (sd_iln (k := 3) (by decide +kernel) rfl rfl) ?_
  refine pm_cn (sd_ia (by decide +kernel) rfl) ?_
  refine pm_cn (sd_iln (k := 1) (by decide +kernel) rfl rfl) ?_
  refine pm_cn (sd_icne (off := 28) (by decide +kernel) (by decide) rfl) ?_
  refine pm_cn (sd_aln (k := 0) (by decide +kernel) rfl rfl) ?_
  refine pm_cn (sd_gr cl0_ in0_ (j := 5) (by decide) (fun _ => rfl) fl_X0_21 (by decide +kernel) rfl) ?_
  refine pm_cn (sd_iln (k := 3) (by decide +kernel) rfl rfl) ?_
  refine pm_cn (sd_ia (by decide +kernel) rfl) ?_
  refine pm_cn (sd_iln (k := 2) (by decide +kernel) rfl rfl) ?_
  refine pm_cn (sd_icne (off := 18) (by decide +kernel) (by decide) rfl) ?_
  refine pm_cn (sd_aln (k := 0) (by decide +kernel) rfl rfl) ?_
  refine pm_cn (sd_gr cl0_ in0_ (j := 6) (by decide) (fun _ => rfl) fl_X0_24 (by decide +kernel) rfl) ?_
  refine pm_cn (sd_iln (k := 3) (by decide +kernel) rfl rfl) ?_
  refine pm_cn (sd_ia (by decide +kernel) rfl) ?_
  refine pm_cn (sd_aln (k := 0) (by decide +kernel) rfl rfl) ?_
  refine pm_cn (sd_gi cl0_ in0_ (by decide) (fun _ => rfl) fl_X0_34 (by decide +kernel) rfl) ?_
  refine pm_cn (sd_iclt (off := 5) (by decide +kernel) (by decide) rfl) ?_
  refine pm_cn (sd_iconst (z := 1) (by decide +kernel) (by decide +kernel) rfl) ?_
  refine pm_cn (sd_zr (by decide +kernel)) ?_
  refine pm_cn (sd_inc (z := 1) (by decide +kernel) (by decide +kernel) rfl (by decide)) ?_
  refine pm_cn (sd_go (off := -46) (by decide +kernel) (by decide)) ?_
  refine pm_cn (sd_iconst (z := 0) (by decide +kernel) (by decide +kernel) rfl) ?_
  refine pm_cn (sd_zr (by decide +kernel)) ?_
  exact fun _ h => absurd h List.not_mem_nil
set_option maxHeartbeats 4000000 in
set_option maxRecDepth 100000 in
theorem pf_X0_isKnower : pm_pf T_X0_isKnower P_X0_isKnower (pm_pi Q_X0_isKnower) := by
  rintro ⟨i, f, s, L, h0⟩ av h K hK ⟨rfl, rfl, hL, ⟨w1, w2, w3, w4, w5, w6, w7, w8, w9⟩, hf, hs⟩ hret
  show K (some 0) ([(0, vR 0 i 0), (1, vI (nI f)), (2, vI (nI s))], [], h)
  have loop : ∀ n k, k + n = L 0 3 → (∀ b, b < k → ¬ (L 6 b = f ∧ L 4 b = s ∧ L 0 9 ≤ L 5 b)) → K (some 2) ([(0, vR 0 i 0), (1, vI (nI f)), (2, vI (nI s)), (3, vI (nI k))], [], h) := by
    intro n
    induction n with
    | zero =>
      intro k hk ha
      refine hK [(2, [0, 1, 2, 3])] 40 _ _ ?_
      conv => whnf
      repeat' (first
        | (refine ⟨fun c => ?_, fun c => ?_⟩ <;> (try simp (disch := omega) only [nI_leI, nI_ltI, nI_eq, nz_eq, nz_lt, nz_gt, nz_le, nz_ge, nz_00, nz_10, nz_n1, nI_add, pk_mul, pk_sub, nI_shl1, nI_or, nI_half2, nI_min2, la_put_eq, la_up, lr_same, lr_ne, lu_same, lu_ne, hL] at c) <;> first | (exfalso; omega) | conv => whnf)
        | (refine ⟨_, rfl, by omega, ?_⟩; conv => whnf)
        | (refine And.intro (by decide) ?_; conv => whnf))
      all_goals (try simp (disch := omega) only [nI_leI, nI_ltI, nI_eq, nz_eq, nz_lt, nz_gt, nz_le, nz_ge, nz_00, nz_10, nz_n1, nI_add, pk_mul, pk_sub, nI_shl1, nI_or, nI_half2, nI_min2, la_put_eq, la_up, lr_same, lr_ne, lu_same, lu_ne, hL])
      refine hret _ _ ⟨rfl, Or.inr ⟨?_, rfl⟩⟩
      rintro ⟨b, h1, h2⟩
      exact ha b (by omega) h2
    | succ n ih =>
      intro k hk ha
      have hB := w8 k (by omega)
      refine hK [(2, [0, 1, 2, 3])] 40 _ _ ?_
      conv => whnf
      repeat' (first
        | (refine ⟨fun c => ?_, fun c => ?_⟩ <;> (try simp (disch := omega) only [nI_leI, nI_ltI, nI_eq, nz_eq, nz_lt, nz_gt, nz_le, nz_ge, nz_00, nz_10, nz_n1, nI_add, pk_mul, pk_sub, nI_shl1, nI_or, nI_half2, nI_min2, la_put_eq, la_up, lr_same, lr_ne, lu_same, lu_ne, hL] at c) <;> first | (exfalso; omega) | conv => whnf)
        | (refine ⟨_, rfl, by omega, ?_⟩; conv => whnf)
        | (refine And.intro (by decide) ?_; conv => whnf))
      all_goals (try simp (disch := omega) only [nI_leI, nI_ltI, nI_eq, nz_eq, nz_lt, nz_gt, nz_le, nz_ge, nz_00, nz_10, nz_n1, nI_add, pk_mul, pk_sub, nI_shl1, nI_or, nI_half2, nI_min2, la_put_eq, la_up, lr_same, lr_ne, lu_same, lu_ne, hL])
      · refine ih (k + 1) (by omega) (fun b hb => ?_)
        rcases Nat.lt_or_ge b k with q | q
        · exact ha b q
        · have : b = k := by omega
          subst this; omega
      · refine ih (k + 1) (by omega) (fun b hb => ?_)
        rcases Nat.lt_or_ge b k with q | q
        · exact ha b q
        · have : b = k := by omega
          subst this; omega
      · refine ih (k + 1) (by omega) (fun b hb => ?_)
        rcases Nat.lt_or_ge b k with q | q
        · exact ha b q
        · have : b = k := by omega
          subst this; omega
      · exact hret _ _ ⟨rfl, Or.inl ⟨⟨k, by omega, by omega, by omega, by omega⟩, rfl⟩⟩
  refine hK [(2, [0, 1, 2, 3])] 10 _ _ ?_
  conv => whnf
  repeat' (first
    | (refine ⟨fun c => ?_, fun c => ?_⟩ <;> (try simp (disch := omega) only [nI_leI, nI_ltI, nI_eq, nz_eq, nz_lt, nz_gt, nz_le, nz_ge, nz_00, nz_10, nz_n1, nI_add, pk_mul, pk_sub, nI_shl1, nI_or, nI_half2, nI_min2, la_put_eq, la_up, lr_same, lr_ne, lu_same, lu_ne, hL] at c) <;> first | (exfalso; omega) | conv => whnf)
    | (refine ⟨_, rfl, by omega, ?_⟩; conv => whnf)
    | (refine And.intro (by decide) ?_; conv => whnf))
  all_goals (try simp (disch := omega) only [nI_leI, nI_ltI, nI_eq, nz_eq, nz_lt, nz_gt, nz_le, nz_ge, nz_00, nz_10, nz_n1, nI_add, pk_mul, pk_sub, nI_shl1, nI_or, nI_half2, nI_min2, la_put_eq, la_up, lr_same, lr_ne, lu_same, lu_ne, hL])
  exact loop (L 0 3) 0 (by omega) (fun b hb => by omega)
theorem M_X0_isKnower : pm_MT yX0_isKnower cX0_isKnower 4 3 1 P_X0_isKnower (pm_pi Q_X0_isKnower) := pm_met k_X0_isKnower (by decide) rfl (by
  rintro ⟨g0, g1, g2, g3, g4⟩ av h hp
  rw [hp.1]
  exact Nat.le_of_ble_eq_true rfl) pf_X0_isKnower
theorem rc_X0_isKnower : ∀ g av h, P_X0_isKnower g av h → ∃ i t, av = .inr (.inr (0, i, 0)) :: t := by
  rintro ⟨g0, g1, g2, g3, g4⟩ av h hp
  exact ⟨_, _, hp.1⟩
/-- knowersOf(s) -/
def P_X0_knowersOf : Nat × Nat × LD × pm_H → List pm_V → pm_H → Prop := fun g av h => match g with
  | (i, s, L, h0) => av = [vR 0 i 0, vI (nI s)] ∧ h = h0 ∧ la_at h0 i L ∧ la_ok L ∧ s < 2 ^ 31
def Q_X0_knowersOf : Nat × Nat × LD × pm_H → Int32 → pm_H → Prop := fun g v h => match g with
  | (i, s, L, h0) => h = h0 ∧ v = nI (sp_knowers L s)
def T_X0_knowersOf : List (Nat × pm_T) := [
  (0, i_c (nI 0) 1),
  (1, i_is 2 2),
  (2, i_c (nI 0) 3),
  (3, i_is 3 4),
  (4, i_il 3 5),
  (5, i_al 0 6),
  (6, i_gi 0 3 9),
  (9, i_icge 52 12),
  (12, i_al 0 13),
  (13, i_gr 0 (fun i => (0, i, 4)) 16),
  (16, i_il 3 17),
  (17, i_ia 18),
  (18, i_il 1 19),
  (19, i_icne 46 22),
  (22, i_al 0 23),
  (23, i_gr 0 (fun i => (0, i, 5)) 26),
  (26, i_il 3 27),
  (27, i_ia 28),
  (28, i_al 0 29),
  (29, i_gi 0 9 32),
  (32, i_iclt 46 35),
  (35, i_il 2 36),
  (36, i_c (nI 1) 37),
  (37, i_al 0 38),
  (38, i_gr 0 (fun i => (0, i, 6)) 41),
  (41, i_il 3 42),
  (42, i_ia 43),
  (43, i_ishl 44),
  (44, i_ior 45),
  (45, i_is 2 46),
  (46, i_inc 3 (nI 1) 49),
  (49, i_go 4),
  (52, i_il 2 53),
  (53, i_ir)]
theorem k_X0_knowersOf : ∀ q ∈ T_X0_knowersOf, pm_sd RX0 cX0_knowersOf 4 1 1 q.1 q.2 := by
  unfold T_X0_knowersOf
  refine pm_cn (sd_iconst (z := 0) (by decide +kernel) (by decide +kernel) rfl) ?_
  refine pm_cn (sd_isn (k := 2) (by decide +kernel) rfl rfl (by decide)) ?_
  refine pm_cn (sd_iconst (z := 0) (by decide +kernel) (by decide +kernel) rfl) ?_
  refine pm_cn (sd_isn (k := 3) (by decide +kernel) rfl rfl (by decide)) ?_
  refine pm_cn (sd_iln (k := 3) (by decide +kernel) rfl rfl) ?_
  refine pm_cn (sd_aln (k := 0) (by decide +kernel) rfl rfl) ?_
  refine pm_cn (sd_gi cl0_ in0_ (by decide) (fun _ => rfl) fl_X0_46 (by decide +kernel) rfl) ?_
  refine pm_cn (sd_icge (off := 43) (by decide +kernel) (by decide) rfl) ?_
  refine pm_cn (sd_aln (k := 0) (by decide +kernel) rfl rfl) ?_
  refine pm_cn (sd_gr cl0_ in0_ (j := 5) (by decide) (fun _ => rfl) fl_X0_21 (by decide +kernel) rfl) ?_
  refine pm_cn (sd_iln (k := 3) (by decide +kernel) rfl rfl) ?_
  refine pm_cn (sd_ia (by decide +kernel) rfl) ?_
  refine pm_cn (sd_iln (k := 1) (by decide +kernel) rfl rfl) ?_
  refine pm_cn (sd_icne (off := 27) (by decide +kernel) (by decide) rfl) ?_
  refine pm_cn (sd_aln (k := 0) (by decide +kernel) rfl rfl) ?_
  refine pm_cn (sd_gr cl0_ in0_ (j := 6) (by decide) (fun _ => rfl) fl_X0_24 (by decide +kernel) rfl) ?_
  refine pm_cn (sd_iln (k := 3) (by decide +kernel) rfl rfl) ?_
  refine pm_cn (sd_ia (by decide +kernel) rfl) ?_
  refine pm_cn (sd_aln (k := 0) (by decide +kernel) rfl rfl) ?_
  refine pm_cn (sd_gi cl0_ in0_ (by decide) (fun _ => rfl) fl_X0_34 (by decide +kernel) rfl) ?_
  refine pm_cn (sd_iclt (off := 14) (by decide +kernel) (by decide) rfl) ?_
  refine pm_cn (sd_iln (k := 2) (by decide +kernel) rfl rfl) ?_
  refine pm_cn (sd_iconst (z := 1) (by decide +kernel) (by decide +kernel) rfl) ?_
  refine pm_cn (sd_aln (k := 0) (by decide +kernel) rfl rfl) ?_
  refine pm_cn (sd_gr cl0_ in0_ (j := 7) (by decide) (fun _ => rfl) fl_X0_27 (by decide +kernel) rfl) ?_
  refine pm_cn (sd_iln (k := 3) (by decide +kernel) rfl rfl) ?_
  refine pm_cn (sd_ia (by decide +kernel) rfl) ?_
  refine pm_cn (sd_ishl (by decide +kernel) rfl) ?_
  refine pm_cn (sd_ior (by decide +kernel) rfl) ?_
  refine pm_cn (sd_isn (k := 2) (by decide +kernel) rfl rfl (by decide)) ?_
  refine pm_cn (sd_inc (z := 1) (by decide +kernel) (by decide +kernel) rfl (by decide)) ?_
  refine pm_cn (sd_go (off := -45) (by decide +kernel) (by decide)) ?_
  refine pm_cn (sd_iln (k := 2) (by decide +kernel) rfl rfl) ?_
  refine pm_cn (sd_ir (by decide +kernel)) ?_
  exact fun _ h => absurd h List.not_mem_nil
set_option maxHeartbeats 4000000 in
set_option maxRecDepth 100000 in
theorem pf_X0_knowersOf : pm_pf T_X0_knowersOf P_X0_knowersOf (pm_pi Q_X0_knowersOf) := by
  rintro ⟨i, s, L, h0⟩ av h K hK ⟨rfl, rfl, hL, ⟨w1, w2, w3, w4, w5, w6, w7, w8, w9⟩, hs⟩ hret
  show K (some 0) ([(0, vR 0 i 0), (1, vI (nI s))], [], h)
  have loop : ∀ n k a, k + n = L 0 3 → a = sp_or (fun b => if L 4 b = s ∧ L 0 9 ≤ L 5 b then 2 ^ L 6 b else 0) k → K (some 4) ([(0, vR 0 i 0), (1, vI (nI s)), (2, vI (nI a)), (3, vI (nI k))], [], h) := by
    intro n
    induction n with
    | zero =>
      intro k a hk ha
      refine hK [(4, [0, 1, 2, 3])] 40 _ _ ?_
      conv => whnf
      repeat' (first
        | (refine ⟨fun c => ?_, fun c => ?_⟩ <;> (try simp (disch := omega) only [nI_leI, nI_ltI, nI_eq, nz_eq, nz_lt, nz_gt, nz_le, nz_ge, nz_00, nz_10, nz_n1, nI_add, pk_mul, pk_sub, nI_shl1, nI_or, nI_half2, nI_min2, la_put_eq, la_up, lr_same, lr_ne, lu_same, lu_ne, hL] at c) <;> first | (exfalso; omega) | conv => whnf)
        | (refine ⟨_, rfl, by omega, ?_⟩; conv => whnf)
        | (refine And.intro (by decide) ?_; conv => whnf))
      all_goals (try simp (disch := omega) only [nI_leI, nI_ltI, nI_eq, nz_eq, nz_lt, nz_gt, nz_le, nz_ge, nz_00, nz_10, nz_n1, nI_add, pk_mul, pk_sub, nI_shl1, nI_or, nI_half2, nI_min2, la_put_eq, la_up, lr_same, lr_ne, lu_same, lu_ne, hL])
      have : k = L 0 3 := by omega
      subst this
      exact hret _ _ ⟨rfl, by rw [ha]; rfl⟩
    | succ n ih =>
      intro k a hk ha
      have hB := w8 k (by omega)
      refine hK [(4, [0, 1, 2, 3])] 40 _ _ ?_
      conv => whnf
      repeat' (first
        | (refine ⟨fun c => ?_, fun c => ?_⟩ <;> (try simp (disch := omega) only [nI_leI, nI_ltI, nI_eq, nz_eq, nz_lt, nz_gt, nz_le, nz_ge, nz_00, nz_10, nz_n1, nI_add, pk_mul, pk_sub, nI_shl1, nI_or, nI_half2, nI_min2, la_put_eq, la_up, lr_same, lr_ne, lu_same, lu_ne, hL] at c) <;> first | (exfalso; omega) | conv => whnf)
        | (refine ⟨_, rfl, by omega, ?_⟩; conv => whnf)
        | (refine And.intro (by decide) ?_; conv => whnf))
      all_goals (try simp (disch := omega) only [nI_leI, nI_ltI, nI_eq, nz_eq, nz_lt, nz_gt, nz_le, nz_ge, nz_00, nz_10, nz_n1, nI_add, pk_mul, pk_sub, nI_shl1, nI_or, nI_half2, nI_min2, la_put_eq, la_up, lr_same, lr_ne, lu_same, lu_ne, hL])
      all_goals (refine ih (k + 1) _ (by omega) ?_; rw [sp_or, ← ha]; first | rw [if_pos (by omega)] | rw [if_neg (by omega), Nat.or_zero])
  refine hK [(4, [0, 1, 2, 3])] 10 _ _ ?_
  conv => whnf
  repeat' (first
    | (refine ⟨fun c => ?_, fun c => ?_⟩ <;> (try simp (disch := omega) only [nI_leI, nI_ltI, nI_eq, nz_eq, nz_lt, nz_gt, nz_le, nz_ge, nz_00, nz_10, nz_n1, nI_add, pk_mul, pk_sub, nI_shl1, nI_or, nI_half2, nI_min2, la_put_eq, la_up, lr_same, lr_ne, lu_same, lu_ne, hL] at c) <;> first | (exfalso; omega) | conv => whnf)
    | (refine ⟨_, rfl, by omega, ?_⟩; conv => whnf)
    | (refine And.intro (by decide) ?_; conv => whnf))
  all_goals (try simp (disch := omega) only [nI_leI, nI_ltI, nI_eq, nz_eq, nz_lt, nz_gt, nz_le, nz_ge, nz_00, nz_10, nz_n1, nI_add, pk_mul, pk_sub, nI_shl1, nI_or, nI_half2, nI_min2, la_put_eq, la_up, lr_same, lr_ne, lu_same, lu_ne, hL])
  exact loop (L 0 3) 0 0 (by omega) rfl
theorem M_X0_knowersOf : pm_MT yX0_knowersOf cX0_knowersOf 4 1 1 P_X0_knowersOf (pm_pi Q_X0_knowersOf) := pm_met k_X0_knowersOf (by decide) rfl (by
  rintro ⟨g0, g1, g2, g3⟩ av h hp
  rw [hp.1]
  exact Nat.le_of_ble_eq_true rfl) pf_X0_knowersOf
theorem rc_X0_knowersOf : ∀ g av h, P_X0_knowersOf g av h → ∃ i t, av = .inr (.inr (0, i, 0)) :: t := by
  rintro ⟨g0, g1, g2, g3⟩ av h hp
  exact ⟨_, _, hp.1⟩
/-- loreOf(f) -/
def P_X0_loreOf : Nat × Nat × LD × pm_H → List pm_V → pm_H → Prop := fun g av h => match g with
  | (i, s, L, h0) => av = [vR 0 i 0, vI (nI s)] ∧ h = h0 ∧ la_at h0 i L ∧ la_ok L ∧ s < 2 ^ 31
def Q_X0_loreOf : Nat × Nat × LD × pm_H → Int32 → pm_H → Prop := fun g v h => match g with
  | (i, s, L, h0) => h = h0 ∧ v = nI (sp_lore L s)
def T_X0_loreOf : List (Nat × pm_T) := [
  (0, i_c (nI 0) 1),
  (1, i_is 2 2),
  (2, i_c (nI 0) 3),
  (3, i_is 3 4),
  (4, i_il 3 5),
  (5, i_al 0 6),
  (6, i_gi 0 3 9),
  (9, i_icge 52 12),
  (12, i_al 0 13),
  (13, i_gr 0 (fun i => (0, i, 6)) 16),
  (16, i_il 3 17),
  (17, i_ia 18),
  (18, i_il 1 19),
  (19, i_icne 46 22),
  (22, i_al 0 23),
  (23, i_gr 0 (fun i => (0, i, 5)) 26),
  (26, i_il 3 27),
  (27, i_ia 28),
  (28, i_al 0 29),
  (29, i_gi 0 9 32),
  (32, i_iclt 46 35),
  (35, i_il 2 36),
  (36, i_c (nI 1) 37),
  (37, i_al 0 38),
  (38, i_gr 0 (fun i => (0, i, 4)) 41),
  (41, i_il 3 42),
  (42, i_ia 43),
  (43, i_ishl 44),
  (44, i_ior 45),
  (45, i_is 2 46),
  (46, i_inc 3 (nI 1) 49),
  (49, i_go 4),
  (52, i_il 2 53),
  (53, i_ir)]
theorem k_X0_loreOf : ∀ q ∈ T_X0_loreOf, pm_sd RX0 cX0_loreOf 4 1 1 q.1 q.2 := by
  unfold T_X0_loreOf
  refine pm_cn (sd_iconst (z := 0) (by decide +kernel) (by decide +kernel) rfl) ?_
  refine pm_cn (sd_isn (k := 2) (by decide +kernel) rfl rfl (by decide)) ?_
  refine pm_cn (sd_iconst (z := 0) (by decide +kernel) (by decide +kernel) rfl) ?_
  refine pm_cn (sd_isn (k := 3) (by decide +kernel) rfl rfl (by decide)) ?_
  refine pm_cn (sd_iln (k := 3) (by decide +kernel) rfl rfl) ?_
  refine pm_cn (sd_aln (k := 0) (by decide +kernel) rfl rfl) ?_
  refine pm_cn (sd_gi cl0_ in0_ (by decide) (fun _ => rfl) fl_X0_46 (by decide +kernel) rfl) ?_
  refine pm_cn (sd_icge (off := 43) (by decide +kernel) (by decide) rfl) ?_
  refine pm_cn (sd_aln (k := 0) (by decide +kernel) rfl rfl) ?_
  refine pm_cn (sd_gr cl0_ in0_ (j := 7) (by decide) (fun _ => rfl) fl_X0_27 (by decide +kernel) rfl) ?_
  refine pm_cn (sd_iln (k := 3) (by decide +kernel) rfl rfl) ?_
  refine pm_cn (sd_ia (by decide +kernel) rfl) ?_
  refine pm_cn (sd_iln (k := 1) (by decide +kernel) rfl rfl) ?_
  refine pm_cn (sd_icne (off := 27) (by decide +kernel) (by decide) rfl) ?_
  refine pm_cn (sd_aln (k := 0) (by decide +kernel) rfl rfl) ?_
  refine pm_cn (sd_gr cl0_ in0_ (j := 6) (by decide) (fun _ => rfl) fl_X0_24 (by decide +kernel) rfl) ?_
  refine pm_cn (sd_iln (k := 3) (by decide +kernel) rfl rfl) ?_
  refine pm_cn (sd_ia (by decide +kernel) rfl) ?_
  refine pm_cn (sd_aln (k := 0) (by decide +kernel) rfl rfl) ?_
  refine pm_cn (sd_gi cl0_ in0_ (by decide) (fun _ => rfl) fl_X0_34 (by decide +kernel) rfl) ?_
  refine pm_cn (sd_iclt (off := 14) (by decide +kernel) (by decide) rfl) ?_
  refine pm_cn (sd_iln (k := 2) (by decide +kernel) rfl rfl) ?_
  refine pm_cn (sd_iconst (z := 1) (by decide +kernel) (by decide +kernel) rfl) ?_
  refine pm_cn (sd_aln (k := 0) (by decide +kernel) rfl rfl) ?_
  refine pm_cn (sd_gr cl0_ in0_ (j := 5) (by decide) (fun _ => rfl) fl_X0_21 (by decide +kernel) rfl) ?_
  refine pm_cn (sd_iln (k := 3) (by decide +kernel) rfl rfl) ?_
  refine pm_cn (sd_ia (by decide +kernel) rfl) ?_
  refine pm_cn (sd_ishl (by decide +kernel) rfl) ?_
  refine pm_cn (sd_ior (by decide +kernel) rfl) ?_
  refine pm_cn (sd_isn (k := 2) (by decide +kernel) rfl rfl (by decide)) ?_
  refine pm_cn (sd_inc (z := 1) (by decide +kernel) (by decide +kernel) rfl (by decide)) ?_
  refine pm_cn (sd_go (off := -45) (by decide +kernel) (by decide)) ?_
  refine pm_cn (sd_iln (k := 2) (by decide +kernel) rfl rfl) ?_
  refine pm_cn (sd_ir (by decide +kernel)) ?_
  exact fun _ h => absurd h List.not_mem_nil
set_option maxHeartbeats 4000000 in
set_option maxRecDepth 100000 in
theorem pf_X0_loreOf : pm_pf T_X0_loreOf P_X0_loreOf (pm_pi Q_X0_loreOf) := by
  rintro ⟨i, s, L, h0⟩ av h K hK ⟨rfl, rfl, hL, ⟨w1, w2, w3, w4, w5, w6, w7, w8, w9⟩, hs⟩ hret
  show K (some 0) ([(0, vR 0 i 0), (1, vI (nI s))], [], h)
  have loop : ∀ n k a, k + n = L 0 3 → a = sp_or (fun b => if L 6 b = s ∧ L 0 9 ≤ L 5 b then 2 ^ L 4 b else 0) k → K (some 4) ([(0, vR 0 i 0), (1, vI (nI s)), (2, vI (nI a)), (3, vI (nI k))], [], h) := by
    intro n
    induction n with
    | zero =>
      intro k a hk ha
      refine hK [(4, [0, 1, 2, 3])] 40 _ _ ?_
      conv => whnf
      repeat' (first
        | (refine ⟨fun c => ?_, fun c => ?_⟩ <;> (try simp (disch := omega) only [nI_leI, nI_ltI, nI_eq, nz_eq, nz_lt, nz_gt, nz_le, nz_ge, nz_00, nz_10, nz_n1, nI_add, pk_mul, pk_sub, nI_shl1, nI_or, nI_half2, nI_min2, la_put_eq, la_up, lr_same, lr_ne, lu_same, lu_ne, hL] at c) <;> first | (exfalso; omega) | conv => whnf)
        | (refine ⟨_, rfl, by omega, ?_⟩; conv => whnf)
        | (refine And.intro (by decide) ?_; conv => whnf))
      all_goals (try simp (disch := omega) only [nI_leI, nI_ltI, nI_eq, nz_eq, nz_lt, nz_gt, nz_le, nz_ge, nz_00, nz_10, nz_n1, nI_add, pk_mul, pk_sub, nI_shl1, nI_or, nI_half2, nI_min2, la_put_eq, la_up, lr_same, lr_ne, lu_same, lu_ne, hL])
      have : k = L 0 3 := by omega
      subst this
      exact hret _ _ ⟨rfl, by rw [ha]; rfl⟩
    | succ n ih =>
      intro k a hk ha
      have hB := w8 k (by omega)
      refine hK [(4, [0, 1, 2, 3])] 40 _ _ ?_
      conv => whnf
      repeat' (first
        | (refine ⟨fun c => ?_, fun c => ?_⟩ <;> (try simp (disch := omega) only [nI_leI, nI_ltI, nI_eq, nz_eq, nz_lt, nz_gt, nz_le, nz_ge, nz_00, nz_10, nz_n1, nI_add, pk_mul, pk_sub, nI_shl1, nI_or, nI_half2, nI_min2, la_put_eq, la_up, lr_same, lr_ne, lu_same, lu_ne, hL] at c) <;> first | (exfalso; omega) | conv => whnf)
        | (refine ⟨_, rfl, by omega, ?_⟩; conv => whnf)
        | (refine And.intro (by decide) ?_; conv => whnf))
      all_goals (try simp (disch := omega) only [nI_leI, nI_ltI, nI_eq, nz_eq, nz_lt, nz_gt, nz_le, nz_ge, nz_00, nz_10, nz_n1, nI_add, pk_mul, pk_sub, nI_shl1, nI_or, nI_half2, nI_min2, la_put_eq, la_up, lr_same, lr_ne, lu_same, lu_ne, hL])
      all_goals (refine ih (k + 1) _ (by omega) ?_; rw [sp_or, ← ha]; first | rw [if_pos (by omega)] | rw [if_neg (by omega), Nat.or_zero])
  refine hK [(4, [0, 1, 2, 3])] 10 _ _ ?_
  conv => whnf
  repeat' (first
    | (refine ⟨fun c => ?_, fun c => ?_⟩ <;> (try simp (disch := omega) only [nI_leI, nI_ltI, nI_eq, nz_eq, nz_lt, nz_gt, nz_le, nz_ge, nz_00, nz_10, nz_n1, nI_add, pk_mul, pk_sub, nI_shl1, nI_or, nI_half2, nI_min2, la_put_eq, la_up, lr_same, lr_ne, lu_same, lu_ne, hL] at c) <;> first | (exfalso; omega) | conv => whnf)
    | (refine ⟨_, rfl, by omega, ?_⟩; conv => whnf)
    | (refine And.intro (by decide) ?_; conv => whnf))
  all_goals (try simp (disch := omega) only [nI_leI, nI_ltI, nI_eq, nz_eq, nz_lt, nz_gt, nz_le, nz_ge, nz_00, nz_10, nz_n1, nI_add, pk_mul, pk_sub, nI_shl1, nI_or, nI_half2, nI_min2, la_put_eq, la_up, lr_same, lr_ne, lu_same, lu_ne, hL])
  exact loop (L 0 3) 0 0 (by omega) rfl
theorem M_X0_loreOf : pm_MT yX0_loreOf cX0_loreOf 4 1 1 P_X0_loreOf (pm_pi Q_X0_loreOf) := pm_met k_X0_loreOf (by decide) rfl (by
  rintro ⟨g0, g1, g2, g3⟩ av h hp
  rw [hp.1]
  exact Nat.le_of_ble_eq_true rfl) pf_X0_loreOf
theorem rc_X0_loreOf : ∀ g av h, P_X0_loreOf g av h → ∃ i t, av = .inr (.inr (0, i, 0)) :: t := by
  rintro ⟨g0, g1, g2, g3⟩ av h hp
  exact ⟨_, _, hp.1⟩
/-- allLore() -/
def P_X0_allLore : Nat × LD × pm_H → List pm_V → pm_H → Prop := fun g av h => match g with
  | (i, L, h0) => av = [vR 0 i 0] ∧ h = h0 ∧ la_at h0 i L ∧ la_ok L
def Q_X0_allLore : Nat × LD × pm_H → Int32 → pm_H → Prop := fun g v h => match g with
  | (i, L, h0) => h = h0 ∧ v = nI (sp_allLore L)
def T_X0_allLore : List (Nat × pm_T) := [
  (0, i_c (nI 0) 1),
  (1, i_is 1 2),
  (2, i_c (nI 0) 3),
  (3, i_is 2 4),
  (4, i_il 2 5),
  (5, i_al 0 6),
  (6, i_gi 0 3 9),
  (9, i_icge 42 12),
  (12, i_al 0 13),
  (13, i_gr 0 (fun i => (0, i, 5)) 16),
  (16, i_il 2 17),
  (17, i_ia 18),
  (18, i_al 0 19),
  (19, i_gi 0 9 22),
  (22, i_iclt 36 25),
  (25, i_il 1 26),
  (26, i_c (nI 1) 27),
  (27, i_al 0 28),
  (28, i_gr 0 (fun i => (0, i, 4)) 31),
  (31, i_il 2 32),
  (32, i_ia 33),
  (33, i_ishl 34),
  (34, i_ior 35),
  (35, i_is 1 36),
  (36, i_inc 2 (nI 1) 39),
  (39, i_go 4),
  (42, i_il 1 43),
  (43, i_ir)]
theorem k_X0_allLore : ∀ q ∈ T_X0_allLore, pm_sd RX0 cX0_allLore 3 1 1 q.1 q.2 := by
  unfold T_X0_allLore
  refine pm_cn (sd_iconst (z := 0) (by decide +kernel) (by decide +kernel) rfl) ?_
  refine pm_cn (sd_isn (k := 1) (by decide +kernel) rfl rfl (by decide)) ?_
  refine pm_cn (sd_iconst (z := 0) (by decide +kernel) (by decide +kernel) rfl) ?_
  refine pm_cn (sd_isn (k := 2) (by decide +kernel) rfl rfl (by decide)) ?_
  refine pm_cn (sd_iln (k := 2) (by decide +kernel) rfl rfl) ?_
  refine pm_cn (sd_aln (k := 0) (by decide +kernel) rfl rfl) ?_
  refine pm_cn (sd_gi cl0_ in0_ (by decide) (fun _ => rfl) fl_X0_46 (by decide +kernel) rfl) ?_
  refine pm_cn (sd_icge (off := 33) (by decide +kernel) (by decide) rfl) ?_
  refine pm_cn (sd_aln (k := 0) (by decide +kernel) rfl rfl) ?_
  refine pm_cn (sd_gr cl0_ in0_ (j := 6) (by decide) (fun _ => rfl) fl_X0_24 (by decide +kernel) rfl) ?_
  refine pm_cn (sd_iln (k := 2) (by decide +kernel) rfl rfl) ?_
  refine pm_cn (sd_ia (by decide +kernel) rfl) ?_
  refine pm_cn (sd_aln (k := 0) (by decide +kernel) rfl rfl) ?_
  refine pm_cn (sd_gi cl0_ in0_ (by decide) (fun _ => rfl) fl_X0_34 (by decide +kernel) rfl) ?_
  refine pm_cn (sd_iclt (off := 14) (by decide +kernel) (by decide) rfl) ?_
  refine pm_cn (sd_iln (k := 1) (by decide +kernel) rfl rfl) ?_
  refine pm_cn (sd_iconst (z := 1) (by decide +kernel) (by decide +kernel) rfl) ?_
  refine pm_cn (sd_aln (k := 0) (by decide +kernel) rfl rfl) ?_
  refine pm_cn (sd_gr cl0_ in0_ (j := 5) (by decide) (fun _ => rfl) fl_X0_21 (by decide +kernel) rfl) ?_
  refine pm_cn (sd_iln (k := 2) (by decide +kernel) rfl rfl) ?_
  refine pm_cn (sd_ia (by decide +kernel) rfl) ?_
  refine pm_cn (sd_ishl (by decide +kernel) rfl) ?_
  refine pm_cn (sd_ior (by decide +kernel) rfl) ?_
  refine pm_cn (sd_isn (k := 1) (by decide +kernel) rfl rfl (by decide)) ?_
  refine pm_cn (sd_inc (z := 1) (by decide +kernel) (by decide +kernel) rfl (by decide)) ?_
  refine pm_cn (sd_go (off := -35) (by decide +kernel) (by decide)) ?_
  refine pm_cn (sd_iln (k := 1) (by decide +kernel) rfl rfl) ?_
  refine pm_cn (sd_ir (by decide +kernel)) ?_
  exact fun _ h => absurd h List.not_mem_nil
set_option maxHeartbeats 4000000 in
set_option maxRecDepth 100000 in
theorem pf_X0_allLore : pm_pf T_X0_allLore P_X0_allLore (pm_pi Q_X0_allLore) := by
  rintro ⟨i, L, h0⟩ av h K hK ⟨rfl, rfl, hL, ⟨w1, w2, w3, w4, w5, w6, w7, w8, w9⟩⟩ hret
  show K (some 0) ([(0, vR 0 i 0)], [], h)
  have loop : ∀ n k a, k + n = L 0 3 → a = sp_or (fun b => if L 0 9 ≤ L 5 b then 2 ^ L 4 b else 0) k → K (some 4) ([(0, vR 0 i 0), (1, vI (nI a)), (2, vI (nI k))], [], h) := by
    intro n
    induction n with
    | zero =>
      intro k a hk ha
      refine hK [(4, [0, 1, 2])] 40 _ _ ?_
      conv => whnf
      repeat' (first
        | (refine ⟨fun c => ?_, fun c => ?_⟩ <;> (try simp (disch := omega) only [nI_leI, nI_ltI, nI_eq, nz_eq, nz_lt, nz_gt, nz_le, nz_ge, nz_00, nz_10, nz_n1, nI_add, pk_mul, pk_sub, nI_shl1, nI_or, nI_half2, nI_min2, la_put_eq, la_up, lr_same, lr_ne, lu_same, lu_ne, hL] at c) <;> first | (exfalso; omega) | conv => whnf)
        | (refine ⟨_, rfl, by omega, ?_⟩; conv => whnf)
        | (refine And.intro (by decide) ?_; conv => whnf))
      all_goals (try simp (disch := omega) only [nI_leI, nI_ltI, nI_eq, nz_eq, nz_lt, nz_gt, nz_le, nz_ge, nz_00, nz_10, nz_n1, nI_add, pk_mul, pk_sub, nI_shl1, nI_or, nI_half2, nI_min2, la_put_eq, la_up, lr_same, lr_ne, lu_same, lu_ne, hL])
      have : k = L 0 3 := by omega
      subst this
      exact hret _ _ ⟨rfl, by rw [ha]; rfl⟩
    | succ n ih =>
      intro k a hk ha
      have hB := w8 k (by omega)
      refine hK [(4, [0, 1, 2])] 40 _ _ ?_
      conv => whnf
      repeat' (first
        | (refine ⟨fun c => ?_, fun c => ?_⟩ <;> (try simp (disch := omega) only [nI_leI, nI_ltI, nI_eq, nz_eq, nz_lt, nz_gt, nz_le, nz_ge, nz_00, nz_10, nz_n1, nI_add, pk_mul, pk_sub, nI_shl1, nI_or, nI_half2, nI_min2, la_put_eq, la_up, lr_same, lr_ne, lu_same, lu_ne, hL] at c) <;> first | (exfalso; omega) | conv => whnf)
        | (refine ⟨_, rfl, by omega, ?_⟩; conv => whnf)
        | (refine And.intro (by decide) ?_; conv => whnf))
      all_goals (try simp (disch := omega) only [nI_leI, nI_ltI, nI_eq, nz_eq, nz_lt, nz_gt, nz_le, nz_ge, nz_00, nz_10, nz_n1, nI_add, pk_mul, pk_sub, nI_shl1, nI_or, nI_half2, nI_min2, la_put_eq, la_up, lr_same, lr_ne, lu_same, lu_ne, hL])
      · refine ih (k + 1) _ (by omega) ?_
        rw [sp_or, ← ha, if_neg (by omega), Nat.or_zero]
      · refine ih (k + 1) _ (by omega) ?_
        rw [sp_or, ← ha, if_pos (by omega)]
  refine hK [(4, [0, 1, 2])] 10 _ _ ?_
  conv => whnf
  repeat' (first
    | (refine ⟨fun c => ?_, fun c => ?_⟩ <;> (try simp (disch := omega) only [nI_leI, nI_ltI, nI_eq, nz_eq, nz_lt, nz_gt, nz_le, nz_ge, nz_00, nz_10, nz_n1, nI_add, pk_mul, pk_sub, nI_shl1, nI_or, nI_half2, nI_min2, la_put_eq, la_up, lr_same, lr_ne, lu_same, lu_ne, hL] at c) <;> first | (exfalso; omega) | conv => whnf)
    | (refine ⟨_, rfl, by omega, ?_⟩; conv => whnf)
    | (refine And.intro (by decide) ?_; conv => whnf))
  all_goals (try simp (disch := omega) only [nI_leI, nI_ltI, nI_eq, nz_eq, nz_lt, nz_gt, nz_le, nz_ge, nz_00, nz_10, nz_n1, nI_add, pk_mul, pk_sub, nI_shl1, nI_or, nI_half2, nI_min2, la_put_eq, la_up, lr_same, lr_ne, lu_same, lu_ne, hL])
  exact loop (L 0 3) 0 0 (by omega) rfl
theorem M_X0_allLore : pm_MT yX0_allLore cX0_allLore 3 1 1 P_X0_allLore (pm_pi Q_X0_allLore) := pm_met k_X0_allLore (by decide) rfl (by
  rintro ⟨g0, g1, g2⟩ av h hp
  rw [hp.1]
  exact Nat.le_of_ble_eq_true rfl) pf_X0_allLore
theorem rc_X0_allLore : ∀ g av h, P_X0_allLore g av h → ∃ i t, av = .inr (.inr (0, i, 0)) :: t := by
  rintro ⟨g0, g1, g2⟩ av h hp
  exact ⟨_, _, hp.1⟩
/-- ownedBy(f) -/
def P_X0_ownedBy : Nat × Nat × LD × pm_H → List pm_V → pm_H → Prop := fun g av h => match g with
  | (i, s, L, h0) => av = [vR 0 i 0, vI (nI s)] ∧ h = h0 ∧ la_at h0 i L ∧ la_ok L ∧ s < 2 ^ 31
def Q_X0_ownedBy : Nat × Nat × LD × pm_H → Int32 → pm_H → Prop := fun g v h => match g with
  | (i, s, L, h0) => h = h0 ∧ v = nI (sp_owned L s)
def T_X0_ownedBy : List (Nat × pm_T) := [
  (0, i_c (nI 0) 1),
  (1, i_is 2 2),
  (2, i_c (nI 0) 3),
  (3, i_is 3 4),
  (4, i_il 3 5),
  (5, i_al 0 6),
  (6, i_gi 0 3 9),
  (9, i_icge 34 12),
  (12, i_al 0 13),
  (13, i_gr 0 (fun i => (0, i, 6)) 16),
  (16, i_il 3 17),
  (17, i_ia 18),
  (18, i_il 1 19),
  (19, i_icne 28 22),
  (22, i_il 2 23),
  (23, i_c (nI 1) 24),
  (24, i_il 3 25),
  (25, i_ishl 26),
  (26, i_ior 27),
  (27, i_is 2 28),
  (28, i_inc 3 (nI 1) 31),
  (31, i_go 4),
  (34, i_il 2 35),
  (35, i_ir)]
theorem k_X0_ownedBy : ∀ q ∈ T_X0_ownedBy, pm_sd RX0 cX0_ownedBy 4 1 1 q.1 q.2 := by
  unfold T_X0_ownedBy
  refine pm_cn (sd_iconst (z := 0) (by decide +kernel) (by decide +kernel) rfl) ?_
  refine pm_cn (sd_isn (k := 2) (by decide +kernel) rfl rfl (by decide)) ?_
  refine pm_cn (sd_iconst (z := 0) (by decide +kernel) (by decide +kernel) rfl) ?_
  refine pm_cn (sd_isn (k := 3) (by decide +kernel) rfl rfl (by decide)) ?_
  refine pm_cn (sd_iln (k := 3) (by decide +kernel) rfl rfl) ?_
  refine pm_cn (sd_aln (k := 0) (by decide +kernel) rfl rfl) ?_
  refine pm_cn (sd_gi cl0_ in0_ (by decide) (fun _ => rfl) fl_X0_46 (by decide +kernel) rfl) ?_
  refine pm_cn (sd_icge (off := 25) (by decide +kernel) (by decide) rfl) ?_
  refine pm_cn (sd_aln (k := 0) (by decide +kernel) rfl rfl) ?_
  refine pm_cn (sd_gr cl0_ in0_ (j := 7) (by decide) (fun _ => rfl) fl_X0_27 (by decide +kernel) rfl) ?_
  refine pm_cn (sd_iln (k := 3) (by decide +kernel) rfl rfl) ?_
  refine pm_cn (sd_ia (by decide +kernel) rfl) ?_
  refine pm_cn (sd_iln (k := 1) (by decide +kernel) rfl rfl) ?_
  refine pm_cn (sd_icne (off := 9) (by decide +kernel) (by decide) rfl) ?_
  refine pm_cn (sd_iln (k := 2) (by decide +kernel) rfl rfl) ?_
  refine pm_cn (sd_iconst (z := 1) (by decide +kernel) (by decide +kernel) rfl) ?_
  refine pm_cn (sd_iln (k := 3) (by decide +kernel) rfl rfl) ?_
  refine pm_cn (sd_ishl (by decide +kernel) rfl) ?_
  refine pm_cn (sd_ior (by decide +kernel) rfl) ?_
  refine pm_cn (sd_isn (k := 2) (by decide +kernel) rfl rfl (by decide)) ?_
  refine pm_cn (sd_inc (z := 1) (by decide +kernel) (by decide +kernel) rfl (by decide)) ?_
  refine pm_cn (sd_go (off := -27) (by decide +kernel) (by decide)) ?_
  refine pm_cn (sd_iln (k := 2) (by decide +kernel) rfl rfl) ?_
  refine pm_cn (sd_ir (by decide +kernel)) ?_
  exact fun _ h => absurd h List.not_mem_nil
set_option maxHeartbeats 4000000 in
set_option maxRecDepth 100000 in
theorem pf_X0_ownedBy : pm_pf T_X0_ownedBy P_X0_ownedBy (pm_pi Q_X0_ownedBy) := by
  rintro ⟨i, s, L, h0⟩ av h K hK ⟨rfl, rfl, hL, ⟨w1, w2, w3, w4, w5, w6, w7, w8, w9⟩, hs⟩ hret
  show K (some 0) ([(0, vR 0 i 0), (1, vI (nI s))], [], h)
  have loop : ∀ n k a, k + n = L 0 3 → a = sp_or (fun b => if L 6 b = s then 2 ^ b else 0) k → K (some 4) ([(0, vR 0 i 0), (1, vI (nI s)), (2, vI (nI a)), (3, vI (nI k))], [], h) := by
    intro n
    induction n with
    | zero =>
      intro k a hk ha
      refine hK [(4, [0, 1, 2, 3])] 40 _ _ ?_
      conv => whnf
      repeat' (first
        | (refine ⟨fun c => ?_, fun c => ?_⟩ <;> (try simp (disch := omega) only [nI_leI, nI_ltI, nI_eq, nz_eq, nz_lt, nz_gt, nz_le, nz_ge, nz_00, nz_10, nz_n1, nI_add, pk_mul, pk_sub, nI_shl1, nI_or, nI_half2, nI_min2, la_put_eq, la_up, lr_same, lr_ne, lu_same, lu_ne, hL] at c) <;> first | (exfalso; omega) | conv => whnf)
        | (refine ⟨_, rfl, by omega, ?_⟩; conv => whnf)
        | (refine And.intro (by decide) ?_; conv => whnf))
      all_goals (try simp (disch := omega) only [nI_leI, nI_ltI, nI_eq, nz_eq, nz_lt, nz_gt, nz_le, nz_ge, nz_00, nz_10, nz_n1, nI_add, pk_mul, pk_sub, nI_shl1, nI_or, nI_half2, nI_min2, la_put_eq, la_up, lr_same, lr_ne, lu_same, lu_ne, hL])
      have : k = L 0 3 := by omega
      subst this
      exact hret _ _ ⟨rfl, by rw [ha]; rfl⟩
    | succ n ih =>
      intro k a hk ha
      have hB := w8 k (by omega)
      refine hK [(4, [0, 1, 2, 3])] 40 _ _ ?_
      conv => whnf
      repeat' (first
        | (refine ⟨fun c => ?_, fun c => ?_⟩ <;> (try simp (disch := omega) only [nI_leI, nI_ltI, nI_eq, nz_eq, nz_lt, nz_gt, nz_le, nz_ge, nz_00, nz_10, nz_n1, nI_add, pk_mul, pk_sub, nI_shl1, nI_or, nI_half2, nI_min2, la_put_eq, la_up, lr_same, lr_ne, lu_same, lu_ne, hL] at c) <;> first | (exfalso; omega) | conv => whnf)
        | (refine ⟨_, rfl, by omega, ?_⟩; conv => whnf)
        | (refine And.intro (by decide) ?_; conv => whnf))
      all_goals (try simp (disch := omega) only [nI_leI, nI_ltI, nI_eq, nz_eq, nz_lt, nz_gt, nz_le, nz_ge, nz_00, nz_10, nz_n1, nI_add, pk_mul, pk_sub, nI_shl1, nI_or, nI_half2, nI_min2, la_put_eq, la_up, lr_same, lr_ne, lu_same, lu_ne, hL])
      all_goals (refine ih (k + 1) _ (by omega) ?_; rw [sp_or, ← ha]; first | rw [if_pos (by omega)] | rw [if_neg (by omega), Nat.or_zero])
  refine hK [(4, [0, 1, 2, 3])] 10 _ _ ?_
  conv => whnf
  repeat' (first
    | (refine ⟨fun c => ?_, fun c => ?_⟩ <;> (try simp (disch := omega) only [nI_leI, nI_ltI, nI_eq, nz_eq, nz_lt, nz_gt, nz_le, nz_ge, nz_00, nz_10, nz_n1, nI_add, pk_mul, pk_sub, nI_shl1, nI_or, nI_half2, nI_min2, la_put_eq, la_up, lr_same, lr_ne, lu_same, lu_ne, hL] at c) <;> first | (exfalso; omega) | conv => whnf)
    | (refine ⟨_, rfl, by omega, ?_⟩; conv => whnf)
    | (refine And.intro (by decide) ?_; conv => whnf))
  all_goals (try simp (disch := omega) only [nI_leI, nI_ltI, nI_eq, nz_eq, nz_lt, nz_gt, nz_le, nz_ge, nz_00, nz_10, nz_n1, nI_add, pk_mul, pk_sub, nI_shl1, nI_or, nI_half2, nI_min2, la_put_eq, la_up, lr_same, lr_ne, lu_same, lu_ne, hL])
  exact loop (L 0 3) 0 0 (by omega) rfl
theorem M_X0_ownedBy : pm_MT yX0_ownedBy cX0_ownedBy 4 1 1 P_X0_ownedBy (pm_pi Q_X0_ownedBy) := pm_met k_X0_ownedBy (by decide) rfl (by
  rintro ⟨g0, g1, g2, g3⟩ av h hp
  rw [hp.1]
  exact Nat.le_of_ble_eq_true rfl) pf_X0_ownedBy
theorem rc_X0_ownedBy : ∀ g av h, P_X0_ownedBy g av h → ∃ i t, av = .inr (.inr (0, i, 0)) :: t := by
  rintro ⟨g0, g1, g2, g3⟩ av h hp
  exact ⟨_, _, hp.1⟩
/-- crumbsOf(f) -/
def P_X0_crumbsOf : Nat × Nat × LD × pm_H → List pm_V → pm_H → Prop := fun g av h => match g with
  | (i, s, L, h0) => av = [vR 0 i 0, vI (nI s)] ∧ h = h0 ∧ la_at h0 i L ∧ la_ok L ∧ s < 2 ^ 31
def Q_X0_crumbsOf : Nat × Nat × LD × pm_H → Int32 → pm_H → Prop := fun g v h => match g with
  | (i, s, L, h0) => h = h0 ∧ v = nI (sp_crumbsOf L s)
def T_X0_crumbsOf : List (Nat × pm_T) := [
  (0, i_c (nI 0) 1),
  (1, i_is 2 2),
  (2, i_c (nI 0) 3),
  (3, i_is 3 4),
  (4, i_il 3 5),
  (5, i_al 0 6),
  (6, i_gi 0 3 9),
  (9, i_icge 37 12),
  (12, i_al 0 13),
  (13, i_gr 0 (fun i => (0, i, 6)) 16),
  (16, i_il 3 17),
  (17, i_ia 18),
  (18, i_il 1 19),
  (19, i_icne 31 22),
  (22, i_il 2 23),
  (23, i_al 0 24),
  (24, i_gr 0 (fun i => (0, i, 5)) 27),
  (27, i_il 3 28),
  (28, i_ia 29),
  (29, i_iadd 30),
  (30, i_is 2 31),
  (31, i_inc 3 (nI 1) 34),
  (34, i_go 4),
  (37, i_il 2 38),
  (38, i_ir)]
theorem k_X0_crumbsOf : ∀ q ∈ T_X0_crumbsOf, pm_sd RX0 cX0_crumbsOf 4 1 1 q.1 q.2 := by
  unfold T_X0_crumbsOf
  refine pm_cn (sd_iconst (z := 0) (by decide +kernel) (by decide +kernel) rfl) ?_
  refine pm_cn (sd_isn (k := 2) (by decide +kernel) rfl rfl (by decide)) ?_
  refine pm_cn (sd_iconst (z := 0) (by decide +kernel) (by decide +kernel) rfl) ?_
  refine pm_cn (sd_isn (k := 3) (by decide +kernel) rfl rfl (by decide)) ?_
  refine pm_cn (sd_iln (k := 3) (by decide +kernel) rfl rfl) ?_
  refine pm_cn (sd_aln (k := 0) (by decide +kernel) rfl rfl) ?_
  refine pm_cn (sd_gi cl0_ in0_ (by decide) (fun _ => rfl) fl_X0_46 (by decide +kernel) rfl) ?_
  refine pm_cn (sd_icge (off := 28) (by decide +kernel) (by decide) rfl) ?_
  refine pm_cn (sd_aln (k := 0) (by decide +kernel) rfl rfl) ?_
  refine pm_cn (sd_gr cl0_ in0_ (j := 7) (by decide) (fun _ => rfl) fl_X0_27 (by decide +kernel) rfl) ?_
  refine pm_cn (sd_iln (k := 3) (by decide +kernel) rfl rfl) ?_
  refine pm_cn (sd_ia (by decide +kernel) rfl) ?_
  refine pm_cn (sd_iln (k := 1) (by decide +kernel) rfl rfl) ?_
  refine pm_cn (sd_icne (off := 12) (by decide +kernel) (by decide) rfl) ?_
  refine pm_cn (sd_iln (k := 2) (by decide +kernel) rfl rfl) ?_
  refine pm_cn (sd_aln (k := 0) (by decide +kernel) rfl rfl) ?_
  refine pm_cn (sd_gr cl0_ in0_ (j := 6) (by decide) (fun _ => rfl) fl_X0_24 (by decide +kernel) rfl) ?_
  refine pm_cn (sd_iln (k := 3) (by decide +kernel) rfl rfl) ?_
  refine pm_cn (sd_ia (by decide +kernel) rfl) ?_
  refine pm_cn (sd_iadd (by decide +kernel) rfl) ?_
  refine pm_cn (sd_isn (k := 2) (by decide +kernel) rfl rfl (by decide)) ?_
  refine pm_cn (sd_inc (z := 1) (by decide +kernel) (by decide +kernel) rfl (by decide)) ?_
  refine pm_cn (sd_go (off := -30) (by decide +kernel) (by decide)) ?_
  refine pm_cn (sd_iln (k := 2) (by decide +kernel) rfl rfl) ?_
  refine pm_cn (sd_ir (by decide +kernel)) ?_
  exact fun _ h => absurd h List.not_mem_nil
set_option maxHeartbeats 4000000 in
set_option maxRecDepth 100000 in
theorem pf_X0_crumbsOf : pm_pf T_X0_crumbsOf P_X0_crumbsOf (pm_pi Q_X0_crumbsOf) := by
  rintro ⟨i, s, L, h0⟩ av h K hK ⟨rfl, rfl, hL, ⟨w1, w2, w3, w4, w5, w6, w7, w8, w9⟩, hs⟩ hret
  show K (some 0) ([(0, vR 0 i 0), (1, vI (nI s))], [], h)
  have loop : ∀ n k a, k + n = L 0 3 → a = sp_sum (fun b => if L 6 b = s then L 5 b else 0) k → K (some 4) ([(0, vR 0 i 0), (1, vI (nI s)), (2, vI (nI a)), (3, vI (nI k))], [], h) := by
    intro n
    induction n with
    | zero =>
      intro k a hk ha
      refine hK [(4, [0, 1, 2, 3])] 40 _ _ ?_
      conv => whnf
      repeat' (first
        | (refine ⟨fun c => ?_, fun c => ?_⟩ <;> (try simp (disch := omega) only [nI_leI, nI_ltI, nI_eq, nz_eq, nz_lt, nz_gt, nz_le, nz_ge, nz_00, nz_10, nz_n1, nI_add, pk_mul, pk_sub, nI_shl1, nI_or, nI_half2, nI_min2, la_put_eq, la_up, lr_same, lr_ne, lu_same, lu_ne, hL] at c) <;> first | (exfalso; omega) | conv => whnf)
        | (refine ⟨_, rfl, by omega, ?_⟩; conv => whnf)
        | (refine And.intro (by decide) ?_; conv => whnf))
      all_goals (try simp (disch := omega) only [nI_leI, nI_ltI, nI_eq, nz_eq, nz_lt, nz_gt, nz_le, nz_ge, nz_00, nz_10, nz_n1, nI_add, pk_mul, pk_sub, nI_shl1, nI_or, nI_half2, nI_min2, la_put_eq, la_up, lr_same, lr_ne, lu_same, lu_ne, hL])
      have : k = L 0 3 := by omega
      subst this
      exact hret _ _ ⟨rfl, by rw [ha]; rfl⟩
    | succ n ih =>
      intro k a hk ha
      have hB := w8 k (by omega)
      refine hK [(4, [0, 1, 2, 3])] 40 _ _ ?_
      conv => whnf
      repeat' (first
        | (refine ⟨fun c => ?_, fun c => ?_⟩ <;> (try simp (disch := omega) only [nI_leI, nI_ltI, nI_eq, nz_eq, nz_lt, nz_gt, nz_le, nz_ge, nz_00, nz_10, nz_n1, nI_add, pk_mul, pk_sub, nI_shl1, nI_or, nI_half2, nI_min2, la_put_eq, la_up, lr_same, lr_ne, lu_same, lu_ne, hL] at c) <;> first | (exfalso; omega) | conv => whnf)
        | (refine ⟨_, rfl, by omega, ?_⟩; conv => whnf)
        | (refine And.intro (by decide) ?_; conv => whnf))
      all_goals (try simp (disch := omega) only [nI_leI, nI_ltI, nI_eq, nz_eq, nz_lt, nz_gt, nz_le, nz_ge, nz_00, nz_10, nz_n1, nI_add, pk_mul, pk_sub, nI_shl1, nI_or, nI_half2, nI_min2, la_put_eq, la_up, lr_same, lr_ne, lu_same, lu_ne, hL])
      all_goals (refine ih (k + 1) _ (by omega) ?_; rw [sp_sum, ← ha]; simp [*])
  refine hK [(4, [0, 1, 2, 3])] 10 _ _ ?_
  conv => whnf
  repeat' (first
    | (refine ⟨fun c => ?_, fun c => ?_⟩ <;> (try simp (disch := omega) only [nI_leI, nI_ltI, nI_eq, nz_eq, nz_lt, nz_gt, nz_le, nz_ge, nz_00, nz_10, nz_n1, nI_add, pk_mul, pk_sub, nI_shl1, nI_or, nI_half2, nI_min2, la_put_eq, la_up, lr_same, lr_ne, lu_same, lu_ne, hL] at c) <;> first | (exfalso; omega) | conv => whnf)
    | (refine ⟨_, rfl, by omega, ?_⟩; conv => whnf)
    | (refine And.intro (by decide) ?_; conv => whnf))
  all_goals (try simp (disch := omega) only [nI_leI, nI_ltI, nI_eq, nz_eq, nz_lt, nz_gt, nz_le, nz_ge, nz_00, nz_10, nz_n1, nI_add, pk_mul, pk_sub, nI_shl1, nI_or, nI_half2, nI_min2, la_put_eq, la_up, lr_same, lr_ne, lu_same, lu_ne, hL])
  exact loop (L 0 3) 0 0 (by omega) rfl
theorem M_X0_crumbsOf : pm_MT yX0_crumbsOf cX0_crumbsOf 4 1 1 P_X0_crumbsOf (pm_pi Q_X0_crumbsOf) := pm_met k_X0_crumbsOf (by decide) rfl (by
  rintro ⟨g0, g1, g2, g3⟩ av h hp
  rw [hp.1]
  exact Nat.le_of_ble_eq_true rfl) pf_X0_crumbsOf
theorem rc_X0_crumbsOf : ∀ g av h, P_X0_crumbsOf g av h → ∃ i t, av = .inr (.inr (0, i, 0)) :: t := by
  rintro ⟨g0, g1, g2, g3⟩ av h hp
  exact ⟨_, _, hp.1⟩
/-- sumOf(row, n) -/
def P_X0_sumOf : Nat × Nat × Nat × LD × pm_H → List pm_V → pm_H → Prop := fun g av h => match g with
  | (i, s, n, L, h0) => av = [vR 0 i s, vI (nI n)] ∧ h = h0 ∧ la_at h0 i L ∧ ((s = 1 ∧ n ≤ 4) ∨ (s = 2 ∧ n ≤ 4) ∨ (s = 5 ∧ n ≤ 6))
def Q_X0_sumOf : Nat × Nat × Nat × LD × pm_H → Int32 → pm_H → Prop := fun g v h => match g with
  | (i, s, n, L, h0) => h = h0 ∧ v = nI (sp_sum (L s) n)
def T_X0_sumOf : List (Nat × pm_T) := [
  (0, i_c (nI 0) 1),
  (1, i_is 2 2),
  (2, i_c (nI 0) 3),
  (3, i_is 3 4),
  (4, i_il 3 5),
  (5, i_il 1 6),
  (6, i_icge 27 9),
  (9, i_il 3 10),
  (10, i_al 0 11),
  (11, i_len 12),
  (12, i_icge 27 15),
  (15, i_il 2 16),
  (16, i_al 0 17),
  (17, i_il 3 18),
  (18, i_ia 19),
  (19, i_iadd 20),
  (20, i_is 2 21),
  (21, i_inc 3 (nI 1) 24),
  (24, i_go 4),
  (27, i_il 2 28),
  (28, i_ir)]
theorem k_X0_sumOf : ∀ q ∈ T_X0_sumOf, pm_sd RX0 cX0_sumOf 4 1 1 q.1 q.2 := by
  unfold T_X0_sumOf
  refine pm_cn (sd_iconst (z := 0) (by decide +kernel) (by decide +kernel) rfl) ?_
  refine pm_cn (sd_isn (k := 2) (by decide +kernel) rfl rfl (by decide)) ?_
  refine pm_cn (sd_iconst (z := 0) (by decide +kernel) (by decide +kernel) rfl) ?_
  refine pm_cn (sd_isn (k := 3) (by decide +kernel) rfl rfl (by decide)) ?_
  refine pm_cn (sd_iln (k := 3) (by decide +kernel) rfl rfl) ?_
  refine pm_cn (sd_iln (k := 1) (by decide +kernel) rfl rfl) ?_
  refine pm_cn (sd_icge (off := 21) (by decide +kernel) (by decide) rfl) ?_
  refine pm_cn (sd_iln (k := 3) (by decide +kernel) rfl rfl) ?_
  refine pm_cn (sd_aln (k := 0) (by decide +kernel) rfl rfl) ?_
  refine pm_cn (sd_len (by decide +kernel) rfl) ?_
  refine pm_cn (sd_icge (off := 15) (by decide +kernel) (by decide) rfl) ?_
  refine pm_cn (sd_iln (k := 2) (by decide +kernel) rfl rfl) ?_
  refine pm_cn (sd_aln (k := 0) (by decide +kernel) rfl rfl) ?_
  refine pm_cn (sd_iln (k := 3) (by decide +kernel) rfl rfl) ?_
  refine pm_cn (sd_ia (by decide +kernel) rfl) ?_
  refine pm_cn (sd_iadd (by decide +kernel) rfl) ?_
  refine pm_cn (sd_isn (k := 2) (by decide +kernel) rfl rfl (by decide)) ?_
  refine pm_cn (sd_inc (z := 1) (by decide +kernel) (by decide +kernel) rfl (by decide)) ?_
  refine pm_cn (sd_go (off := -20) (by decide +kernel) (by decide)) ?_
  refine pm_cn (sd_iln (k := 2) (by decide +kernel) rfl rfl) ?_
  refine pm_cn (sd_ir (by decide +kernel)) ?_
  exact fun _ h => absurd h List.not_mem_nil
set_option maxHeartbeats 4000000 in
set_option maxRecDepth 100000 in
theorem pf_X0_sumOf : pm_pf T_X0_sumOf P_X0_sumOf (pm_pi Q_X0_sumOf) := by
  rintro ⟨i, s, N, L, h0⟩ av h K hK ⟨rfl, rfl, hL, hc⟩ hret
  show K (some 0) ([(0, vR 0 i s), (1, vI (nI N))], [], h)
  have hN : N ≤ 6 := by omega
  have loop : ∀ n k a, k + n = N → a = sp_sum (L s) k → K (some 4) ([(0, vR 0 i s), (1, vI (nI N)), (2, vI (nI a)), (3, vI (nI k))], [], h) := by
    intro n
    induction n with
    | zero =>
      intro k a hk ha
      have : k = N := by omega
      subst this
      rcases hc with ⟨rfl, hc⟩ | ⟨rfl, hc⟩ | ⟨rfl, hc⟩
      · refine hK [(4, [0, 1, 2, 3])] 40 _ _ ?_
        conv => whnf
        repeat' (first
          | (refine ⟨fun c => ?_, fun c => ?_⟩ <;> (try simp (disch := omega) only [nI_leI, nI_ltI, nI_eq, nz_eq, nz_lt, nz_gt, nz_le, nz_ge, nz_00, nz_10, nz_n1, nI_add, pk_mul, pk_sub, nI_shl1, nI_or, nI_half2, nI_min2, la_put_eq, la_up, lr_same, lr_ne, lu_same, lu_ne, hL] at c) <;> first | (exfalso; omega) | conv => whnf)
          | (refine ⟨_, rfl, by omega, ?_⟩; conv => whnf)
          | (refine And.intro (by decide) ?_; conv => whnf))
        all_goals (try simp (disch := omega) only [nI_leI, nI_ltI, nI_eq, nz_eq, nz_lt, nz_gt, nz_le, nz_ge, nz_00, nz_10, nz_n1, nI_add, pk_mul, pk_sub, nI_shl1, nI_or, nI_half2, nI_min2, la_put_eq, la_up, lr_same, lr_ne, lu_same, lu_ne, hL])
        all_goals exact hret _ _ ⟨rfl, by rw [ha]⟩
      · refine hK [(4, [0, 1, 2, 3])] 40 _ _ ?_
        conv => whnf
        repeat' (first
          | (refine ⟨fun c => ?_, fun c => ?_⟩ <;> (try simp (disch := omega) only [nI_leI, nI_ltI, nI_eq, nz_eq, nz_lt, nz_gt, nz_le, nz_ge, nz_00, nz_10, nz_n1, nI_add, pk_mul, pk_sub, nI_shl1, nI_or, nI_half2, nI_min2, la_put_eq, la_up, lr_same, lr_ne, lu_same, lu_ne, hL] at c) <;> first | (exfalso; omega) | conv => whnf)
          | (refine ⟨_, rfl, by omega, ?_⟩; conv => whnf)
          | (refine And.intro (by decide) ?_; conv => whnf))
        all_goals (try simp (disch := omega) only [nI_leI, nI_ltI, nI_eq, nz_eq, nz_lt, nz_gt, nz_le, nz_ge, nz_00, nz_10, nz_n1, nI_add, pk_mul, pk_sub, nI_shl1, nI_or, nI_half2, nI_min2, la_put_eq, la_up, lr_same, lr_ne, lu_same, lu_ne, hL])
        all_goals exact hret _ _ ⟨rfl, by rw [ha]⟩
      · refine hK [(4, [0, 1, 2, 3])] 40 _ _ ?_
        conv => whnf
        repeat' (first
          | (refine ⟨fun c => ?_, fun c => ?_⟩ <;> (try simp (disch := omega) only [nI_leI, nI_ltI, nI_eq, nz_eq, nz_lt, nz_gt, nz_le, nz_ge, nz_00, nz_10, nz_n1, nI_add, pk_mul, pk_sub, nI_shl1, nI_or, nI_half2, nI_min2, la_put_eq, la_up, lr_same, lr_ne, lu_same, lu_ne, hL] at c) <;> first | (exfalso; omega) | conv => whnf)
          | (refine ⟨_, rfl, by omega, ?_⟩; conv => whnf)
          | (refine And.intro (by decide) ?_; conv => whnf))
        all_goals (try simp (disch := omega) only [nI_leI, nI_ltI, nI_eq, nz_eq, nz_lt, nz_gt, nz_le, nz_ge, nz_00, nz_10, nz_n1, nI_add, pk_mul, pk_sub, nI_shl1, nI_or, nI_half2, nI_min2, la_put_eq, la_up, lr_same, lr_ne, lu_same, lu_ne, hL])
        all_goals exact hret _ _ ⟨rfl, by rw [ha]⟩
    | succ n ih =>
      intro k a hk ha
      rcases hc with ⟨rfl, hc⟩ | ⟨rfl, hc⟩ | ⟨rfl, hc⟩
      · refine hK [(4, [0, 1, 2, 3])] 40 _ _ ?_
        conv => whnf
        repeat' (first
          | (refine ⟨fun c => ?_, fun c => ?_⟩ <;> (try simp (disch := omega) only [nI_leI, nI_ltI, nI_eq, nz_eq, nz_lt, nz_gt, nz_le, nz_ge, nz_00, nz_10, nz_n1, nI_add, pk_mul, pk_sub, nI_shl1, nI_or, nI_half2, nI_min2, la_put_eq, la_up, lr_same, lr_ne, lu_same, lu_ne, hL] at c) <;> first | (exfalso; omega) | conv => whnf)
          | (refine ⟨_, rfl, by omega, ?_⟩; conv => whnf)
          | (refine And.intro (by decide) ?_; conv => whnf))
        all_goals (try simp (disch := omega) only [nI_leI, nI_ltI, nI_eq, nz_eq, nz_lt, nz_gt, nz_le, nz_ge, nz_00, nz_10, nz_n1, nI_add, pk_mul, pk_sub, nI_shl1, nI_or, nI_half2, nI_min2, la_put_eq, la_up, lr_same, lr_ne, lu_same, lu_ne, hL])
        exact ih (k + 1) _ (by omega) (by rw [sp_sum, ← ha])
      · refine hK [(4, [0, 1, 2, 3])] 40 _ _ ?_
        conv => whnf
        repeat' (first
          | (refine ⟨fun c => ?_, fun c => ?_⟩ <;> (try simp (disch := omega) only [nI_leI, nI_ltI, nI_eq, nz_eq, nz_lt, nz_gt, nz_le, nz_ge, nz_00, nz_10, nz_n1, nI_add, pk_mul, pk_sub, nI_shl1, nI_or, nI_half2, nI_min2, la_put_eq, la_up, lr_same, lr_ne, lu_same, lu_ne, hL] at c) <;> first | (exfalso; omega) | conv => whnf)
          | (refine ⟨_, rfl, by omega, ?_⟩; conv => whnf)
          | (refine And.intro (by decide) ?_; conv => whnf))
        all_goals (try simp (disch := omega) only [nI_leI, nI_ltI, nI_eq, nz_eq, nz_lt, nz_gt, nz_le, nz_ge, nz_00, nz_10, nz_n1, nI_add, pk_mul, pk_sub, nI_shl1, nI_or, nI_half2, nI_min2, la_put_eq, la_up, lr_same, lr_ne, lu_same, lu_ne, hL])
        exact ih (k + 1) _ (by omega) (by rw [sp_sum, ← ha])
      · refine hK [(4, [0, 1, 2, 3])] 40 _ _ ?_
        conv => whnf
        repeat' (first
          | (refine ⟨fun c => ?_, fun c => ?_⟩ <;> (try simp (disch := omega) only [nI_leI, nI_ltI, nI_eq, nz_eq, nz_lt, nz_gt, nz_le, nz_ge, nz_00, nz_10, nz_n1, nI_add, pk_mul, pk_sub, nI_shl1, nI_or, nI_half2, nI_min2, la_put_eq, la_up, lr_same, lr_ne, lu_same, lu_ne, hL] at c) <;> first | (exfalso; omega) | conv => whnf)
          | (refine ⟨_, rfl, by omega, ?_⟩; conv => whnf)
          | (refine And.intro (by decide) ?_; conv => whnf))
        all_goals (try simp (disch := omega) only [nI_leI, nI_ltI, nI_eq, nz_eq, nz_lt, nz_gt, nz_le, nz_ge, nz_00, nz_10, nz_n1, nI_add, pk_mul, pk_sub, nI_shl1, nI_or, nI_half2, nI_min2, la_put_eq, la_up, lr_same, lr_ne, lu_same, lu_ne, hL])
        exact ih (k + 1) _ (by omega) (by rw [sp_sum, ← ha])
  refine hK [(4, [0, 1, 2, 3])] 10 _ _ ?_
  conv => whnf
  repeat' (first
    | (refine ⟨fun c => ?_, fun c => ?_⟩ <;> (try simp (disch := omega) only [nI_leI, nI_ltI, nI_eq, nz_eq, nz_lt, nz_gt, nz_le, nz_ge, nz_00, nz_10, nz_n1, nI_add, pk_mul, pk_sub, nI_shl1, nI_or, nI_half2, nI_min2, la_put_eq, la_up, lr_same, lr_ne, lu_same, lu_ne, hL] at c) <;> first | (exfalso; omega) | conv => whnf)
    | (refine ⟨_, rfl, by omega, ?_⟩; conv => whnf)
    | (refine And.intro (by decide) ?_; conv => whnf))
  all_goals (try simp (disch := omega) only [nI_leI, nI_ltI, nI_eq, nz_eq, nz_lt, nz_gt, nz_le, nz_ge, nz_00, nz_10, nz_n1, nI_add, pk_mul, pk_sub, nI_shl1, nI_or, nI_half2, nI_min2, la_put_eq, la_up, lr_same, lr_ne, lu_same, lu_ne, hL])
  exact loop N 0 0 (by omega) rfl
theorem M_X0_sumOf : pm_MT yX0_sumOf cX0_sumOf 4 1 1 P_X0_sumOf (pm_pi Q_X0_sumOf) := pm_met k_X0_sumOf (by decide) rfl (by
  rintro ⟨g0, g1, g2, g3, g4⟩ av h hp
  rw [hp.1]
  exact Nat.le_of_ble_eq_true rfl) pf_X0_sumOf
def P_X0_allCrumbs : Nat × LD × pm_H → List pm_V → pm_H → Prop := fun g av h => match g with
  | (i, L, h0) => av = [vR 0 i 0] ∧ h = h0 ∧ la_at h0 i L ∧ la_ok L
def Q_X0_allCrumbs : Nat × LD × pm_H → Int32 → pm_H → Prop := fun g v h => match g with
  | (i, L, h0) => h = h0 ∧ v = nI (sp_sum (L 5) (L 0 3))
def T_X0_allCrumbs : List (Nat × pm_T) := [
  (0, i_al 0 1),
  (1, i_gr 0 (fun i => (0, i, 5)) 4),
  (4, i_al 0 5),
  (5, i_gi 0 3 8),
  (8, i_ci 2 P_X0_sumOf Q_X0_sumOf 11),
  (11, i_ir)]
theorem k_X0_allCrumbs : ∀ q ∈ T_X0_allCrumbs, pm_sd RX0 cX0_allCrumbs 1 2 1 q.1 q.2 := by
  unfold T_X0_allCrumbs
  refine pm_cn (sd_aln (k := 0) (by decide +kernel) rfl rfl) ?_
  refine pm_cn (sd_gr cl0_ in0_ (j := 6) (by decide) (fun _ => rfl) fl_X0_24 (by decide +kernel) rfl) ?_
  refine pm_cn (sd_aln (k := 0) (by decide +kernel) rfl rfl) ?_
  refine pm_cn (sd_gi cl0_ in0_ (by decide) (fun _ => rfl) fl_X0_46 (by decide +kernel) rfl) ?_
  refine pm_cn (sd_cis M_X0_sumOf (by decide) cd_X0_sumOf ml_X0_71 st_X0_sumOf nt_X0 (by decide +kernel) (by decide) (by decide) (by decide +kernel) rfl) ?_
  refine pm_cn (sd_ir (by decide +kernel)) ?_
  exact fun _ h => absurd h List.not_mem_nil
set_option maxHeartbeats 4000000 in
set_option maxRecDepth 100000 in
theorem pf_X0_allCrumbs : pm_pf T_X0_allCrumbs P_X0_allCrumbs (pm_pi Q_X0_allCrumbs) := by
  rintro ⟨i, L, h0⟩ av h K hK ⟨rfl, rfl, hL, hw⟩ hret
  show K (some 0) ([(0, vR 0 i 0)], [], h)
  have w1 := hw.1
  have w2 := hw.2.1
  refine hK [] 20 _ _ ?_
  conv => whnf
  repeat' (first
    | (refine ⟨fun c => ?_, fun c => ?_⟩ <;> (try simp (disch := omega) only [nI_leI, nI_ltI, nI_eq, nz_eq, nz_lt, nz_gt, nz_le, nz_ge, nz_00, nz_10, nz_n1, nI_add, pk_mul, pk_sub, nI_shl1, nI_or, nI_half2, nI_min2, la_put_eq, la_up, lr_same, lr_ne, lu_same, lu_ne, hL] at c) <;> first | (exfalso; omega) | conv => whnf)
    | (refine ⟨_, rfl, by omega, ?_⟩; conv => whnf)
    | (refine And.intro (by decide) ?_; conv => whnf))
  all_goals (try simp (disch := omega) only [nI_leI, nI_ltI, nI_eq, nz_eq, nz_lt, nz_gt, nz_le, nz_ge, nz_00, nz_10, nz_n1, nI_add, pk_mul, pk_sub, nI_shl1, nI_or, nI_half2, nI_min2, la_put_eq, la_up, lr_same, lr_ne, lu_same, lu_ne, hL])
  refine ⟨(i, 5, L 0 3, L, h), ⟨rfl, rfl, hL, by omega⟩, fun v h' hq => ?_⟩
  obtain ⟨rfl, rfl⟩ := hq
  conv => whnf
  repeat' (first
    | (refine ⟨fun c => ?_, fun c => ?_⟩ <;> (try simp (disch := omega) only [nI_leI, nI_ltI, nI_eq, nz_eq, nz_lt, nz_gt, nz_le, nz_ge, nz_00, nz_10, nz_n1, nI_add, pk_mul, pk_sub, nI_shl1, nI_or, nI_half2, nI_min2, la_put_eq, la_up, lr_same, lr_ne, lu_same, lu_ne, hL] at c) <;> first | (exfalso; omega) | conv => whnf)
    | (refine ⟨_, rfl, by omega, ?_⟩; conv => whnf)
    | (refine And.intro (by decide) ?_; conv => whnf))
  all_goals (try simp (disch := omega) only [nI_leI, nI_ltI, nI_eq, nz_eq, nz_lt, nz_gt, nz_le, nz_ge, nz_00, nz_10, nz_n1, nI_add, pk_mul, pk_sub, nI_shl1, nI_or, nI_half2, nI_min2, la_put_eq, la_up, lr_same, lr_ne, lu_same, lu_ne, hL])
  exact hret _ _ ⟨rfl, rfl⟩
theorem M_X0_allCrumbs : pm_MT yX0_allCrumbs cX0_allCrumbs 1 1 2 P_X0_allCrumbs (pm_pi Q_X0_allCrumbs) := pm_met k_X0_allCrumbs (by decide) rfl (by
  rintro ⟨g0, g1, g2⟩ av h hp
  rw [hp.1]
  exact Nat.le_of_ble_eq_true rfl) pf_X0_allCrumbs
theorem rc_X0_allCrumbs : ∀ g av h, P_X0_allCrumbs g av h → ∃ i t, av = .inr (.inr (0, i, 0)) :: t := by
  rintro ⟨g0, g1, g2⟩ av h hp
  exact ⟨_, _, hp.1⟩
def P_X0_allHunger : Nat × LD × pm_H → List pm_V → pm_H → Prop := fun g av h => match g with
  | (i, L, h0) => av = [vR 0 i 0] ∧ h = h0 ∧ la_at h0 i L ∧ la_ok L
def Q_X0_allHunger : Nat × LD × pm_H → Int32 → pm_H → Prop := fun g v h => match g with
  | (i, L, h0) => h = h0 ∧ v = nI (sp_sum (L 2) (L 0 0))
def T_X0_allHunger : List (Nat × pm_T) := [
  (0, i_al 0 1),
  (1, i_gr 0 (fun i => (0, i, 2)) 4),
  (4, i_al 0 5),
  (5, i_gi 0 0 8),
  (8, i_ci 2 P_X0_sumOf Q_X0_sumOf 11),
  (11, i_ir)]
theorem k_X0_allHunger : ∀ q ∈ T_X0_allHunger, pm_sd RX0 cX0_allHunger 1 2 1 q.1 q.2 := by
  unfold T_X0_allHunger
  refine pm_cn (sd_aln (k := 0) (by decide +kernel) rfl rfl) ?_
  refine pm_cn (sd_gr cl0_ in0_ (j := 2) (by decide) (fun _ => rfl) fl_X0_15 (by decide +kernel) rfl) ?_
  refine pm_cn (sd_aln (k := 0) (by decide +kernel) rfl rfl) ?_
  refine pm_cn (sd_gi cl0_ in0_ (by decide) (fun _ => rfl) fl_X0_43 (by decide +kernel) rfl) ?_
  refine pm_cn (sd_cis M_X0_sumOf (by decide) cd_X0_sumOf ml_X0_71 st_X0_sumOf nt_X0 (by decide +kernel) (by decide) (by decide) (by decide +kernel) rfl) ?_
  refine pm_cn (sd_ir (by decide +kernel)) ?_
  exact fun _ h => absurd h List.not_mem_nil
set_option maxHeartbeats 4000000 in
set_option maxRecDepth 100000 in
theorem pf_X0_allHunger : pm_pf T_X0_allHunger P_X0_allHunger (pm_pi Q_X0_allHunger) := by
  rintro ⟨i, L, h0⟩ av h K hK ⟨rfl, rfl, hL, hw⟩ hret
  show K (some 0) ([(0, vR 0 i 0)], [], h)
  have w1 := hw.1
  have w2 := hw.2.1
  refine hK [] 20 _ _ ?_
  conv => whnf
  repeat' (first
    | (refine ⟨fun c => ?_, fun c => ?_⟩ <;> (try simp (disch := omega) only [nI_leI, nI_ltI, nI_eq, nz_eq, nz_lt, nz_gt, nz_le, nz_ge, nz_00, nz_10, nz_n1, nI_add, pk_mul, pk_sub, nI_shl1, nI_or, nI_half2, nI_min2, la_put_eq, la_up, lr_same, lr_ne, lu_same, lu_ne, hL] at c) <;> first | (exfalso; omega) | conv => whnf)
    | (refine ⟨_, rfl, by omega, ?_⟩; conv => whnf)
    | (refine And.intro (by decide) ?_; conv => whnf))
  all_goals (try simp (disch := omega) only [nI_leI, nI_ltI, nI_eq, nz_eq, nz_lt, nz_gt, nz_le, nz_ge, nz_00, nz_10, nz_n1, nI_add, pk_mul, pk_sub, nI_shl1, nI_or, nI_half2, nI_min2, la_put_eq, la_up, lr_same, lr_ne, lu_same, lu_ne, hL])
  refine ⟨(i, 2, L 0 0, L, h), ⟨rfl, rfl, hL, by omega⟩, fun v h' hq => ?_⟩
  obtain ⟨rfl, rfl⟩ := hq
  conv => whnf
  repeat' (first
    | (refine ⟨fun c => ?_, fun c => ?_⟩ <;> (try simp (disch := omega) only [nI_leI, nI_ltI, nI_eq, nz_eq, nz_lt, nz_gt, nz_le, nz_ge, nz_00, nz_10, nz_n1, nI_add, pk_mul, pk_sub, nI_shl1, nI_or, nI_half2, nI_min2, la_put_eq, la_up, lr_same, lr_ne, lu_same, lu_ne, hL] at c) <;> first | (exfalso; omega) | conv => whnf)
    | (refine ⟨_, rfl, by omega, ?_⟩; conv => whnf)
    | (refine And.intro (by decide) ?_; conv => whnf))
  all_goals (try simp (disch := omega) only [nI_leI, nI_ltI, nI_eq, nz_eq, nz_lt, nz_gt, nz_le, nz_ge, nz_00, nz_10, nz_n1, nI_add, pk_mul, pk_sub, nI_shl1, nI_or, nI_half2, nI_min2, la_put_eq, la_up, lr_same, lr_ne, lu_same, lu_ne, hL])
  exact hret _ _ ⟨rfl, rfl⟩
theorem M_X0_allHunger : pm_MT yX0_allHunger cX0_allHunger 1 1 2 P_X0_allHunger (pm_pi Q_X0_allHunger) := pm_met k_X0_allHunger (by decide) rfl (by
  rintro ⟨g0, g1, g2⟩ av h hp
  rw [hp.1]
  exact Nat.le_of_ble_eq_true rfl) pf_X0_allHunger
theorem rc_X0_allHunger : ∀ g av h, P_X0_allHunger g av h → ∃ i t, av = .inr (.inr (0, i, 0)) :: t := by
  rintro ⟨g0, g1, g2⟩ av h hp
  exact ⟨_, _, hp.1⟩
def P_X0_allAppetites : Nat × LD × pm_H → List pm_V → pm_H → Prop := fun g av h => match g with
  | (i, L, h0) => av = [vR 0 i 0] ∧ h = h0 ∧ la_at h0 i L ∧ la_ok L
def Q_X0_allAppetites : Nat × LD × pm_H → Int32 → pm_H → Prop := fun g v h => match g with
  | (i, L, h0) => h = h0 ∧ v = nI (sp_sum (L 1) (L 0 0))
def T_X0_allAppetites : List (Nat × pm_T) := [
  (0, i_al 0 1),
  (1, i_gr 0 (fun i => (0, i, 1)) 4),
  (4, i_al 0 5),
  (5, i_gi 0 0 8),
  (8, i_ci 2 P_X0_sumOf Q_X0_sumOf 11),
  (11, i_ir)]
theorem k_X0_allAppetites : ∀ q ∈ T_X0_allAppetites, pm_sd RX0 cX0_allAppetites 1 2 1 q.1 q.2 := by
  unfold T_X0_allAppetites
  refine pm_cn (sd_aln (k := 0) (by decide +kernel) rfl rfl) ?_
  refine pm_cn (sd_gr cl0_ in0_ (j := 1) (by decide) (fun _ => rfl) fl_X0_9 (by decide +kernel) rfl) ?_
  refine pm_cn (sd_aln (k := 0) (by decide +kernel) rfl rfl) ?_
  refine pm_cn (sd_gi cl0_ in0_ (by decide) (fun _ => rfl) fl_X0_43 (by decide +kernel) rfl) ?_
  refine pm_cn (sd_cis M_X0_sumOf (by decide) cd_X0_sumOf ml_X0_71 st_X0_sumOf nt_X0 (by decide +kernel) (by decide) (by decide) (by decide +kernel) rfl) ?_
  refine pm_cn (sd_ir (by decide +kernel)) ?_
  exact fun _ h => absurd h List.not_mem_nil
set_option maxHeartbeats 4000000 in
set_option maxRecDepth 100000 in
theorem pf_X0_allAppetites : pm_pf T_X0_allAppetites P_X0_allAppetites (pm_pi Q_X0_allAppetites) := by
  rintro ⟨i, L, h0⟩ av h K hK ⟨rfl, rfl, hL, hw⟩ hret
  show K (some 0) ([(0, vR 0 i 0)], [], h)
  have w1 := hw.1
  have w2 := hw.2.1
  refine hK [] 20 _ _ ?_
  conv => whnf
  repeat' (first
    | (refine ⟨fun c => ?_, fun c => ?_⟩ <;> (try simp (disch := omega) only [nI_leI, nI_ltI, nI_eq, nz_eq, nz_lt, nz_gt, nz_le, nz_ge, nz_00, nz_10, nz_n1, nI_add, pk_mul, pk_sub, nI_shl1, nI_or, nI_half2, nI_min2, la_put_eq, la_up, lr_same, lr_ne, lu_same, lu_ne, hL] at c) <;> first | (exfalso; omega) | conv => whnf)
    | (refine ⟨_, rfl, by omega, ?_⟩; conv => whnf)
    | (refine And.intro (by decide) ?_; conv => whnf))
  all_goals (try simp (disch := omega) only [nI_leI, nI_ltI, nI_eq, nz_eq, nz_lt, nz_gt, nz_le, nz_ge, nz_00, nz_10, nz_n1, nI_add, pk_mul, pk_sub, nI_shl1, nI_or, nI_half2, nI_min2, la_put_eq, la_up, lr_same, lr_ne, lu_same, lu_ne, hL])
  refine ⟨(i, 1, L 0 0, L, h), ⟨rfl, rfl, hL, by omega⟩, fun v h' hq => ?_⟩
  obtain ⟨rfl, rfl⟩ := hq
  conv => whnf
  repeat' (first
    | (refine ⟨fun c => ?_, fun c => ?_⟩ <;> (try simp (disch := omega) only [nI_leI, nI_ltI, nI_eq, nz_eq, nz_lt, nz_gt, nz_le, nz_ge, nz_00, nz_10, nz_n1, nI_add, pk_mul, pk_sub, nI_shl1, nI_or, nI_half2, nI_min2, la_put_eq, la_up, lr_same, lr_ne, lu_same, lu_ne, hL] at c) <;> first | (exfalso; omega) | conv => whnf)
    | (refine ⟨_, rfl, by omega, ?_⟩; conv => whnf)
    | (refine And.intro (by decide) ?_; conv => whnf))
  all_goals (try simp (disch := omega) only [nI_leI, nI_ltI, nI_eq, nz_eq, nz_lt, nz_gt, nz_le, nz_ge, nz_00, nz_10, nz_n1, nI_add, pk_mul, pk_sub, nI_shl1, nI_or, nI_half2, nI_min2, la_put_eq, la_up, lr_same, lr_ne, lu_same, lu_ne, hL])
  exact hret _ _ ⟨rfl, rfl⟩
theorem M_X0_allAppetites : pm_MT yX0_allAppetites cX0_allAppetites 1 1 2 P_X0_allAppetites (pm_pi Q_X0_allAppetites) := pm_met k_X0_allAppetites (by decide) rfl (by
  rintro ⟨g0, g1, g2⟩ av h hp
  rw [hp.1]
  exact Nat.le_of_ble_eq_true rfl) pf_X0_allAppetites
theorem rc_X0_allAppetites : ∀ g av h, P_X0_allAppetites g av h → ∃ i t, av = .inr (.inr (0, i, 0)) :: t := by
  rintro ⟨g0, g1, g2⟩ av h hp
  exact ⟨_, _, hp.1⟩
end
section
/-! Larder: days, and what changes it. -/
theorem sp_knowers_lt {L : LD} (hw : la_ok L) (s : Nat) : sp_knowers L s < 16 := by
  obtain ⟨w1, w2, w3, w4, w5, w6, w7, w8, w9⟩ := hw
  refine sp_or_lt (m := 4) (fun k hk => ?_)
  have := w8 k (by omega)
  by_cases h : L 4 k = s ∧ L 0 9 ≤ L 5 k
  · rw [if_pos h]
    exact Nat.pow_lt_pow_right (by decide) (by omega)
  · rw [if_neg h]; decide
def P_X0_answers : Nat × LD × pm_H → List pm_V → pm_H → Prop := fun g av h => match g with
  | (i, L, h0) => av = [vR 0 i 0] ∧ h = h0 ∧ la_at h0 i L ∧ la_ok L
def Q_X0_answers : Nat × LD × pm_H → Int32 → pm_H → Prop := fun g v h => match g with
  | (i, L, h0) => h = h0 ∧ v = nI (sp_ans L)
def T_X0_answers : List (Nat × pm_T) := [
  (0, i_c (nI 0) 1),
  (1, i_is 1 2),
  (2, i_c (nI 0) 3),
  (3, i_is 2 4),
  (4, i_il 2 5),
  (5, i_al 0 6),
  (6, i_gi 0 11 9),
  (9, i_icge 50 12),
  (12, i_al 0 13),
  (13, i_gr 0 (fun i => (0, i, 7)) 16),
  (16, i_il 2 17),
  (17, i_ia 18),
  (18, i_al 0 19),
  (19, i_gi 0 10 22),
  (22, i_icne 44 25),
  (25, i_al 0 26),
  (26, i_al 0 27),
  (27, i_gr 0 (fun i => (0, i, 8)) 30),
  (30, i_il 2 31),
  (31, i_ia 32),
  (32, i_ci 2 P_X0_knowersOf Q_X0_knowersOf 35),
  (35, i_ifeq 44 38),
  (38, i_il 1 39),
  (39, i_c (nI 1) 40),
  (40, i_il 2 41),
  (41, i_ishl 42),
  (42, i_ior 43),
  (43, i_is 1 44),
  (44, i_inc 2 (nI 1) 47),
  (47, i_go 4),
  (50, i_il 1 51),
  (51, i_ir)]
theorem k_X0_answers : ∀ q ∈ T_X0_answers, pm_sd RX0 cX0_answers 3 2 1 q.1 q.2 := by
  unfold T_X0_answers
  refine pm_cn (sd_iconst (z := 0) (by decide +kernel) (by decide +kernel) rfl) ?_
  refine pm_cn (sd_isn (k := 1) (by decide +kernel) rfl rfl (by decide)) ?_
  refine pm_cn (sd_iconst (z := 0) (by decide +kernel) (by decide +kernel) rfl) ?_
  refine pm_cn (sd_isn (k := 2) (by decide +kernel) rfl rfl (by decide)) ?_
  refine pm_cn (sd_iln (k := 2) (by decide +kernel) rfl rfl) ?_
  refine pm_cn (sd_aln (k := 0) (by decide +kernel) rfl rfl) ?_
  refine pm_cn (sd_gi cl0_ in0_ (by decide) (fun _ => rfl) fl_X0_49 (by decide +kernel) rfl) ?_
  refine pm_cn (sd_icge (off := 41) (by decide +kernel) (by decide) rfl) ?_
  refine pm_cn (sd_aln (k := 0) (by decide +kernel) rfl rfl) ?_
  refine pm_cn (sd_gr cl0_ in0_ (j := 12) (by decide) (fun _ => rfl) fl_X0_37 (by decide +kernel) rfl) ?_
  refine pm_cn (sd_iln (k := 2) (by decide +kernel) rfl rfl) ?_
  refine pm_cn (sd_ia (by decide +kernel) rfl) ?_
  refine pm_cn (sd_aln (k := 0) (by decide +kernel) rfl rfl) ?_
  refine pm_cn (sd_gi cl0_ in0_ (by decide) (fun _ => rfl) fl_X0_52 (by decide +kernel) rfl) ?_
  refine pm_cn (sd_icne (off := 22) (by decide +kernel) (by decide) rfl) ?_
  refine pm_cn (sd_aln (k := 0) (by decide +kernel) rfl rfl) ?_
  refine pm_cn (sd_aln (k := 0) (by decide +kernel) rfl rfl) ?_
  refine pm_cn (sd_gr cl0_ in0_ (j := 13) (by decide) (fun _ => rfl) fl_X0_40 (by decide +kernel) rfl) ?_
  refine pm_cn (sd_iln (k := 2) (by decide +kernel) rfl rfl) ?_
  refine pm_cn (sd_ia (by decide +kernel) rfl) ?_
  refine pm_cn (sd_civ M_X0_knowersOf (by decide) cd_X0_knowersOf rc_X0_knowersOf cl0_ ml_X0_75 im_X0_knowersOf se_X0_knowersOf nt_X0 (by decide +kernel) (by decide) (by decide) (by decide +kernel) rfl) ?_
  refine pm_cn (sd_ifeq (off := 9) (by decide +kernel) (by decide) rfl) ?_
  refine pm_cn (sd_iln (k := 1) (by decide +kernel) rfl rfl) ?_
  refine pm_cn (sd_iconst (z := 1) (by decide +kernel) (by decide +kernel) rfl) ?_
  refine pm_cn (sd_iln (k := 2) (by decide +kernel) rfl rfl) ?_
  refine pm_cn (sd_ishl (by decide +kernel) rfl) ?_
  refine pm_cn (sd_ior (by decide +kernel) rfl) ?_
  refine pm_cn (sd_isn (k := 1) (by decide +kernel) rfl rfl (by decide)) ?_
  refine pm_cn (sd_inc (z := 1) (by decide +kernel) (by decide +kernel) rfl (by decide)) ?_
  refine pm_cn (sd_go (off := -43) (by decide +kernel) (by decide)) ?_
  refine pm_cn (sd_iln (k := 1) (by decide +kernel) rfl rfl) ?_
  refine pm_cn (sd_ir (by decide +kernel)) ?_
  exact fun _ h => absurd h List.not_mem_nil
set_option maxHeartbeats 4000000 in
set_option maxRecDepth 100000 in
theorem pf_X0_answers : pm_pf T_X0_answers P_X0_answers (pm_pi Q_X0_answers) := by
  rintro ⟨i, L, h0⟩ av h K hK ⟨rfl, rfl, hL, hw⟩ hret
  obtain ⟨w1, w2, w3, w4, w5, w6, w7, w8, w9, w10⟩ := id hw
  show K (some 0) ([(0, vR 0 i 0)], [], h)
  have loop : ∀ n k a, k + n = L 0 11 → a = sp_or (fun q => if L 7 q = L 0 10 ∧ sp_knowers L (L 8 q) ≠ 0 then 2 ^ q else 0) k → K (some 4) ([(0, vR 0 i 0), (1, vI (nI a)), (2, vI (nI k))], [], h) := by
    intro n
    induction n with
    | zero =>
      intro k a hk ha
      refine hK [(4, [0, 1, 2])] 40 _ _ ?_
      conv => whnf
      repeat' (first
        | (refine ⟨fun c => ?_, fun c => ?_⟩ <;> (try simp (disch := omega) only [nI_leI, nI_ltI, nI_eq, nz_eq, nz_lt, nz_gt, nz_le, nz_ge, nz_00, nz_10, nz_n1, nI_add, pk_mul, pk_sub, nI_shl1, nI_or, nI_half2, nI_min2, la_put_eq, la_up, lr_same, lr_ne, lu_same, lu_ne, hL] at c) <;> first | (exfalso; omega) | conv => whnf)
        | (refine ⟨_, rfl, by omega, ?_⟩; conv => whnf)
        | (refine And.intro (by decide) ?_; conv => whnf))
      all_goals (try simp (disch := omega) only [nI_leI, nI_ltI, nI_eq, nz_eq, nz_lt, nz_gt, nz_le, nz_ge, nz_00, nz_10, nz_n1, nI_add, pk_mul, pk_sub, nI_shl1, nI_or, nI_half2, nI_min2, la_put_eq, la_up, lr_same, lr_ne, lu_same, lu_ne, hL])
      have : k = L 0 11 := by omega
      subst this
      exact hret _ _ ⟨rfl, by rw [ha]; rfl⟩
    | succ n ih =>
      intro k a hk ha
      have hB := w9 k (by omega)
      have hkn := sp_knowers_lt hw (L 8 k)
      refine hK [(4, [0, 1, 2])] 40 _ _ ?_
      conv => whnf
      repeat' (first
        | (refine ⟨fun c => ?_, fun c => ?_⟩ <;> (try simp (disch := omega) only [nI_leI, nI_ltI, nI_eq, nz_eq, nz_lt, nz_gt, nz_le, nz_ge, nz_00, nz_10, nz_n1, nI_add, pk_mul, pk_sub, nI_shl1, nI_or, nI_half2, nI_min2, la_put_eq, la_up, lr_same, lr_ne, lu_same, lu_ne, hL] at c) <;> first | (exfalso; omega) | conv => whnf)
        | (refine ⟨_, rfl, by omega, ?_⟩; conv => whnf)
        | (refine And.intro (by decide) ?_; conv => whnf))
      all_goals (try simp (disch := omega) only [nI_leI, nI_ltI, nI_eq, nz_eq, nz_lt, nz_gt, nz_le, nz_ge, nz_00, nz_10, nz_n1, nI_add, pk_mul, pk_sub, nI_shl1, nI_or, nI_half2, nI_min2, la_put_eq, la_up, lr_same, lr_ne, lu_same, lu_ne, hL])
      · refine ih (k + 1) _ (by omega) ?_
        rw [sp_or, ← ha, if_neg (by omega), Nat.or_zero]
      · refine ⟨(i, L 8 k, L, h), ⟨rfl, rfl, hL, hw, by omega⟩, fun v h' hq => ?_⟩
        obtain ⟨rfl, rfl⟩ := hq
        conv => whnf
        repeat' (first
          | (refine ⟨fun c => ?_, fun c => ?_⟩ <;> (try simp (disch := omega) only [nI_leI, nI_ltI, nI_eq, nz_eq, nz_lt, nz_gt, nz_le, nz_ge, nz_00, nz_10, nz_n1, nI_add, pk_mul, pk_sub, nI_shl1, nI_or, nI_half2, nI_min2, la_put_eq, la_up, lr_same, lr_ne, lu_same, lu_ne, hL] at c) <;> first | (exfalso; omega) | conv => whnf)
          | (refine ⟨_, rfl, by omega, ?_⟩; conv => whnf)
          | (refine And.intro (by decide) ?_; conv => whnf))
        all_goals (try simp (disch := omega) only [nI_leI, nI_ltI, nI_eq, nz_eq, nz_lt, nz_gt, nz_le, nz_ge, nz_00, nz_10, nz_n1, nI_add, pk_mul, pk_sub, nI_shl1, nI_or, nI_half2, nI_min2, la_put_eq, la_up, lr_same, lr_ne, lu_same, lu_ne, hL])
        · refine ih (k + 1) _ (by omega) ?_
          rw [sp_or, ← ha, if_neg (by omega), Nat.or_zero]
        · refine ih (k + 1) _ (by omega) ?_
          rw [sp_or, ← ha, if_pos (by omega)]
  refine hK [(4, [0, 1, 2])] 10 _ _ ?_
  conv => whnf
  repeat' (first
    | (refine ⟨fun c => ?_, fun c => ?_⟩ <;> (try simp (disch := omega) only [nI_leI, nI_ltI, nI_eq, nz_eq, nz_lt, nz_gt, nz_le, nz_ge, nz_00, nz_10, nz_n1, nI_add, pk_mul, pk_sub, nI_shl1, nI_or, nI_half2, nI_min2, la_put_eq, la_up, lr_same, lr_ne, lu_same, lu_ne, hL] at c) <;> first | (exfalso; omega) | conv => whnf)
    | (refine ⟨_, rfl, by omega, ?_⟩; conv => whnf)
    | (refine And.intro (by decide) ?_; conv => whnf))
  all_goals (try simp (disch := omega) only [nI_leI, nI_ltI, nI_eq, nz_eq, nz_lt, nz_gt, nz_le, nz_ge, nz_00, nz_10, nz_n1, nI_add, pk_mul, pk_sub, nI_shl1, nI_or, nI_half2, nI_min2, la_put_eq, la_up, lr_same, lr_ne, lu_same, lu_ne, hL])
  exact loop (L 0 11) 0 0 (by omega) rfl
theorem M_X0_answers : pm_MT yX0_answers cX0_answers 3 1 2 P_X0_answers (pm_pi Q_X0_answers) := pm_met k_X0_answers (by decide) rfl (by
  rintro ⟨g0, g1, g2⟩ av h hp
  rw [hp.1]
  exact Nat.le_of_ble_eq_true rfl) pf_X0_answers
theorem rc_X0_answers : ∀ g av h, P_X0_answers g av h → ∃ i t, av = .inr (.inr (0, i, 0)) :: t := by
  rintro ⟨g0, g1, g2⟩ av h hp
  exact ⟨_, _, hp.1⟩
/-! feast -/
theorem sp_left_le (L : LD) (f : Nat) : ∀ n, sp_left L f n ≤ L 1 f
  | 0 => Nat.le_refl _
  | n + 1 => by
    have := sp_left_le L f n
    rw [sp_left]
    by_cases h : L 6 n = f
    · rw [if_pos h]; omega
    · rw [if_neg h]; exact this
theorem sp_left_zero {L : LD} {f k : Nat} (h : sp_left L f k = 0) : ∀ m, sp_left L f (k + m) = 0
  | 0 => h
  | m + 1 => by
    have := sp_left_zero h m
    rw [← Nat.add_assoc, sp_left, this]
    by_cases hh : L 6 (k + m) = f <;> simp [hh]
theorem sp_ate_ge {L : LD} {f n b : Nat} (h : n ≤ b) : sp_ate L f n b = L 5 b := by
  unfold sp_ate
  rw [if_neg (by omega)]
theorem sp_ate_0 (L : LD) (f : Nat) : sp_ate L f 0 = L 5 := by
  funext b
  exact sp_ate_ge (Nat.zero_le b)
theorem sp_ate_stop {L : LD} {f k n : Nat} (h : sp_left L f k = 0) (hk : k ≤ n) : sp_ate L f k = sp_ate L f n := by
  funext b
  unfold sp_ate
  by_cases h1 : b < k ∧ L 6 b = f
  · rw [if_pos h1, if_pos ⟨by omega, h1.2⟩]
  · rw [if_neg h1]
    by_cases h2 : b < n ∧ L 6 b = f
    · rw [if_pos h2]
      obtain ⟨m, rfl⟩ : ∃ m, b = k + m := ⟨b - k, by omega⟩
      rw [sp_left_zero h m]
      rfl
    · rw [if_neg h2]
theorem sp_ate_skip {L : LD} {f k : Nat} (h : ¬ L 6 k = f) : sp_ate L f k = sp_ate L f (k + 1) := by
  funext b
  unfold sp_ate
  by_cases h1 : b < k ∧ L 6 b = f
  · rw [if_pos h1, if_pos ⟨by omega, h1.2⟩]
  · rw [if_neg h1, if_neg]
    rintro ⟨h2, h3⟩
    have : b = k := by omega
    subst this
    exact h h3
theorem sp_ate_step {L : LD} {f k v : Nat} (h : L 6 k = f) (hv : v = L 5 k - sp_left L f k) : lu (lr L 5 (sp_ate L f k)) 5 k v = lr L 5 (sp_ate L f (k + 1)) := by
  refine lu_lr (fun b => ?_)
  unfold sp_ate
  by_cases hb : b = k
  · subst hb
    rw [if_pos ⟨by omega, h⟩, if_pos rfl, hv]
  · rw [if_neg hb]
    by_cases h1 : b < k ∧ L 6 b = f
    · rw [if_pos h1, if_pos ⟨by omega, h1.2⟩]
    · rw [if_neg h1, if_neg (by omega)]
def P_X0_feast : Nat × Nat × LD × pm_H → List pm_V → pm_H → Prop := fun g av h => match g with
  | (i, f, L, h0) => av = [vR 0 i 0, vI (nI f)] ∧ h = h0 ∧ la_at h0 i L ∧ la_ok L ∧ f < 4
def Q_X0_feast : Nat × Nat × LD × pm_H → Int32 → pm_H → Prop := fun g v h => match g with
  | (i, f, L, h0) => h = la_put h0 i (sp_feast L f) ∧ v = nI (sp_eaten L f)
def T_X0_feast : List (Nat × pm_T) := [
  (0, i_al 0 1),
  (1, i_gr 0 (fun i => (0, i, 1)) 4),
  (4, i_il 1 5),
  (5, i_ia 6),
  (6, i_is 2 7),
  (7, i_c (nI 0) 8),
  (8, i_is 3 9),
  (9, i_il 3 10),
  (10, i_al 0 11),
  (11, i_gi 0 3 14),
  (14, i_icge 65 17),
  (17, i_il 2 18),
  (18, i_ifle 65 21),
  (21, i_al 0 22),
  (22, i_gr 0 (fun i => (0, i, 6)) 25),
  (25, i_il 3 26),
  (26, i_ia 27),
  (27, i_il 1 28),
  (28, i_icne 59 31),
  (31, i_il 2 32),
  (32, i_al 0 33),
  (33, i_gr 0 (fun i => (0, i, 5)) 36),
  (36, i_il 3 37),
  (37, i_ia 38),
  (38, i_mmin 41),
  (41, i_is 4 43),
  (43, i_al 0 44),
  (44, i_gr 0 (fun i => (0, i, 5)) 47),
  (47, i_il 3 48),
  (48, i_dup2 49),
  (49, i_ia 50),
  (50, i_il 4 52),
  (52, i_isub 53),
  (53, i_ias 54),
  (54, i_il 2 55),
  (55, i_il 4 57),
  (57, i_isub 58),
  (58, i_is 2 59),
  (59, i_inc 3 (nI 1) 62),
  (62, i_go 9),
  (65, i_il 2 66),
  (66, i_ifle 91 69),
  (69, i_al 0 70),
  (70, i_gr 0 (fun i => (0, i, 2)) 73),
  (73, i_il 1 74),
  (74, i_ia 75),
  (75, i_c (nI 999) 78),
  (78, i_icge 91 81),
  (81, i_al 0 82),
  (82, i_gr 0 (fun i => (0, i, 2)) 85),
  (85, i_il 1 86),
  (86, i_dup2 87),
  (87, i_ia 88),
  (88, i_c (nI 1) 89),
  (89, i_iadd 90),
  (90, i_ias 91),
  (91, i_al 0 92),
  (92, i_gr 0 (fun i => (0, i, 1)) 95),
  (95, i_il 1 96),
  (96, i_ia 97),
  (97, i_il 2 98),
  (98, i_isub 99),
  (99, i_ir)]
theorem k_X0_feast : ∀ q ∈ T_X0_feast, pm_sd RX0 cX0_feast 5 1 1 q.1 q.2 := by
  unfold T_X0_feast
  refine pm_cn (sd_aln (k := 0) (by decide +kernel) rfl rfl) ?_
  refine pm_cn (sd_gr cl0_ in0_ (j := 1) (by decide) (fun _ => rfl) fl_X0_9 (by decide +kernel) rfl) ?_
  refine pm_cn (sd_iln (k := 1) (by decide +kernel) rfl rfl) ?_
  refine pm_cn (sd_ia (by decide +kernel) rfl) ?_
  refine pm_cn (sd_isn (k := 2) (by decide +kernel) rfl rfl (by decide)) ?_
  refine pm_cn (sd_iconst (z := 0) (by decide +kernel) (by decide +kernel) rfl) ?_
  refine pm_cn (sd_isn (k := 3) (by decide +kernel) rfl rfl (by decide)) ?_
  refine pm_cn (sd_iln (k := 3) (by decide +kernel) rfl rfl) ?_
  refine pm_cn (sd_aln (k := 0) (by decide +kernel) rfl rfl) ?_
  refine pm_cn (sd_gi cl0_ in0_ (by decide) (fun _ => rfl) fl_X0_46 (by decide +kernel) rfl) ?_
  refine pm_cn (sd_icge (off := 51) (by decide +kernel) (by decide) rfl) ?_
  refine pm_cn (sd_iln (k := 2) (by decide +kernel) rfl rfl) ?_
  refine pm_cn (sd_ifle (off := 47) (by decide +kernel) (by decide) rfl) ?_
  refine pm_cn (sd_aln (k := 0) (by decide +kernel) rfl rfl) ?_
  refine pm_cn (sd_gr cl0_ in0_ (j := 7) (by decide) (fun _ => rfl) fl_X0_27 (by decide +kernel) rfl) ?_
  refine pm_cn (sd_iln (k := 3) (by decide +kernel) rfl rfl) ?_
  refine pm_cn (sd_ia (by decide +kernel) rfl) ?_
  refine pm_cn (sd_iln (k := 1) (by decide +kernel) rfl rfl) ?_
  refine pm_cn (sd_icne (off := 31) (by decide +kernel) (by decide) rfl) ?_
  refine pm_cn (sd_iln (k := 2) (by decide +kernel) rfl rfl) ?_
  refine pm_cn (sd_aln (k := 0) (by decide +kernel) rfl rfl) ?_
  refine pm_cn (sd_gr cl0_ in0_ (j := 6) (by decide) (fun _ => rfl) fl_X0_24 (by decide +kernel) rfl) ?_
  refine pm_cn (sd_iln (k := 3) (by decide +kernel) rfl rfl) ?_
  refine pm_cn (sd_ia (by decide +kernel) rfl) ?_
  refine pm_cn (sd_mmin ml_X0_65 st_min nt_Math cd_min (by decide) (by decide +kernel) rfl) ?_
  refine pm_cn (sd_is (by decide +kernel) rfl (by decide)) ?_
  refine pm_cn (sd_aln (k := 0) (by decide +kernel) rfl rfl) ?_
  refine pm_cn (sd_gr cl0_ in0_ (j := 6) (by decide) (fun _ => rfl) fl_X0_24 (by decide +kernel) rfl) ?_
  refine pm_cn (sd_iln (k := 3) (by decide +kernel) rfl rfl) ?_
  refine pm_cn (sd_dup2 (by decide +kernel) rfl) ?_
  refine pm_cn (sd_ia (by decide +kernel) rfl) ?_
  refine pm_cn (sd_il (by decide +kernel) rfl) ?_
  refine pm_cn (sd_isub (by decide +kernel) rfl) ?_
  refine pm_cn (sd_ias (by decide +kernel) rfl) ?_
  refine pm_cn (sd_iln (k := 2) (by decide +kernel) rfl rfl) ?_
  refine pm_cn (sd_il (by decide +kernel) rfl) ?_
  refine pm_cn (sd_isub (by decide +kernel) rfl) ?_
  refine pm_cn (sd_isn (k := 2) (by decide +kernel) rfl rfl (by decide)) ?_
  refine pm_cn (sd_inc (z := 1) (by decide +kernel) (by decide +kernel) rfl (by decide)) ?_
  refine pm_cn (sd_go (off := -53) (by decide +kernel) (by decide)) ?_
  refine pm_cn (sd_iln (k := 2) (by decide +kernel) rfl rfl) ?_
  refine pm_cn (sd_ifle (off := 25) (by decide +kernel) (by decide) rfl) ?_
  refine pm_cn (sd_aln (k := 0) (by decide +kernel) rfl rfl) ?_
  refine pm_cn (sd_gr cl0_ in0_ (j := 2) (by decide) (fun _ => rfl) fl_X0_15 (by decide +kernel) rfl) ?_
  refine pm_cn (sd_iln (k := 1) (by decide +kernel) rfl rfl) ?_
  refine pm_cn (sd_ia (by decide +kernel) rfl) ?_
  refine pm_cn (sd_sipush (z := 999) (by decide +kernel) (by decide +kernel) rfl) ?_
  refine pm_cn (sd_icge (off := 13) (by decide +kernel) (by decide) rfl) ?_
  refine pm_cn (sd_aln (k := 0) (by decide +kernel) rfl rfl) ?_
  refine pm_cn (sd_gr cl0_ in0_ (j := 2) (by decide) (fun _ => rfl) fl_X0_15 (by decide +kernel) rfl) ?_
  refine pm_cn (sd_iln (k := 1) (by decide +kernel) rfl rfl) ?_
  refine pm_cn (sd_dup2 (by decide +kernel) rfl) ?_
  refine pm_cn (sd_ia (by decide +kernel) rfl) ?_
  refine pm_cn (sd_iconst (z := 1) (by decide +kernel) (by decide +kernel) rfl) ?_
  refine pm_cn (sd_iadd (by decide +kernel) rfl) ?_
  refine pm_cn (sd_ias (by decide +kernel) rfl) ?_
  refine pm_cn (sd_aln (k := 0) (by decide +kernel) rfl rfl) ?_
  refine pm_cn (sd_gr cl0_ in0_ (j := 1) (by decide) (fun _ => rfl) fl_X0_9 (by decide +kernel) rfl) ?_
  refine pm_cn (sd_iln (k := 1) (by decide +kernel) rfl rfl) ?_
  refine pm_cn (sd_ia (by decide +kernel) rfl) ?_
  refine pm_cn (sd_iln (k := 2) (by decide +kernel) rfl rfl) ?_
  refine pm_cn (sd_isub (by decide +kernel) rfl) ?_
  refine pm_cn (sd_ir (by decide +kernel)) ?_
  exact fun _ h => absurd h List.not_mem_nil
set_option maxHeartbeats 4000000 in
set_option maxRecDepth 100000 in
theorem pf_X0_feast : pm_pf T_X0_feast P_X0_feast (pm_pi Q_X0_feast) := by
  rintro ⟨i, f, L, h0⟩ av h K hK ⟨rfl, rfl, hL, hw, hf⟩ hret
  obtain ⟨w1, w2, w3, w4, w5, w6, w7, w8, w9, w10⟩ := id hw
  show K (some 0) ([(0, vR 0 i 0), (1, vI (nI f))], [], h)
  have hF := w7 f hf
  have fin2 : ∀ M a, M = sp_feast L f → a = sp_left L f (L 0 3) → K (some 91) ([(0, vR 0 i 0), (1, vI (nI f)), (2, vI (nI a))], [], la_put h i M) := by
    intro M a hM ha
    have hle := sp_left_le L f (L 0 3)
    have e1 : M 1 f = L 1 f := by rw [hM]; unfold sp_feast; rw [lu_ne (by omega), lr_ne (by omega)]
    refine hK [] 20 _ _ ?_
    conv => whnf
    repeat' (first
      | (refine ⟨fun c => ?_, fun c => ?_⟩ <;> (try simp (disch := omega) only [nI_leI, nI_ltI, nI_eq, nz_eq, nz_lt, nz_gt, nz_le, nz_ge, nz_00, nz_10, nz_n1, nI_add, pk_mul, pk_sub, nI_shl1, nI_or, nI_half2, nI_min2, la_put_eq, la_up, lr_same, lr_ne, lu_same, lu_ne, e1] at c) <;> first | (exfalso; omega) | conv => whnf)
      | (refine ⟨_, rfl, by omega, ?_⟩; conv => whnf)
      | (refine And.intro (by decide) ?_; conv => whnf))
    all_goals (try simp (disch := omega) only [nI_leI, nI_ltI, nI_eq, nz_eq, nz_lt, nz_gt, nz_le, nz_ge, nz_00, nz_10, nz_n1, nI_add, pk_mul, pk_sub, nI_shl1, nI_or, nI_half2, nI_min2, la_put_eq, la_up, lr_same, lr_ne, lu_same, lu_ne, e1])
    subst hM ha
    exact hret _ _ ⟨rfl, rfl⟩
  have fin : ∀ M a, M = lr L 5 (sp_ate L f (L 0 3)) → a = sp_left L f (L 0 3) → K (some 65) ([(0, vR 0 i 0), (1, vI (nI f)), (2, vI (nI a))], [], la_put h i M) := by
    intro M a hM ha
    have hle := sp_left_le L f (L 0 3)
    have e1 : M 2 f = L 2 f := by rw [hM, lr_ne (by omega)]
    refine hK [(91, [0, 1, 2])] 30 _ _ ?_
    conv => whnf
    repeat' (first
      | (refine ⟨fun c => ?_, fun c => ?_⟩ <;> (try simp (disch := omega) only [nI_leI, nI_ltI, nI_eq, nz_eq, nz_lt, nz_gt, nz_le, nz_ge, nz_00, nz_10, nz_n1, nI_add, pk_mul, pk_sub, nI_shl1, nI_or, nI_half2, nI_min2, la_put_eq, la_up, lr_same, lr_ne, lu_same, lu_ne, e1] at c) <;> first | (exfalso; omega) | conv => whnf)
      | (refine ⟨_, rfl, by omega, ?_⟩; conv => whnf)
      | (refine And.intro (by decide) ?_; conv => whnf))
    all_goals (try simp (disch := omega) only [nI_leI, nI_ltI, nI_eq, nz_eq, nz_lt, nz_gt, nz_le, nz_ge, nz_00, nz_10, nz_n1, nI_add, pk_mul, pk_sub, nI_shl1, nI_or, nI_half2, nI_min2, la_put_eq, la_up, lr_same, lr_ne, lu_same, lu_ne, e1])
    · refine fin2 _ _ ?_ ha
      rw [sp_feast, sp_hun, if_neg (by omega), ← hM, ← e1, lu_self]
    · refine fin2 _ _ ?_ ha
      rw [sp_feast, sp_hun, if_neg (by omega), ← hM, ← e1, lu_self]
    · refine fin2 _ _ ?_ ha
      rw [sp_feast, sp_hun, if_pos (by omega), ← hM]
  have loop : ∀ n k a M, k + n = L 0 3 → a = sp_left L f k → M = lr L 5 (sp_ate L f k) → K (some 9) ([(0, vR 0 i 0), (1, vI (nI f)), (2, vI (nI a)), (3, vI (nI k))], [], la_put h i M) := by
    intro n
    induction n with
    | zero =>
      intro k a M hk ha hM
      subst hM
      refine hK [(9, [0, 1, 2, 3]), (65, [0, 1, 2])] 40 _ _ ?_
      conv => whnf
      repeat' (first
        | (refine ⟨fun c => ?_, fun c => ?_⟩ <;> (try simp (disch := omega) only [nI_leI, nI_ltI, nI_eq, nz_eq, nz_lt, nz_gt, nz_le, nz_ge, nz_00, nz_10, nz_n1, nI_add, pk_mul, pk_sub, nI_shl1, nI_or, nI_half2, nI_min2, la_put_eq, la_up, lr_same, lr_ne, lu_same, lu_ne, hL] at c) <;> first | (exfalso; omega) | conv => whnf)
        | (refine ⟨_, rfl, by omega, ?_⟩; conv => whnf)
        | (refine And.intro (by decide) ?_; conv => whnf))
      all_goals (try simp (disch := omega) only [nI_leI, nI_ltI, nI_eq, nz_eq, nz_lt, nz_gt, nz_le, nz_ge, nz_00, nz_10, nz_n1, nI_add, pk_mul, pk_sub, nI_shl1, nI_or, nI_half2, nI_min2, la_put_eq, la_up, lr_same, lr_ne, lu_same, lu_ne, hL])
      have : k = L 0 3 := by omega
      subst this
      exact fin _ _ rfl ha
    | succ n ih =>
      intro k a M hk ha hM
      have hB := w8 k (by omega)
      have hle := sp_left_le L f k
      subst hM
      refine hK [(9, [0, 1, 2, 3]), (65, [0, 1, 2])] 60 _ _ ?_
      conv => whnf
      repeat' (first
        | (refine ⟨fun c => ?_, fun c => ?_⟩ <;> (try simp (disch := omega) only [nI_leI, nI_ltI, nI_eq, nz_eq, nz_lt, nz_gt, nz_le, nz_ge, nz_00, nz_10, nz_n1, nI_add, pk_mul, pk_sub, nI_shl1, nI_or, nI_half2, nI_min2, la_put_eq, la_up, lr_same, lr_ne, lu_same, lu_ne, hL, sp_ate_ge] at c) <;> first | (exfalso; omega) | conv => whnf)
        | (refine ⟨_, rfl, by omega, ?_⟩; conv => whnf)
        | (refine And.intro (by decide) ?_; conv => whnf))
      all_goals (try simp (disch := omega) only [nI_leI, nI_ltI, nI_eq, nz_eq, nz_lt, nz_gt, nz_le, nz_ge, nz_00, nz_10, nz_n1, nI_add, pk_mul, pk_sub, nI_shl1, nI_or, nI_half2, nI_min2, la_put_eq, la_up, lr_same, lr_ne, lu_same, lu_ne, hL, sp_ate_ge])
      · have h0 : sp_left L f k = 0 := by omega
        refine fin _ _ (by rw [sp_ate_stop h0 (n := L 0 3) (by omega)]) ?_
        obtain ⟨m, hm⟩ : ∃ m, L 0 3 = k + m := ⟨n + 1, by omega⟩
        rw [hm, sp_left_zero h0]
        omega
      · refine ih (k + 1) _ _ (by omega) ?_ (by rw [sp_ate_skip (by omega)])
        rw [sp_left, if_neg (by omega)]
        exact ha
      · refine ih (k + 1) _ _ (by omega) ?_ (sp_ate_step (by omega) (by omega))
        rw [sp_left, if_pos (by omega)]
        omega
  refine hK [(9, [0, 1, 2, 3])] 20 _ _ ?_
  conv => whnf
  repeat' (first
    | (refine ⟨fun c => ?_, fun c => ?_⟩ <;> (try simp (disch := omega) only [nI_leI, nI_ltI, nI_eq, nz_eq, nz_lt, nz_gt, nz_le, nz_ge, nz_00, nz_10, nz_n1, nI_add, pk_mul, pk_sub, nI_shl1, nI_or, nI_half2, nI_min2, la_put_eq, la_up, lr_same, lr_ne, lu_same, lu_ne, hL] at c) <;> first | (exfalso; omega) | conv => whnf)
    | (refine ⟨_, rfl, by omega, ?_⟩; conv => whnf)
    | (refine And.intro (by decide) ?_; conv => whnf))
  all_goals (try simp (disch := omega) only [nI_leI, nI_ltI, nI_eq, nz_eq, nz_lt, nz_gt, nz_le, nz_ge, nz_00, nz_10, nz_n1, nI_add, pk_mul, pk_sub, nI_shl1, nI_or, nI_half2, nI_min2, la_put_eq, la_up, lr_same, lr_ne, lu_same, lu_ne, hL])
  have := loop (L 0 3) 0 (L 1 f) L (by omega) rfl (by rw [sp_ate_0, lr_self])
  rw [la_self hL] at this
  exact this
theorem M_X0_feast : pm_MT yX0_feast cX0_feast 5 1 1 P_X0_feast (pm_pi Q_X0_feast) := pm_met k_X0_feast (by decide) rfl (by
  rintro ⟨g0, g1, g2, g3⟩ av h hp
  rw [hp.1]
  exact Nat.le_of_ble_eq_true rfl) pf_X0_feast
theorem rc_X0_feast : ∀ g av h, P_X0_feast g av h → ∃ i t, av = .inr (.inr (0, i, 0)) :: t := by
  rintro ⟨g0, g1, g2, g3⟩ av h hp
  exact ⟨_, _, hp.1⟩
/-! what a day keeps -/
theorem sp_feast_s {L : LD} {f s j : Nat} (h5 : s ≠ 5) (h2 : s ≠ 2) : sp_feast L f s j = L s j := by
  unfold sp_feast
  rw [lu_ne (by omega), lr_ne h5]
theorem sp_feast_5 {L : LD} {f j : Nat} : sp_feast L f 5 j = sp_ate L f (L 0 3) j := by
  unfold sp_feast
  rw [lu_ne (by omega), lr_same]
theorem sp_feast_2 {L : LD} {f j : Nat} : sp_feast L f 2 j = if j = f then sp_hun L f else L 2 j := by
  unfold sp_feast
  by_cases h : j = f
  · subst h; rw [lu_same, if_pos rfl]
  · rw [lu_ne (by omega), lr_ne (by omega), if_neg h]
theorem sp_rot_s {L : LD} {n s j : Nat} (h5 : s ≠ 5) : sp_rot L n s j = L s j := by
  unfold sp_rot
  rw [lr_ne h5]
theorem sp_rot_5 {L : LD} {n j : Nat} : sp_rot L n 5 j = if j < n then L 5 j - sp_spoil L j else L 5 j := by
  unfold sp_rot
  rw [lr_same]
theorem sp_ate_le (L : LD) (f n b : Nat) : sp_ate L f n b ≤ L 5 b := by
  unfold sp_ate
  by_cases h : b < n ∧ L 6 b = f
  · rw [if_pos h]; omega
  · rw [if_neg h]; exact Nat.le_refl _
theorem la_ok_feast {L : LD} (hw : la_ok L) {f : Nat} (hf : f < 4) : la_ok (sp_feast L f) := by
  obtain ⟨w1, w2, w3, w4, w5, w6, w7, w8, w9, w10⟩ := hw
  have e0 : ∀ j, sp_feast L f 0 j = L 0 j := fun j => sp_feast_s (by decide) (by decide)
  refine ⟨by rw [e0]; exact w1, by rw [e0]; exact w2, by rw [e0]; exact w3, by rw [e0]; exact w4, by rw [e0]; exact w5, by rw [e0]; exact w6, fun k hk => ?_, fun b hb => ?_, fun q hq => ?_, fun s j hr => ?_⟩
  · rw [sp_feast_s (by decide) (by decide), sp_feast_2]
    refine ⟨(w7 k hk).1, ?_⟩
    by_cases h : k = f
    · rw [if_pos h]
      unfold sp_hun
      have := (w7 f hf).2
      by_cases h2 : 0 < sp_left L f (L 0 3) ∧ L 2 f < 999
      · rw [if_pos h2]; omega
      · rw [if_neg h2]; exact this
    · rw [if_neg h]; exact (w7 k hk).2
  · rw [sp_feast_s (s := 3) (by decide) (by decide), sp_feast_s (s := 4) (by decide) (by decide), sp_feast_s (s := 6) (by decide) (by decide), sp_feast_5]
    have := w8 b hb
    have := sp_ate_le L f (L 0 3) b
    omega
  · rw [sp_feast_s (by decide) (by decide), sp_feast_s (by decide) (by decide)]
    exact w9 q hq
  · by_cases h5 : s = 5
    · subst h5
      rw [sp_feast_5]
      have := sp_ate_le L f (L 0 3) j
      have := w10 5 j hr
      omega
    · by_cases h2 : s = 2
      · subst h2
        rw [sp_feast_2, if_neg]
        · exact w10 2 j hr
        · rintro rfl
          exact hr (by unfold la_rel; omega)
      · rw [sp_feast_s h5 h2]
        exact w10 s j hr
theorem la_ok_rot {L : LD} (hw : la_ok L) (n : Nat) : la_ok (sp_rot L n) := by
  obtain ⟨w1, w2, w3, w4, w5, w6, w7, w8, w9, w10⟩ := hw
  have e0 : ∀ s j, s ≠ 5 → sp_rot L n s j = L s j := fun s j h => sp_rot_s h
  have e5 : ∀ j, sp_rot L n 5 j ≤ L 5 j := fun j => by
    rw [sp_rot_5]
    by_cases h : j < n
    · rw [if_pos h]; omega
    · rw [if_neg h]; exact Nat.le_refl _
  refine ⟨by rw [e0 _ _ (by decide)]; exact w1, by rw [e0 _ _ (by decide)]; exact w2, by rw [e0 _ _ (by decide)]; exact w3, by rw [e0 _ _ (by decide)]; exact w4, by rw [e0 _ _ (by decide)]; exact w5, by rw [e0 _ _ (by decide)]; exact w6, fun k hk => ?_, fun b hb => ?_, fun q hq => ?_, fun s j hr => ?_⟩
  · rw [e0 _ _ (by decide), e0 _ _ (by decide)]; exact w7 k hk
  · rw [e0 3 _ (by decide), e0 4 _ (by decide), e0 6 _ (by decide)]
    have := w8 b hb
    have := e5 b
    omega
  · rw [e0 _ _ (by decide), e0 _ _ (by decide)]; exact w9 q hq
  · by_cases h5 : s = 5
    · subst h5
      have := e5 j
      have := w10 5 j hr
      omega
    · rw [e0 _ _ h5]; exact w10 s j hr
theorem la_ok_feasts {L : LD} (hw : la_ok L) : ∀ n, n ≤ 4 → la_ok (sp_feasts L n)
  | 0, _ => hw
  | n + 1, h => la_ok_feast (la_ok_feasts hw n (by omega)) (by omega)
theorem sp_feasts_s {L : LD} {s j : Nat} (h5 : s ≠ 5) (h2 : s ≠ 2) : ∀ n, sp_feasts L n s j = L s j
  | 0 => rfl
  | n + 1 => by rw [sp_feasts, sp_feast_s h5 h2, sp_feasts_s h5 h2 n]
theorem la_ok_day {L : LD} (hw : la_ok L) {v : Nat} (hv : v ≤ 5000) : la_ok (lu L 0 10 v) := by
  obtain ⟨w1, w2, w3, w4, w5, w6, w7, w8, w9, w10⟩ := hw
  have e : ∀ s j, ¬ (s = 0 ∧ j = 10) → lu L 0 10 v s j = L s j := fun s j h => lu_ne h
  refine ⟨by rw [e _ _ (by decide)]; exact w1, by rw [e _ _ (by decide)]; exact w2, by rw [e _ _ (by decide)]; exact w3, by rw [e _ _ (by decide)]; exact w4, by rw [lu_same]; exact hv, by rw [e _ _ (by decide)]; exact w6, fun k hk => ?_, fun b hb => ?_, fun q hq => ?_, fun s j hr => ?_⟩
  · rw [e _ _ (by omega), e _ _ (by omega)]; exact w7 k hk
  · rw [e _ _ (by omega), e _ _ (by omega), e _ _ (by omega), e _ _ (by omega)]; exact w8 b hb
  · rw [e _ _ (by omega), e _ _ (by omega)]; exact w9 q hq
  · rw [e]
    · exact w10 s j hr
    · rintro ⟨rfl, rfl⟩
      exact hr (by unfold la_rel; omega)
theorem la_ok_live {L : LD} (hw : la_ok L) (hd : L 0 10 < 5000) : la_ok (sp_live L) := by
  unfold sp_live
  exact la_ok_day (la_ok_feasts (la_ok_rot hw _) _ hw.1) (by omega)
theorem sp_live_s {L : LD} {s j : Nat} (h5 : s ≠ 5) (h2 : s ≠ 2) (hd : ¬ (s = 0 ∧ j = 10)) : sp_live L s j = L s j := by
  unfold sp_live
  rw [lu_ne hd, sp_feasts_s h5 h2, sp_rot_s h5]
theorem sp_live_day (L : LD) : sp_live L 0 10 = L 0 10 + 1 := by
  unfold sp_live
  rw [lu_same]
/-! live -/
def P_X0_live : Nat × LD × pm_H → List pm_V → pm_H → Prop := fun g av h => match g with
  | (i, L, h0) => av = [vR 0 i 0] ∧ h = h0 ∧ la_at h0 i L ∧ la_ok L ∧ L 0 10 < 5000
def Q_X0_live : Nat × LD × pm_H → Int32 → pm_H → Prop := fun g v h => match g with
  | (i, L, h0) => h = la_put h0 i (sp_live L) ∧ v = nI (sp_day L)
theorem sp_spoil_rot {L : LD} {k : Nat} : sp_spoil (sp_rot L k) k = sp_spoil L k := by
  unfold sp_spoil
  rw [sp_rot_5, if_neg (by omega), sp_rot_s (by decide), sp_rot_s (by decide)]
theorem sp_rot_step {L : LD} {k v : Nat} (hv : v = L 5 k - sp_spoil L k) : lu (sp_rot L k) 5 k v = sp_rot L (k + 1) := by
  unfold sp_rot
  refine lu_lr (fun b => ?_)
  by_cases hb : b = k
  · subst hb
    rw [if_pos (by omega), if_pos rfl, hv]
  · rw [if_neg hb]
    by_cases h1 : b < k
    · rw [if_pos h1, if_pos (by omega)]
    · rw [if_neg h1, if_neg (by omega)]
theorem sp_rot_0 (L : LD) : sp_rot L 0 = L := by
  unfold sp_rot
  have : (fun b => if b < 0 then L 5 b - sp_spoil L b else L 5 b) = L 5 := by
    funext b
    rw [if_neg (by omega)]
  rw [this, lr_self]
def T_X0_live : List (Nat × pm_T) := [
  (0, i_c (nI 0) 1),
  (1, i_is 1 2),
  (2, i_il 1 3),
  (3, i_al 0 4),
  (4, i_gi 0 3 7),
  (7, i_icge 30 10),
  (10, i_al 0 11),
  (11, i_gr 0 (fun i => (0, i, 5)) 14),
  (14, i_il 1 15),
  (15, i_dup2 16),
  (16, i_ia 17),
  (17, i_al 0 18),
  (18, i_il 1 19),
  (19, i_ci 2 P_X0_spoilOf Q_X0_spoilOf 22),
  (22, i_isub 23),
  (23, i_ias 24),
  (24, i_inc 1 (nI 1) 27),
  (27, i_go 2),
  (30, i_c (nI 0) 31),
  (31, i_is 1 32),
  (32, i_c (nI 0) 33),
  (33, i_is 2 34),
  (34, i_il 2 35),
  (35, i_al 0 36),
  (36, i_gi 0 0 39),
  (39, i_icge 56 42),
  (42, i_il 1 43),
  (43, i_al 0 44),
  (44, i_il 2 45),
  (45, i_ci 2 P_X0_feast Q_X0_feast 48),
  (48, i_iadd 49),
  (49, i_is 1 50),
  (50, i_inc 2 (nI 1) 53),
  (53, i_go 34),
  (56, i_al 0 57),
  (57, i_dup 58),
  (58, i_gi 0 10 61),
  (61, i_c (nI 1) 62),
  (62, i_iadd 63),
  (63, i_pi 0 10 66),
  (66, i_il 1 67),
  (67, i_ir)]
theorem k_X0_live : ∀ q ∈ T_X0_live, pm_sd RX0 cX0_live 3 2 1 q.1 q.2 := by
  unfold T_X0_live
  refine pm_cn (sd_iconst (z := 0) (by decide +kernel) (by decide +kernel) rfl) ?_
  refine pm_cn (sd_isn (k := 1) (by decide +kernel) rfl rfl (by decide)) ?_
  refine pm_cn (sd_iln (k := 1) (by decide +kernel) rfl rfl) ?_
  refine pm_cn (sd_aln (k := 0) (by decide +kernel) rfl rfl) ?_
  refine pm_cn (sd_gi cl0_ in0_ (by decide) (fun _ => rfl) fl_X0_46 (by decide +kernel) rfl) ?_
  refine pm_cn (sd_icge (off := 23) (by decide +kernel) (by decide) rfl) ?_
  refine pm_cn (sd_aln (k := 0) (by decide +kernel) rfl rfl) ?_
  refine pm_cn (sd_gr cl0_ in0_ (j := 6) (by decide) (fun _ => rfl) fl_X0_24 (by decide +kernel) rfl) ?_
  refine pm_cn (sd_iln (k := 1) (by decide +kernel) rfl rfl) ?_
  refine pm_cn (sd_dup2 (by decide +kernel) rfl) ?_
  refine pm_cn (sd_ia (by decide +kernel) rfl) ?_
  refine pm_cn (sd_aln (k := 0) (by decide +kernel) rfl rfl) ?_
  refine pm_cn (sd_iln (k := 1) (by decide +kernel) rfl rfl) ?_
  refine pm_cn (sd_civ M_X0_spoilOf (by decide) cd_X0_spoilOf rc_X0_spoilOf cl0_ ml_X0_79 im_X0_spoilOf se_X0_spoilOf nt_X0 (by decide +kernel) (by decide) (by decide) (by decide +kernel) rfl) ?_
  refine pm_cn (sd_isub (by decide +kernel) rfl) ?_
  refine pm_cn (sd_ias (by decide +kernel) rfl) ?_
  refine pm_cn (sd_inc (z := 1) (by decide +kernel) (by decide +kernel) rfl (by decide)) ?_
  refine pm_cn (sd_go (off := -25) (by decide +kernel) (by decide)) ?_
  refine pm_cn (sd_iconst (z := 0) (by decide +kernel) (by decide +kernel) rfl) ?_
  refine pm_cn (sd_isn (k := 1) (by decide +kernel) rfl rfl (by decide)) ?_
  refine pm_cn (sd_iconst (z := 0) (by decide +kernel) (by decide +kernel) rfl) ?_
  refine pm_cn (sd_isn (k := 2) (by decide +kernel) rfl rfl (by decide)) ?_
  refine pm_cn (sd_iln (k := 2) (by decide +kernel) rfl rfl) ?_
  refine pm_cn (sd_aln (k := 0) (by decide +kernel) rfl rfl) ?_
  refine pm_cn (sd_gi cl0_ in0_ (by decide) (fun _ => rfl) fl_X0_43 (by decide +kernel) rfl) ?_
  refine pm_cn (sd_icge (off := 17) (by decide +kernel) (by decide) rfl) ?_
  refine pm_cn (sd_iln (k := 1) (by decide +kernel) rfl rfl) ?_
  refine pm_cn (sd_aln (k := 0) (by decide +kernel) rfl rfl) ?_
  refine pm_cn (sd_iln (k := 2) (by decide +kernel) rfl rfl) ?_
  refine pm_cn (sd_civ M_X0_feast (by decide) cd_X0_feast rc_X0_feast cl0_ ml_X0_82 im_X0_feast se_X0_feast nt_X0 (by decide +kernel) (by decide) (by decide) (by decide +kernel) rfl) ?_
  refine pm_cn (sd_iadd (by decide +kernel) rfl) ?_
  refine pm_cn (sd_isn (k := 1) (by decide +kernel) rfl rfl (by decide)) ?_
  refine pm_cn (sd_inc (z := 1) (by decide +kernel) (by decide +kernel) rfl (by decide)) ?_
  refine pm_cn (sd_go (off := -19) (by decide +kernel) (by decide)) ?_
  refine pm_cn (sd_aln (k := 0) (by decide +kernel) rfl rfl) ?_
  refine pm_cn (sd_dup (by decide +kernel) rfl) ?_
  refine pm_cn (sd_gi cl0_ in0_ (by decide) (fun _ => rfl) fl_X0_52 (by decide +kernel) rfl) ?_
  refine pm_cn (sd_iconst (z := 1) (by decide +kernel) (by decide +kernel) rfl) ?_
  refine pm_cn (sd_iadd (by decide +kernel) rfl) ?_
  refine pm_cn (sd_pi cl0_ in0_ tyX0 tyX0_ok nmX0 (by decide) (fun _ => rfl) rfl rfl fl_X0_52 (by decide +kernel) rfl) ?_
  refine pm_cn (sd_iln (k := 1) (by decide +kernel) rfl rfl) ?_
  refine pm_cn (sd_ir (by decide +kernel)) ?_
  exact fun _ h => absurd h List.not_mem_nil
set_option maxHeartbeats 4000000 in
set_option maxRecDepth 100000 in
theorem pf_X0_live : pm_pf T_X0_live P_X0_live (pm_pi Q_X0_live) := by
  rintro ⟨i, L, h0⟩ av h K hK ⟨rfl, rfl, hL, hw, hd⟩ hret
  obtain ⟨w1, w2, w3, w4, w5, w6, w7, w8, w9, w10⟩ := id hw
  show K (some 0) ([(0, vR 0 i 0)], [], h)
  have hwr := la_ok_rot hw (L 0 3)
  have loop2 : ∀ n k a M, k + n = L 0 0 → a = sp_meals (sp_rot L (L 0 3)) k → M = sp_feasts (sp_rot L (L 0 3)) k → K (some 34) ([(0, vR 0 i 0), (1, vI (nI a)), (2, vI (nI k))], [], la_put h i M) := by
    intro n
    induction n with
    | zero =>
      intro k a M hk ha hM
      have e1 : M 0 0 = L 0 0 := by rw [hM, sp_feasts_s (by decide) (by decide), sp_rot_s (by decide)]
      have e2 : M 0 10 = L 0 10 := by rw [hM, sp_feasts_s (by decide) (by decide), sp_rot_s (by decide)]
      refine hK [(34, [0, 1, 2])] 40 _ _ ?_
      conv => whnf
      repeat' (first
        | (refine ⟨fun c => ?_, fun c => ?_⟩ <;> (try simp (disch := omega) only [nI_leI, nI_ltI, nI_eq, nz_eq, nz_lt, nz_gt, nz_le, nz_ge, nz_00, nz_10, nz_n1, nI_add, pk_mul, pk_sub, nI_shl1, nI_or, nI_half2, nI_min2, la_put_eq, la_up, lr_same, lr_ne, lu_same, lu_ne, e1, e2] at c) <;> first | (exfalso; omega) | conv => whnf)
        | (refine ⟨_, rfl, by omega, ?_⟩; conv => whnf)
        | (refine And.intro (by decide) ?_; conv => whnf))
      all_goals (try simp (disch := omega) only [nI_leI, nI_ltI, nI_eq, nz_eq, nz_lt, nz_gt, nz_le, nz_ge, nz_00, nz_10, nz_n1, nI_add, pk_mul, pk_sub, nI_shl1, nI_or, nI_half2, nI_min2, la_put_eq, la_up, lr_same, lr_ne, lu_same, lu_ne, e1, e2])
      have : k = L 0 0 := by omega
      subst this
      subst ha hM
      exact hret _ _ ⟨rfl, rfl⟩
    | succ n ih =>
      intro k a M hk ha hM
      have e1 : M 0 0 = L 0 0 := by rw [hM, sp_feasts_s (by decide) (by decide), sp_rot_s (by decide)]
      refine hK [(34, [0, 1, 2])] 40 _ _ ?_
      conv => whnf
      repeat' (first
        | (refine ⟨fun c => ?_, fun c => ?_⟩ <;> (try simp (disch := omega) only [nI_leI, nI_ltI, nI_eq, nz_eq, nz_lt, nz_gt, nz_le, nz_ge, nz_00, nz_10, nz_n1, nI_add, pk_mul, pk_sub, nI_shl1, nI_or, nI_half2, nI_min2, la_put_eq, la_up, lr_same, lr_ne, lu_same, lu_ne, e1] at c) <;> first | (exfalso; omega) | conv => whnf)
        | (refine ⟨_, rfl, by omega, ?_⟩; conv => whnf)
        | (refine And.intro (by decide) ?_; conv => whnf))
      all_goals (try simp (disch := omega) only [nI_leI, nI_ltI, nI_eq, nz_eq, nz_lt, nz_gt, nz_le, nz_ge, nz_00, nz_10, nz_n1, nI_add, pk_mul, pk_sub, nI_shl1, nI_or, nI_half2, nI_min2, la_put_eq, la_up, lr_same, lr_ne, lu_same, lu_ne, e1])
      refine ⟨(i, k, M, la_put h i M), ⟨rfl, rfl, la_put_at h i M, by rw [hM]; exact la_ok_feasts hwr k (by omega), by omega⟩, fun v h' hq => ?_⟩
      obtain ⟨rfl, rfl⟩ := hq
      conv => whnf
      repeat' (first
        | (refine ⟨fun c => ?_, fun c => ?_⟩ <;> (try simp (disch := omega) only [nI_leI, nI_ltI, nI_eq, nz_eq, nz_lt, nz_gt, nz_le, nz_ge, nz_00, nz_10, nz_n1, nI_add, pk_mul, pk_sub, nI_shl1, nI_or, nI_half2, nI_min2, la_put_eq, la_up, lr_same, lr_ne, lu_same, lu_ne, la_put2] at c) <;> first | (exfalso; omega) | conv => whnf)
        | (refine ⟨_, rfl, by omega, ?_⟩; conv => whnf)
        | (refine And.intro (by decide) ?_; conv => whnf))
      all_goals (try simp (disch := omega) only [nI_leI, nI_ltI, nI_eq, nz_eq, nz_lt, nz_gt, nz_le, nz_ge, nz_00, nz_10, nz_n1, nI_add, pk_mul, pk_sub, nI_shl1, nI_or, nI_half2, nI_min2, la_put_eq, la_up, lr_same, lr_ne, lu_same, lu_ne, la_put2])
      refine ih (k + 1) _ _ (by omega) ?_ ?_
      · rw [sp_meals, ← ha, ← hM]
      · rw [sp_feasts, ← hM]
  have loop1 : ∀ n k M, k + n = L 0 3 → M = sp_rot L k → K (some 2) ([(0, vR 0 i 0), (1, vI (nI k))], [], la_put h i M) := by
    intro n
    induction n with
    | zero =>
      intro k M hk hM
      have e1 : M 0 3 = L 0 3 := by rw [hM, sp_rot_s (by decide)]
      refine hK [(2, [0, 1]), (34, [0, 1, 2])] 40 _ _ ?_
      conv => whnf
      repeat' (first
        | (refine ⟨fun c => ?_, fun c => ?_⟩ <;> (try simp (disch := omega) only [nI_leI, nI_ltI, nI_eq, nz_eq, nz_lt, nz_gt, nz_le, nz_ge, nz_00, nz_10, nz_n1, nI_add, pk_mul, pk_sub, nI_shl1, nI_or, nI_half2, nI_min2, la_put_eq, la_up, lr_same, lr_ne, lu_same, lu_ne, e1] at c) <;> first | (exfalso; omega) | conv => whnf)
        | (refine ⟨_, rfl, by omega, ?_⟩; conv => whnf)
        | (refine And.intro (by decide) ?_; conv => whnf))
      all_goals (try simp (disch := omega) only [nI_leI, nI_ltI, nI_eq, nz_eq, nz_lt, nz_gt, nz_le, nz_ge, nz_00, nz_10, nz_n1, nI_add, pk_mul, pk_sub, nI_shl1, nI_or, nI_half2, nI_min2, la_put_eq, la_up, lr_same, lr_ne, lu_same, lu_ne, e1])
      have : k = L 0 3 := by omega
      subst this
      exact loop2 (L 0 0) 0 0 M (by omega) rfl hM
    | succ n ih =>
      intro k M hk hM
      have hB := w8 k (by omega)
      have e1 : M 0 3 = L 0 3 := by rw [hM, sp_rot_s (by decide)]
      have e2 : M 5 k = L 5 k := by rw [hM, sp_rot_5, if_neg (by omega)]
      have e3 : sp_spoil M k = sp_spoil L k := by rw [hM, sp_spoil_rot]
      have e4 : sp_spoil L k ≤ L 5 k := Nat.min_le_right _ _
      refine hK [(2, [0, 1]), (34, [0, 1, 2])] 40 _ _ ?_
      conv => whnf
      repeat' (first
        | (refine ⟨fun c => ?_, fun c => ?_⟩ <;> (try simp (disch := omega) only [nI_leI, nI_ltI, nI_eq, nz_eq, nz_lt, nz_gt, nz_le, nz_ge, nz_00, nz_10, nz_n1, nI_add, pk_mul, pk_sub, nI_shl1, nI_or, nI_half2, nI_min2, la_put_eq, la_up, lr_same, lr_ne, lu_same, lu_ne, e1, e2] at c) <;> first | (exfalso; omega) | conv => whnf)
        | (refine ⟨_, rfl, by omega, ?_⟩; conv => whnf)
        | (refine And.intro (by decide) ?_; conv => whnf))
      all_goals (try simp (disch := omega) only [nI_leI, nI_ltI, nI_eq, nz_eq, nz_lt, nz_gt, nz_le, nz_ge, nz_00, nz_10, nz_n1, nI_add, pk_mul, pk_sub, nI_shl1, nI_or, nI_half2, nI_min2, la_put_eq, la_up, lr_same, lr_ne, lu_same, lu_ne, e1, e2])
      refine ⟨(i, k, M, la_put h i M), ⟨rfl, rfl, la_put_at h i M, by omega, by rw [hM, sp_rot_s (by decide)]; exact w3, by rw [hM, sp_rot_s (by decide)]; exact hB.1, by rw [e2]; exact hB.2.2.1⟩, fun v h' hq => ?_⟩
      obtain ⟨rfl, rfl⟩ := hq
      conv => whnf
      repeat' (first
        | (refine ⟨fun c => ?_, fun c => ?_⟩ <;> (try simp (disch := omega) only [nI_leI, nI_ltI, nI_eq, nz_eq, nz_lt, nz_gt, nz_le, nz_ge, nz_00, nz_10, nz_n1, nI_add, pk_mul, pk_sub, nI_shl1, nI_or, nI_half2, nI_min2, la_put_eq, la_up, lr_same, lr_ne, lu_same, lu_ne, e3] at c) <;> first | (exfalso; omega) | conv => whnf)
        | (refine ⟨_, rfl, by omega, ?_⟩; conv => whnf)
        | (refine And.intro (by decide) ?_; conv => whnf))
      all_goals (try simp (disch := omega) only [nI_leI, nI_ltI, nI_eq, nz_eq, nz_lt, nz_gt, nz_le, nz_ge, nz_00, nz_10, nz_n1, nI_add, pk_mul, pk_sub, nI_shl1, nI_or, nI_half2, nI_min2, la_put_eq, la_up, lr_same, lr_ne, lu_same, lu_ne, e3])
      refine ih (k + 1) _ (by omega) ?_
      rw [hM]
      exact sp_rot_step rfl
  refine hK [(2, [0, 1])] 20 _ _ ?_
  conv => whnf
  repeat' (first
    | (refine ⟨fun c => ?_, fun c => ?_⟩ <;> (try simp (disch := omega) only [nI_leI, nI_ltI, nI_eq, nz_eq, nz_lt, nz_gt, nz_le, nz_ge, nz_00, nz_10, nz_n1, nI_add, pk_mul, pk_sub, nI_shl1, nI_or, nI_half2, nI_min2, la_put_eq, la_up, lr_same, lr_ne, lu_same, lu_ne, hL] at c) <;> first | (exfalso; omega) | conv => whnf)
    | (refine ⟨_, rfl, by omega, ?_⟩; conv => whnf)
    | (refine And.intro (by decide) ?_; conv => whnf))
  all_goals (try simp (disch := omega) only [nI_leI, nI_ltI, nI_eq, nz_eq, nz_lt, nz_gt, nz_le, nz_ge, nz_00, nz_10, nz_n1, nI_add, pk_mul, pk_sub, nI_shl1, nI_or, nI_half2, nI_min2, la_put_eq, la_up, lr_same, lr_ne, lu_same, lu_ne, hL])
  have := loop1 (L 0 3) 0 L (by omega) (sp_rot_0 L).symm
  rw [la_self hL] at this
  exact this
theorem M_X0_live : pm_MT yX0_live cX0_live 3 1 2 P_X0_live (pm_pi Q_X0_live) := pm_met k_X0_live (by decide) rfl (by
  rintro ⟨g0, g1, g2⟩ av h hp
  rw [hp.1]
  exact Nat.le_of_ble_eq_true rfl) pf_X0_live
theorem rc_X0_live : ∀ g av h, P_X0_live g av h → ∃ i t, av = .inr (.inr (0, i, 0)) :: t := by
  rintro ⟨g0, g1, g2⟩ av h hp
  exact ⟨_, _, hp.1⟩
end
section
/-! Larder: what is put in. -/
def la_bd (s j v : Nat) : Prop := (s = 0 → (j = 0 → v ≤ 4) ∧ (j = 3 → v ≤ 6) ∧ (j = 8 → v ≤ 9) ∧ (j = 9 → 1 ≤ v ∧ v ≤ 20) ∧ (j = 10 → v ≤ 5000) ∧ (j = 11 → v ≤ 6)) ∧ (s = 1 → v ≤ 9) ∧ (s = 2 → v ≤ 999) ∧ (s = 3 → v ≤ 3) ∧ (s = 4 → v ≤ 9) ∧ (s = 5 → v ≤ 99) ∧ (s = 6 → v ≤ 3) ∧ (s = 7 → v ≤ 99) ∧ (s = 8 → v ≤ 9)
theorem la_ok_iff {L : LD} : la_ok L ↔ ∀ s j, (la_rel s j → la_bd s j (L s j)) ∧ (¬ la_rel s j → L s j = 0) := by
  constructor
  · rintro ⟨w1, w2, w3, w4, w5, w6, w7, w8, w9, w10⟩ s j
    refine ⟨fun hr => ?_, w10 s j⟩
    have h7 := w7 j
    have h8 := w8 j
    have h9 := w9 j
    unfold la_rel at hr
    unfold la_bd
    refine ⟨?_, ?_, ?_, ?_, ?_, ?_, ?_, ?_, ?_⟩
    · rintro rfl
      refine ⟨?_, ?_, ?_, ?_, ?_, ?_⟩ <;> rintro rfl <;> assumption
    all_goals (rintro rfl; omega)
  · intro h
    have hb : ∀ s j, la_rel s j → la_bd s j (L s j) := fun s j => (h s j).1
    have r0 : ∀ j, (j = 0 ∨ j = 3 ∨ j = 8 ∨ j = 9 ∨ j = 10 ∨ j = 11) → la_rel 0 j := fun j hj => Or.inl ⟨rfl, hj⟩
    refine ⟨((hb 0 0 (r0 _ (by omega))).1 rfl).1 rfl, ((hb 0 3 (r0 _ (by omega))).1 rfl).2.1 rfl, ((hb 0 8 (r0 _ (by omega))).1 rfl).2.2.1 rfl, ((hb 0 9 (r0 _ (by omega))).1 rfl).2.2.2.1 rfl, ((hb 0 10 (r0 _ (by omega))).1 rfl).2.2.2.2.1 rfl, ((hb 0 11 (r0 _ (by omega))).1 rfl).2.2.2.2.2 rfl, fun f hf => ?_, fun b hb9 => ?_, fun q hq => ?_, fun s j => (h s j).2⟩
    · exact ⟨(hb 1 f (by unfold la_rel; omega)).2.1 rfl, (hb 2 f (by unfold la_rel; omega)).2.2.1 rfl⟩
    · exact ⟨(hb 3 b (by unfold la_rel; omega)).2.2.2.1 rfl, (hb 4 b (by unfold la_rel; omega)).2.2.2.2.1 rfl, (hb 5 b (by unfold la_rel; omega)).2.2.2.2.2.1 rfl, (hb 6 b (by unfold la_rel; omega)).2.2.2.2.2.2.1 rfl⟩
    · exact ⟨(hb 7 q (by unfold la_rel; omega)).2.2.2.2.2.2.2.1 rfl, (hb 8 q (by unfold la_rel; omega)).2.2.2.2.2.2.2.2 rfl⟩
theorem la_ok_lu {L : LD} (hw : la_ok L) {s j v : Nat} (hr : la_rel s j) (hb : la_bd s j v) : la_ok (lu L s j v) := by
  rw [la_ok_iff] at hw ⊢
  intro s' j'
  by_cases h : s' = s ∧ j' = j
  · obtain ⟨rfl, rfl⟩ := h
    rw [lu_same]
    exact ⟨fun _ => hb, fun h => absurd hr h⟩
  · rw [lu_ne h]
    exact hw s' j'
/-! empty -/
def sp_empty (L : LD) : LD := lu (lu (lu (lu (lu (lu L 0 0 0) 0 3 0) 0 11 0) 0 8 2) 0 9 5) 0 10 0
theorem la_ok_empty {L : LD} (hw : la_ok L) : la_ok (sp_empty L) := by
  unfold sp_empty
  refine la_ok_lu (la_ok_lu (la_ok_lu (la_ok_lu (la_ok_lu (la_ok_lu hw ?_ ?_) ?_ ?_) ?_ ?_) ?_ ?_) ?_ ?_) ?_ ?_ <;> first | (unfold la_rel; omega) | (unfold la_bd; omega)
def P_X0_empty : Nat × LD × pm_H → List pm_V → pm_H → Prop := fun g av h => match g with
  | (i, L, h0) => av = [vR 0 i 0] ∧ h = h0 ∧ la_at h0 i L
def Q_X0_empty : Nat × LD × pm_H → pm_H → Prop := fun g h => match g with
  | (i, L, h0) => h = la_put h0 i (sp_empty L)
def T_X0_empty : List (Nat × pm_T) := [
  (0, i_al 0 1),
  (1, i_c (nI 0) 2),
  (2, i_pi 0 0 5),
  (5, i_al 0 6),
  (6, i_c (nI 0) 7),
  (7, i_pi 0 3 10),
  (10, i_al 0 11),
  (11, i_c (nI 0) 12),
  (12, i_pi 0 11 15),
  (15, i_al 0 16),
  (16, i_c (nI 2) 17),
  (17, i_pi 0 8 20),
  (20, i_al 0 21),
  (21, i_c (nI 5) 22),
  (22, i_pi 0 9 25),
  (25, i_al 0 26),
  (26, i_c (nI 0) 27),
  (27, i_pi 0 10 30),
  (30, i_vr)]
theorem k_X0_empty : ∀ q ∈ T_X0_empty, pm_sd RX0 cX0_empty 1 1 0 q.1 q.2 := by
  unfold T_X0_empty
  refine pm_cn (sd_aln (k := 0) (by decide +kernel) rfl rfl) ?_
  refine pm_cn (sd_iconst (z := 0) (by decide +kernel) (by decide +kernel) rfl) ?_
  refine pm_cn (sd_pi cl0_ in0_ tyX0 tyX0_ok nmX0 (by decide) (fun _ => rfl) rfl rfl fl_X0_43 (by decide +kernel) rfl) ?_
  refine pm_cn (sd_aln (k := 0) (by decide +kernel) rfl rfl) ?_
  refine pm_cn (sd_iconst (z := 0) (by decide +kernel) (by decide +kernel) rfl) ?_
  refine pm_cn (sd_pi cl0_ in0_ tyX0 tyX0_ok nmX0 (by decide) (fun _ => rfl) rfl rfl fl_X0_46 (by decide +kernel) rfl) ?_
  refine pm_cn (sd_aln (k := 0) (by decide +kernel) rfl rfl) ?_
  refine pm_cn (sd_iconst (z := 0) (by decide +kernel) (by decide +kernel) rfl) ?_
  refine pm_cn (sd_pi cl0_ in0_ tyX0 tyX0_ok nmX0 (by decide) (fun _ => rfl) rfl rfl fl_X0_49 (by decide +kernel) rfl) ?_
  refine pm_cn (sd_aln (k := 0) (by decide +kernel) rfl rfl) ?_
  refine pm_cn (sd_iconst (z := 2) (by decide +kernel) (by decide +kernel) rfl) ?_
  refine pm_cn (sd_pi cl0_ in0_ tyX0 tyX0_ok nmX0 (by decide) (fun _ => rfl) rfl rfl fl_X0_30 (by decide +kernel) rfl) ?_
  refine pm_cn (sd_aln (k := 0) (by decide +kernel) rfl rfl) ?_
  refine pm_cn (sd_iconst (z := 5) (by decide +kernel) (by decide +kernel) rfl) ?_
  refine pm_cn (sd_pi cl0_ in0_ tyX0 tyX0_ok nmX0 (by decide) (fun _ => rfl) rfl rfl fl_X0_34 (by decide +kernel) rfl) ?_
  refine pm_cn (sd_aln (k := 0) (by decide +kernel) rfl rfl) ?_
  refine pm_cn (sd_iconst (z := 0) (by decide +kernel) (by decide +kernel) rfl) ?_
  refine pm_cn (sd_pi cl0_ in0_ tyX0 tyX0_ok nmX0 (by decide) (fun _ => rfl) rfl rfl fl_X0_52 (by decide +kernel) rfl) ?_
  refine pm_cn (sd_vr (by decide +kernel)) ?_
  exact fun _ h => absurd h List.not_mem_nil
set_option maxHeartbeats 4000000 in
set_option maxRecDepth 100000 in
theorem pf_X0_empty : pm_pf T_X0_empty P_X0_empty (pm_pv Q_X0_empty) := by
  rintro ⟨i, L, h0⟩ av h K hK ⟨rfl, rfl, hL⟩ hret
  have e := la_self hL
  show K (some 0) ([(0, vR 0 i 0)], [], h)
  rw [← e]
  refine hK [] 40 _ _ ?_
  conv => whnf
  repeat' (first
    | (refine ⟨fun c => ?_, fun c => ?_⟩ <;> (try simp (disch := omega) only [nI_leI, nI_ltI, nI_eq, nz_eq, nz_lt, nz_gt, nz_le, nz_ge, nz_00, nz_10, nz_n1, nI_add, pk_mul, pk_sub, nI_shl1, nI_or, nI_half2, nI_min2, la_put_eq, la_up, lr_same, lr_ne, lu_same, lu_ne] at c) <;> first | (exfalso; omega) | conv => whnf)
    | (refine ⟨_, rfl, by omega, ?_⟩; conv => whnf)
    | (refine ⟨_, rfl, rfl, rfl, by decide, by decide, ?_⟩; conv => whnf)
    | (refine ⟨_, by (simp (disch := omega) only [nI_leI, nI_ltI, nI_eq, nz_eq, nz_lt, nz_gt, nz_le, nz_ge, nz_00, nz_10, nz_n1, nI_add, pk_mul, pk_sub, nI_shl1, nI_or, nI_half2, nI_min2, la_put_eq, la_up, lr_same, lr_ne, lu_same, lu_ne]; rfl), by omega, ?_⟩; conv => whnf)
    | (refine And.intro (by decide) ?_; conv => whnf))
  all_goals (try simp (disch := omega) only [nI_leI, nI_ltI, nI_eq, nz_eq, nz_lt, nz_gt, nz_le, nz_ge, nz_00, nz_10, nz_n1, nI_add, pk_mul, pk_sub, nI_shl1, nI_or, nI_half2, nI_min2, la_put_eq, la_up, lr_same, lr_ne, lu_same, lu_ne])
  exact hret _ _ rfl
theorem M_X0_empty : pm_MT yX0_empty cX0_empty 1 0 1 P_X0_empty (pm_pv Q_X0_empty) := pm_met k_X0_empty (by decide) rfl (by
  rintro ⟨g0, g1, g2⟩ av h hp
  rw [hp.1]
  exact Nat.le_of_ble_eq_true rfl) pf_X0_empty
theorem rc_X0_empty : ∀ g av h, P_X0_empty g av h → ∃ i t, av = .inr (.inr (0, i, 0)) :: t := by
  rintro ⟨g0, g1, g2⟩ av h hp
  exact ⟨_, _, hp.1⟩
/-! take -/
def P_X0_take : Nat × Nat × LD × LD × pm_H → List pm_V → pm_H → Prop := fun g av h => match g with
  | (i, k, L, M, h0) => av = [vR 0 i 0, vR 0 k 0] ∧ h = h0 ∧ la_at h0 i L ∧ la_at h0 k M ∧ la_ok L ∧ la_ok M ∧ k ≠ i
def Q_X0_take : Nat × Nat × LD × LD × pm_H → pm_H → Prop := fun g h => match g with
  | (i, k, L, M, h0) => h = la_put h0 i M
def lc (L : LD) (s : Nat) (f : Nat → Nat) (n : Nat) : LD := lr L s (fun j => if j < n then f j else L s j)
theorem la_cp {h : pm_H} {i k : Nat} {M : LD} (hM : la_at h k M) (hk : k ≠ i) (L : LD) (s n : Nat) : pm_ua (la_put h i L) 0 i s (pm_cp (la_put h i L 0 k s) (la_put h i L 0 i s) n) = la_put h i (lc L s (M s) n) := by
  funext c i' s' j'
  by_cases hc : c = 0 ∧ i' = i
  · obtain ⟨rfl, rfl⟩ := hc
    rw [la_put_eq]
    by_cases hs : s' = s
    · subst hs
      rw [lc, lr_same]
      simp only [pm_ua, and_self, if_true, pm_cp]
      by_cases hj : j' < n
      · rw [if_pos hj, if_pos hj, la_put_ne (by omega), hM]
      · rw [if_neg hj, if_neg hj, la_put_eq]
    · rw [lc, lr_ne hs]
      simp only [pm_ua, hs, and_false, if_false]
      rw [la_put_eq]
  · rw [la_put_ne hc]
    have : ¬ (c = 0 ∧ i' = i ∧ s' = s) := fun q => hc ⟨q.1, q.2.1⟩
    simp only [pm_ua, this, if_false]
    rw [la_put_ne hc]
theorem lc_eq {L : LD} {s n : Nat} {f : Nat → Nat} {s' j' : Nat} : lc L s f n s' j' = if s' = s ∧ j' < n then f j' else L s' j' := by
  unfold lc
  by_cases hs : s' = s
  · subst hs
    rw [lr_same]
    by_cases hj : j' < n <;> simp [hj]
  · rw [lr_ne hs, if_neg (by omega)]
theorem lu_eq {L : LD} {s j v s' j' : Nat} : lu L s j v s' j' = if s' = s ∧ j' = j then v else L s' j' := rfl
theorem sp_take_eq {L M : LD} (hL : la_ok L) (hM : la_ok M) : lc (lc (lu (lu (lu (lu (lc (lc (lc (lc (lu (lc (lc (lu L 0 0 (M 0 0)) 1 (M 1) 4) 2 (M 2) 4) 0 3 (M 0 3)) 3 (M 3) 6) 4 (M 4) 6) 5 (M 5) 6) 6 (M 6) 6) 0 8 (M 0 8)) 0 9 (M 0 9)) 0 10 (M 0 10)) 0 11 (M 0 11)) 7 (M 7) 6) 8 (M 8) 6 = M := by
  funext s j
  simp only [lc_eq, lu_eq]
  by_cases hr : la_rel s j
  · unfold la_rel at hr
    rcases hr with ⟨rfl, hj⟩ | ⟨hs, hj⟩ | ⟨h3, h8, hj⟩
    · rcases hj with rfl | rfl | rfl | rfl | rfl | rfl <;> simp
    · rcases hs with rfl | rfl <;> simp [hj]
    · have : s = 3 ∨ s = 4 ∨ s = 5 ∨ s = 6 ∨ s = 7 ∨ s = 8 := by omega
      rcases this with rfl | rfl | rfl | rfl | rfl | rfl <;> simp [hj]
  · rw [(la_ok_iff.mp hM s j).2 hr]
    have := (la_ok_iff.mp hL s j).2 hr
    unfold la_rel at hr
    rw [if_neg (by omega), if_neg (by omega), if_neg (by omega), if_neg (by omega), if_neg (by omega), if_neg (by omega), if_neg (by omega), if_neg (by omega), if_neg (by omega), if_neg (by omega), if_neg (by omega), if_neg (by omega), if_neg (by omega), if_neg (by omega)]
    exact this
def T_X0_take : List (Nat × pm_T) := [
  (0, i_al 0 1),
  (1, i_al 1 2),
  (2, i_gi 0 0 5),
  (5, i_pi 0 0 8),
  (8, i_al 1 9),
  (9, i_gr 0 (fun i => (0, i, 1)) 12),
  (12, i_c (nI 0) 13),
  (13, i_al 0 14),
  (14, i_gr 0 (fun i => (0, i, 1)) 17),
  (17, i_c (nI 0) 18),
  (18, i_c (nI 4) 19),
  (19, i_cp 22),
  (22, i_al 1 23),
  (23, i_gr 0 (fun i => (0, i, 2)) 26),
  (26, i_c (nI 0) 27),
  (27, i_al 0 28),
  (28, i_gr 0 (fun i => (0, i, 2)) 31),
  (31, i_c (nI 0) 32),
  (32, i_c (nI 4) 33),
  (33, i_cp 36),
  (36, i_al 0 37),
  (37, i_al 1 38),
  (38, i_gi 0 3 41),
  (41, i_pi 0 3 44),
  (44, i_al 1 45),
  (45, i_gr 0 (fun i => (0, i, 3)) 48),
  (48, i_c (nI 0) 49),
  (49, i_al 0 50),
  (50, i_gr 0 (fun i => (0, i, 3)) 53),
  (53, i_c (nI 0) 54),
  (54, i_c (nI 6) 56),
  (56, i_cp 59),
  (59, i_al 1 60),
  (60, i_gr 0 (fun i => (0, i, 4)) 63),
  (63, i_c (nI 0) 64),
  (64, i_al 0 65),
  (65, i_gr 0 (fun i => (0, i, 4)) 68),
  (68, i_c (nI 0) 69),
  (69, i_c (nI 6) 71),
  (71, i_cp 74),
  (74, i_al 1 75),
  (75, i_gr 0 (fun i => (0, i, 5)) 78),
  (78, i_c (nI 0) 79),
  (79, i_al 0 80),
  (80, i_gr 0 (fun i => (0, i, 5)) 83),
  (83, i_c (nI 0) 84),
  (84, i_c (nI 6) 86),
  (86, i_cp 89),
  (89, i_al 1 90),
  (90, i_gr 0 (fun i => (0, i, 6)) 93),
  (93, i_c (nI 0) 94),
  (94, i_al 0 95),
  (95, i_gr 0 (fun i => (0, i, 6)) 98),
  (98, i_c (nI 0) 99),
  (99, i_c (nI 6) 101),
  (101, i_cp 104),
  (104, i_al 0 105),
  (105, i_al 1 106),
  (106, i_gi 0 8 109),
  (109, i_pi 0 8 112),
  (112, i_al 0 113),
  (113, i_al 1 114),
  (114, i_gi 0 9 117),
  (117, i_pi 0 9 120),
  (120, i_al 0 121),
  (121, i_al 1 122),
  (122, i_gi 0 10 125),
  (125, i_pi 0 10 128),
  (128, i_al 0 129),
  (129, i_al 1 130),
  (130, i_gi 0 11 133),
  (133, i_pi 0 11 136),
  (136, i_al 1 137),
  (137, i_gr 0 (fun i => (0, i, 7)) 140),
  (140, i_c (nI 0) 141),
  (141, i_al 0 142),
  (142, i_gr 0 (fun i => (0, i, 7)) 145),
  (145, i_c (nI 0) 146),
  (146, i_c (nI 6) 148),
  (148, i_cp 151),
  (151, i_al 1 152),
  (152, i_gr 0 (fun i => (0, i, 8)) 155),
  (155, i_c (nI 0) 156),
  (156, i_al 0 157),
  (157, i_gr 0 (fun i => (0, i, 8)) 160),
  (160, i_c (nI 0) 161),
  (161, i_c (nI 6) 163),
  (163, i_cp 166),
  (166, i_vr)]
theorem k_X0_take : ∀ q ∈ T_X0_take, pm_sd RX0 cX0_take 2 1 0 q.1 q.2 := by
  unfold T_X0_take
  refine pm_cn (sd_aln (k := 0) (by decide +kernel) rfl rfl) ?_
  refine pm_cn (sd_aln (k := 1) (by decide +kernel) rfl rfl) ?_
  refine pm_cn (sd_gi cl0_ in0_ (by decide) (fun _ => rfl) fl_X0_43 (by decide +kernel) rfl) ?_
  refine pm_cn (sd_pi cl0_ in0_ tyX0 tyX0_ok nmX0 (by decide) (fun _ => rfl) rfl rfl fl_X0_43 (by decide +kernel) rfl) ?_
  refine pm_cn (sd_aln (k := 1) (by decide +kernel) rfl rfl) ?_
  refine pm_cn (sd_gr cl0_ in0_ (j := 1) (by decide) (fun _ => rfl) fl_X0_9 (by decide +kernel) rfl) ?_
  refine pm_cn (sd_iconst (z := 0) (by decide +kernel) (by decide +kernel) rfl) ?_
  refine pm_cn (sd_aln (k := 0) (by decide +kernel) rfl rfl) ?_
  refine pm_cn (sd_gr cl0_ in0_ (j := 1) (by decide) (fun _ => rfl) fl_X0_9 (by decide +kernel) rfl) ?_
  refine pm_cn (sd_iconst (z := 0) (by decide +kernel) (by decide +kernel) rfl) ?_
  refine pm_cn (sd_iconst (z := 4) (by decide +kernel) (by decide +kernel) rfl) ?_
  refine pm_cn (sd_cp ml_X0_55 nt_arraycopy st_arraycopy nt_System (by decide) (by decide +kernel) rfl) ?_
  refine pm_cn (sd_aln (k := 1) (by decide +kernel) rfl rfl) ?_
  refine pm_cn (sd_gr cl0_ in0_ (j := 2) (by decide) (fun _ => rfl) fl_X0_15 (by decide +kernel) rfl) ?_
  refine pm_cn (sd_iconst (z := 0) (by decide +kernel) (by decide +kernel) rfl) ?_
  refine pm_cn (sd_aln (k := 0) (by decide +kernel) rfl rfl) ?_
  refine pm_cn (sd_gr cl0_ in0_ (j := 2) (by decide) (fun _ => rfl) fl_X0_15 (by decide +kernel) rfl) ?_
  refine pm_cn (sd_iconst (z := 0) (by decide +kernel) (by decide +kernel) rfl) ?_
  refine pm_cn (sd_iconst (z := 4) (by decide +kernel) (by decide +kernel) rfl) ?_
  refine pm_cn (sd_cp ml_X0_55 nt_arraycopy st_arraycopy nt_System (by decide) (by decide +kernel) rfl) ?_
  refine pm_cn (sd_aln (k := 0) (by decide +kernel) rfl rfl) ?_
  refine pm_cn (sd_aln (k := 1) (by decide +kernel) rfl rfl) ?_
  refine pm_cn (sd_gi cl0_ in0_ (by decide) (fun _ => rfl) fl_X0_46 (by decide +kernel) rfl) ?_
  refine pm_cn (sd_pi cl0_ in0_ tyX0 tyX0_ok nmX0 (by decide) (fun _ => rfl) rfl rfl fl_X0_46 (by decide +kernel) rfl) ?_
  refine pm_cn (sd_aln (k := 1) (by decide +kernel) rfl rfl) ?_
  refine pm_cn (sd_gr cl0_ in0_ (j := 4) (by decide) (fun _ => rfl) fl_X0_18 (by decide +kernel) rfl) ?_
  refine pm_cn (sd_iconst (z := 0) (by decide +kernel) (by decide +kernel) rfl) ?_
  refine pm_cn (sd_aln (k := 0) (by decide +kernel) rfl rfl) ?_
  refine pm_cn (sd_gr cl0_ in0_ (j := 4) (by decide) (fun _ => rfl) fl_X0_18 (by decide +kernel) rfl) ?_
  refine pm_cn (sd_iconst (z := 0) (by decide +kernel) (by decide +kernel) rfl) ?_
  refine pm_cn (sd_bipush (z := 6) (by decide +kernel) (by decide +kernel) rfl) ?_
  refine pm_cn (sd_cp ml_X0_55 nt_arraycopy st_arraycopy nt_System (by decide) (by decide +kernel) rfl) ?_
  refine pm_cn (sd_aln (k := 1) (by decide +kernel) rfl rfl) ?_
  refine pm_cn (sd_gr cl0_ in0_ (j := 5) (by decide) (fun _ => rfl) fl_X0_21 (by decide +kernel) rfl) ?_
  refine pm_cn (sd_iconst (z := 0) (by decide +kernel) (by decide +kernel) rfl) ?_
  refine pm_cn (sd_aln (k := 0) (by decide +kernel) rfl rfl) ?_
  refine pm_cn (sd_gr cl0_ in0_ (j := 5) (by decide) (fun _ => rfl) fl_X0_21 (by decide +kernel) rfl) ?_
  refine pm_cn (sd_iconst (z := 0) (by decide +kernel) (by decide +kernel) rfl) ?_
  refine pm_cn (sd_bipush (z := 6) (by decide +kernel) (by decide +kernel) rfl) ?_
  refine pm_cn (sd_cp ml_X0_55 nt_arraycopy st_arraycopy nt_System (by decide) (by decide +kernel) rfl) ?_
  refine pm_cn (sd_aln (k := 1) (by decide +kernel) rfl rfl) ?_
  refine pm_cn (sd_gr cl0_ in0_ (j := 6) (by decide) (fun _ => rfl) fl_X0_24 (by decide +kernel) rfl) ?_
  refine pm_cn (sd_iconst (z := 0) (by decide +kernel) (by decide +kernel) rfl) ?_
  refine pm_cn (sd_aln (k := 0) (by decide +kernel) rfl rfl) ?_
  refine pm_cn (sd_gr cl0_ in0_ (j := 6) (by decide) (fun _ => rfl) fl_X0_24 (by decide +kernel) rfl) ?_
  refine pm_cn (sd_iconst (z := 0) (by decide +kernel) (by decide +kernel) rfl) ?_
  refine pm_cn (sd_bipush (z := 6) (by decide +kernel) (by decide +kernel) rfl) ?_
  refine pm_cn (sd_cp ml_X0_55 nt_arraycopy st_arraycopy nt_System (by decide) (by decide +kernel) rfl) ?_
  refine pm_cn (sd_aln (k := 1) (by decide +kernel) rfl rfl) ?_
  refine pm_cn (sd_gr cl0_ in0_ (j := 7) (by decide) (fun _ => rfl) fl_X0_27 (by decide +kernel) rfl) ?_
  refine pm_cn (sd_iconst (z := 0) (by decide +kernel) (by decide +kernel) rfl) ?_
  refine pm_cn (sd_aln (k := 0) (by decide +kernel) rfl rfl) ?_
  refine pm_cn (sd_gr cl0_ in0_ (j := 7) (by decide) (fun _ => rfl) fl_X0_27 (by decide +kernel) rfl) ?_
  refine pm_cn (sd_iconst (z := 0) (by decide +kernel) (by decide +kernel) rfl) ?_
  refine pm_cn (sd_bipush (z := 6) (by decide +kernel) (by decide +kernel) rfl) ?_
  refine pm_cn (sd_cp ml_X0_55 nt_arraycopy st_arraycopy nt_System (by decide) (by decide +kernel) rfl) ?_
  refine pm_cn (sd_aln (k := 0) (by decide +kernel) rfl rfl) ?_
  refine pm_cn (sd_aln (k := 1) (by decide +kernel) rfl rfl) ?_
  refine pm_cn (sd_gi cl0_ in0_ (by decide) (fun _ => rfl) fl_X0_30 (by decide +kernel) rfl) ?_
  refine pm_cn (sd_pi cl0_ in0_ tyX0 tyX0_ok nmX0 (by decide) (fun _ => rfl) rfl rfl fl_X0_30 (by decide +kernel) rfl) ?_
  refine pm_cn (sd_aln (k := 0) (by decide +kernel) rfl rfl) ?_
  refine pm_cn (sd_aln (k := 1) (by decide +kernel) rfl rfl) ?_
  refine pm_cn (sd_gi cl0_ in0_ (by decide) (fun _ => rfl) fl_X0_34 (by decide +kernel) rfl) ?_
  refine pm_cn (sd_pi cl0_ in0_ tyX0 tyX0_ok nmX0 (by decide) (fun _ => rfl) rfl rfl fl_X0_34 (by decide +kernel) rfl) ?_
  refine pm_cn (sd_aln (k := 0) (by decide +kernel) rfl rfl) ?_
  refine pm_cn (sd_aln (k := 1) (by decide +kernel) rfl rfl) ?_
  refine pm_cn (sd_gi cl0_ in0_ (by decide) (fun _ => rfl) fl_X0_52 (by decide +kernel) rfl) ?_
  refine pm_cn (sd_pi cl0_ in0_ tyX0 tyX0_ok nmX0 (by decide) (fun _ => rfl) rfl rfl fl_X0_52 (by decide +kernel) rfl) ?_
  refine pm_cn (sd_aln (k := 0) (by decide +kernel) rfl rfl) ?_
  refine pm_cn (sd_aln (k := 1) (by decide +kernel) rfl rfl) ?_
  refine pm_cn (sd_gi cl0_ in0_ (by decide) (fun _ => rfl) fl_X0_49 (by decide +kernel) rfl) ?_
  refine pm_cn (sd_pi cl0_ in0_ tyX0 tyX0_ok nmX0 (by decide) (fun _ => rfl) rfl rfl fl_X0_49 (by decide +kernel) rfl) ?_
  refine pm_cn (sd_aln (k := 1) (by decide +kernel) rfl rfl) ?_
  refine pm_cn (sd_gr cl0_ in0_ (j := 12) (by decide) (fun _ => rfl) fl_X0_37 (by decide +kernel) rfl) ?_
  refine pm_cn (sd_iconst (z := 0) (by decide +kernel) (by decide +kernel) rfl) ?_
  refine pm_cn (sd_aln (k := 0) (by decide +kernel) rfl rfl) ?_
  refine pm_cn (sd_gr cl0_ in0_ (j := 12) (by decide) (fun _ => rfl) fl_X0_37 (by decide +kernel) rfl) ?_
  refine pm_cn (sd_iconst (z := 0) (by decide +kernel) (by decide +kernel) rfl) ?_
  refine pm_cn (sd_bipush (z := 6) (by decide +kernel) (by decide +kernel) rfl) ?_
  refine pm_cn (sd_cp ml_X0_55 nt_arraycopy st_arraycopy nt_System (by decide) (by decide +kernel) rfl) ?_
  refine pm_cn (sd_aln (k := 1) (by decide +kernel) rfl rfl) ?_
  refine pm_cn (sd_gr cl0_ in0_ (j := 13) (by decide) (fun _ => rfl) fl_X0_40 (by decide +kernel) rfl) ?_
  refine pm_cn (sd_iconst (z := 0) (by decide +kernel) (by decide +kernel) rfl) ?_
  refine pm_cn (sd_aln (k := 0) (by decide +kernel) rfl rfl) ?_
  refine pm_cn (sd_gr cl0_ in0_ (j := 13) (by decide) (fun _ => rfl) fl_X0_40 (by decide +kernel) rfl) ?_
  refine pm_cn (sd_iconst (z := 0) (by decide +kernel) (by decide +kernel) rfl) ?_
  refine pm_cn (sd_bipush (z := 6) (by decide +kernel) (by decide +kernel) rfl) ?_
  refine pm_cn (sd_cp ml_X0_55 nt_arraycopy st_arraycopy nt_System (by decide) (by decide +kernel) rfl) ?_
  refine pm_cn (sd_vr (by decide +kernel)) ?_
  exact fun _ h => absurd h List.not_mem_nil
set_option maxHeartbeats 4000000 in
set_option maxRecDepth 100000 in
theorem pf_X0_take : pm_pf T_X0_take P_X0_take (pm_pv Q_X0_take) := by
  rintro ⟨i, k, L, M, h0⟩ av h K hK ⟨rfl, rfl, hL, hM, wL, wM, hk⟩ hret
  have e := la_self hL
  have hcp := la_cp hM hk
  have hrd : ∀ (N : LD) (s j : Nat), la_put h i N 0 k s j = nI (M s j) := fun N s j => by rw [la_put_ne (by omega), hM]
  show K (some 0) ([(0, vR 0 i 0), (1, vR 0 k 0)], [], h)
  rw [← e]
  refine hK [] 120 _ _ ?_
  conv => whnf
  repeat' (first
    | (refine ⟨fun c => ?_, fun c => ?_⟩ <;> (try simp (disch := omega) only [nI_leI, nI_ltI, nI_eq, nz_eq, nz_lt, nz_gt, nz_le, nz_ge, nz_00, nz_10, nz_n1, nI_add, pk_mul, pk_sub, nI_shl1, nI_or, nI_half2, nI_min2, la_put_eq, la_up, lr_same, lr_ne, lu_same, lu_ne, hcp, hrd] at c) <;> first | (exfalso; omega) | conv => whnf)
    | (refine ⟨_, rfl, by omega, ?_⟩; conv => whnf)
    | (refine ⟨_, rfl, rfl, rfl, by decide, by decide, ?_⟩; conv => whnf)
    | (refine ⟨_, by (simp (disch := omega) only [nI_leI, nI_ltI, nI_eq, nz_eq, nz_lt, nz_gt, nz_le, nz_ge, nz_00, nz_10, nz_n1, nI_add, pk_mul, pk_sub, nI_shl1, nI_or, nI_half2, nI_min2, la_put_eq, la_up, lr_same, lr_ne, lu_same, lu_ne, hcp, hrd]; rfl), by omega, ?_⟩; conv => whnf)
    | (refine And.intro (by decide) ?_; conv => whnf))
  all_goals (try simp (disch := omega) only [nI_leI, nI_ltI, nI_eq, nz_eq, nz_lt, nz_gt, nz_le, nz_ge, nz_00, nz_10, nz_n1, nI_add, pk_mul, pk_sub, nI_shl1, nI_or, nI_half2, nI_min2, la_put_eq, la_up, lr_same, lr_ne, lu_same, lu_ne, hcp, hrd])
  refine hret _ _ ?_
  show _ = _
  rw [sp_take_eq wL wM]
theorem M_X0_take : pm_MT yX0_take cX0_take 2 0 1 P_X0_take (pm_pv Q_X0_take) := pm_met k_X0_take (by decide) rfl (by
  rintro ⟨g0, g1, g2, g3, g4⟩ av h hp
  rw [hp.1]
  exact Nat.le_of_ble_eq_true rfl) pf_X0_take
theorem rc_X0_take : ∀ g av h, P_X0_take g av h → ∃ i t, av = .inr (.inr (0, i, 0)) :: t := by
  rintro ⟨g0, g1, g2, g3, g4⟩ av h hp
  exact ⟨_, _, hp.1⟩
/-! additions -/
def sp_addF (L : LD) (e : Nat) : LD := lu (lu (lu L 1 (L 0 0) e) 2 (L 0 0) 0) 0 0 (L 0 0 + 1)
def P_X0_addFellow : Nat × Nat × LD × pm_H → List pm_V → pm_H → Prop := fun g av h => match g with
  | (i, e, L, h0) => av = [vR 0 i 0, vI (nI e)] ∧ h = h0 ∧ la_at h0 i L ∧ la_ok L
def Q_X0_addFellow : Nat × Nat × LD × pm_H → Int32 → pm_H → Prop := fun g v h => match g with
  | (i, e, L, h0) => (L 0 0 < 4 ∧ v = nI 1 ∧ h = la_put h0 i (sp_addF L e)) ∨ (4 ≤ L 0 0 ∧ v = nI 0 ∧ h = h0)
def T_X0_addFellow : List (Nat × pm_T) := [
  (0, i_al 0 1),
  (1, i_gi 0 0 4),
  (4, i_c (nI 4) 5),
  (5, i_iclt 10 8),
  (8, i_c (nI 0) 9),
  (9, i_zr),
  (10, i_al 0 11),
  (11, i_gr 0 (fun i => (0, i, 1)) 14),
  (14, i_al 0 15),
  (15, i_gi 0 0 18),
  (18, i_il 1 19),
  (19, i_ias 20),
  (20, i_al 0 21),
  (21, i_gr 0 (fun i => (0, i, 2)) 24),
  (24, i_al 0 25),
  (25, i_gi 0 0 28),
  (28, i_c (nI 0) 29),
  (29, i_ias 30),
  (30, i_al 0 31),
  (31, i_dup 32),
  (32, i_gi 0 0 35),
  (35, i_c (nI 1) 36),
  (36, i_iadd 37),
  (37, i_pi 0 0 40),
  (40, i_c (nI 1) 41),
  (41, i_zr)]
theorem k_X0_addFellow : ∀ q ∈ T_X0_addFellow, pm_sd RX0 cX0_addFellow 2 1 3 q.1 q.2 := by
  unfold T_X0_addFellow
  refine pm_cn (sd_aln (k := 0) (by decide +kernel) rfl rfl) ?_
  refine pm_cn (sd_gi cl0_ in0_ (by decide) (fun _ => rfl) fl_X0_43 (by decide +kernel) rfl) ?_
  refine pm_cn (sd_iconst (z := 4) (by decide +kernel) (by decide +kernel) rfl) ?_
  refine pm_cn (sd_iclt (off := 5) (by decide +kernel) (by decide) rfl) ?_
  refine pm_cn (sd_iconst (z := 0) (by decide +kernel) (by decide +kernel) rfl) ?_
  refine pm_cn (sd_zr (by decide +kernel)) ?_
  refine pm_cn (sd_aln (k := 0) (by decide +kernel) rfl rfl) ?_
  refine pm_cn (sd_gr cl0_ in0_ (j := 1) (by decide) (fun _ => rfl) fl_X0_9 (by decide +kernel) rfl) ?_
  refine pm_cn (sd_aln (k := 0) (by decide +kernel) rfl rfl) ?_
  refine pm_cn (sd_gi cl0_ in0_ (by decide) (fun _ => rfl) fl_X0_43 (by decide +kernel) rfl) ?_
  refine pm_cn (sd_iln (k := 1) (by decide +kernel) rfl rfl) ?_
  refine pm_cn (sd_ias (by decide +kernel) rfl) ?_
  refine pm_cn (sd_aln (k := 0) (by decide +kernel) rfl rfl) ?_
  refine pm_cn (sd_gr cl0_ in0_ (j := 2) (by decide) (fun _ => rfl) fl_X0_15 (by decide +kernel) rfl) ?_
  refine pm_cn (sd_aln (k := 0) (by decide +kernel) rfl rfl) ?_
  refine pm_cn (sd_gi cl0_ in0_ (by decide) (fun _ => rfl) fl_X0_43 (by decide +kernel) rfl) ?_
  refine pm_cn (sd_iconst (z := 0) (by decide +kernel) (by decide +kernel) rfl) ?_
  refine pm_cn (sd_ias (by decide +kernel) rfl) ?_
  refine pm_cn (sd_aln (k := 0) (by decide +kernel) rfl rfl) ?_
  refine pm_cn (sd_dup (by decide +kernel) rfl) ?_
  refine pm_cn (sd_gi cl0_ in0_ (by decide) (fun _ => rfl) fl_X0_43 (by decide +kernel) rfl) ?_
  refine pm_cn (sd_iconst (z := 1) (by decide +kernel) (by decide +kernel) rfl) ?_
  refine pm_cn (sd_iadd (by decide +kernel) rfl) ?_
  refine pm_cn (sd_pi cl0_ in0_ tyX0 tyX0_ok nmX0 (by decide) (fun _ => rfl) rfl rfl fl_X0_43 (by decide +kernel) rfl) ?_
  refine pm_cn (sd_iconst (z := 1) (by decide +kernel) (by decide +kernel) rfl) ?_
  refine pm_cn (sd_zr (by decide +kernel)) ?_
  exact fun _ h => absurd h List.not_mem_nil
set_option maxHeartbeats 4000000 in
set_option maxRecDepth 100000 in
theorem pf_X0_addFellow : pm_pf T_X0_addFellow P_X0_addFellow (pm_pi Q_X0_addFellow) := by
  rintro ⟨i, x, L, h0⟩ av h K hK ⟨rfl, rfl, hL, hw⟩ hret
  have w1 := hw.1
  have e := la_self hL
  show K (some 0) ([(0, vR 0 i 0), (1, vI (nI x))], [], h)
  rw [← e]
  refine hK [] 60 _ _ ?_
  conv => whnf
  repeat' (first
    | (refine ⟨fun c => ?_, fun c => ?_⟩ <;> (try simp (disch := omega) only [nI_leI, nI_ltI, nI_eq, nz_eq, nz_lt, nz_gt, nz_le, nz_ge, nz_00, nz_10, nz_n1, nI_add, pk_mul, pk_sub, nI_shl1, nI_or, nI_half2, nI_min2, la_put_eq, la_up, lr_same, lr_ne, lu_same, lu_ne] at c) <;> first | (exfalso; omega) | conv => whnf)
    | (refine ⟨_, rfl, by omega, ?_⟩; conv => whnf)
    | (refine ⟨_, rfl, rfl, rfl, by decide, by decide, ?_⟩; conv => whnf)
    | (refine ⟨_, by (simp (disch := omega) only [nI_leI, nI_ltI, nI_eq, nz_eq, nz_lt, nz_gt, nz_le, nz_ge, nz_00, nz_10, nz_n1, nI_add, pk_mul, pk_sub, nI_shl1, nI_or, nI_half2, nI_min2, la_put_eq, la_up, lr_same, lr_ne, lu_same, lu_ne]; rfl), by omega, ?_⟩; conv => whnf)
    | (refine And.intro (by decide) ?_; conv => whnf))
  all_goals (try simp (disch := omega) only [nI_leI, nI_ltI, nI_eq, nz_eq, nz_lt, nz_gt, nz_le, nz_ge, nz_00, nz_10, nz_n1, nI_add, pk_mul, pk_sub, nI_shl1, nI_or, nI_half2, nI_min2, la_put_eq, la_up, lr_same, lr_ne, lu_same, lu_ne])
  · refine hret _ _ ?_
    exact Or.inl ⟨by omega, rfl, rfl⟩
  · refine hret _ _ ?_
    exact Or.inr ⟨by omega, rfl, e⟩
theorem M_X0_addFellow : pm_MT yX0_addFellow cX0_addFellow 2 3 1 P_X0_addFellow (pm_pi Q_X0_addFellow) := pm_met k_X0_addFellow (by decide) rfl (by
  rintro ⟨g0, g1, g2, g3⟩ av h hp
  rw [hp.1]
  exact Nat.le_of_ble_eq_true rfl) pf_X0_addFellow
theorem rc_X0_addFellow : ∀ g av h, P_X0_addFellow g av h → ∃ i t, av = .inr (.inr (0, i, 0)) :: t := by
  rintro ⟨g0, g1, g2, g3⟩ av h hp
  exact ⟨_, _, hp.1⟩
def sp_addB (L : LD) (k s c f : Nat) : LD := lu (lu (lu (lu (lu L 3 (L 0 3) k) 4 (L 0 3) s) 5 (L 0 3) c) 6 (L 0 3) f) 0 3 (L 0 3 + 1)
def P_X0_addBiscuit : Nat × Nat × Nat × Nat × Nat × LD × pm_H → List pm_V → pm_H → Prop := fun g av h => match g with
  | (i, k, s, c, f, L, h0) => av = [vR 0 i 0, vI (nI k), vI (nI s), vI (nI c), vI (nI f)] ∧ h = h0 ∧ la_at h0 i L ∧ la_ok L
def Q_X0_addBiscuit : Nat × Nat × Nat × Nat × Nat × LD × pm_H → Int32 → pm_H → Prop := fun g v h => match g with
  | (i, k, s, c, f, L, h0) => (L 0 3 < 6 ∧ v = nI 1 ∧ h = la_put h0 i (sp_addB L k s c f)) ∨ (6 ≤ L 0 3 ∧ v = nI 0 ∧ h = h0)
def T_X0_addBiscuit : List (Nat × pm_T) := [
  (0, i_al 0 1),
  (1, i_gi 0 3 4),
  (4, i_c (nI 6) 6),
  (6, i_iclt 11 9),
  (9, i_c (nI 0) 10),
  (10, i_zr),
  (11, i_al 0 12),
  (12, i_gr 0 (fun i => (0, i, 3)) 15),
  (15, i_al 0 16),
  (16, i_gi 0 3 19),
  (19, i_il 1 20),
  (20, i_ias 21),
  (21, i_al 0 22),
  (22, i_gr 0 (fun i => (0, i, 4)) 25),
  (25, i_al 0 26),
  (26, i_gi 0 3 29),
  (29, i_il 2 30),
  (30, i_ias 31),
  (31, i_al 0 32),
  (32, i_gr 0 (fun i => (0, i, 5)) 35),
  (35, i_al 0 36),
  (36, i_gi 0 3 39),
  (39, i_il 3 40),
  (40, i_ias 41),
  (41, i_al 0 42),
  (42, i_gr 0 (fun i => (0, i, 6)) 45),
  (45, i_al 0 46),
  (46, i_gi 0 3 49),
  (49, i_il 4 51),
  (51, i_ias 52),
  (52, i_al 0 53),
  (53, i_dup 54),
  (54, i_gi 0 3 57),
  (57, i_c (nI 1) 58),
  (58, i_iadd 59),
  (59, i_pi 0 3 62),
  (62, i_c (nI 1) 63),
  (63, i_zr)]
theorem k_X0_addBiscuit : ∀ q ∈ T_X0_addBiscuit, pm_sd RX0 cX0_addBiscuit 5 1 3 q.1 q.2 := by
  unfold T_X0_addBiscuit
  refine pm_cn (sd_aln (k := 0) (by decide +kernel) rfl rfl) ?_
  refine pm_cn (sd_gi cl0_ in0_ (by decide) (fun _ => rfl) fl_X0_46 (by decide +kernel) rfl) ?_
  refine pm_cn (sd_bipush (z := 6) (by decide +kernel) (by decide +kernel) rfl) ?_
  refine pm_cn (sd_iclt (off := 5) (by decide +kernel) (by decide) rfl) ?_
  refine pm_cn (sd_iconst (z := 0) (by decide +kernel) (by decide +kernel) rfl) ?_
  refine pm_cn (sd_zr (by decide +kernel)) ?_
  refine pm_cn (sd_aln (k := 0) (by decide +kernel) rfl rfl) ?_
  refine pm_cn (sd_gr cl0_ in0_ (j := 4) (by decide) (fun _ => rfl) fl_X0_18 (by decide +kernel) rfl) ?_
  refine pm_cn (sd_aln (k := 0) (by decide +kernel) rfl rfl) ?_
  refine pm_cn (sd_gi cl0_ in0_ (by decide) (fun _ => rfl) fl_X0_46 (by decide +kernel) rfl) ?_
  refine pm_cn (sd_iln (k := 1) (by decide +kernel) rfl rfl) ?_
  refine pm_cn (sd_ias (by decide +kernel) rfl) ?_
  refine pm_cn (sd_aln (k := 0) (by decide +kernel) rfl rfl) ?_
  refine pm_cn (sd_gr cl0_ in0_ (j := 5) (by decide) (fun _ => rfl) fl_X0_21 (by decide +kernel) rfl) ?_
  refine pm_cn (sd_aln (k := 0) (by decide +kernel) rfl rfl) ?_
  refine pm_cn (sd_gi cl0_ in0_ (by decide) (fun _ => rfl) fl_X0_46 (by decide +kernel) rfl) ?_
  refine pm_cn (sd_iln (k := 2) (by decide +kernel) rfl rfl) ?_
  refine pm_cn (sd_ias (by decide +kernel) rfl) ?_
  refine pm_cn (sd_aln (k := 0) (by decide +kernel) rfl rfl) ?_
  refine pm_cn (sd_gr cl0_ in0_ (j := 6) (by decide) (fun _ => rfl) fl_X0_24 (by decide +kernel) rfl) ?_
  refine pm_cn (sd_aln (k := 0) (by decide +kernel) rfl rfl) ?_
  refine pm_cn (sd_gi cl0_ in0_ (by decide) (fun _ => rfl) fl_X0_46 (by decide +kernel) rfl) ?_
  refine pm_cn (sd_iln (k := 3) (by decide +kernel) rfl rfl) ?_
  refine pm_cn (sd_ias (by decide +kernel) rfl) ?_
  refine pm_cn (sd_aln (k := 0) (by decide +kernel) rfl rfl) ?_
  refine pm_cn (sd_gr cl0_ in0_ (j := 7) (by decide) (fun _ => rfl) fl_X0_27 (by decide +kernel) rfl) ?_
  refine pm_cn (sd_aln (k := 0) (by decide +kernel) rfl rfl) ?_
  refine pm_cn (sd_gi cl0_ in0_ (by decide) (fun _ => rfl) fl_X0_46 (by decide +kernel) rfl) ?_
  refine pm_cn (sd_il (by decide +kernel) rfl) ?_
  refine pm_cn (sd_ias (by decide +kernel) rfl) ?_
  refine pm_cn (sd_aln (k := 0) (by decide +kernel) rfl rfl) ?_
  refine pm_cn (sd_dup (by decide +kernel) rfl) ?_
  refine pm_cn (sd_gi cl0_ in0_ (by decide) (fun _ => rfl) fl_X0_46 (by decide +kernel) rfl) ?_
  refine pm_cn (sd_iconst (z := 1) (by decide +kernel) (by decide +kernel) rfl) ?_
  refine pm_cn (sd_iadd (by decide +kernel) rfl) ?_
  refine pm_cn (sd_pi cl0_ in0_ tyX0 tyX0_ok nmX0 (by decide) (fun _ => rfl) rfl rfl fl_X0_46 (by decide +kernel) rfl) ?_
  refine pm_cn (sd_iconst (z := 1) (by decide +kernel) (by decide +kernel) rfl) ?_
  refine pm_cn (sd_zr (by decide +kernel)) ?_
  exact fun _ h => absurd h List.not_mem_nil
set_option maxHeartbeats 4000000 in
set_option maxRecDepth 100000 in
theorem pf_X0_addBiscuit : pm_pf T_X0_addBiscuit P_X0_addBiscuit (pm_pi Q_X0_addBiscuit) := by
  rintro ⟨i, k, s, x, f, L, h0⟩ av h K hK ⟨rfl, rfl, hL, hw⟩ hret
  have w1 := hw.2.1
  have e := la_self hL
  show K (some 0) ([(0, vR 0 i 0), (1, vI (nI k)), (2, vI (nI s)), (3, vI (nI x)), (4, vI (nI f))], [], h)
  rw [← e]
  refine hK [] 60 _ _ ?_
  conv => whnf
  repeat' (first
    | (refine ⟨fun c => ?_, fun c => ?_⟩ <;> (try simp (disch := omega) only [nI_leI, nI_ltI, nI_eq, nz_eq, nz_lt, nz_gt, nz_le, nz_ge, nz_00, nz_10, nz_n1, nI_add, pk_mul, pk_sub, nI_shl1, nI_or, nI_half2, nI_min2, la_put_eq, la_up, lr_same, lr_ne, lu_same, lu_ne] at c) <;> first | (exfalso; omega) | conv => whnf)
    | (refine ⟨_, rfl, by omega, ?_⟩; conv => whnf)
    | (refine ⟨_, rfl, rfl, rfl, by decide, by decide, ?_⟩; conv => whnf)
    | (refine ⟨_, by (simp (disch := omega) only [nI_leI, nI_ltI, nI_eq, nz_eq, nz_lt, nz_gt, nz_le, nz_ge, nz_00, nz_10, nz_n1, nI_add, pk_mul, pk_sub, nI_shl1, nI_or, nI_half2, nI_min2, la_put_eq, la_up, lr_same, lr_ne, lu_same, lu_ne]; rfl), by omega, ?_⟩; conv => whnf)
    | (refine And.intro (by decide) ?_; conv => whnf))
  all_goals (try simp (disch := omega) only [nI_leI, nI_ltI, nI_eq, nz_eq, nz_lt, nz_gt, nz_le, nz_ge, nz_00, nz_10, nz_n1, nI_add, pk_mul, pk_sub, nI_shl1, nI_or, nI_half2, nI_min2, la_put_eq, la_up, lr_same, lr_ne, lu_same, lu_ne])
  · refine hret _ _ ?_
    exact Or.inl ⟨by omega, rfl, rfl⟩
  · refine hret _ _ ?_
    exact Or.inr ⟨by omega, rfl, e⟩
theorem M_X0_addBiscuit : pm_MT yX0_addBiscuit cX0_addBiscuit 5 3 1 P_X0_addBiscuit (pm_pi Q_X0_addBiscuit) := pm_met k_X0_addBiscuit (by decide) rfl (by
  rintro ⟨g0, g1, g2, g3, g4, g5, g6⟩ av h hp
  rw [hp.1]
  exact Nat.le_of_ble_eq_true rfl) pf_X0_addBiscuit
theorem rc_X0_addBiscuit : ∀ g av h, P_X0_addBiscuit g av h → ∃ i t, av = .inr (.inr (0, i, 0)) :: t := by
  rintro ⟨g0, g1, g2, g3, g4, g5, g6⟩ av h hp
  exact ⟨_, _, hp.1⟩
def sp_addQ (L : LD) (d s : Nat) : LD := lu (lu (lu L 7 (L 0 11) d) 8 (L 0 11) s) 0 11 (L 0 11 + 1)
def P_X0_addQuestion : Nat × Nat × Nat × LD × pm_H → List pm_V → pm_H → Prop := fun g av h => match g with
  | (i, d, s, L, h0) => av = [vR 0 i 0, vI (nI d), vI (nI s)] ∧ h = h0 ∧ la_at h0 i L ∧ la_ok L
def Q_X0_addQuestion : Nat × Nat × Nat × LD × pm_H → Int32 → pm_H → Prop := fun g v h => match g with
  | (i, d, s, L, h0) => (L 0 11 < 6 ∧ v = nI 1 ∧ h = la_put h0 i (sp_addQ L d s)) ∨ (6 ≤ L 0 11 ∧ v = nI 0 ∧ h = h0)
def T_X0_addQuestion : List (Nat × pm_T) := [
  (0, i_al 0 1),
  (1, i_gi 0 11 4),
  (4, i_c (nI 6) 6),
  (6, i_iclt 11 9),
  (9, i_c (nI 0) 10),
  (10, i_zr),
  (11, i_al 0 12),
  (12, i_gr 0 (fun i => (0, i, 7)) 15),
  (15, i_al 0 16),
  (16, i_gi 0 11 19),
  (19, i_il 1 20),
  (20, i_ias 21),
  (21, i_al 0 22),
  (22, i_gr 0 (fun i => (0, i, 8)) 25),
  (25, i_al 0 26),
  (26, i_gi 0 11 29),
  (29, i_il 2 30),
  (30, i_ias 31),
  (31, i_al 0 32),
  (32, i_dup 33),
  (33, i_gi 0 11 36),
  (36, i_c (nI 1) 37),
  (37, i_iadd 38),
  (38, i_pi 0 11 41),
  (41, i_c (nI 1) 42),
  (42, i_zr)]
theorem k_X0_addQuestion : ∀ q ∈ T_X0_addQuestion, pm_sd RX0 cX0_addQuestion 3 1 3 q.1 q.2 := by
  unfold T_X0_addQuestion
  refine pm_cn (sd_aln (k := 0) (by decide +kernel) rfl rfl) ?_
  refine pm_cn (sd_gi cl0_ in0_ (by decide) (fun _ => rfl) fl_X0_49 (by decide +kernel) rfl) ?_
  refine pm_cn (sd_bipush (z := 6) (by decide +kernel) (by decide +kernel) rfl) ?_
  refine pm_cn (sd_iclt (off := 5) (by decide +kernel) (by decide) rfl) ?_
  refine pm_cn (sd_iconst (z := 0) (by decide +kernel) (by decide +kernel) rfl) ?_
  refine pm_cn (sd_zr (by decide +kernel)) ?_
  refine pm_cn (sd_aln (k := 0) (by decide +kernel) rfl rfl) ?_
  refine pm_cn (sd_gr cl0_ in0_ (j := 12) (by decide) (fun _ => rfl) fl_X0_37 (by decide +kernel) rfl) ?_
  refine pm_cn (sd_aln (k := 0) (by decide +kernel) rfl rfl) ?_
  refine pm_cn (sd_gi cl0_ in0_ (by decide) (fun _ => rfl) fl_X0_49 (by decide +kernel) rfl) ?_
  refine pm_cn (sd_iln (k := 1) (by decide +kernel) rfl rfl) ?_
  refine pm_cn (sd_ias (by decide +kernel) rfl) ?_
  refine pm_cn (sd_aln (k := 0) (by decide +kernel) rfl rfl) ?_
  refine pm_cn (sd_gr cl0_ in0_ (j := 13) (by decide) (fun _ => rfl) fl_X0_40 (by decide +kernel) rfl) ?_
  refine pm_cn (sd_aln (k := 0) (by decide +kernel) rfl rfl) ?_
  refine pm_cn (sd_gi cl0_ in0_ (by decide) (fun _ => rfl) fl_X0_49 (by decide +kernel) rfl) ?_
  refine pm_cn (sd_iln (k := 2) (by decide +kernel) rfl rfl) ?_
  refine pm_cn (sd_ias (by decide +kernel) rfl) ?_
  refine pm_cn (sd_aln (k := 0) (by decide +kernel) rfl rfl) ?_
  refine pm_cn (sd_dup (by decide +kernel) rfl) ?_
  refine pm_cn (sd_gi cl0_ in0_ (by decide) (fun _ => rfl) fl_X0_49 (by decide +kernel) rfl) ?_
  refine pm_cn (sd_iconst (z := 1) (by decide +kernel) (by decide +kernel) rfl) ?_
  refine pm_cn (sd_iadd (by decide +kernel) rfl) ?_
  refine pm_cn (sd_pi cl0_ in0_ tyX0 tyX0_ok nmX0 (by decide) (fun _ => rfl) rfl rfl fl_X0_49 (by decide +kernel) rfl) ?_
  refine pm_cn (sd_iconst (z := 1) (by decide +kernel) (by decide +kernel) rfl) ?_
  refine pm_cn (sd_zr (by decide +kernel)) ?_
  exact fun _ h => absurd h List.not_mem_nil
set_option maxHeartbeats 4000000 in
set_option maxRecDepth 100000 in
theorem pf_X0_addQuestion : pm_pf T_X0_addQuestion P_X0_addQuestion (pm_pi Q_X0_addQuestion) := by
  rintro ⟨i, x, s, L, h0⟩ av h K hK ⟨rfl, rfl, hL, hw⟩ hret
  have w1 := hw.2.2.2.2.2.1
  have e := la_self hL
  show K (some 0) ([(0, vR 0 i 0), (1, vI (nI x)), (2, vI (nI s))], [], h)
  rw [← e]
  refine hK [] 60 _ _ ?_
  conv => whnf
  repeat' (first
    | (refine ⟨fun c => ?_, fun c => ?_⟩ <;> (try simp (disch := omega) only [nI_leI, nI_ltI, nI_eq, nz_eq, nz_lt, nz_gt, nz_le, nz_ge, nz_00, nz_10, nz_n1, nI_add, pk_mul, pk_sub, nI_shl1, nI_or, nI_half2, nI_min2, la_put_eq, la_up, lr_same, lr_ne, lu_same, lu_ne] at c) <;> first | (exfalso; omega) | conv => whnf)
    | (refine ⟨_, rfl, by omega, ?_⟩; conv => whnf)
    | (refine ⟨_, rfl, rfl, rfl, by decide, by decide, ?_⟩; conv => whnf)
    | (refine ⟨_, by (simp (disch := omega) only [nI_leI, nI_ltI, nI_eq, nz_eq, nz_lt, nz_gt, nz_le, nz_ge, nz_00, nz_10, nz_n1, nI_add, pk_mul, pk_sub, nI_shl1, nI_or, nI_half2, nI_min2, la_put_eq, la_up, lr_same, lr_ne, lu_same, lu_ne]; rfl), by omega, ?_⟩; conv => whnf)
    | (refine And.intro (by decide) ?_; conv => whnf))
  all_goals (try simp (disch := omega) only [nI_leI, nI_ltI, nI_eq, nz_eq, nz_lt, nz_gt, nz_le, nz_ge, nz_00, nz_10, nz_n1, nI_add, pk_mul, pk_sub, nI_shl1, nI_or, nI_half2, nI_min2, la_put_eq, la_up, lr_same, lr_ne, lu_same, lu_ne])
  · refine hret _ _ ?_
    exact Or.inl ⟨by omega, rfl, rfl⟩
  · refine hret _ _ ?_
    exact Or.inr ⟨by omega, rfl, e⟩
theorem M_X0_addQuestion : pm_MT yX0_addQuestion cX0_addQuestion 3 3 1 P_X0_addQuestion (pm_pi Q_X0_addQuestion) := pm_met k_X0_addQuestion (by decide) rfl (by
  rintro ⟨g0, g1, g2, g3, g4⟩ av h hp
  rw [hp.1]
  exact Nat.le_of_ble_eq_true rfl) pf_X0_addQuestion
theorem rc_X0_addQuestion : ∀ g av h, P_X0_addQuestion g av h → ∃ i t, av = .inr (.inr (0, i, 0)) :: t := by
  rintro ⟨g0, g1, g2, g3, g4⟩ av h hp
  exact ⟨_, _, hp.1⟩
theorem la_ok_addF {L : LD} (hw : la_ok L) {e : Nat} (he : e ≤ 9) (h : L 0 0 < 4) : la_ok (sp_addF L e) := by
  unfold sp_addF
  refine la_ok_lu (la_ok_lu (la_ok_lu hw ?_ ?_) ?_ ?_) ?_ ?_ <;> first | (unfold la_rel; omega) | (unfold la_bd; omega)
theorem la_ok_addB {L : LD} (hw : la_ok L) {k s c f : Nat} (hk : k ≤ 3) (hs : s ≤ 9) (hc : c ≤ 99) (hf : f ≤ 3) (h : L 0 3 < 6) : la_ok (sp_addB L k s c f) := by
  unfold sp_addB
  refine la_ok_lu (la_ok_lu (la_ok_lu (la_ok_lu (la_ok_lu hw ?_ ?_) ?_ ?_) ?_ ?_) ?_ ?_) ?_ ?_ <;> first | (unfold la_rel; omega) | (unfold la_bd; omega)
theorem la_ok_addQ {L : LD} (hw : la_ok L) {d s : Nat} (hd : d ≤ 99) (hs : s ≤ 9) (h : L 0 11 < 6) : la_ok (sp_addQ L d s) := by
  unfold sp_addQ
  refine la_ok_lu (la_ok_lu (la_ok_lu hw ?_ ?_) ?_ ?_) ?_ ?_ <;> first | (unfold la_rel; omega) | (unfold la_bd; omega)
/-! exchange -/
def sp_tr (L : LD) (s a b : Nat) : LD := lu (lu L s a (L s b)) s b (L s a)
def P_X0_trade : Nat × Nat × Nat × Nat × LD × pm_H → List pm_V → pm_H → Prop := fun g av h => match g with
  | (i, s, a, b, L, h0) => av = [vR 0 i s, vI (nI a), vI (nI b)] ∧ h = h0 ∧ la_at h0 i L ∧ (s = 3 ∨ s = 4 ∨ s = 5 ∨ s = 6) ∧ a < 6 ∧ b < 6
def Q_X0_trade : Nat × Nat × Nat × Nat × LD × pm_H → pm_H → Prop := fun g h => match g with
  | (i, s, a, b, L, h0) => h = la_put h0 i (sp_tr L s a b)
def T_X0_trade : List (Nat × pm_T) := [
  (0, i_al 0 1),
  (1, i_il 1 2),
  (2, i_ia 3),
  (3, i_is 3 4),
  (4, i_al 0 5),
  (5, i_il 1 6),
  (6, i_al 0 7),
  (7, i_il 2 8),
  (8, i_ia 9),
  (9, i_ias 10),
  (10, i_al 0 11),
  (11, i_il 2 12),
  (12, i_il 3 13),
  (13, i_ias 14),
  (14, i_vr)]
theorem k_X0_trade : ∀ q ∈ T_X0_trade, pm_sd RX0 cX0_trade 4 1 0 q.1 q.2 := by
  unfold T_X0_trade
  refine pm_cn (sd_aln (k := 0) (by decide +kernel) rfl rfl) ?_
  refine pm_cn (sd_iln (k := 1) (by decide +kernel) rfl rfl) ?_
  refine pm_cn (sd_ia (by decide +kernel) rfl) ?_
  refine pm_cn (sd_isn (k := 3) (by decide +kernel) rfl rfl (by decide)) ?_
  refine pm_cn (sd_aln (k := 0) (by decide +kernel) rfl rfl) ?_
  refine pm_cn (sd_iln (k := 1) (by decide +kernel) rfl rfl) ?_
  refine pm_cn (sd_aln (k := 0) (by decide +kernel) rfl rfl) ?_
  refine pm_cn (sd_iln (k := 2) (by decide +kernel) rfl rfl) ?_
  refine pm_cn (sd_ia (by decide +kernel) rfl) ?_
  refine pm_cn (sd_ias (by decide +kernel) rfl) ?_
  refine pm_cn (sd_aln (k := 0) (by decide +kernel) rfl rfl) ?_
  refine pm_cn (sd_iln (k := 2) (by decide +kernel) rfl rfl) ?_
  refine pm_cn (sd_iln (k := 3) (by decide +kernel) rfl rfl) ?_
  refine pm_cn (sd_ias (by decide +kernel) rfl) ?_
  refine pm_cn (sd_vr (by decide +kernel)) ?_
  exact fun _ h => absurd h List.not_mem_nil
set_option maxHeartbeats 4000000 in
set_option maxRecDepth 100000 in
theorem pf_X0_trade : pm_pf T_X0_trade P_X0_trade (pm_pv Q_X0_trade) := by
  rintro ⟨i, s, a, b, L, h0⟩ av h K hK ⟨rfl, rfl, hL, hs, ha, hb⟩ hret
  have e := la_self hL
  show K (some 0) ([(0, vR 0 i s), (1, vI (nI a)), (2, vI (nI b))], [], h)
  rw [← e]
  rcases hs with rfl | rfl | rfl | rfl
  · refine hK [] 60 _ _ ?_
    conv => whnf
    repeat' (first
      | (refine ⟨fun c => ?_, fun c => ?_⟩ <;> (try simp (disch := omega) only [nI_leI, nI_ltI, nI_eq, nz_eq, nz_lt, nz_gt, nz_le, nz_ge, nz_00, nz_10, nz_n1, nI_add, pk_mul, pk_sub, nI_shl1, nI_or, nI_half2, nI_min2, la_put_eq, la_up, lr_same, lr_ne, lu_same, lu_ne] at c) <;> first | (exfalso; omega) | conv => whnf)
      | (refine ⟨_, rfl, by omega, ?_⟩; conv => whnf)
      | (refine ⟨_, rfl, rfl, rfl, by decide, by decide, ?_⟩; conv => whnf)
      | (refine ⟨_, by (simp (disch := omega) only [nI_leI, nI_ltI, nI_eq, nz_eq, nz_lt, nz_gt, nz_le, nz_ge, nz_00, nz_10, nz_n1, nI_add, pk_mul, pk_sub, nI_shl1, nI_or, nI_half2, nI_min2, la_put_eq, la_up, lr_same, lr_ne, lu_same, lu_ne]; rfl), by omega, ?_⟩; conv => whnf)
      | (refine And.intro (by decide) ?_; conv => whnf))
    all_goals (try simp (disch := omega) only [nI_leI, nI_ltI, nI_eq, nz_eq, nz_lt, nz_gt, nz_le, nz_ge, nz_00, nz_10, nz_n1, nI_add, pk_mul, pk_sub, nI_shl1, nI_or, nI_half2, nI_min2, la_put_eq, la_up, lr_same, lr_ne, lu_same, lu_ne])
    exact hret _ _ rfl
  · refine hK [] 60 _ _ ?_
    conv => whnf
    repeat' (first
      | (refine ⟨fun c => ?_, fun c => ?_⟩ <;> (try simp (disch := omega) only [nI_leI, nI_ltI, nI_eq, nz_eq, nz_lt, nz_gt, nz_le, nz_ge, nz_00, nz_10, nz_n1, nI_add, pk_mul, pk_sub, nI_shl1, nI_or, nI_half2, nI_min2, la_put_eq, la_up, lr_same, lr_ne, lu_same, lu_ne] at c) <;> first | (exfalso; omega) | conv => whnf)
      | (refine ⟨_, rfl, by omega, ?_⟩; conv => whnf)
      | (refine ⟨_, rfl, rfl, rfl, by decide, by decide, ?_⟩; conv => whnf)
      | (refine ⟨_, by (simp (disch := omega) only [nI_leI, nI_ltI, nI_eq, nz_eq, nz_lt, nz_gt, nz_le, nz_ge, nz_00, nz_10, nz_n1, nI_add, pk_mul, pk_sub, nI_shl1, nI_or, nI_half2, nI_min2, la_put_eq, la_up, lr_same, lr_ne, lu_same, lu_ne]; rfl), by omega, ?_⟩; conv => whnf)
      | (refine And.intro (by decide) ?_; conv => whnf))
    all_goals (try simp (disch := omega) only [nI_leI, nI_ltI, nI_eq, nz_eq, nz_lt, nz_gt, nz_le, nz_ge, nz_00, nz_10, nz_n1, nI_add, pk_mul, pk_sub, nI_shl1, nI_or, nI_half2, nI_min2, la_put_eq, la_up, lr_same, lr_ne, lu_same, lu_ne])
    exact hret _ _ rfl
  · refine hK [] 60 _ _ ?_
    conv => whnf
    repeat' (first
      | (refine ⟨fun c => ?_, fun c => ?_⟩ <;> (try simp (disch := omega) only [nI_leI, nI_ltI, nI_eq, nz_eq, nz_lt, nz_gt, nz_le, nz_ge, nz_00, nz_10, nz_n1, nI_add, pk_mul, pk_sub, nI_shl1, nI_or, nI_half2, nI_min2, la_put_eq, la_up, lr_same, lr_ne, lu_same, lu_ne] at c) <;> first | (exfalso; omega) | conv => whnf)
      | (refine ⟨_, rfl, by omega, ?_⟩; conv => whnf)
      | (refine ⟨_, rfl, rfl, rfl, by decide, by decide, ?_⟩; conv => whnf)
      | (refine ⟨_, by (simp (disch := omega) only [nI_leI, nI_ltI, nI_eq, nz_eq, nz_lt, nz_gt, nz_le, nz_ge, nz_00, nz_10, nz_n1, nI_add, pk_mul, pk_sub, nI_shl1, nI_or, nI_half2, nI_min2, la_put_eq, la_up, lr_same, lr_ne, lu_same, lu_ne]; rfl), by omega, ?_⟩; conv => whnf)
      | (refine And.intro (by decide) ?_; conv => whnf))
    all_goals (try simp (disch := omega) only [nI_leI, nI_ltI, nI_eq, nz_eq, nz_lt, nz_gt, nz_le, nz_ge, nz_00, nz_10, nz_n1, nI_add, pk_mul, pk_sub, nI_shl1, nI_or, nI_half2, nI_min2, la_put_eq, la_up, lr_same, lr_ne, lu_same, lu_ne])
    exact hret _ _ rfl
  · refine hK [] 60 _ _ ?_
    conv => whnf
    repeat' (first
      | (refine ⟨fun c => ?_, fun c => ?_⟩ <;> (try simp (disch := omega) only [nI_leI, nI_ltI, nI_eq, nz_eq, nz_lt, nz_gt, nz_le, nz_ge, nz_00, nz_10, nz_n1, nI_add, pk_mul, pk_sub, nI_shl1, nI_or, nI_half2, nI_min2, la_put_eq, la_up, lr_same, lr_ne, lu_same, lu_ne] at c) <;> first | (exfalso; omega) | conv => whnf)
      | (refine ⟨_, rfl, by omega, ?_⟩; conv => whnf)
      | (refine ⟨_, rfl, rfl, rfl, by decide, by decide, ?_⟩; conv => whnf)
      | (refine ⟨_, by (simp (disch := omega) only [nI_leI, nI_ltI, nI_eq, nz_eq, nz_lt, nz_gt, nz_le, nz_ge, nz_00, nz_10, nz_n1, nI_add, pk_mul, pk_sub, nI_shl1, nI_or, nI_half2, nI_min2, la_put_eq, la_up, lr_same, lr_ne, lu_same, lu_ne]; rfl), by omega, ?_⟩; conv => whnf)
      | (refine And.intro (by decide) ?_; conv => whnf))
    all_goals (try simp (disch := omega) only [nI_leI, nI_ltI, nI_eq, nz_eq, nz_lt, nz_gt, nz_le, nz_ge, nz_00, nz_10, nz_n1, nI_add, pk_mul, pk_sub, nI_shl1, nI_or, nI_half2, nI_min2, la_put_eq, la_up, lr_same, lr_ne, lu_same, lu_ne])
    exact hret _ _ rfl
theorem M_X0_trade : pm_MT yX0_trade cX0_trade 4 0 1 P_X0_trade (pm_pv Q_X0_trade) := pm_met k_X0_trade (by decide) rfl (by
  rintro ⟨g0, g1, g2, g3, g4, g5⟩ av h hp
  rw [hp.1]
  exact Nat.le_of_ble_eq_true rfl) pf_X0_trade
def sp_xch (L : LD) (a b : Nat) : LD := sp_tr (sp_tr (sp_tr (sp_tr L 3 a b) 4 a b) 5 a b) 6 a b
def P_X0_exchange : Nat × Nat × Nat × LD × pm_H → List pm_V → pm_H → Prop := fun g av h => match g with
  | (i, a, b, L, h0) => av = [vR 0 i 0, vI (nI a), vI (nI b)] ∧ h = h0 ∧ la_at h0 i L ∧ a < 6 ∧ b < 6
def Q_X0_exchange : Nat × Nat × Nat × LD × pm_H → pm_H → Prop := fun g h => match g with
  | (i, a, b, L, h0) => h = la_put h0 i (sp_xch L a b)
def T_X0_exchange : List (Nat × pm_T) := [
  (0, i_al 0 1),
  (1, i_gr 0 (fun i => (0, i, 3)) 4),
  (4, i_il 1 5),
  (5, i_il 2 6),
  (6, i_cv 3 P_X0_trade Q_X0_trade 9),
  (9, i_al 0 10),
  (10, i_gr 0 (fun i => (0, i, 4)) 13),
  (13, i_il 1 14),
  (14, i_il 2 15),
  (15, i_cv 3 P_X0_trade Q_X0_trade 18),
  (18, i_al 0 19),
  (19, i_gr 0 (fun i => (0, i, 5)) 22),
  (22, i_il 1 23),
  (23, i_il 2 24),
  (24, i_cv 3 P_X0_trade Q_X0_trade 27),
  (27, i_al 0 28),
  (28, i_gr 0 (fun i => (0, i, 6)) 31),
  (31, i_il 1 32),
  (32, i_il 2 33),
  (33, i_cv 3 P_X0_trade Q_X0_trade 36),
  (36, i_vr)]
theorem k_X0_exchange : ∀ q ∈ T_X0_exchange, pm_sd RX0 cX0_exchange 3 2 0 q.1 q.2 := by
  unfold T_X0_exchange
  refine pm_cn (sd_aln (k := 0) (by decide +kernel) rfl rfl) ?_
  refine pm_cn (sd_gr cl0_ in0_ (j := 4) (by decide) (fun _ => rfl) fl_X0_18 (by decide +kernel) rfl) ?_
  refine pm_cn (sd_iln (k := 1) (by decide +kernel) rfl rfl) ?_
  refine pm_cn (sd_iln (k := 2) (by decide +kernel) rfl rfl) ?_
  refine pm_cn (sd_cvs M_X0_trade cd_X0_trade ml_X0_61 st_X0_trade nt_X0 (by decide +kernel) (by decide) (by decide) (by decide +kernel) rfl) ?_
  refine pm_cn (sd_aln (k := 0) (by decide +kernel) rfl rfl) ?_
  refine pm_cn (sd_gr cl0_ in0_ (j := 5) (by decide) (fun _ => rfl) fl_X0_21 (by decide +kernel) rfl) ?_
  refine pm_cn (sd_iln (k := 1) (by decide +kernel) rfl rfl) ?_
  refine pm_cn (sd_iln (k := 2) (by decide +kernel) rfl rfl) ?_
  refine pm_cn (sd_cvs M_X0_trade cd_X0_trade ml_X0_61 st_X0_trade nt_X0 (by decide +kernel) (by decide) (by decide) (by decide +kernel) rfl) ?_
  refine pm_cn (sd_aln (k := 0) (by decide +kernel) rfl rfl) ?_
  refine pm_cn (sd_gr cl0_ in0_ (j := 6) (by decide) (fun _ => rfl) fl_X0_24 (by decide +kernel) rfl) ?_
  refine pm_cn (sd_iln (k := 1) (by decide +kernel) rfl rfl) ?_
  refine pm_cn (sd_iln (k := 2) (by decide +kernel) rfl rfl) ?_
  refine pm_cn (sd_cvs M_X0_trade cd_X0_trade ml_X0_61 st_X0_trade nt_X0 (by decide +kernel) (by decide) (by decide) (by decide +kernel) rfl) ?_
  refine pm_cn (sd_aln (k := 0) (by decide +kernel) rfl rfl) ?_
  refine pm_cn (sd_gr cl0_ in0_ (j := 7) (by decide) (fun _ => rfl) fl_X0_27 (by decide +kernel) rfl) ?_
  refine pm_cn (sd_iln (k := 1) (by decide +kernel) rfl rfl) ?_
  refine pm_cn (sd_iln (k := 2) (by decide +kernel) rfl rfl) ?_
  refine pm_cn (sd_cvs M_X0_trade cd_X0_trade ml_X0_61 st_X0_trade nt_X0 (by decide +kernel) (by decide) (by decide) (by decide +kernel) rfl) ?_
  refine pm_cn (sd_vr (by decide +kernel)) ?_
  exact fun _ h => absurd h List.not_mem_nil
set_option maxHeartbeats 4000000 in
set_option maxRecDepth 100000 in
theorem pf_X0_exchange : pm_pf T_X0_exchange P_X0_exchange (pm_pv Q_X0_exchange) := by
  rintro ⟨i, a, b, L, h0⟩ av h K hK ⟨rfl, rfl, hL, ha, hb⟩ hret
  show K (some 0) ([(0, vR 0 i 0), (1, vI (nI a)), (2, vI (nI b))], [], h)
  refine hK [] 60 _ _ ?_
  conv => whnf
  repeat' (first
    | (refine ⟨fun c => ?_, fun c => ?_⟩ <;> (try simp (disch := omega) only [nI_leI, nI_ltI, nI_eq, nz_eq, nz_lt, nz_gt, nz_le, nz_ge, nz_00, nz_10, nz_n1, nI_add, pk_mul, pk_sub, nI_shl1, nI_or, nI_half2, nI_min2, la_put_eq, la_up, lr_same, lr_ne, lu_same, lu_ne] at c) <;> first | (exfalso; omega) | conv => whnf)
    | (refine ⟨_, rfl, by omega, ?_⟩; conv => whnf)
    | (refine ⟨_, rfl, rfl, rfl, by decide, by decide, ?_⟩; conv => whnf)
    | (refine ⟨_, by (simp (disch := omega) only [nI_leI, nI_ltI, nI_eq, nz_eq, nz_lt, nz_gt, nz_le, nz_ge, nz_00, nz_10, nz_n1, nI_add, pk_mul, pk_sub, nI_shl1, nI_or, nI_half2, nI_min2, la_put_eq, la_up, lr_same, lr_ne, lu_same, lu_ne]; rfl), by omega, ?_⟩; conv => whnf)
    | (refine And.intro (by decide) ?_; conv => whnf))
  all_goals (try simp (disch := omega) only [nI_leI, nI_ltI, nI_eq, nz_eq, nz_lt, nz_gt, nz_le, nz_ge, nz_00, nz_10, nz_n1, nI_add, pk_mul, pk_sub, nI_shl1, nI_or, nI_half2, nI_min2, la_put_eq, la_up, lr_same, lr_ne, lu_same, lu_ne])
  refine ⟨(i, 3, a, b, L, h), ⟨rfl, rfl, hL, by omega, ha, hb⟩, fun h' hq => ?_⟩
  subst hq
  conv => whnf
  repeat' (first
    | (refine ⟨fun c => ?_, fun c => ?_⟩ <;> (try simp (disch := omega) only [nI_leI, nI_ltI, nI_eq, nz_eq, nz_lt, nz_gt, nz_le, nz_ge, nz_00, nz_10, nz_n1, nI_add, pk_mul, pk_sub, nI_shl1, nI_or, nI_half2, nI_min2, la_put_eq, la_up, lr_same, lr_ne, lu_same, lu_ne] at c) <;> first | (exfalso; omega) | conv => whnf)
    | (refine ⟨_, rfl, by omega, ?_⟩; conv => whnf)
    | (refine ⟨_, rfl, rfl, rfl, by decide, by decide, ?_⟩; conv => whnf)
    | (refine ⟨_, by (simp (disch := omega) only [nI_leI, nI_ltI, nI_eq, nz_eq, nz_lt, nz_gt, nz_le, nz_ge, nz_00, nz_10, nz_n1, nI_add, pk_mul, pk_sub, nI_shl1, nI_or, nI_half2, nI_min2, la_put_eq, la_up, lr_same, lr_ne, lu_same, lu_ne]; rfl), by omega, ?_⟩; conv => whnf)
    | (refine And.intro (by decide) ?_; conv => whnf))
  all_goals (try simp (disch := omega) only [nI_leI, nI_ltI, nI_eq, nz_eq, nz_lt, nz_gt, nz_le, nz_ge, nz_00, nz_10, nz_n1, nI_add, pk_mul, pk_sub, nI_shl1, nI_or, nI_half2, nI_min2, la_put_eq, la_up, lr_same, lr_ne, lu_same, lu_ne])
  refine ⟨(i, 4, a, b, sp_tr L 3 a b, _), ⟨rfl, rfl, la_put_at _ _ _, by omega, ha, hb⟩, fun h' hq => ?_⟩
  subst hq
  conv => whnf
  repeat' (first
    | (refine ⟨fun c => ?_, fun c => ?_⟩ <;> (try simp (disch := omega) only [nI_leI, nI_ltI, nI_eq, nz_eq, nz_lt, nz_gt, nz_le, nz_ge, nz_00, nz_10, nz_n1, nI_add, pk_mul, pk_sub, nI_shl1, nI_or, nI_half2, nI_min2, la_put_eq, la_up, lr_same, lr_ne, lu_same, lu_ne] at c) <;> first | (exfalso; omega) | conv => whnf)
    | (refine ⟨_, rfl, by omega, ?_⟩; conv => whnf)
    | (refine ⟨_, rfl, rfl, rfl, by decide, by decide, ?_⟩; conv => whnf)
    | (refine ⟨_, by (simp (disch := omega) only [nI_leI, nI_ltI, nI_eq, nz_eq, nz_lt, nz_gt, nz_le, nz_ge, nz_00, nz_10, nz_n1, nI_add, pk_mul, pk_sub, nI_shl1, nI_or, nI_half2, nI_min2, la_put_eq, la_up, lr_same, lr_ne, lu_same, lu_ne]; rfl), by omega, ?_⟩; conv => whnf)
    | (refine And.intro (by decide) ?_; conv => whnf))
  all_goals (try simp (disch := omega) only [nI_leI, nI_ltI, nI_eq, nz_eq, nz_lt, nz_gt, nz_le, nz_ge, nz_00, nz_10, nz_n1, nI_add, pk_mul, pk_sub, nI_shl1, nI_or, nI_half2, nI_min2, la_put_eq, la_up, lr_same, lr_ne, lu_same, lu_ne])
  refine ⟨(i, 5, a, b, sp_tr (sp_tr L 3 a b) 4 a b, _), ⟨rfl, rfl, la_put_at _ _ _, by omega, ha, hb⟩, fun h' hq => ?_⟩
  subst hq
  conv => whnf
  repeat' (first
    | (refine ⟨fun c => ?_, fun c => ?_⟩ <;> (try simp (disch := omega) only [nI_leI, nI_ltI, nI_eq, nz_eq, nz_lt, nz_gt, nz_le, nz_ge, nz_00, nz_10, nz_n1, nI_add, pk_mul, pk_sub, nI_shl1, nI_or, nI_half2, nI_min2, la_put_eq, la_up, lr_same, lr_ne, lu_same, lu_ne] at c) <;> first | (exfalso; omega) | conv => whnf)
    | (refine ⟨_, rfl, by omega, ?_⟩; conv => whnf)
    | (refine ⟨_, rfl, rfl, rfl, by decide, by decide, ?_⟩; conv => whnf)
    | (refine ⟨_, by (simp (disch := omega) only [nI_leI, nI_ltI, nI_eq, nz_eq, nz_lt, nz_gt, nz_le, nz_ge, nz_00, nz_10, nz_n1, nI_add, pk_mul, pk_sub, nI_shl1, nI_or, nI_half2, nI_min2, la_put_eq, la_up, lr_same, lr_ne, lu_same, lu_ne]; rfl), by omega, ?_⟩; conv => whnf)
    | (refine And.intro (by decide) ?_; conv => whnf))
  all_goals (try simp (disch := omega) only [nI_leI, nI_ltI, nI_eq, nz_eq, nz_lt, nz_gt, nz_le, nz_ge, nz_00, nz_10, nz_n1, nI_add, pk_mul, pk_sub, nI_shl1, nI_or, nI_half2, nI_min2, la_put_eq, la_up, lr_same, lr_ne, lu_same, lu_ne])
  refine ⟨(i, 6, a, b, sp_tr (sp_tr (sp_tr L 3 a b) 4 a b) 5 a b, _), ⟨rfl, rfl, la_put_at _ _ _, by omega, ha, hb⟩, fun h' hq => ?_⟩
  subst hq
  conv => whnf
  repeat' (first
    | (refine ⟨fun c => ?_, fun c => ?_⟩ <;> (try simp (disch := omega) only [nI_leI, nI_ltI, nI_eq, nz_eq, nz_lt, nz_gt, nz_le, nz_ge, nz_00, nz_10, nz_n1, nI_add, pk_mul, pk_sub, nI_shl1, nI_or, nI_half2, nI_min2, la_put_eq, la_up, lr_same, lr_ne, lu_same, lu_ne, la_put2] at c) <;> first | (exfalso; omega) | conv => whnf)
    | (refine ⟨_, rfl, by omega, ?_⟩; conv => whnf)
    | (refine ⟨_, rfl, rfl, rfl, by decide, by decide, ?_⟩; conv => whnf)
    | (refine ⟨_, by (simp (disch := omega) only [nI_leI, nI_ltI, nI_eq, nz_eq, nz_lt, nz_gt, nz_le, nz_ge, nz_00, nz_10, nz_n1, nI_add, pk_mul, pk_sub, nI_shl1, nI_or, nI_half2, nI_min2, la_put_eq, la_up, lr_same, lr_ne, lu_same, lu_ne, la_put2]; rfl), by omega, ?_⟩; conv => whnf)
    | (refine And.intro (by decide) ?_; conv => whnf))
  all_goals (try simp (disch := omega) only [nI_leI, nI_ltI, nI_eq, nz_eq, nz_lt, nz_gt, nz_le, nz_ge, nz_00, nz_10, nz_n1, nI_add, pk_mul, pk_sub, nI_shl1, nI_or, nI_half2, nI_min2, la_put_eq, la_up, lr_same, lr_ne, lu_same, lu_ne, la_put2])
  exact hret _ _ rfl
theorem M_X0_exchange : pm_MT yX0_exchange cX0_exchange 3 0 2 P_X0_exchange (pm_pv Q_X0_exchange) := pm_met k_X0_exchange (by decide) rfl (by
  rintro ⟨g0, g1, g2, g3, g4⟩ av h hp
  rw [hp.1]
  exact Nat.le_of_ble_eq_true rfl) pf_X0_exchange
theorem rc_X0_exchange : ∀ g av h, P_X0_exchange g av h → ∃ i t, av = .inr (.inr (0, i, 0)) :: t := by
  rintro ⟨g0, g1, g2, g3, g4⟩ av h hp
  exact ⟨_, _, hp.1⟩
theorem la_ok_tr {L : LD} (hw : la_ok L) {s a b : Nat} (hs : 3 ≤ s ∧ s ≤ 6) (ha : a < 6) (hb : b < 6) : la_ok (sp_tr L s a b) := by
  have h1 := (la_ok_iff.mp hw s a).1 (by unfold la_rel; omega)
  have h2 := (la_ok_iff.mp hw s b).1 (by unfold la_rel; omega)
  unfold sp_tr
  refine la_ok_lu (la_ok_lu hw ?_ ?_) ?_ ?_
  · unfold la_rel; omega
  · unfold la_bd at h2 ⊢; omega
  · unfold la_rel; omega
  · unfold la_bd at h1 ⊢; omega
theorem la_ok_xch {L : LD} (hw : la_ok L) {a b : Nat} (ha : a < 6) (hb : b < 6) : la_ok (sp_xch L a b) :=
  la_ok_tr (la_ok_tr (la_ok_tr (la_ok_tr hw (by omega) ha hb) (by omega) ha hb) (by omega) ha hb) (by omega) ha hb
end
section
/-! The class's small helpers; Sheet, Sight. -/
def wi (v : Int32) (a b : Nat) : Prop := ∃ k, a ≤ k ∧ k ≤ b ∧ v = nI k
theorem wi_iff {v : Int32} {a b : Nat} (ha : a < 2 ^ 31) (hb : b < 2 ^ 31) : (¬ v < nI a ∧ ¬ nI b < v) ↔ wi v a b := by
  constructor
  · rintro ⟨h1, h2⟩
    have h0 : ¬ v < 0 := fun h => h1 (by
      rw [Int32.lt_iff_toInt_lt, nI_toInt ha]
      rw [Int32.lt_iff_toInt_lt] at h
      have : (0 : Int32).toInt = 0 := rfl
      omega)
    obtain ⟨k, hk, rfl⟩ := nI_of h0
    rw [nI_ltI hk ha] at h1
    rw [nI_ltI hb hk] at h2
    exact ⟨k, by omega, by omega, rfl⟩
  · rintro ⟨k, h1, h2, rfl⟩
    rw [nI_ltI (by omega) ha, nI_ltI hb (by omega)]
    omega
def P_X4_within : Int32 × Int32 × Int32 × pm_H → List pm_V → pm_H → Prop := fun g av h => match g with
  | (v, a, b, h0) => av = [vI v, vI a, vI b] ∧ h = h0
def Q_X4_within : Int32 × Int32 × Int32 × pm_H → Int32 → pm_H → Prop := fun g r h => match g with
  | (v, a, b, h0) => h = h0 ∧ (((¬ v < a ∧ ¬ b < v) ∧ r = nI 1) ∨ (¬ (¬ v < a ∧ ¬ b < v) ∧ r = nI 0))
def T_X4_within : List (Nat × pm_T) := [
  (0, i_il 0 1),
  (1, i_il 1 2),
  (2, i_iclt 14 5),
  (5, i_il 0 6),
  (6, i_il 2 7),
  (7, i_icgt 14 10),
  (10, i_c (nI 1) 11),
  (11, i_go 15),
  (14, i_c (nI 0) 15),
  (15, i_zr)]
theorem k_X4_within : ∀ q ∈ T_X4_within, pm_sd RX4 cX4_within 3 1 3 q.1 q.2 := by
  unfold T_X4_within
  refine pm_cn (sd_iln (k := 0) (by decide +kernel) rfl rfl) ?_
  refine pm_cn (sd_iln (k := 1) (by decide +kernel) rfl rfl) ?_
  refine pm_cn (sd_iclt (off := 12) (by decide +kernel) (by decide) rfl) ?_
  refine pm_cn (sd_iln (k := 0) (by decide +kernel) rfl rfl) ?_
  refine pm_cn (sd_iln (k := 2) (by decide +kernel) rfl rfl) ?_
  refine pm_cn (sd_icgt (off := 7) (by decide +kernel) (by decide) rfl) ?_
  refine pm_cn (sd_iconst (z := 1) (by decide +kernel) (by decide +kernel) rfl) ?_
  refine pm_cn (sd_go (off := 4) (by decide +kernel) (by decide)) ?_
  refine pm_cn (sd_iconst (z := 0) (by decide +kernel) (by decide +kernel) rfl) ?_
  refine pm_cn (sd_zr (by decide +kernel)) ?_
  exact fun _ h => absurd h List.not_mem_nil
set_option maxHeartbeats 4000000 in
set_option maxRecDepth 100000 in
theorem pf_X4_within : pm_pf T_X4_within P_X4_within (pm_pi Q_X4_within) := by
  rintro ⟨v, a, b, h0⟩ av h K hK ⟨rfl, rfl⟩ hret
  show K (some 0) ([(0, vI v), (1, vI a), (2, vI b)], [], h)
  refine hK [] 20 _ _ ?_
  conv => whnf
  refine ⟨fun c1 => ?_, fun c1 => ?_⟩
  · conv => whnf
    exact ⟨Or.inl rfl, hret _ _ ⟨rfl, Or.inr ⟨fun q => q.1 c1, rfl⟩⟩⟩
  · conv => whnf
    refine ⟨fun c2 => ?_, fun c2 => ?_⟩
    · conv => whnf
      exact ⟨Or.inl rfl, hret _ _ ⟨rfl, Or.inr ⟨fun q => q.2 c2, rfl⟩⟩⟩
    · conv => whnf
      exact ⟨Or.inr rfl, hret _ _ ⟨rfl, Or.inl ⟨⟨c1, c2⟩, rfl⟩⟩⟩
theorem M_X4_within : pm_MT yX4_within cX4_within 3 3 1 P_X4_within (pm_pi Q_X4_within) := pm_met k_X4_within (by decide) rfl (by
  rintro ⟨g0, g1, g2, g3⟩ av h hp
  rw [hp.1]
  exact Nat.le_of_ble_eq_true rfl) pf_X4_within
theorem Q_within {v : Int32} {a b : Nat} {h0 h : pm_H} {r : Int32} (ha : a < 2 ^ 31) (hb : b < 2 ^ 31) (hq : Q_X4_within (v, nI a, nI b, h0) r h) : h = h0 ∧ ((wi v a b ∧ r = nI 1) ∨ (¬ wi v a b ∧ r = nI 0)) := by
  obtain ⟨h1, h2⟩ := hq
  rw [wi_iff ha hb] at h2
  exact ⟨h1, h2⟩
def hf (v : Int32) : Prop := v = nI 0 ∨ v = nI 1
def P_X4_isHalf : Int32 × pm_H → List pm_V → pm_H → Prop := fun g av h => match g with
  | (v, h0) => av = [vI v] ∧ h = h0
def Q_X4_isHalf : Int32 × pm_H → Int32 → pm_H → Prop := fun g r h => match g with
  | (v, h0) => h = h0 ∧ ((hf v ∧ r = nI 1) ∨ (¬ hf v ∧ r = nI 0))
def T_X4_isHalf : List (Nat × pm_T) := [
  (0, i_il 0 1),
  (1, i_ifeq 9 4),
  (4, i_il 0 5),
  (5, i_c (nI 1) 6),
  (6, i_icne 13 9),
  (9, i_c (nI 1) 10),
  (10, i_go 14),
  (13, i_c (nI 0) 14),
  (14, i_zr)]
theorem k_X4_isHalf : ∀ q ∈ T_X4_isHalf, pm_sd RX4 cX4_isHalf 1 1 3 q.1 q.2 := by
  unfold T_X4_isHalf
  refine pm_cn (sd_iln (k := 0) (by decide +kernel) rfl rfl) ?_
  refine pm_cn (sd_ifeq (off := 8) (by decide +kernel) (by decide) rfl) ?_
  refine pm_cn (sd_iln (k := 0) (by decide +kernel) rfl rfl) ?_
  refine pm_cn (sd_iconst (z := 1) (by decide +kernel) (by decide +kernel) rfl) ?_
  refine pm_cn (sd_icne (off := 7) (by decide +kernel) (by decide) rfl) ?_
  refine pm_cn (sd_iconst (z := 1) (by decide +kernel) (by decide +kernel) rfl) ?_
  refine pm_cn (sd_go (off := 4) (by decide +kernel) (by decide)) ?_
  refine pm_cn (sd_iconst (z := 0) (by decide +kernel) (by decide +kernel) rfl) ?_
  refine pm_cn (sd_zr (by decide +kernel)) ?_
  exact fun _ h => absurd h List.not_mem_nil
set_option maxHeartbeats 4000000 in
set_option maxRecDepth 100000 in
theorem pf_X4_isHalf : pm_pf T_X4_isHalf P_X4_isHalf (pm_pi Q_X4_isHalf) := by
  rintro ⟨v, h0⟩ av h K hK ⟨rfl, rfl⟩ hret
  show K (some 0) ([(0, vI v)], [], h)
  refine hK [] 20 _ _ ?_
  conv => whnf
  refine ⟨fun c1 => ?_, fun c1 => ?_⟩
  · conv => whnf
    exact ⟨Or.inr rfl, hret _ _ ⟨rfl, Or.inl ⟨Or.inl c1, rfl⟩⟩⟩
  · conv => whnf
    refine ⟨fun c2 => ?_, fun c2 => ?_⟩
    · conv => whnf
      exact ⟨Or.inl rfl, hret _ _ ⟨rfl, Or.inr ⟨fun q => q.elim c1 c2, rfl⟩⟩⟩
    · conv => whnf
      exact ⟨Or.inr rfl, hret _ _ ⟨rfl, Or.inl ⟨Or.inr c2, rfl⟩⟩⟩
theorem M_X4_isHalf : pm_MT yX4_isHalf cX4_isHalf 1 3 1 P_X4_isHalf (pm_pi Q_X4_isHalf) := pm_met k_X4_isHalf (by decide) rfl (by
  rintro ⟨g0, g1⟩ av h hp
  rw [hp.1]
  exact Nat.le_of_ble_eq_true rfl) pf_X4_isHalf
def P_X4_areOdds : Int32 × Int32 × Int32 × pm_H → List pm_V → pm_H → Prop := fun g av h => match g with
  | (v, n, w, h0) => av = [vI v, vI n, vI w] ∧ h = h0
def Q_X4_areOdds : Int32 × Int32 × Int32 × pm_H → Int32 → pm_H → Prop := fun g r h => match g with
  | (v, n, w, h0) => h = h0 ∧ (((wi v 0 10 ∧ wi n 0 8 ∧ hf w) ∧ r = nI 1) ∨ (¬ (wi v 0 10 ∧ wi n 0 8 ∧ hf w) ∧ r = nI 0))
def T_X4_areOdds : List (Nat × pm_T) := [
  (0, i_il 0 1),
  (1, i_c (nI 0) 2),
  (2, i_c (nI 10) 4),
  (4, i_ci 3 P_X4_within Q_X4_within 7),
  (7, i_ifeq 31 10),
  (10, i_il 1 11),
  (11, i_c (nI 0) 12),
  (12, i_c (nI 8) 14),
  (14, i_ci 3 P_X4_within Q_X4_within 17),
  (17, i_ifeq 31 20),
  (20, i_il 2 21),
  (21, i_ci 1 P_X4_isHalf Q_X4_isHalf 24),
  (24, i_ifeq 31 27),
  (27, i_c (nI 1) 28),
  (28, i_go 32),
  (31, i_c (nI 0) 32),
  (32, i_zr)]
theorem k_X4_areOdds : ∀ q ∈ T_X4_areOdds, pm_sd RX4 cX4_areOdds 3 2 3 q.1 q.2 := by
  unfold T_X4_areOdds
  refine pm_cn (sd_iln (k := 0) (by decide +kernel) rfl rfl) ?_
  refine pm_cn (sd_iconst (z := 0) (by decide +kernel) (by decide +kernel) rfl) ?_
  refine pm_cn (sd_bipush (z := 10) (by decide +kernel) (by decide +kernel) rfl) ?_
  refine pm_cn (sd_cis M_X4_within (by decide) cd_X4_within ml_X4_57 st_X4_within nt_X4 (by decide +kernel) (by decide) (by decide) (by decide +kernel) rfl) ?_
  refine pm_cn (sd_ifeq (off := 24) (by decide +kernel) (by decide) rfl) ?_
  refine pm_cn (sd_iln (k := 1) (by decide +kernel) rfl rfl) ?_
  refine pm_cn (sd_iconst (z := 0) (by decide +kernel) (by decide +kernel) rfl) ?_
  refine pm_cn (sd_bipush (z := 8) (by decide +kernel) (by decide +kernel) rfl) ?_
  refine pm_cn (sd_cis M_X4_within (by decide) cd_X4_within ml_X4_57 st_X4_within nt_X4 (by decide +kernel) (by decide) (by decide) (by decide +kernel) rfl) ?_
  refine pm_cn (sd_ifeq (off := 14) (by decide +kernel) (by decide) rfl) ?_
  refine pm_cn (sd_iln (k := 2) (by decide +kernel) rfl rfl) ?_
  refine pm_cn (sd_cis M_X4_isHalf (by decide) cd_X4_isHalf ml_X4_152 st_X4_isHalf nt_X4 (by decide +kernel) (by decide) (by decide) (by decide +kernel) rfl) ?_
  refine pm_cn (sd_ifeq (off := 7) (by decide +kernel) (by decide) rfl) ?_
  refine pm_cn (sd_iconst (z := 1) (by decide +kernel) (by decide +kernel) rfl) ?_
  refine pm_cn (sd_go (off := 4) (by decide +kernel) (by decide)) ?_
  refine pm_cn (sd_iconst (z := 0) (by decide +kernel) (by decide +kernel) rfl) ?_
  refine pm_cn (sd_zr (by decide +kernel)) ?_
  exact fun _ h => absurd h List.not_mem_nil
set_option maxHeartbeats 4000000 in
set_option maxRecDepth 100000 in
theorem pf_X4_areOdds : pm_pf T_X4_areOdds P_X4_areOdds (pm_pi Q_X4_areOdds) := by
  rintro ⟨v, n, w, h0⟩ av h K hK ⟨rfl, rfl⟩ hret
  show K (some 0) ([(0, vI v), (1, vI n), (2, vI w)], [], h)
  refine hK [] 40 _ _ ?_
  conv => whnf
  repeat' (first
    | (refine ⟨fun c => ?_, fun c => ?_⟩ <;> (try simp (disch := omega) only [nI_leI, nI_ltI, nI_eq, nz_eq, nz_lt, nz_gt, nz_le, nz_ge, nz_00, nz_10, nz_n1, nI_add, pk_mul, pk_sub, nI_shl1, nI_or, nI_half2, nI_min2, la_put_eq, la_up, lr_same, lr_ne, lu_same, lu_ne, not_true_eq_false, not_false_eq_true] at c) <;> first | (exfalso; omega) | conv => whnf)
    | (refine ⟨_, rfl, by omega, ?_⟩; conv => whnf)
    | (refine ⟨_, rfl, rfl, rfl, by decide, by decide, ?_⟩; conv => whnf)
    | (refine ⟨_, by (simp (disch := omega) only [nI_leI, nI_ltI, nI_eq, nz_eq, nz_lt, nz_gt, nz_le, nz_ge, nz_00, nz_10, nz_n1, nI_add, pk_mul, pk_sub, nI_shl1, nI_or, nI_half2, nI_min2, la_put_eq, la_up, lr_same, lr_ne, lu_same, lu_ne, not_true_eq_false, not_false_eq_true]; rfl), by omega, ?_⟩; conv => whnf)
    | (refine And.intro (by first | assumption | decide) ?_; conv => whnf))
  all_goals (try simp (disch := omega) only [nI_leI, nI_ltI, nI_eq, nz_eq, nz_lt, nz_gt, nz_le, nz_ge, nz_00, nz_10, nz_n1, nI_add, pk_mul, pk_sub, nI_shl1, nI_or, nI_half2, nI_min2, la_put_eq, la_up, lr_same, lr_ne, lu_same, lu_ne, not_true_eq_false, not_false_eq_true])
  refine ⟨(v, nI 0, nI 10, h), ⟨rfl, rfl⟩, fun r h' hq => ?_⟩
  obtain ⟨rfl, ⟨hv, rfl⟩ | ⟨hv, rfl⟩⟩ := Q_within (by decide) (by decide) hq
  · conv => whnf
    repeat' (first
      | (refine ⟨fun c => ?_, fun c => ?_⟩ <;> (try simp (disch := omega) only [nI_leI, nI_ltI, nI_eq, nz_eq, nz_lt, nz_gt, nz_le, nz_ge, nz_00, nz_10, nz_n1, nI_add, pk_mul, pk_sub, nI_shl1, nI_or, nI_half2, nI_min2, la_put_eq, la_up, lr_same, lr_ne, lu_same, lu_ne, not_true_eq_false, not_false_eq_true] at c) <;> first | (exfalso; omega) | conv => whnf)
      | (refine ⟨_, rfl, by omega, ?_⟩; conv => whnf)
      | (refine ⟨_, rfl, rfl, rfl, by decide, by decide, ?_⟩; conv => whnf)
      | (refine ⟨_, by (simp (disch := omega) only [nI_leI, nI_ltI, nI_eq, nz_eq, nz_lt, nz_gt, nz_le, nz_ge, nz_00, nz_10, nz_n1, nI_add, pk_mul, pk_sub, nI_shl1, nI_or, nI_half2, nI_min2, la_put_eq, la_up, lr_same, lr_ne, lu_same, lu_ne, not_true_eq_false, not_false_eq_true]; rfl), by omega, ?_⟩; conv => whnf)
      | (refine And.intro (by first | assumption | decide) ?_; conv => whnf))
    all_goals (try simp (disch := omega) only [nI_leI, nI_ltI, nI_eq, nz_eq, nz_lt, nz_gt, nz_le, nz_ge, nz_00, nz_10, nz_n1, nI_add, pk_mul, pk_sub, nI_shl1, nI_or, nI_half2, nI_min2, la_put_eq, la_up, lr_same, lr_ne, lu_same, lu_ne, not_true_eq_false, not_false_eq_true])
    refine ⟨(n, nI 0, nI 8, _), ⟨rfl, rfl⟩, fun r h' hq => ?_⟩
    obtain ⟨rfl, ⟨hn, rfl⟩ | ⟨hn, rfl⟩⟩ := Q_within (by decide) (by decide) hq
    · conv => whnf
      repeat' (first
        | (refine ⟨fun c => ?_, fun c => ?_⟩ <;> (try simp (disch := omega) only [nI_leI, nI_ltI, nI_eq, nz_eq, nz_lt, nz_gt, nz_le, nz_ge, nz_00, nz_10, nz_n1, nI_add, pk_mul, pk_sub, nI_shl1, nI_or, nI_half2, nI_min2, la_put_eq, la_up, lr_same, lr_ne, lu_same, lu_ne, not_true_eq_false, not_false_eq_true] at c) <;> first | (exfalso; omega) | conv => whnf)
        | (refine ⟨_, rfl, by omega, ?_⟩; conv => whnf)
        | (refine ⟨_, rfl, rfl, rfl, by decide, by decide, ?_⟩; conv => whnf)
        | (refine ⟨_, by (simp (disch := omega) only [nI_leI, nI_ltI, nI_eq, nz_eq, nz_lt, nz_gt, nz_le, nz_ge, nz_00, nz_10, nz_n1, nI_add, pk_mul, pk_sub, nI_shl1, nI_or, nI_half2, nI_min2, la_put_eq, la_up, lr_same, lr_ne, lu_same, lu_ne, not_true_eq_false, not_false_eq_true]; rfl), by omega, ?_⟩; conv => whnf)
        | (refine And.intro (by first | assumption | decide) ?_; conv => whnf))
      all_goals (try simp (disch := omega) only [nI_leI, nI_ltI, nI_eq, nz_eq, nz_lt, nz_gt, nz_le, nz_ge, nz_00, nz_10, nz_n1, nI_add, pk_mul, pk_sub, nI_shl1, nI_or, nI_half2, nI_min2, la_put_eq, la_up, lr_same, lr_ne, lu_same, lu_ne, not_true_eq_false, not_false_eq_true])
      refine ⟨(w, _), ⟨rfl, rfl⟩, fun r h' hq => ?_⟩
      obtain ⟨rfl, ⟨hw, rfl⟩ | ⟨hw, rfl⟩⟩ := hq
      · conv => whnf
        repeat' (first
          | (refine ⟨fun c => ?_, fun c => ?_⟩ <;> (try simp (disch := omega) only [nI_leI, nI_ltI, nI_eq, nz_eq, nz_lt, nz_gt, nz_le, nz_ge, nz_00, nz_10, nz_n1, nI_add, pk_mul, pk_sub, nI_shl1, nI_or, nI_half2, nI_min2, la_put_eq, la_up, lr_same, lr_ne, lu_same, lu_ne, not_true_eq_false, not_false_eq_true] at c) <;> first | (exfalso; omega) | conv => whnf)
          | (refine ⟨_, rfl, by omega, ?_⟩; conv => whnf)
          | (refine ⟨_, rfl, rfl, rfl, by decide, by decide, ?_⟩; conv => whnf)
          | (refine ⟨_, by (simp (disch := omega) only [nI_leI, nI_ltI, nI_eq, nz_eq, nz_lt, nz_gt, nz_le, nz_ge, nz_00, nz_10, nz_n1, nI_add, pk_mul, pk_sub, nI_shl1, nI_or, nI_half2, nI_min2, la_put_eq, la_up, lr_same, lr_ne, lu_same, lu_ne, not_true_eq_false, not_false_eq_true]; rfl), by omega, ?_⟩; conv => whnf)
          | (refine And.intro (by first | assumption | decide) ?_; conv => whnf))
        all_goals (try simp (disch := omega) only [nI_leI, nI_ltI, nI_eq, nz_eq, nz_lt, nz_gt, nz_le, nz_ge, nz_00, nz_10, nz_n1, nI_add, pk_mul, pk_sub, nI_shl1, nI_or, nI_half2, nI_min2, la_put_eq, la_up, lr_same, lr_ne, lu_same, lu_ne, not_true_eq_false, not_false_eq_true])
        exact hret _ _ ⟨rfl, Or.inl ⟨⟨hv, hn, hw⟩, rfl⟩⟩
      · conv => whnf
        repeat' (first
          | (refine ⟨fun c => ?_, fun c => ?_⟩ <;> (try simp (disch := omega) only [nI_leI, nI_ltI, nI_eq, nz_eq, nz_lt, nz_gt, nz_le, nz_ge, nz_00, nz_10, nz_n1, nI_add, pk_mul, pk_sub, nI_shl1, nI_or, nI_half2, nI_min2, la_put_eq, la_up, lr_same, lr_ne, lu_same, lu_ne, not_true_eq_false, not_false_eq_true] at c) <;> first | (exfalso; omega) | conv => whnf)
          | (refine ⟨_, rfl, by omega, ?_⟩; conv => whnf)
          | (refine ⟨_, rfl, rfl, rfl, by decide, by decide, ?_⟩; conv => whnf)
          | (refine ⟨_, by (simp (disch := omega) only [nI_leI, nI_ltI, nI_eq, nz_eq, nz_lt, nz_gt, nz_le, nz_ge, nz_00, nz_10, nz_n1, nI_add, pk_mul, pk_sub, nI_shl1, nI_or, nI_half2, nI_min2, la_put_eq, la_up, lr_same, lr_ne, lu_same, lu_ne, not_true_eq_false, not_false_eq_true]; rfl), by omega, ?_⟩; conv => whnf)
          | (refine And.intro (by first | assumption | decide) ?_; conv => whnf))
        all_goals (try simp (disch := omega) only [nI_leI, nI_ltI, nI_eq, nz_eq, nz_lt, nz_gt, nz_le, nz_ge, nz_00, nz_10, nz_n1, nI_add, pk_mul, pk_sub, nI_shl1, nI_or, nI_half2, nI_min2, la_put_eq, la_up, lr_same, lr_ne, lu_same, lu_ne, not_true_eq_false, not_false_eq_true])
        exact hret _ _ ⟨rfl, Or.inr ⟨fun q => hw q.2.2, rfl⟩⟩
    · conv => whnf
      repeat' (first
        | (refine ⟨fun c => ?_, fun c => ?_⟩ <;> (try simp (disch := omega) only [nI_leI, nI_ltI, nI_eq, nz_eq, nz_lt, nz_gt, nz_le, nz_ge, nz_00, nz_10, nz_n1, nI_add, pk_mul, pk_sub, nI_shl1, nI_or, nI_half2, nI_min2, la_put_eq, la_up, lr_same, lr_ne, lu_same, lu_ne, not_true_eq_false, not_false_eq_true] at c) <;> first | (exfalso; omega) | conv => whnf)
        | (refine ⟨_, rfl, by omega, ?_⟩; conv => whnf)
        | (refine ⟨_, rfl, rfl, rfl, by decide, by decide, ?_⟩; conv => whnf)
        | (refine ⟨_, by (simp (disch := omega) only [nI_leI, nI_ltI, nI_eq, nz_eq, nz_lt, nz_gt, nz_le, nz_ge, nz_00, nz_10, nz_n1, nI_add, pk_mul, pk_sub, nI_shl1, nI_or, nI_half2, nI_min2, la_put_eq, la_up, lr_same, lr_ne, lu_same, lu_ne, not_true_eq_false, not_false_eq_true]; rfl), by omega, ?_⟩; conv => whnf)
        | (refine And.intro (by first | assumption | decide) ?_; conv => whnf))
      all_goals (try simp (disch := omega) only [nI_leI, nI_ltI, nI_eq, nz_eq, nz_lt, nz_gt, nz_le, nz_ge, nz_00, nz_10, nz_n1, nI_add, pk_mul, pk_sub, nI_shl1, nI_or, nI_half2, nI_min2, la_put_eq, la_up, lr_same, lr_ne, lu_same, lu_ne, not_true_eq_false, not_false_eq_true])
      exact hret _ _ ⟨rfl, Or.inr ⟨fun q => hn q.2.1, rfl⟩⟩
  · conv => whnf
    repeat' (first
      | (refine ⟨fun c => ?_, fun c => ?_⟩ <;> (try simp (disch := omega) only [nI_leI, nI_ltI, nI_eq, nz_eq, nz_lt, nz_gt, nz_le, nz_ge, nz_00, nz_10, nz_n1, nI_add, pk_mul, pk_sub, nI_shl1, nI_or, nI_half2, nI_min2, la_put_eq, la_up, lr_same, lr_ne, lu_same, lu_ne, not_true_eq_false, not_false_eq_true] at c) <;> first | (exfalso; omega) | conv => whnf)
      | (refine ⟨_, rfl, by omega, ?_⟩; conv => whnf)
      | (refine ⟨_, rfl, rfl, rfl, by decide, by decide, ?_⟩; conv => whnf)
      | (refine ⟨_, by (simp (disch := omega) only [nI_leI, nI_ltI, nI_eq, nz_eq, nz_lt, nz_gt, nz_le, nz_ge, nz_00, nz_10, nz_n1, nI_add, pk_mul, pk_sub, nI_shl1, nI_or, nI_half2, nI_min2, la_put_eq, la_up, lr_same, lr_ne, lu_same, lu_ne, not_true_eq_false, not_false_eq_true]; rfl), by omega, ?_⟩; conv => whnf)
      | (refine And.intro (by first | assumption | decide) ?_; conv => whnf))
    all_goals (try simp (disch := omega) only [nI_leI, nI_ltI, nI_eq, nz_eq, nz_lt, nz_gt, nz_le, nz_ge, nz_00, nz_10, nz_n1, nI_add, pk_mul, pk_sub, nI_shl1, nI_or, nI_half2, nI_min2, la_put_eq, la_up, lr_same, lr_ne, lu_same, lu_ne, not_true_eq_false, not_false_eq_true])
    exact hret _ _ ⟨rfl, Or.inr ⟨fun q => hv q.1, rfl⟩⟩
theorem M_X4_areOdds : pm_MT yX4_areOdds cX4_areOdds 3 3 2 P_X4_areOdds (pm_pi Q_X4_areOdds) := pm_met k_X4_areOdds (by decide) rfl (by
  rintro ⟨g0, g1, g2, g3⟩ av h hp
  rw [hp.1]
  exact Nat.le_of_ble_eq_true rfl) pf_X4_areOdds
/-! put -/
def P_X4_put : Nat × Nat × Nat × Int32 × Nat × LD × pm_H → List pm_V → pm_H → Prop := fun g av h => match g with
  | (i, s, j, v, m, L, h0) => av = [vR 0 i s, vI (nI j), vI v, vI (nI m)] ∧ h = h0 ∧ la_at h0 i L ∧ m < 2 ^ 31 ∧ ((s = 1 ∧ j < 4) ∨ (s = 3 ∧ j < 6) ∨ (s = 4 ∧ j < 6) ∨ (s = 5 ∧ j < 6) ∨ (s = 6 ∧ j < 6))
def Q_X4_put : Nat × Nat × Nat × Int32 × Nat × LD × pm_H → Int32 → pm_H → Prop := fun g r h => match g with
  | (i, s, j, v, m, L, h0) => (∃ k, k ≤ m ∧ v = nI k ∧ r = nI (L s j) ∧ h = la_put h0 i (lu L s j k)) ∨ (¬ wi v 0 m ∧ r = (-1) ∧ h = h0)
def T_X4_put : List (Nat × pm_T) := [
  (0, i_il 1 1),
  (1, i_iflt 19 4),
  (4, i_il 1 5),
  (5, i_al 0 6),
  (6, i_len 7),
  (7, i_icge 19 10),
  (10, i_il 2 11),
  (11, i_c (nI 0) 12),
  (12, i_il 3 13),
  (13, i_ci 3 P_X4_within Q_X4_within 16),
  (16, i_ifne 21 19),
  (19, i_c (-1) 20),
  (20, i_ir),
  (21, i_al 0 22),
  (22, i_il 1 23),
  (23, i_ia 24),
  (24, i_is 4 26),
  (26, i_al 0 27),
  (27, i_il 1 28),
  (28, i_il 2 29),
  (29, i_ias 30),
  (30, i_il 4 32),
  (32, i_ir)]
theorem k_X4_put : ∀ q ∈ T_X4_put, pm_sd RX4 cX4_put 5 2 1 q.1 q.2 := by
  unfold T_X4_put
  refine pm_cn (sd_iln (k := 1) (by decide +kernel) rfl rfl) ?_
  refine pm_cn (sd_iflt (off := 18) (by decide +kernel) (by decide) rfl) ?_
  refine pm_cn (sd_iln (k := 1) (by decide +kernel) rfl rfl) ?_
  refine pm_cn (sd_aln (k := 0) (by decide +kernel) rfl rfl) ?_
  refine pm_cn (sd_len (by decide +kernel) rfl) ?_
  refine pm_cn (sd_icge (off := 12) (by decide +kernel) (by decide) rfl) ?_
  refine pm_cn (sd_iln (k := 2) (by decide +kernel) rfl rfl) ?_
  refine pm_cn (sd_iconst (z := 0) (by decide +kernel) (by decide +kernel) rfl) ?_
  refine pm_cn (sd_iln (k := 3) (by decide +kernel) rfl rfl) ?_
  refine pm_cn (sd_cis M_X4_within (by decide) cd_X4_within ml_X4_57 st_X4_within nt_X4 (by decide +kernel) (by decide) (by decide) (by decide +kernel) rfl) ?_
  refine pm_cn (sd_ifne (off := 5) (by decide +kernel) (by decide) rfl) ?_
  refine pm_cn (sd_iconst (z := -1) (by decide +kernel) (by decide +kernel) rfl) ?_
  refine pm_cn (sd_ir (by decide +kernel)) ?_
  refine pm_cn (sd_aln (k := 0) (by decide +kernel) rfl rfl) ?_
  refine pm_cn (sd_iln (k := 1) (by decide +kernel) rfl rfl) ?_
  refine pm_cn (sd_ia (by decide +kernel) rfl) ?_
  refine pm_cn (sd_is (by decide +kernel) rfl (by decide)) ?_
  refine pm_cn (sd_aln (k := 0) (by decide +kernel) rfl rfl) ?_
  refine pm_cn (sd_iln (k := 1) (by decide +kernel) rfl rfl) ?_
  refine pm_cn (sd_iln (k := 2) (by decide +kernel) rfl rfl) ?_
  refine pm_cn (sd_ias (by decide +kernel) rfl) ?_
  refine pm_cn (sd_il (by decide +kernel) rfl) ?_
  refine pm_cn (sd_ir (by decide +kernel)) ?_
  exact fun _ h => absurd h List.not_mem_nil
set_option maxHeartbeats 4000000 in
set_option maxRecDepth 100000 in
theorem pf_X4_put : pm_pf T_X4_put P_X4_put (pm_pi Q_X4_put) := by
  rintro ⟨i, s, j, v, m, L, h0⟩ av h K hK ⟨rfl, rfl, hL, hm, hs⟩ hret
  have e := la_self hL
  show K (some 0) ([(0, vR 0 i s), (1, vI (nI j)), (2, vI v), (3, vI (nI m))], [], h)
  rw [← e]
  rcases hs with ⟨rfl, hj⟩ | ⟨rfl, hj⟩ | ⟨rfl, hj⟩ | ⟨rfl, hj⟩ | ⟨rfl, hj⟩
  · refine hK [] 60 _ _ ?_
    conv => whnf
    repeat' (first
      | (refine ⟨fun c => ?_, fun c => ?_⟩ <;> (try simp (disch := omega) only [nI_leI, nI_ltI, nI_eq, nz_eq, nz_lt, nz_gt, nz_le, nz_ge, nz_00, nz_10, nz_n1, nI_add, pk_mul, pk_sub, nI_shl1, nI_or, nI_half2, nI_min2, la_put_eq, la_up, lr_same, lr_ne, lu_same, lu_ne, not_true_eq_false, not_false_eq_true] at c) <;> first | (exfalso; omega) | conv => whnf)
      | (refine ⟨_, rfl, by omega, ?_⟩; conv => whnf)
      | (refine ⟨_, rfl, rfl, rfl, by decide, by decide, ?_⟩; conv => whnf)
      | (refine ⟨_, by (simp (disch := omega) only [nI_leI, nI_ltI, nI_eq, nz_eq, nz_lt, nz_gt, nz_le, nz_ge, nz_00, nz_10, nz_n1, nI_add, pk_mul, pk_sub, nI_shl1, nI_or, nI_half2, nI_min2, la_put_eq, la_up, lr_same, lr_ne, lu_same, lu_ne, not_true_eq_false, not_false_eq_true]; rfl), by omega, ?_⟩; conv => whnf)
      | (refine And.intro (by first | assumption | decide) ?_; conv => whnf))
    all_goals (try simp (disch := omega) only [nI_leI, nI_ltI, nI_eq, nz_eq, nz_lt, nz_gt, nz_le, nz_ge, nz_00, nz_10, nz_n1, nI_add, pk_mul, pk_sub, nI_shl1, nI_or, nI_half2, nI_min2, la_put_eq, la_up, lr_same, lr_ne, lu_same, lu_ne, not_true_eq_false, not_false_eq_true])
    refine ⟨(v, nI 0, nI m, _), ⟨rfl, rfl⟩, fun r h' hq => ?_⟩
    obtain ⟨rfl, ⟨⟨k, h1, h2, rfl⟩, rfl⟩ | ⟨hv, rfl⟩⟩ := Q_within (by decide) hm hq
    · conv => whnf
      repeat' (first
        | (refine ⟨fun c => ?_, fun c => ?_⟩ <;> (try simp (disch := omega) only [nI_leI, nI_ltI, nI_eq, nz_eq, nz_lt, nz_gt, nz_le, nz_ge, nz_00, nz_10, nz_n1, nI_add, pk_mul, pk_sub, nI_shl1, nI_or, nI_half2, nI_min2, la_put_eq, la_up, lr_same, lr_ne, lu_same, lu_ne, not_true_eq_false, not_false_eq_true] at c) <;> first | (exfalso; omega) | conv => whnf)
        | (refine ⟨_, rfl, by omega, ?_⟩; conv => whnf)
        | (refine ⟨_, rfl, rfl, rfl, by decide, by decide, ?_⟩; conv => whnf)
        | (refine ⟨_, by (simp (disch := omega) only [nI_leI, nI_ltI, nI_eq, nz_eq, nz_lt, nz_gt, nz_le, nz_ge, nz_00, nz_10, nz_n1, nI_add, pk_mul, pk_sub, nI_shl1, nI_or, nI_half2, nI_min2, la_put_eq, la_up, lr_same, lr_ne, lu_same, lu_ne, not_true_eq_false, not_false_eq_true]; rfl), by omega, ?_⟩; conv => whnf)
        | (refine And.intro (by first | assumption | decide) ?_; conv => whnf))
      all_goals (try simp (disch := omega) only [nI_leI, nI_ltI, nI_eq, nz_eq, nz_lt, nz_gt, nz_le, nz_ge, nz_00, nz_10, nz_n1, nI_add, pk_mul, pk_sub, nI_shl1, nI_or, nI_half2, nI_min2, la_put_eq, la_up, lr_same, lr_ne, lu_same, lu_ne, not_true_eq_false, not_false_eq_true])
      refine hret _ _ ?_
      exact Or.inl ⟨k, h2, rfl, rfl, rfl⟩
    · conv => whnf
      repeat' (first
        | (refine ⟨fun c => ?_, fun c => ?_⟩ <;> (try simp (disch := omega) only [nI_leI, nI_ltI, nI_eq, nz_eq, nz_lt, nz_gt, nz_le, nz_ge, nz_00, nz_10, nz_n1, nI_add, pk_mul, pk_sub, nI_shl1, nI_or, nI_half2, nI_min2, la_put_eq, la_up, lr_same, lr_ne, lu_same, lu_ne, not_true_eq_false, not_false_eq_true] at c) <;> first | (exfalso; omega) | conv => whnf)
        | (refine ⟨_, rfl, by omega, ?_⟩; conv => whnf)
        | (refine ⟨_, rfl, rfl, rfl, by decide, by decide, ?_⟩; conv => whnf)
        | (refine ⟨_, by (simp (disch := omega) only [nI_leI, nI_ltI, nI_eq, nz_eq, nz_lt, nz_gt, nz_le, nz_ge, nz_00, nz_10, nz_n1, nI_add, pk_mul, pk_sub, nI_shl1, nI_or, nI_half2, nI_min2, la_put_eq, la_up, lr_same, lr_ne, lu_same, lu_ne, not_true_eq_false, not_false_eq_true]; rfl), by omega, ?_⟩; conv => whnf)
        | (refine And.intro (by first | assumption | decide) ?_; conv => whnf))
      all_goals (try simp (disch := omega) only [nI_leI, nI_ltI, nI_eq, nz_eq, nz_lt, nz_gt, nz_le, nz_ge, nz_00, nz_10, nz_n1, nI_add, pk_mul, pk_sub, nI_shl1, nI_or, nI_half2, nI_min2, la_put_eq, la_up, lr_same, lr_ne, lu_same, lu_ne, not_true_eq_false, not_false_eq_true])
      refine hret _ _ ?_
      exact Or.inr ⟨hv, rfl, e⟩
  · refine hK [] 60 _ _ ?_
    conv => whnf
    repeat' (first
      | (refine ⟨fun c => ?_, fun c => ?_⟩ <;> (try simp (disch := omega) only [nI_leI, nI_ltI, nI_eq, nz_eq, nz_lt, nz_gt, nz_le, nz_ge, nz_00, nz_10, nz_n1, nI_add, pk_mul, pk_sub, nI_shl1, nI_or, nI_half2, nI_min2, la_put_eq, la_up, lr_same, lr_ne, lu_same, lu_ne, not_true_eq_false, not_false_eq_true] at c) <;> first | (exfalso; omega) | conv => whnf)
      | (refine ⟨_, rfl, by omega, ?_⟩; conv => whnf)
      | (refine ⟨_, rfl, rfl, rfl, by decide, by decide, ?_⟩; conv => whnf)
      | (refine ⟨_, by (simp (disch := omega) only [nI_leI, nI_ltI, nI_eq, nz_eq, nz_lt, nz_gt, nz_le, nz_ge, nz_00, nz_10, nz_n1, nI_add, pk_mul, pk_sub, nI_shl1, nI_or, nI_half2, nI_min2, la_put_eq, la_up, lr_same, lr_ne, lu_same, lu_ne, not_true_eq_false, not_false_eq_true]; rfl), by omega, ?_⟩; conv => whnf)
      | (refine And.intro (by first | assumption | decide) ?_; conv => whnf))
    all_goals (try simp (disch := omega) only [nI_leI, nI_ltI, nI_eq, nz_eq, nz_lt, nz_gt, nz_le, nz_ge, nz_00, nz_10, nz_n1, nI_add, pk_mul, pk_sub, nI_shl1, nI_or, nI_half2, nI_min2, la_put_eq, la_up, lr_same, lr_ne, lu_same, lu_ne, not_true_eq_false, not_false_eq_true])
    refine ⟨(v, nI 0, nI m, _), ⟨rfl, rfl⟩, fun r h' hq => ?_⟩
    obtain ⟨rfl, ⟨⟨k, h1, h2, rfl⟩, rfl⟩ | ⟨hv, rfl⟩⟩ := Q_within (by decide) hm hq
    · conv => whnf
      repeat' (first
        | (refine ⟨fun c => ?_, fun c => ?_⟩ <;> (try simp (disch := omega) only [nI_leI, nI_ltI, nI_eq, nz_eq, nz_lt, nz_gt, nz_le, nz_ge, nz_00, nz_10, nz_n1, nI_add, pk_mul, pk_sub, nI_shl1, nI_or, nI_half2, nI_min2, la_put_eq, la_up, lr_same, lr_ne, lu_same, lu_ne, not_true_eq_false, not_false_eq_true] at c) <;> first | (exfalso; omega) | conv => whnf)
        | (refine ⟨_, rfl, by omega, ?_⟩; conv => whnf)
        | (refine ⟨_, rfl, rfl, rfl, by decide, by decide, ?_⟩; conv => whnf)
        | (refine ⟨_, by (simp (disch := omega) only [nI_leI, nI_ltI, nI_eq, nz_eq, nz_lt, nz_gt, nz_le, nz_ge, nz_00, nz_10, nz_n1, nI_add, pk_mul, pk_sub, nI_shl1, nI_or, nI_half2, nI_min2, la_put_eq, la_up, lr_same, lr_ne, lu_same, lu_ne, not_true_eq_false, not_false_eq_true]; rfl), by omega, ?_⟩; conv => whnf)
        | (refine And.intro (by first | assumption | decide) ?_; conv => whnf))
      all_goals (try simp (disch := omega) only [nI_leI, nI_ltI, nI_eq, nz_eq, nz_lt, nz_gt, nz_le, nz_ge, nz_00, nz_10, nz_n1, nI_add, pk_mul, pk_sub, nI_shl1, nI_or, nI_half2, nI_min2, la_put_eq, la_up, lr_same, lr_ne, lu_same, lu_ne, not_true_eq_false, not_false_eq_true])
      refine hret _ _ ?_
      exact Or.inl ⟨k, h2, rfl, rfl, rfl⟩
    · conv => whnf
      repeat' (first
        | (refine ⟨fun c => ?_, fun c => ?_⟩ <;> (try simp (disch := omega) only [nI_leI, nI_ltI, nI_eq, nz_eq, nz_lt, nz_gt, nz_le, nz_ge, nz_00, nz_10, nz_n1, nI_add, pk_mul, pk_sub, nI_shl1, nI_or, nI_half2, nI_min2, la_put_eq, la_up, lr_same, lr_ne, lu_same, lu_ne, not_true_eq_false, not_false_eq_true] at c) <;> first | (exfalso; omega) | conv => whnf)
        | (refine ⟨_, rfl, by omega, ?_⟩; conv => whnf)
        | (refine ⟨_, rfl, rfl, rfl, by decide, by decide, ?_⟩; conv => whnf)
        | (refine ⟨_, by (simp (disch := omega) only [nI_leI, nI_ltI, nI_eq, nz_eq, nz_lt, nz_gt, nz_le, nz_ge, nz_00, nz_10, nz_n1, nI_add, pk_mul, pk_sub, nI_shl1, nI_or, nI_half2, nI_min2, la_put_eq, la_up, lr_same, lr_ne, lu_same, lu_ne, not_true_eq_false, not_false_eq_true]; rfl), by omega, ?_⟩; conv => whnf)
        | (refine And.intro (by first | assumption | decide) ?_; conv => whnf))
      all_goals (try simp (disch := omega) only [nI_leI, nI_ltI, nI_eq, nz_eq, nz_lt, nz_gt, nz_le, nz_ge, nz_00, nz_10, nz_n1, nI_add, pk_mul, pk_sub, nI_shl1, nI_or, nI_half2, nI_min2, la_put_eq, la_up, lr_same, lr_ne, lu_same, lu_ne, not_true_eq_false, not_false_eq_true])
      refine hret _ _ ?_
      exact Or.inr ⟨hv, rfl, e⟩
  · refine hK [] 60 _ _ ?_
    conv => whnf
    repeat' (first
      | (refine ⟨fun c => ?_, fun c => ?_⟩ <;> (try simp (disch := omega) only [nI_leI, nI_ltI, nI_eq, nz_eq, nz_lt, nz_gt, nz_le, nz_ge, nz_00, nz_10, nz_n1, nI_add, pk_mul, pk_sub, nI_shl1, nI_or, nI_half2, nI_min2, la_put_eq, la_up, lr_same, lr_ne, lu_same, lu_ne, not_true_eq_false, not_false_eq_true] at c) <;> first | (exfalso; omega) | conv => whnf)
      | (refine ⟨_, rfl, by omega, ?_⟩; conv => whnf)
      | (refine ⟨_, rfl, rfl, rfl, by decide, by decide, ?_⟩; conv => whnf)
      | (refine ⟨_, by (simp (disch := omega) only [nI_leI, nI_ltI, nI_eq, nz_eq, nz_lt, nz_gt, nz_le, nz_ge, nz_00, nz_10, nz_n1, nI_add, pk_mul, pk_sub, nI_shl1, nI_or, nI_half2, nI_min2, la_put_eq, la_up, lr_same, lr_ne, lu_same, lu_ne, not_true_eq_false, not_false_eq_true]; rfl), by omega, ?_⟩; conv => whnf)
      | (refine And.intro (by first | assumption | decide) ?_; conv => whnf))
    all_goals (try simp (disch := omega) only [nI_leI, nI_ltI, nI_eq, nz_eq, nz_lt, nz_gt, nz_le, nz_ge, nz_00, nz_10, nz_n1, nI_add, pk_mul, pk_sub, nI_shl1, nI_or, nI_half2, nI_min2, la_put_eq, la_up, lr_same, lr_ne, lu_same, lu_ne, not_true_eq_false, not_false_eq_true])
    refine ⟨(v, nI 0, nI m, _), ⟨rfl, rfl⟩, fun r h' hq => ?_⟩
    obtain ⟨rfl, ⟨⟨k, h1, h2, rfl⟩, rfl⟩ | ⟨hv, rfl⟩⟩ := Q_within (by decide) hm hq
    · conv => whnf
      repeat' (first
        | (refine ⟨fun c => ?_, fun c => ?_⟩ <;> (try simp (disch := omega) only [nI_leI, nI_ltI, nI_eq, nz_eq, nz_lt, nz_gt, nz_le, nz_ge, nz_00, nz_10, nz_n1, nI_add, pk_mul, pk_sub, nI_shl1, nI_or, nI_half2, nI_min2, la_put_eq, la_up, lr_same, lr_ne, lu_same, lu_ne, not_true_eq_false, not_false_eq_true] at c) <;> first | (exfalso; omega) | conv => whnf)
        | (refine ⟨_, rfl, by omega, ?_⟩; conv => whnf)
        | (refine ⟨_, rfl, rfl, rfl, by decide, by decide, ?_⟩; conv => whnf)
        | (refine ⟨_, by (simp (disch := omega) only [nI_leI, nI_ltI, nI_eq, nz_eq, nz_lt, nz_gt, nz_le, nz_ge, nz_00, nz_10, nz_n1, nI_add, pk_mul, pk_sub, nI_shl1, nI_or, nI_half2, nI_min2, la_put_eq, la_up, lr_same, lr_ne, lu_same, lu_ne, not_true_eq_false, not_false_eq_true]; rfl), by omega, ?_⟩; conv => whnf)
        | (refine And.intro (by first | assumption | decide) ?_; conv => whnf))
      all_goals (try simp (disch := omega) only [nI_leI, nI_ltI, nI_eq, nz_eq, nz_lt, nz_gt, nz_le, nz_ge, nz_00, nz_10, nz_n1, nI_add, pk_mul, pk_sub, nI_shl1, nI_or, nI_half2, nI_min2, la_put_eq, la_up, lr_same, lr_ne, lu_same, lu_ne, not_true_eq_false, not_false_eq_true])
      refine hret _ _ ?_
      exact Or.inl ⟨k, h2, rfl, rfl, rfl⟩
    · conv => whnf
      repeat' (first
        | (refine ⟨fun c => ?_, fun c => ?_⟩ <;> (try simp (disch := omega) only [nI_leI, nI_ltI, nI_eq, nz_eq, nz_lt, nz_gt, nz_le, nz_ge, nz_00, nz_10, nz_n1, nI_add, pk_mul, pk_sub, nI_shl1, nI_or, nI_half2, nI_min2, la_put_eq, la_up, lr_same, lr_ne, lu_same, lu_ne, not_true_eq_false, not_false_eq_true] at c) <;> first | (exfalso; omega) | conv => whnf)
        | (refine ⟨_, rfl, by omega, ?_⟩; conv => whnf)
        | (refine ⟨_, rfl, rfl, rfl, by decide, by decide, ?_⟩; conv => whnf)
        | (refine ⟨_, by (simp (disch := omega) only [nI_leI, nI_ltI, nI_eq, nz_eq, nz_lt, nz_gt, nz_le, nz_ge, nz_00, nz_10, nz_n1, nI_add, pk_mul, pk_sub, nI_shl1, nI_or, nI_half2, nI_min2, la_put_eq, la_up, lr_same, lr_ne, lu_same, lu_ne, not_true_eq_false, not_false_eq_true]; rfl), by omega, ?_⟩; conv => whnf)
        | (refine And.intro (by first | assumption | decide) ?_; conv => whnf))
      all_goals (try simp (disch := omega) only [nI_leI, nI_ltI, nI_eq, nz_eq, nz_lt, nz_gt, nz_le, nz_ge, nz_00, nz_10, nz_n1, nI_add, pk_mul, pk_sub, nI_shl1, nI_or, nI_half2, nI_min2, la_put_eq, la_up, lr_same, lr_ne, lu_same, lu_ne, not_true_eq_false, not_false_eq_true])
      refine hret _ _ ?_
      exact Or.inr ⟨hv, rfl, e⟩
  · refine hK [] 60 _ _ ?_
    conv => whnf
    repeat' (first
      | (refine ⟨fun c => ?_, fun c => ?_⟩ <;> (try simp (disch := omega) only [nI_leI, nI_ltI, nI_eq, nz_eq, nz_lt, nz_gt, nz_le, nz_ge, nz_00, nz_10, nz_n1, nI_add, pk_mul, pk_sub, nI_shl1, nI_or, nI_half2, nI_min2, la_put_eq, la_up, lr_same, lr_ne, lu_same, lu_ne, not_true_eq_false, not_false_eq_true] at c) <;> first | (exfalso; omega) | conv => whnf)
      | (refine ⟨_, rfl, by omega, ?_⟩; conv => whnf)
      | (refine ⟨_, rfl, rfl, rfl, by decide, by decide, ?_⟩; conv => whnf)
      | (refine ⟨_, by (simp (disch := omega) only [nI_leI, nI_ltI, nI_eq, nz_eq, nz_lt, nz_gt, nz_le, nz_ge, nz_00, nz_10, nz_n1, nI_add, pk_mul, pk_sub, nI_shl1, nI_or, nI_half2, nI_min2, la_put_eq, la_up, lr_same, lr_ne, lu_same, lu_ne, not_true_eq_false, not_false_eq_true]; rfl), by omega, ?_⟩; conv => whnf)
      | (refine And.intro (by first | assumption | decide) ?_; conv => whnf))
    all_goals (try simp (disch := omega) only [nI_leI, nI_ltI, nI_eq, nz_eq, nz_lt, nz_gt, nz_le, nz_ge, nz_00, nz_10, nz_n1, nI_add, pk_mul, pk_sub, nI_shl1, nI_or, nI_half2, nI_min2, la_put_eq, la_up, lr_same, lr_ne, lu_same, lu_ne, not_true_eq_false, not_false_eq_true])
    refine ⟨(v, nI 0, nI m, _), ⟨rfl, rfl⟩, fun r h' hq => ?_⟩
    obtain ⟨rfl, ⟨⟨k, h1, h2, rfl⟩, rfl⟩ | ⟨hv, rfl⟩⟩ := Q_within (by decide) hm hq
    · conv => whnf
      repeat' (first
        | (refine ⟨fun c => ?_, fun c => ?_⟩ <;> (try simp (disch := omega) only [nI_leI, nI_ltI, nI_eq, nz_eq, nz_lt, nz_gt, nz_le, nz_ge, nz_00, nz_10, nz_n1, nI_add, pk_mul, pk_sub, nI_shl1, nI_or, nI_half2, nI_min2, la_put_eq, la_up, lr_same, lr_ne, lu_same, lu_ne, not_true_eq_false, not_false_eq_true] at c) <;> first | (exfalso; omega) | conv => whnf)
        | (refine ⟨_, rfl, by omega, ?_⟩; conv => whnf)
        | (refine ⟨_, rfl, rfl, rfl, by decide, by decide, ?_⟩; conv => whnf)
        | (refine ⟨_, by (simp (disch := omega) only [nI_leI, nI_ltI, nI_eq, nz_eq, nz_lt, nz_gt, nz_le, nz_ge, nz_00, nz_10, nz_n1, nI_add, pk_mul, pk_sub, nI_shl1, nI_or, nI_half2, nI_min2, la_put_eq, la_up, lr_same, lr_ne, lu_same, lu_ne, not_true_eq_false, not_false_eq_true]; rfl), by omega, ?_⟩; conv => whnf)
        | (refine And.intro (by first | assumption | decide) ?_; conv => whnf))
      all_goals (try simp (disch := omega) only [nI_leI, nI_ltI, nI_eq, nz_eq, nz_lt, nz_gt, nz_le, nz_ge, nz_00, nz_10, nz_n1, nI_add, pk_mul, pk_sub, nI_shl1, nI_or, nI_half2, nI_min2, la_put_eq, la_up, lr_same, lr_ne, lu_same, lu_ne, not_true_eq_false, not_false_eq_true])
      refine hret _ _ ?_
      exact Or.inl ⟨k, h2, rfl, rfl, rfl⟩
    · conv => whnf
      repeat' (first
        | (refine ⟨fun c => ?_, fun c => ?_⟩ <;> (try simp (disch := omega) only [nI_leI, nI_ltI, nI_eq, nz_eq, nz_lt, nz_gt, nz_le, nz_ge, nz_00, nz_10, nz_n1, nI_add, pk_mul, pk_sub, nI_shl1, nI_or, nI_half2, nI_min2, la_put_eq, la_up, lr_same, lr_ne, lu_same, lu_ne, not_true_eq_false, not_false_eq_true] at c) <;> first | (exfalso; omega) | conv => whnf)
        | (refine ⟨_, rfl, by omega, ?_⟩; conv => whnf)
        | (refine ⟨_, rfl, rfl, rfl, by decide, by decide, ?_⟩; conv => whnf)
        | (refine ⟨_, by (simp (disch := omega) only [nI_leI, nI_ltI, nI_eq, nz_eq, nz_lt, nz_gt, nz_le, nz_ge, nz_00, nz_10, nz_n1, nI_add, pk_mul, pk_sub, nI_shl1, nI_or, nI_half2, nI_min2, la_put_eq, la_up, lr_same, lr_ne, lu_same, lu_ne, not_true_eq_false, not_false_eq_true]; rfl), by omega, ?_⟩; conv => whnf)
        | (refine And.intro (by first | assumption | decide) ?_; conv => whnf))
      all_goals (try simp (disch := omega) only [nI_leI, nI_ltI, nI_eq, nz_eq, nz_lt, nz_gt, nz_le, nz_ge, nz_00, nz_10, nz_n1, nI_add, pk_mul, pk_sub, nI_shl1, nI_or, nI_half2, nI_min2, la_put_eq, la_up, lr_same, lr_ne, lu_same, lu_ne, not_true_eq_false, not_false_eq_true])
      refine hret _ _ ?_
      exact Or.inr ⟨hv, rfl, e⟩
  · refine hK [] 60 _ _ ?_
    conv => whnf
    repeat' (first
      | (refine ⟨fun c => ?_, fun c => ?_⟩ <;> (try simp (disch := omega) only [nI_leI, nI_ltI, nI_eq, nz_eq, nz_lt, nz_gt, nz_le, nz_ge, nz_00, nz_10, nz_n1, nI_add, pk_mul, pk_sub, nI_shl1, nI_or, nI_half2, nI_min2, la_put_eq, la_up, lr_same, lr_ne, lu_same, lu_ne, not_true_eq_false, not_false_eq_true] at c) <;> first | (exfalso; omega) | conv => whnf)
      | (refine ⟨_, rfl, by omega, ?_⟩; conv => whnf)
      | (refine ⟨_, rfl, rfl, rfl, by decide, by decide, ?_⟩; conv => whnf)
      | (refine ⟨_, by (simp (disch := omega) only [nI_leI, nI_ltI, nI_eq, nz_eq, nz_lt, nz_gt, nz_le, nz_ge, nz_00, nz_10, nz_n1, nI_add, pk_mul, pk_sub, nI_shl1, nI_or, nI_half2, nI_min2, la_put_eq, la_up, lr_same, lr_ne, lu_same, lu_ne, not_true_eq_false, not_false_eq_true]; rfl), by omega, ?_⟩; conv => whnf)
      | (refine And.intro (by first | assumption | decide) ?_; conv => whnf))
    all_goals (try simp (disch := omega) only [nI_leI, nI_ltI, nI_eq, nz_eq, nz_lt, nz_gt, nz_le, nz_ge, nz_00, nz_10, nz_n1, nI_add, pk_mul, pk_sub, nI_shl1, nI_or, nI_half2, nI_min2, la_put_eq, la_up, lr_same, lr_ne, lu_same, lu_ne, not_true_eq_false, not_false_eq_true])
    refine ⟨(v, nI 0, nI m, _), ⟨rfl, rfl⟩, fun r h' hq => ?_⟩
    obtain ⟨rfl, ⟨⟨k, h1, h2, rfl⟩, rfl⟩ | ⟨hv, rfl⟩⟩ := Q_within (by decide) hm hq
    · conv => whnf
      repeat' (first
        | (refine ⟨fun c => ?_, fun c => ?_⟩ <;> (try simp (disch := omega) only [nI_leI, nI_ltI, nI_eq, nz_eq, nz_lt, nz_gt, nz_le, nz_ge, nz_00, nz_10, nz_n1, nI_add, pk_mul, pk_sub, nI_shl1, nI_or, nI_half2, nI_min2, la_put_eq, la_up, lr_same, lr_ne, lu_same, lu_ne, not_true_eq_false, not_false_eq_true] at c) <;> first | (exfalso; omega) | conv => whnf)
        | (refine ⟨_, rfl, by omega, ?_⟩; conv => whnf)
        | (refine ⟨_, rfl, rfl, rfl, by decide, by decide, ?_⟩; conv => whnf)
        | (refine ⟨_, by (simp (disch := omega) only [nI_leI, nI_ltI, nI_eq, nz_eq, nz_lt, nz_gt, nz_le, nz_ge, nz_00, nz_10, nz_n1, nI_add, pk_mul, pk_sub, nI_shl1, nI_or, nI_half2, nI_min2, la_put_eq, la_up, lr_same, lr_ne, lu_same, lu_ne, not_true_eq_false, not_false_eq_true]; rfl), by omega, ?_⟩; conv => whnf)
        | (refine And.intro (by first | assumption | decide) ?_; conv => whnf))
      all_goals (try simp (disch := omega) only [nI_leI, nI_ltI, nI_eq, nz_eq, nz_lt, nz_gt, nz_le, nz_ge, nz_00, nz_10, nz_n1, nI_add, pk_mul, pk_sub, nI_shl1, nI_or, nI_half2, nI_min2, la_put_eq, la_up, lr_same, lr_ne, lu_same, lu_ne, not_true_eq_false, not_false_eq_true])
      refine hret _ _ ?_
      exact Or.inl ⟨k, h2, rfl, rfl, rfl⟩
    · conv => whnf
      repeat' (first
        | (refine ⟨fun c => ?_, fun c => ?_⟩ <;> (try simp (disch := omega) only [nI_leI, nI_ltI, nI_eq, nz_eq, nz_lt, nz_gt, nz_le, nz_ge, nz_00, nz_10, nz_n1, nI_add, pk_mul, pk_sub, nI_shl1, nI_or, nI_half2, nI_min2, la_put_eq, la_up, lr_same, lr_ne, lu_same, lu_ne, not_true_eq_false, not_false_eq_true] at c) <;> first | (exfalso; omega) | conv => whnf)
        | (refine ⟨_, rfl, by omega, ?_⟩; conv => whnf)
        | (refine ⟨_, rfl, rfl, rfl, by decide, by decide, ?_⟩; conv => whnf)
        | (refine ⟨_, by (simp (disch := omega) only [nI_leI, nI_ltI, nI_eq, nz_eq, nz_lt, nz_gt, nz_le, nz_ge, nz_00, nz_10, nz_n1, nI_add, pk_mul, pk_sub, nI_shl1, nI_or, nI_half2, nI_min2, la_put_eq, la_up, lr_same, lr_ne, lu_same, lu_ne, not_true_eq_false, not_false_eq_true]; rfl), by omega, ?_⟩; conv => whnf)
        | (refine And.intro (by first | assumption | decide) ?_; conv => whnf))
      all_goals (try simp (disch := omega) only [nI_leI, nI_ltI, nI_eq, nz_eq, nz_lt, nz_gt, nz_le, nz_ge, nz_00, nz_10, nz_n1, nI_add, pk_mul, pk_sub, nI_shl1, nI_or, nI_half2, nI_min2, la_put_eq, la_up, lr_same, lr_ne, lu_same, lu_ne, not_true_eq_false, not_false_eq_true])
      refine hret _ _ ?_
      exact Or.inr ⟨hv, rfl, e⟩
theorem M_X4_put : pm_MT yX4_put cX4_put 5 1 2 P_X4_put (pm_pi Q_X4_put) := pm_met k_X4_put (by decide) rfl (by
  rintro ⟨g0, g1, g2, g3, g4, g5, g6⟩ av h hp
  rw [hp.1]
  exact Nat.le_of_ble_eq_true rfl) pf_X4_put
/-! Integer.bitCount -/
def sp_popF : Nat → Nat → Nat
  | 0, _ => 0
  | k + 1, n => n % 2 + sp_popF k (n / 2)
def sp_pop (n : Nat) : Nat := sp_popF 31 n
def P_J6_bitCount_0f7a4 : Nat × pm_H → List pm_V → pm_H → Prop := fun g av h => match g with
  | (n, h0) => av = [vI (nI n)] ∧ h = h0 ∧ n < 1024
def Q_J6_bitCount_0f7a4 : Nat × pm_H → Int32 → pm_H → Prop := fun g r h => match g with
  | (n, h0) => h = h0 ∧ r = nI (sp_pop n)
def T_J6_bitCount_0f7a4 : List (Nat × pm_T) := [
  (0, i_il 0 1),
  (1, i_il 0 2),
  (2, i_c (nI 1) 3),
  (3, i_iushr 4),
  (4, i_c (nI 1431655765) 7),
  (7, i_iand 8),
  (8, i_isub 9),
  (9, i_is 0 10),
  (10, i_il 0 11),
  (11, i_c (nI 858993459) 14),
  (14, i_iand 15),
  (15, i_il 0 16),
  (16, i_c (nI 2) 17),
  (17, i_iushr 18),
  (18, i_c (nI 858993459) 21),
  (21, i_iand 22),
  (22, i_iadd 23),
  (23, i_is 0 24),
  (24, i_il 0 25),
  (25, i_il 0 26),
  (26, i_c (nI 4) 27),
  (27, i_iushr 28),
  (28, i_iadd 29),
  (29, i_c (nI 252645135) 32),
  (32, i_iand 33),
  (33, i_is 0 34),
  (34, i_il 0 35),
  (35, i_il 0 36),
  (36, i_c (nI 8) 38),
  (38, i_iushr 39),
  (39, i_iadd 40),
  (40, i_is 0 41),
  (41, i_il 0 42),
  (42, i_il 0 43),
  (43, i_c (nI 16) 45),
  (45, i_iushr 46),
  (46, i_iadd 47),
  (47, i_is 0 48),
  (48, i_il 0 49),
  (49, i_c (nI 63) 51),
  (51, i_iand 52),
  (52, i_ir)]
theorem k_J6_bitCount_0f7a4 : ∀ q ∈ T_J6_bitCount_0f7a4, pm_sd RJ6 cJ6_bitCount_0f7a4 1 1 1 q.1 q.2 := by
  unfold T_J6_bitCount_0f7a4
  refine pm_cn (sd_iln (k := 0) (by decide +kernel) rfl rfl) ?_
  refine pm_cn (sd_iln (k := 0) (by decide +kernel) rfl rfl) ?_
  refine pm_cn (sd_iconst (z := 1) (by decide +kernel) (by decide +kernel) rfl) ?_
  refine pm_cn (sd_iushr (by decide +kernel) rfl) ?_
  refine pm_cn (sd_ldcw (k := 265) (by decide +kernel) (pm_tin (by decide +kernel) rfl) rfl) ?_
  refine pm_cn (sd_iand (by decide +kernel) rfl) ?_
  refine pm_cn (sd_isub (by decide +kernel) rfl) ?_
  refine pm_cn (sd_isn (k := 0) (by decide +kernel) rfl rfl (by decide)) ?_
  refine pm_cn (sd_iln (k := 0) (by decide +kernel) rfl rfl) ?_
  refine pm_cn (sd_ldcw (k := 266) (by decide +kernel) (pm_tin (by decide +kernel) rfl) rfl) ?_
  refine pm_cn (sd_iand (by decide +kernel) rfl) ?_
  refine pm_cn (sd_iln (k := 0) (by decide +kernel) rfl rfl) ?_
  refine pm_cn (sd_iconst (z := 2) (by decide +kernel) (by decide +kernel) rfl) ?_
  refine pm_cn (sd_iushr (by decide +kernel) rfl) ?_
  refine pm_cn (sd_ldcw (k := 266) (by decide +kernel) (pm_tin (by decide +kernel) rfl) rfl) ?_
  refine pm_cn (sd_iand (by decide +kernel) rfl) ?_
  refine pm_cn (sd_iadd (by decide +kernel) rfl) ?_
  refine pm_cn (sd_isn (k := 0) (by decide +kernel) rfl rfl (by decide)) ?_
  refine pm_cn (sd_iln (k := 0) (by decide +kernel) rfl rfl) ?_
  refine pm_cn (sd_iln (k := 0) (by decide +kernel) rfl rfl) ?_
  refine pm_cn (sd_iconst (z := 4) (by decide +kernel) (by decide +kernel) rfl) ?_
  refine pm_cn (sd_iushr (by decide +kernel) rfl) ?_
  refine pm_cn (sd_iadd (by decide +kernel) rfl) ?_
  refine pm_cn (sd_ldcw (k := 267) (by decide +kernel) (pm_tin (by decide +kernel) rfl) rfl) ?_
  refine pm_cn (sd_iand (by decide +kernel) rfl) ?_
  refine pm_cn (sd_isn (k := 0) (by decide +kernel) rfl rfl (by decide)) ?_
  refine pm_cn (sd_iln (k := 0) (by decide +kernel) rfl rfl) ?_
  refine pm_cn (sd_iln (k := 0) (by decide +kernel) rfl rfl) ?_
  refine pm_cn (sd_bipush (z := 8) (by decide +kernel) (by decide +kernel) rfl) ?_
  refine pm_cn (sd_iushr (by decide +kernel) rfl) ?_
  refine pm_cn (sd_iadd (by decide +kernel) rfl) ?_
  refine pm_cn (sd_isn (k := 0) (by decide +kernel) rfl rfl (by decide)) ?_
  refine pm_cn (sd_iln (k := 0) (by decide +kernel) rfl rfl) ?_
  refine pm_cn (sd_iln (k := 0) (by decide +kernel) rfl rfl) ?_
  refine pm_cn (sd_bipush (z := 16) (by decide +kernel) (by decide +kernel) rfl) ?_
  refine pm_cn (sd_iushr (by decide +kernel) rfl) ?_
  refine pm_cn (sd_iadd (by decide +kernel) rfl) ?_
  refine pm_cn (sd_isn (k := 0) (by decide +kernel) rfl rfl (by decide)) ?_
  refine pm_cn (sd_iln (k := 0) (by decide +kernel) rfl rfl) ?_
  refine pm_cn (sd_bipush (z := 63) (by decide +kernel) (by decide +kernel) rfl) ?_
  refine pm_cn (sd_iand (by decide +kernel) rfl) ?_
  refine pm_cn (sd_ir (by decide +kernel)) ?_
  exact fun _ h => absurd h List.not_mem_nil
def sp_bc (i0 : Int32) : Int32 :=
  let sh (x : Int32) (k : Nat) : Int32 := (x.toUInt32 >>> ((nI k).toUInt32 &&& Int32.toUInt32 31)).toInt32
  let i1 := i0 - (sh i0 1 &&& nI 1431655765)
  let i2 := (i1 &&& nI 858993459) + (sh i1 2 &&& nI 858993459)
  let i3 := (i2 + sh i2 4) &&& nI 252645135
  let i4 := i3 + sh i3 8
  let i5 := i4 + sh i4 16
  i5 &&& nI 63
theorem sp_bc_eq : ∀ n : Fin 1024, sp_bc (nI n.val) = nI (sp_pop n.val) := by decide +kernel
set_option maxHeartbeats 4000000 in
set_option maxRecDepth 100000 in
theorem pf_J6_bitCount_0f7a4 : pm_pf T_J6_bitCount_0f7a4 P_J6_bitCount_0f7a4 (pm_pi Q_J6_bitCount_0f7a4) := by
  rintro ⟨n, h0⟩ av h K hK ⟨rfl, rfl, hn⟩ hret
  show K (some 0) ([(0, vI (nI n))], [], h)
  refine hK [] 60 _ _ ?_
  conv => whnf
  refine hret _ _ ⟨rfl, ?_⟩
  exact sp_bc_eq ⟨n, hn⟩
theorem M_J6_bitCount_0f7a4 : pm_MT yJ6_bitCount_0f7a4 cJ6_bitCount_0f7a4 1 1 1 P_J6_bitCount_0f7a4 (pm_pi Q_J6_bitCount_0f7a4) := pm_met k_J6_bitCount_0f7a4 (by decide) rfl (by
  rintro ⟨g0, g1⟩ av h hp
  rw [hp.1]
  exact Nat.le_of_ble_eq_true rfl) pf_J6_bitCount_0f7a4
/-! Sheet -/
def sh_at (h : pm_H) (k t l z : Nat) : Prop := h 1 k 0 0 = nI t ∧ h 1 k 0 1 = nI l ∧ h 1 k 0 2 = nI z
def sh_put (h : pm_H) (k t l z : Nat) (f : Nat → Int32) : pm_H := fun c i s j => if c = 1 ∧ i = k then (if s = 0 then (if j = 0 then nI t else if j = 1 then nI l else if j = 2 then nI z else h c i s j) else if s = 1 then f j else h c i s j) else h c i s j
def P_X1_renew : Nat × Nat × Nat × pm_H → List pm_V → pm_H → Prop := fun g av h => match g with
  | (k, l, z, h0) => av = [vR 1 k 0, vI (nI l), vI (nI z)] ∧ h = h0
def Q_X1_renew : Nat × Nat × Nat × pm_H → pm_H → Prop := fun g h => match g with
  | (k, l, z, h0) => h = sh_put h0 k 1 l z (fun j => if j < 40 then nI 0 else h0 1 k 1 j)
def T_X1_renew : List (Nat × pm_T) := [
  (0, i_al 0 1),
  (1, i_c (nI 1) 2),
  (2, i_pz 1 0 5),
  (5, i_al 0 6),
  (6, i_il 1 7),
  (7, i_pi 1 1 10),
  (10, i_al 0 11),
  (11, i_il 2 12),
  (12, i_pi 1 2 15),
  (15, i_c (nI 0) 16),
  (16, i_is 3 17),
  (17, i_il 3 18),
  (18, i_c (nI 40) 20),
  (20, i_icge 36 23),
  (23, i_al 0 24),
  (24, i_gr 1 (fun i => (1, i, 1)) 27),
  (27, i_il 3 28),
  (28, i_c (nI 0) 29),
  (29, i_ias 30),
  (30, i_inc 3 (nI 1) 33),
  (33, i_go 17),
  (36, i_vr)]
theorem k_X1_renew : ∀ q ∈ T_X1_renew, pm_sd RX1 cX1_renew 4 1 0 q.1 q.2 := by
  unfold T_X1_renew
  refine pm_cn (sd_aln (k := 0) (by decide +kernel) rfl rfl) ?_
  refine pm_cn (sd_iconst (z := 1) (by decide +kernel) (by decide +kernel) rfl) ?_
  refine pm_cn (sd_pz cl1_ in1_ tyX1 tyX1_ok nmX1 (by decide) (fun _ => rfl) rfl rfl fl_X1_15 (by decide +kernel) rfl) ?_
  refine pm_cn (sd_aln (k := 0) (by decide +kernel) rfl rfl) ?_
  refine pm_cn (sd_iln (k := 1) (by decide +kernel) rfl rfl) ?_
  refine pm_cn (sd_pi cl1_ in1_ tyX1 tyX1_ok nmX1 (by decide) (fun _ => rfl) rfl rfl fl_X1_19 (by decide +kernel) rfl) ?_
  refine pm_cn (sd_aln (k := 0) (by decide +kernel) rfl rfl) ?_
  refine pm_cn (sd_iln (k := 2) (by decide +kernel) rfl rfl) ?_
  refine pm_cn (sd_pi cl1_ in1_ tyX1 tyX1_ok nmX1 (by decide) (fun _ => rfl) rfl rfl fl_X1_23 (by decide +kernel) rfl) ?_
  refine pm_cn (sd_iconst (z := 0) (by decide +kernel) (by decide +kernel) rfl) ?_
  refine pm_cn (sd_isn (k := 3) (by decide +kernel) rfl rfl (by decide)) ?_
  refine pm_cn (sd_iln (k := 3) (by decide +kernel) rfl rfl) ?_
  refine pm_cn (sd_bipush (z := 40) (by decide +kernel) (by decide +kernel) rfl) ?_
  refine pm_cn (sd_icge (off := 16) (by decide +kernel) (by decide) rfl) ?_
  refine pm_cn (sd_aln (k := 0) (by decide +kernel) rfl rfl) ?_
  refine pm_cn (sd_gr cl1_ in1_ (j := 3) (by decide) (fun _ => rfl) fl_X1_9 (by decide +kernel) rfl) ?_
  refine pm_cn (sd_iln (k := 3) (by decide +kernel) rfl rfl) ?_
  refine pm_cn (sd_iconst (z := 0) (by decide +kernel) (by decide +kernel) rfl) ?_
  refine pm_cn (sd_ias (by decide +kernel) rfl) ?_
  refine pm_cn (sd_inc (z := 1) (by decide +kernel) (by decide +kernel) rfl (by decide)) ?_
  refine pm_cn (sd_go (off := -16) (by decide +kernel) (by decide)) ?_
  refine pm_cn (sd_vr (by decide +kernel)) ?_
  exact fun _ h => absurd h List.not_mem_nil
set_option maxHeartbeats 4000000 in
set_option maxRecDepth 100000 in
theorem pf_X1_renew : pm_pf T_X1_renew P_X1_renew (pm_pv Q_X1_renew) := by
  rintro ⟨k, l, z, h0⟩ av h K hK ⟨rfl, rfl⟩ hret
  show K (some 0) ([(0, vR 1 k 0), (1, vI (nI l)), (2, vI (nI z))], [], h)
  have loop : ∀ n j H, j + n = 40 → H = sh_put h k 1 l z (fun x => if x < j then nI 0 else h 1 k 1 x) → K (some 17) ([(0, vR 1 k 0), (3, vI (nI j))], [], H) := by
    intro n
    induction n with
    | zero =>
      intro j H hj hH
      refine hK [(17, [0, 3])] 40 _ _ ?_
      conv => whnf
      repeat' (first
        | (refine ⟨fun c => ?_, fun c => ?_⟩ <;> (try simp (disch := omega) only [nI_leI, nI_ltI, nI_eq, nz_eq, nz_lt, nz_gt, nz_le, nz_ge, nz_00, nz_10, nz_n1, nI_add, pk_mul, pk_sub, nI_shl1, nI_or, nI_half2, nI_min2, la_put_eq, la_up, lr_same, lr_ne, lu_same, lu_ne, not_true_eq_false, not_false_eq_true] at c) <;> first | (exfalso; omega) | conv => whnf)
        | (refine ⟨_, rfl, by omega, ?_⟩; conv => whnf)
        | (refine ⟨_, rfl, rfl, rfl, by decide, by decide, ?_⟩; conv => whnf)
        | (refine ⟨_, by (simp (disch := omega) only [nI_leI, nI_ltI, nI_eq, nz_eq, nz_lt, nz_gt, nz_le, nz_ge, nz_00, nz_10, nz_n1, nI_add, pk_mul, pk_sub, nI_shl1, nI_or, nI_half2, nI_min2, la_put_eq, la_up, lr_same, lr_ne, lu_same, lu_ne, not_true_eq_false, not_false_eq_true]; rfl), by omega, ?_⟩; conv => whnf)
        | (refine And.intro (by first | assumption | decide) ?_; conv => whnf))
      all_goals (try simp (disch := omega) only [nI_leI, nI_ltI, nI_eq, nz_eq, nz_lt, nz_gt, nz_le, nz_ge, nz_00, nz_10, nz_n1, nI_add, pk_mul, pk_sub, nI_shl1, nI_or, nI_half2, nI_min2, la_put_eq, la_up, lr_same, lr_ne, lu_same, lu_ne, not_true_eq_false, not_false_eq_true])
      have : j = 40 := by omega
      subst this
      subst hH
      exact hret _ _ rfl
    | succ n ih =>
      intro j H hj hH
      refine hK [(17, [0, 3])] 40 _ _ ?_
      conv => whnf
      repeat' (first
        | (refine ⟨fun c => ?_, fun c => ?_⟩ <;> (try simp (disch := omega) only [nI_leI, nI_ltI, nI_eq, nz_eq, nz_lt, nz_gt, nz_le, nz_ge, nz_00, nz_10, nz_n1, nI_add, pk_mul, pk_sub, nI_shl1, nI_or, nI_half2, nI_min2, la_put_eq, la_up, lr_same, lr_ne, lu_same, lu_ne, not_true_eq_false, not_false_eq_true] at c) <;> first | (exfalso; omega) | conv => whnf)
        | (refine ⟨_, rfl, by omega, ?_⟩; conv => whnf)
        | (refine ⟨_, rfl, rfl, rfl, by decide, by decide, ?_⟩; conv => whnf)
        | (refine ⟨_, by (simp (disch := omega) only [nI_leI, nI_ltI, nI_eq, nz_eq, nz_lt, nz_gt, nz_le, nz_ge, nz_00, nz_10, nz_n1, nI_add, pk_mul, pk_sub, nI_shl1, nI_or, nI_half2, nI_min2, la_put_eq, la_up, lr_same, lr_ne, lu_same, lu_ne, not_true_eq_false, not_false_eq_true]; rfl), by omega, ?_⟩; conv => whnf)
        | (refine And.intro (by first | assumption | decide) ?_; conv => whnf))
      all_goals (try simp (disch := omega) only [nI_leI, nI_ltI, nI_eq, nz_eq, nz_lt, nz_gt, nz_le, nz_ge, nz_00, nz_10, nz_n1, nI_add, pk_mul, pk_sub, nI_shl1, nI_or, nI_half2, nI_min2, la_put_eq, la_up, lr_same, lr_ne, lu_same, lu_ne, not_true_eq_false, not_false_eq_true])
      refine ih (j + 1) _ (by omega) ?_
      subst hH
      funext c i s x
      unfold pm_up sh_put
      by_cases h1 : c = 1 ∧ i = k
      · obtain ⟨rfl, rfl⟩ := h1
        by_cases h2 : s = 1
        · subst h2
          by_cases h3 : x = j
          · subst h3; simp
          · by_cases h4 : x < j
            · simp [h3, h4, show x < j + 1 by omega]
            · simp [h3, h4, show ¬ x < j + 1 by omega]
        · simp [h2]
      · have : ¬ (c = 1 ∧ i = k ∧ s = 1 ∧ x = j) := fun q => h1 ⟨q.1, q.2.1⟩
        simp [h1, this]
  refine hK [(17, [0, 3])] 40 _ _ ?_
  conv => whnf
  refine ⟨Or.inr rfl, ?_⟩
  conv => whnf
  refine loop 40 0 _ rfl ?_
  funext c i s x
  unfold pm_up sh_put
  by_cases h1 : c = 1 ∧ i = k
  · obtain ⟨rfl, rfl⟩ := h1
    by_cases h2 : s = 0
    · subst h2
      by_cases h3 : x = 2
      · subst h3; simp
      · by_cases h4 : x = 1
        · subst h4; simp
        · by_cases h5 : x = 0
          · subst h5; simp
          · simp [h3, h4, h5]
    · simp only [h2, false_and, and_false, if_false]
      by_cases h3 : s = 1
      · subst h3; simp
      · simp [h3]
  · have : ∀ y, ¬ (c = 1 ∧ i = k ∧ s = 0 ∧ x = y) := fun y q => h1 ⟨q.1, q.2.1⟩
    simp [h1, this]
theorem M_X1_renew : pm_MT yX1_renew cX1_renew 4 0 1 P_X1_renew (pm_pv Q_X1_renew) := pm_met k_X1_renew (by decide) rfl (by
  rintro ⟨g0, g1, g2, g3⟩ av h hp
  rw [hp.1]
  exact Nat.le_of_ble_eq_true rfl) pf_X1_renew
theorem rc_X1_renew : ∀ g av h, P_X1_renew g av h → ∃ i t, av = .inr (.inr (1, i, 0)) :: t := by
  rintro ⟨g0, g1, g2, g3⟩ av h hp
  exact ⟨_, _, hp.1⟩
def sp_ix (x : Int32) (z m : Nat) : Prop := ∃ k, k + m ≤ z ∧ x = nI k
def sp_flt (t l z a m : Nat) (x : Int32) (r : Int32) : Prop := (t = 0 ∧ r = nI 1) ∨ (t ≠ 0 ∧ l ≠ a ∧ r = nI 3) ∨ (t ≠ 0 ∧ l = a ∧ ¬ sp_ix x z m ∧ r = nI 2) ∨ (t ≠ 0 ∧ l = a ∧ sp_ix x z m ∧ r = nI 0)
def P_X1_faultAt : Nat × Nat × Int32 × Nat × Nat × Nat × Nat × pm_H → List pm_V → pm_H → Prop := fun g av h => match g with
  | (k, a, x, m, t, l, z, h0) => av = [vR 1 k 0, vI (nI a), vI x, vI (nI m)] ∧ h = h0 ∧ sh_at h0 k t l z ∧ t ≤ 1 ∧ l ≤ 2 ∧ z ≤ 40 ∧ a ≤ 2 ∧ m ≤ 4
def Q_X1_faultAt : Nat × Nat × Int32 × Nat × Nat × Nat × Nat × pm_H → Int32 → pm_H → Prop := fun g r h => match g with
  | (k, a, x, m, t, l, z, h0) => h = h0 ∧ sp_flt t l z a m x r
def T_X1_faultAt : List (Nat × pm_T) := [
  (0, i_al 0 1),
  (1, i_gi 1 0 4),
  (4, i_ifne 9 7),
  (7, i_c (nI 1) 8),
  (8, i_ir),
  (9, i_al 0 10),
  (10, i_gi 1 1 13),
  (13, i_il 1 14),
  (14, i_iceq 19 17),
  (17, i_c (nI 3) 18),
  (18, i_ir),
  (19, i_il 2 20),
  (20, i_iflt 33 23),
  (23, i_il 2 24),
  (24, i_al 0 25),
  (25, i_gi 1 2 28),
  (28, i_il 3 29),
  (29, i_isub 30),
  (30, i_icle 37 33),
  (33, i_c (nI 2) 34),
  (34, i_go 38),
  (37, i_c (nI 0) 38),
  (38, i_ir)]
theorem k_X1_faultAt : ∀ q ∈ T_X1_faultAt, pm_sd RX1 cX1_faultAt 4 1 1 q.1 q.2 := by
  unfold T_X1_faultAt
  refine pm_cn (sd_aln (k := 0) (by decide +kernel) rfl rfl) ?_
  refine pm_cn (sd_gi cl1_ in1_ (by decide) (fun _ => rfl) fl_X1_15 (by decide +kernel) rfl) ?_
  refine pm_cn (sd_ifne (off := 5) (by decide +kernel) (by decide) rfl) ?_
  refine pm_cn (sd_iconst (z := 1) (by decide +kernel) (by decide +kernel) rfl) ?_
  refine pm_cn (sd_ir (by decide +kernel)) ?_
  refine pm_cn (sd_aln (k := 0) (by decide +kernel) rfl rfl) ?_
  refine pm_cn (sd_gi cl1_ in1_ (by decide) (fun _ => rfl) fl_X1_19 (by decide +kernel) rfl) ?_
  refine pm_cn (sd_iln (k := 1) (by decide +kernel) rfl rfl) ?_
  refine pm_cn (sd_iceq (off := 5) (by decide +kernel) (by decide) rfl) ?_
  refine pm_cn (sd_iconst (z := 3) (by decide +kernel) (by decide +kernel) rfl) ?_
  refine pm_cn (sd_ir (by decide +kernel)) ?_
  refine pm_cn (sd_iln (k := 2) (by decide +kernel) rfl rfl) ?_
  refine pm_cn (sd_iflt (off := 13) (by decide +kernel) (by decide) rfl) ?_
  refine pm_cn (sd_iln (k := 2) (by decide +kernel) rfl rfl) ?_
  refine pm_cn (sd_aln (k := 0) (by decide +kernel) rfl rfl) ?_
  refine pm_cn (sd_gi cl1_ in1_ (by decide) (fun _ => rfl) fl_X1_23 (by decide +kernel) rfl) ?_
  refine pm_cn (sd_iln (k := 3) (by decide +kernel) rfl rfl) ?_
  refine pm_cn (sd_isub (by decide +kernel) rfl) ?_
  refine pm_cn (sd_icle (off := 7) (by decide +kernel) (by decide) rfl) ?_
  refine pm_cn (sd_iconst (z := 2) (by decide +kernel) (by decide +kernel) rfl) ?_
  refine pm_cn (sd_go (off := 4) (by decide +kernel) (by decide)) ?_
  refine pm_cn (sd_iconst (z := 0) (by decide +kernel) (by decide +kernel) rfl) ?_
  refine pm_cn (sd_ir (by decide +kernel)) ?_
  exact fun _ h => absurd h List.not_mem_nil
set_option maxHeartbeats 4000000 in
set_option maxRecDepth 100000 in
theorem pf_X1_faultAt : pm_pf T_X1_faultAt P_X1_faultAt (pm_pi Q_X1_faultAt) := by
  rintro ⟨k, a, x, m, t, l, z, h0⟩ av h K hK ⟨rfl, rfl, ⟨e0, e1, e2⟩, ht, hl, hz, ha, hm⟩ hret
  show K (some 0) ([(0, vR 1 k 0), (1, vI (nI a)), (2, vI x), (3, vI (nI m))], [], h)
  have hix : ¬ x < 0 → (x ≤ nI z - nI m ↔ sp_ix x z m) := by
    intro h0
    obtain ⟨j, hj, rfl⟩ := nI_of h0
    rw [Int32.le_iff_toInt_le, pk_sub_toInt (by omega) (by omega), nI_toInt hj]
    constructor
    · intro h; exact ⟨j, by omega, rfl⟩
    · rintro ⟨y, h1, h2⟩
      rw [nI_eq hj (by omega)] at h2
      omega
  have hix2 : x < 0 → ¬ sp_ix x z m := by
    rintro h0 ⟨y, h1, rfl⟩
    exact nI_pos (by omega) h0
  refine hK [] 40 _ _ ?_
  conv => whnf
  rw [e0]
  refine ⟨fun c1 => ?_, fun c1 => ?_⟩
  · rw [nz_eq (by omega)] at c1
    conv => whnf
    rw [e1, nI_eq (by omega) (by omega)]
    refine ⟨fun c2 => ?_, fun c2 => ?_⟩
    · conv => whnf
      refine ⟨fun c3 => ?_, fun c3 => ?_⟩
      · conv => whnf
        exact hret _ _ ⟨rfl, Or.inr (Or.inr (Or.inl ⟨c1, c2, hix2 c3, rfl⟩))⟩
      · conv => whnf
        rw [e2, hix c3]
        refine ⟨fun c4 => ?_, fun c4 => ?_⟩
        · conv => whnf
          exact hret _ _ ⟨rfl, Or.inr (Or.inr (Or.inr ⟨c1, c2, c4, rfl⟩))⟩
        · conv => whnf
          exact hret _ _ ⟨rfl, Or.inr (Or.inr (Or.inl ⟨c1, c2, c4, rfl⟩))⟩
    · conv => whnf
      exact hret _ _ ⟨rfl, Or.inr (Or.inl ⟨c1, c2, rfl⟩)⟩
  · rw [nz_eq (by omega)] at c1
    conv => whnf
    exact hret _ _ ⟨rfl, Or.inl ⟨c1, rfl⟩⟩
theorem M_X1_faultAt : pm_MT yX1_faultAt cX1_faultAt 4 1 1 P_X1_faultAt (pm_pi Q_X1_faultAt) := pm_met k_X1_faultAt (by decide) rfl (by
  rintro ⟨g0, g1, g2, g3, g4, g5, g6, g7⟩ av h hp
  rw [hp.1]
  exact Nat.le_of_ble_eq_true rfl) pf_X1_faultAt
theorem rc_X1_faultAt : ∀ g av h, P_X1_faultAt g av h → ∃ i t, av = .inr (.inr (1, i, 0)) :: t := by
  rintro ⟨g0, g1, g2, g3, g4, g5, g6, g7⟩ av h hp
  exact ⟨_, _, hp.1⟩
def sp_nar (l : Nat) (v : Int32) : Int32 := if l = 0 then v.toInt8.toInt32 else if l = 1 then v.toInt16.toInt32 else v
def P_X1_narrow : Nat × Int32 × Nat × pm_H → List pm_V → pm_H → Prop := fun g av h => match g with
  | (k, v, l, h0) => av = [vR 1 k 0, vI v] ∧ h = h0 ∧ h0 1 k 0 1 = nI l ∧ l ≤ 2
def Q_X1_narrow : Nat × Int32 × Nat × pm_H → Int32 → pm_H → Prop := fun g r h => match g with
  | (k, v, l, h0) => h = h0 ∧ r = sp_nar l v
def T_X1_narrow : List (Nat × pm_T) := [
  (0, i_al 0 1),
  (1, i_gi 1 1 4),
  (4, i_ifne 10 7),
  (7, i_il 1 8),
  (8, i_i2b 9),
  (9, i_ir),
  (10, i_al 0 11),
  (11, i_gi 1 1 14),
  (14, i_c (nI 1) 15),
  (15, i_icne 23 18),
  (18, i_il 1 19),
  (19, i_i2s 20),
  (20, i_go 24),
  (23, i_il 1 24),
  (24, i_ir)]
theorem k_X1_narrow : ∀ q ∈ T_X1_narrow, pm_sd RX1 cX1_narrow 2 1 1 q.1 q.2 := by
  unfold T_X1_narrow
  refine pm_cn (sd_aln (k := 0) (by decide +kernel) rfl rfl) ?_
  refine pm_cn (sd_gi cl1_ in1_ (by decide) (fun _ => rfl) fl_X1_19 (by decide +kernel) rfl) ?_
  refine pm_cn (sd_ifne (off := 6) (by decide +kernel) (by decide) rfl) ?_
  refine pm_cn (sd_iln (k := 1) (by decide +kernel) rfl rfl) ?_
  refine pm_cn (sd_i2b (by decide +kernel) rfl) ?_
  refine pm_cn (sd_ir (by decide +kernel)) ?_
  refine pm_cn (sd_aln (k := 0) (by decide +kernel) rfl rfl) ?_
  refine pm_cn (sd_gi cl1_ in1_ (by decide) (fun _ => rfl) fl_X1_19 (by decide +kernel) rfl) ?_
  refine pm_cn (sd_iconst (z := 1) (by decide +kernel) (by decide +kernel) rfl) ?_
  refine pm_cn (sd_icne (off := 8) (by decide +kernel) (by decide) rfl) ?_
  refine pm_cn (sd_iln (k := 1) (by decide +kernel) rfl rfl) ?_
  refine pm_cn (sd_i2s (by decide +kernel) rfl) ?_
  refine pm_cn (sd_go (off := 4) (by decide +kernel) (by decide)) ?_
  refine pm_cn (sd_iln (k := 1) (by decide +kernel) rfl rfl) ?_
  refine pm_cn (sd_ir (by decide +kernel)) ?_
  exact fun _ h => absurd h List.not_mem_nil
set_option maxHeartbeats 4000000 in
set_option maxRecDepth 100000 in
theorem pf_X1_narrow : pm_pf T_X1_narrow P_X1_narrow (pm_pi Q_X1_narrow) := by
  rintro ⟨k, v, l, h0⟩ av h K hK ⟨rfl, rfl, e1, hl⟩ hret
  show K (some 0) ([(0, vR 1 k 0), (1, vI v)], [], h)
  refine hK [] 40 _ _ ?_
  conv => whnf
  repeat' (first
    | (refine ⟨fun c => ?_, fun c => ?_⟩ <;> (try simp (disch := omega) only [nI_leI, nI_ltI, nI_eq, nz_eq, nz_lt, nz_gt, nz_le, nz_ge, nz_00, nz_10, nz_n1, nI_add, pk_mul, pk_sub, nI_shl1, nI_or, nI_half2, nI_min2, la_put_eq, la_up, lr_same, lr_ne, lu_same, lu_ne, not_true_eq_false, not_false_eq_true, e1] at c) <;> first | (exfalso; omega) | conv => whnf)
    | (refine ⟨_, rfl, by omega, ?_⟩; conv => whnf)
    | (refine ⟨_, rfl, rfl, rfl, by decide, by decide, ?_⟩; conv => whnf)
    | (refine ⟨_, by (simp (disch := omega) only [nI_leI, nI_ltI, nI_eq, nz_eq, nz_lt, nz_gt, nz_le, nz_ge, nz_00, nz_10, nz_n1, nI_add, pk_mul, pk_sub, nI_shl1, nI_or, nI_half2, nI_min2, la_put_eq, la_up, lr_same, lr_ne, lu_same, lu_ne, not_true_eq_false, not_false_eq_true, e1]; rfl), by omega, ?_⟩; conv => whnf)
    | (refine And.intro (by first | assumption | decide) ?_; conv => whnf))
  all_goals (try simp (disch := omega) only [nI_leI, nI_ltI, nI_eq, nz_eq, nz_lt, nz_gt, nz_le, nz_ge, nz_00, nz_10, nz_n1, nI_add, pk_mul, pk_sub, nI_shl1, nI_or, nI_half2, nI_min2, la_put_eq, la_up, lr_same, lr_ne, lu_same, lu_ne, not_true_eq_false, not_false_eq_true, e1])
  all_goals (refine hret _ _ ⟨rfl, ?_⟩; unfold sp_nar; simp [*])
theorem M_X1_narrow : pm_MT yX1_narrow cX1_narrow 2 1 1 P_X1_narrow (pm_pi Q_X1_narrow) := pm_met k_X1_narrow (by decide) rfl (by
  rintro ⟨g0, g1, g2, g3⟩ av h hp
  rw [hp.1]
  exact Nat.le_of_ble_eq_true rfl) pf_X1_narrow
theorem rc_X1_narrow : ∀ g av h, P_X1_narrow g av h → ∃ i t, av = .inr (.inr (1, i, 0)) :: t := by
  rintro ⟨g0, g1, g2, g3⟩ av h hp
  exact ⟨_, _, hp.1⟩
/-! Sight -/
def se_at (h : pm_H) (m : Nat) (S : LD) : Prop := h 2 0 0 0 = nI m ∧ ∀ e, e < m → h 2 0 1 e = nI (S 0 e) ∧ h 2 0 2 e = nI (S 1 e) ∧ h 2 0 3 e = nI (S 2 e) ∧ h 2 0 4 e = nI (S 3 e)
def se_ok (m : Nat) (S : LD) : Prop := m ≤ 6 ∧ ∀ e, e < m → S 0 e ≤ 30 ∧ S 1 e ≤ 3 ∧ S 2 e ≤ 9 ∧ S 3 e ≤ 1
def sp_mx (f : Nat → Nat) : Nat → Nat
  | 0 => 0
  | n + 1 => max (sp_mx f n) (f n)
def P_X2_lastDay : Nat × LD × pm_H → List pm_V → pm_H → Prop := fun g av h => match g with
  | (m, S, h0) => av = [vR 2 0 0] ∧ h = h0 ∧ se_at h0 m S ∧ se_ok m S
def Q_X2_lastDay : Nat × LD × pm_H → Int32 → pm_H → Prop := fun g r h => match g with
  | (m, S, h0) => h = h0 ∧ r = nI (sp_mx (S 0) m)
theorem nI_max2 {a b : Nat} : (if a < b then nI b else nI a) = nI (max a b) := by
  rw [Nat.max_def]
  by_cases h : a < b
  · rw [if_pos h, if_pos (by omega)]
  · rw [if_neg h]
    by_cases h2 : a ≤ b
    · rw [if_pos h2]; congr 1; omega
    · rw [if_neg h2]
theorem sp_mx_le {f : Nat → Nat} {m : Nat} : ∀ {n : Nat}, (∀ k, k < n → f k ≤ m) → sp_mx f n ≤ m
  | 0, _ => Nat.zero_le _
  | n + 1, h => by
    have h1 := sp_mx_le (n := n) (fun k hk => h k (by omega))
    have h2 := h n (by omega)
    rw [sp_mx]
    omega
theorem sp_mx_ge {f : Nat → Nat} : ∀ {n k : Nat}, k < n → f k ≤ sp_mx f n
  | n + 1, k, h => by
    rw [sp_mx]
    by_cases hk : k = n
    · subst hk; omega
    · have := sp_mx_ge (f := f) (n := n) (k := k) (by omega)
      omega
def T_X2_lastDay : List (Nat × pm_T) := [
  (0, i_c (nI 0) 1),
  (1, i_is 1 2),
  (2, i_c (nI 0) 3),
  (3, i_is 2 4),
  (4, i_il 2 5),
  (5, i_al 0 6),
  (6, i_gi 2 0 9),
  (9, i_icge 29 12),
  (12, i_il 1 13),
  (13, i_al 0 14),
  (14, i_gr 2 (fun i => (2, i, 1)) 17),
  (17, i_il 2 18),
  (18, i_ia 19),
  (19, i_mmax 22),
  (22, i_is 1 23),
  (23, i_inc 2 (nI 1) 26),
  (26, i_go 4),
  (29, i_il 1 30),
  (30, i_ir)]
theorem k_X2_lastDay : ∀ q ∈ T_X2_lastDay, pm_sd RX2 cX2_lastDay 3 1 1 q.1 q.2 := by
  unfold T_X2_lastDay
  refine pm_cn (sd_iconst (z := 0) (by decide +kernel) (by decide +kernel) rfl) ?_
  refine pm_cn (sd_isn (k := 1) (by decide +kernel) rfl rfl (by decide)) ?_
  refine pm_cn (sd_iconst (z := 0) (by decide +kernel) (by decide +kernel) rfl) ?_
  refine pm_cn (sd_isn (k := 2) (by decide +kernel) rfl rfl (by decide)) ?_
  refine pm_cn (sd_iln (k := 2) (by decide +kernel) rfl rfl) ?_
  refine pm_cn (sd_aln (k := 0) (by decide +kernel) rfl rfl) ?_
  refine pm_cn (sd_gi cl2_ in2_ (by decide) (fun _ => rfl) fl_X2_25 (by decide +kernel) rfl) ?_
  refine pm_cn (sd_icge (off := 20) (by decide +kernel) (by decide) rfl) ?_
  refine pm_cn (sd_iln (k := 1) (by decide +kernel) rfl rfl) ?_
  refine pm_cn (sd_aln (k := 0) (by decide +kernel) rfl rfl) ?_
  refine pm_cn (sd_gr cl2_ in2_ (j := 1) (by decide) (fun _ => rfl) fl_X2_9 (by decide +kernel) rfl) ?_
  refine pm_cn (sd_iln (k := 2) (by decide +kernel) rfl rfl) ?_
  refine pm_cn (sd_ia (by decide +kernel) rfl) ?_
  refine pm_cn (sd_mmax ml_X2_42 st_max nt_Math cd_max (by decide) (by decide +kernel) rfl) ?_
  refine pm_cn (sd_isn (k := 1) (by decide +kernel) rfl rfl (by decide)) ?_
  refine pm_cn (sd_inc (z := 1) (by decide +kernel) (by decide +kernel) rfl (by decide)) ?_
  refine pm_cn (sd_go (off := -22) (by decide +kernel) (by decide)) ?_
  refine pm_cn (sd_iln (k := 1) (by decide +kernel) rfl rfl) ?_
  refine pm_cn (sd_ir (by decide +kernel)) ?_
  exact fun _ h => absurd h List.not_mem_nil
set_option maxHeartbeats 4000000 in
set_option maxRecDepth 100000 in
theorem pf_X2_lastDay : pm_pf T_X2_lastDay P_X2_lastDay (pm_pi Q_X2_lastDay) := by
  rintro ⟨m, S, h0⟩ av h K hK ⟨rfl, rfl, ⟨e0, e1⟩, hm, hS⟩ hret
  show K (some 0) ([(0, vR 2 0 0)], [], h)
  have loop : ∀ n k a, k + n = m → a = sp_mx (S 0) k → K (some 4) ([(0, vR 2 0 0), (1, vI (nI a)), (2, vI (nI k))], [], h) := by
    intro n
    induction n with
    | zero =>
      intro k a hk ha
      refine hK [(4, [0, 1, 2])] 40 _ _ ?_
      conv => whnf
      repeat' (first
        | (refine ⟨fun c => ?_, fun c => ?_⟩ <;> (try simp (disch := omega) only [nI_leI, nI_ltI, nI_eq, nz_eq, nz_lt, nz_gt, nz_le, nz_ge, nz_00, nz_10, nz_n1, nI_add, pk_mul, pk_sub, nI_shl1, nI_or, nI_half2, nI_min2, la_put_eq, la_up, lr_same, lr_ne, lu_same, lu_ne, not_true_eq_false, not_false_eq_true, e0] at c) <;> first | (exfalso; omega) | conv => whnf)
        | (refine ⟨_, rfl, by omega, ?_⟩; conv => whnf)
        | (refine ⟨_, rfl, rfl, rfl, by decide, by decide, ?_⟩; conv => whnf)
        | (refine ⟨_, by (simp (disch := omega) only [nI_leI, nI_ltI, nI_eq, nz_eq, nz_lt, nz_gt, nz_le, nz_ge, nz_00, nz_10, nz_n1, nI_add, pk_mul, pk_sub, nI_shl1, nI_or, nI_half2, nI_min2, la_put_eq, la_up, lr_same, lr_ne, lu_same, lu_ne, not_true_eq_false, not_false_eq_true, e0]; rfl), by omega, ?_⟩; conv => whnf)
        | (refine And.intro (by first | assumption | decide) ?_; conv => whnf))
      all_goals (try simp (disch := omega) only [nI_leI, nI_ltI, nI_eq, nz_eq, nz_lt, nz_gt, nz_le, nz_ge, nz_00, nz_10, nz_n1, nI_add, pk_mul, pk_sub, nI_shl1, nI_or, nI_half2, nI_min2, la_put_eq, la_up, lr_same, lr_ne, lu_same, lu_ne, not_true_eq_false, not_false_eq_true, e0])
      have : k = m := by omega
      subst this
      exact hret _ _ ⟨rfl, by rw [ha]⟩
    | succ n ih =>
      intro k a hk ha
      have hB := hS k (by omega)
      have hE := (e1 k (by omega)).1
      have hA : sp_mx (S 0) k ≤ 30 := sp_mx_le (fun j hj => (hS j (by omega)).1)
      refine hK [(4, [0, 1, 2])] 40 _ _ ?_
      conv => whnf
      repeat' (first
        | (refine ⟨fun c => ?_, fun c => ?_⟩ <;> (try simp (disch := omega) only [nI_leI, nI_ltI, nI_eq, nz_eq, nz_lt, nz_gt, nz_le, nz_ge, nz_00, nz_10, nz_n1, nI_add, pk_mul, pk_sub, nI_shl1, nI_or, nI_half2, nI_min2, la_put_eq, la_up, lr_same, lr_ne, lu_same, lu_ne, not_true_eq_false, not_false_eq_true, e0, hE, nI_max2] at c) <;> first | (exfalso; omega) | conv => whnf)
        | (refine ⟨_, rfl, by omega, ?_⟩; conv => whnf)
        | (refine ⟨_, rfl, rfl, rfl, by decide, by decide, ?_⟩; conv => whnf)
        | (refine ⟨_, by (simp (disch := omega) only [nI_leI, nI_ltI, nI_eq, nz_eq, nz_lt, nz_gt, nz_le, nz_ge, nz_00, nz_10, nz_n1, nI_add, pk_mul, pk_sub, nI_shl1, nI_or, nI_half2, nI_min2, la_put_eq, la_up, lr_same, lr_ne, lu_same, lu_ne, not_true_eq_false, not_false_eq_true, e0, hE, nI_max2]; rfl), by omega, ?_⟩; conv => whnf)
        | (refine And.intro (by first | assumption | decide) ?_; conv => whnf))
      all_goals (try simp (disch := omega) only [nI_leI, nI_ltI, nI_eq, nz_eq, nz_lt, nz_gt, nz_le, nz_ge, nz_00, nz_10, nz_n1, nI_add, pk_mul, pk_sub, nI_shl1, nI_or, nI_half2, nI_min2, la_put_eq, la_up, lr_same, lr_ne, lu_same, lu_ne, not_true_eq_false, not_false_eq_true, e0, hE, nI_max2])
      refine ih (k + 1) _ (by omega) ?_
      rw [sp_mx, ← ha]
  refine hK [(4, [0, 1, 2])] 10 _ _ ?_
  conv => whnf
  repeat' (first
    | (refine ⟨fun c => ?_, fun c => ?_⟩ <;> (try simp (disch := omega) only [nI_leI, nI_ltI, nI_eq, nz_eq, nz_lt, nz_gt, nz_le, nz_ge, nz_00, nz_10, nz_n1, nI_add, pk_mul, pk_sub, nI_shl1, nI_or, nI_half2, nI_min2, la_put_eq, la_up, lr_same, lr_ne, lu_same, lu_ne, not_true_eq_false, not_false_eq_true] at c) <;> first | (exfalso; omega) | conv => whnf)
    | (refine ⟨_, rfl, by omega, ?_⟩; conv => whnf)
    | (refine ⟨_, rfl, rfl, rfl, by decide, by decide, ?_⟩; conv => whnf)
    | (refine ⟨_, by (simp (disch := omega) only [nI_leI, nI_ltI, nI_eq, nz_eq, nz_lt, nz_gt, nz_le, nz_ge, nz_00, nz_10, nz_n1, nI_add, pk_mul, pk_sub, nI_shl1, nI_or, nI_half2, nI_min2, la_put_eq, la_up, lr_same, lr_ne, lu_same, lu_ne, not_true_eq_false, not_false_eq_true]; rfl), by omega, ?_⟩; conv => whnf)
    | (refine And.intro (by first | assumption | decide) ?_; conv => whnf))
  all_goals (try simp (disch := omega) only [nI_leI, nI_ltI, nI_eq, nz_eq, nz_lt, nz_gt, nz_le, nz_ge, nz_00, nz_10, nz_n1, nI_add, pk_mul, pk_sub, nI_shl1, nI_or, nI_half2, nI_min2, la_put_eq, la_up, lr_same, lr_ne, lu_same, lu_ne, not_true_eq_false, not_false_eq_true])
  exact loop m 0 0 (by omega) rfl
theorem M_X2_lastDay : pm_MT yX2_lastDay cX2_lastDay 3 1 1 P_X2_lastDay (pm_pi Q_X2_lastDay) := pm_met k_X2_lastDay (by decide) rfl (by
  rintro ⟨g0, g1, g2⟩ av h hp
  rw [hp.1]
  exact Nat.le_of_ble_eq_true rfl) pf_X2_lastDay
theorem rc_X2_lastDay : ∀ g av h, P_X2_lastDay g av h → ∃ i t, av = .inr (.inr (2, i, 0)) :: t := by
  rintro ⟨g0, g1, g2⟩ av h hp
  exact ⟨_, _, hp.1⟩
def sp_fb (L : LD) (m : Nat) (S : LD) (d : Nat) : Prop := ∀ e, e < m → S 0 e = d → (sp_kn L (S 1 e) (S 2 e) ↔ S 3 e = 1)
def P_X2_fitsBehind : Nat × Nat × LD × Nat × LD × pm_H → List pm_V → pm_H → Prop := fun g av h => match g with
  | (d, i, L, m, S, h0) => av = [vR 2 0 0, vI (nI d), vR 0 i 0] ∧ h = h0 ∧ la_at h0 i L ∧ la_ok L ∧ se_at h0 m S ∧ se_ok m S ∧ d < 2 ^ 31
def Q_X2_fitsBehind : Nat × Nat × LD × Nat × LD × pm_H → Int32 → pm_H → Prop := fun g r h => match g with
  | (d, i, L, m, S, h0) => h = h0 ∧ ((sp_fb L m S d ∧ r = nI 1) ∨ (¬ sp_fb L m S d ∧ r = nI 0))
def T_X2_fitsBehind : List (Nat × pm_T) := [
  (0, i_c (nI 0) 1),
  (1, i_is 3 2),
  (2, i_il 3 3),
  (3, i_al 0 4),
  (4, i_gi 2 0 7),
  (7, i_icge 53 10),
  (10, i_al 0 11),
  (11, i_gr 2 (fun i => (2, i, 1)) 14),
  (14, i_il 3 15),
  (15, i_ia 16),
  (16, i_il 1 17),
  (17, i_icne 47 20),
  (20, i_al 2 21),
  (21, i_al 0 22),
  (22, i_gr 2 (fun i => (2, i, 2)) 25),
  (25, i_il 3 26),
  (26, i_ia 27),
  (27, i_al 0 28),
  (28, i_gr 2 (fun i => (2, i, 3)) 31),
  (31, i_il 3 32),
  (32, i_ia 33),
  (33, i_ci 3 P_X0_isKnower Q_X0_isKnower 36),
  (36, i_al 0 37),
  (37, i_gr 2 (fun i => (2, i, 4)) 40),
  (40, i_il 3 41),
  (41, i_za 42),
  (42, i_iceq 47 45),
  (45, i_c (nI 0) 46),
  (46, i_zr),
  (47, i_inc 3 (nI 1) 50),
  (50, i_go 2),
  (53, i_c (nI 1) 54),
  (54, i_zr)]
theorem k_X2_fitsBehind : ∀ q ∈ T_X2_fitsBehind, pm_sd RX2 cX2_fitsBehind 4 2 3 q.1 q.2 := by
  unfold T_X2_fitsBehind
  refine pm_cn (sd_iconst (z := 0) (by decide +kernel) (by decide +kernel) rfl) ?_
  refine pm_cn (sd_isn (k := 3) (by decide +kernel) rfl rfl (by decide)) ?_
  refine pm_cn (sd_iln (k := 3) (by decide +kernel) rfl rfl) ?_
  refine pm_cn (sd_aln (k := 0) (by decide +kernel) rfl rfl) ?_
  refine pm_cn (sd_gi cl2_ in2_ (by decide) (fun _ => rfl) fl_X2_25 (by decide +kernel) rfl) ?_
  refine pm_cn (sd_icge (off := 46) (by decide +kernel) (by decide) rfl) ?_
  refine pm_cn (sd_aln (k := 0) (by decide +kernel) rfl rfl) ?_
  refine pm_cn (sd_gr cl2_ in2_ (j := 1) (by decide) (fun _ => rfl) fl_X2_9 (by decide +kernel) rfl) ?_
  refine pm_cn (sd_iln (k := 3) (by decide +kernel) rfl rfl) ?_
  refine pm_cn (sd_ia (by decide +kernel) rfl) ?_
  refine pm_cn (sd_iln (k := 1) (by decide +kernel) rfl rfl) ?_
  refine pm_cn (sd_icne (off := 30) (by decide +kernel) (by decide) rfl) ?_
  refine pm_cn (sd_aln (k := 2) (by decide +kernel) rfl rfl) ?_
  refine pm_cn (sd_aln (k := 0) (by decide +kernel) rfl rfl) ?_
  refine pm_cn (sd_gr cl2_ in2_ (j := 2) (by decide) (fun _ => rfl) fl_X2_15 (by decide +kernel) rfl) ?_
  refine pm_cn (sd_iln (k := 3) (by decide +kernel) rfl rfl) ?_
  refine pm_cn (sd_ia (by decide +kernel) rfl) ?_
  refine pm_cn (sd_aln (k := 0) (by decide +kernel) rfl rfl) ?_
  refine pm_cn (sd_gr cl2_ in2_ (j := 3) (by decide) (fun _ => rfl) fl_X2_18 (by decide +kernel) rfl) ?_
  refine pm_cn (sd_iln (k := 3) (by decide +kernel) rfl rfl) ?_
  refine pm_cn (sd_ia (by decide +kernel) rfl) ?_
  refine pm_cn (sd_civ M_X0_isKnower (by decide) cd_X0_isKnower rc_X0_isKnower cl0_ ml_X2_48 im_X0_isKnower se_X0_isKnower nt_X0 (by decide +kernel) (by decide) (by decide) (by decide +kernel) rfl) ?_
  refine pm_cn (sd_aln (k := 0) (by decide +kernel) rfl rfl) ?_
  refine pm_cn (sd_gr cl2_ in2_ (j := 4) (by decide) (fun _ => rfl) fl_X2_21 (by decide +kernel) rfl) ?_
  refine pm_cn (sd_iln (k := 3) (by decide +kernel) rfl rfl) ?_
  refine pm_cn (sd_za (by decide +kernel) rfl) ?_
  refine pm_cn (sd_iceq (off := 5) (by decide +kernel) (by decide) rfl) ?_
  refine pm_cn (sd_iconst (z := 0) (by decide +kernel) (by decide +kernel) rfl) ?_
  refine pm_cn (sd_zr (by decide +kernel)) ?_
  refine pm_cn (sd_inc (z := 1) (by decide +kernel) (by decide +kernel) rfl (by decide)) ?_
  refine pm_cn (sd_go (off := -48) (by decide +kernel) (by decide)) ?_
  refine pm_cn (sd_iconst (z := 1) (by decide +kernel) (by decide +kernel) rfl) ?_
  refine pm_cn (sd_zr (by decide +kernel)) ?_
  exact fun _ h => absurd h List.not_mem_nil
set_option maxHeartbeats 4000000 in
set_option maxRecDepth 100000 in
theorem pf_X2_fitsBehind : pm_pf T_X2_fitsBehind P_X2_fitsBehind (pm_pi Q_X2_fitsBehind) := by
  rintro ⟨d, i, L, m, S, h0⟩ av h K hK ⟨rfl, rfl, hL, hw, ⟨e0, e1⟩, ⟨hm, hS⟩, hd⟩ hret
  show K (some 0) ([(0, vR 2 0 0), (1, vI (nI d)), (2, vR 0 i 0)], [], h)
  have loop : ∀ n k, k + n = m → (∀ e, e < k → S 0 e = d → (sp_kn L (S 1 e) (S 2 e) ↔ S 3 e = 1)) → K (some 2) ([(0, vR 2 0 0), (1, vI (nI d)), (2, vR 0 i 0), (3, vI (nI k))], [], h) := by
    intro n
    induction n with
    | zero =>
      intro k hk ha
      refine hK [(2, [0, 1, 2, 3])] 40 _ _ ?_
      conv => whnf
      repeat' (first
        | (refine ⟨fun c => ?_, fun c => ?_⟩ <;> (try simp (disch := omega) only [nI_leI, nI_ltI, nI_eq, nz_eq, nz_lt, nz_gt, nz_le, nz_ge, nz_00, nz_10, nz_n1, nI_add, pk_mul, pk_sub, nI_shl1, nI_or, nI_half2, nI_min2, la_put_eq, la_up, lr_same, lr_ne, lu_same, lu_ne, not_true_eq_false, not_false_eq_true, e0] at c) <;> first | (exfalso; omega) | conv => whnf)
        | (refine ⟨_, rfl, by omega, ?_⟩; conv => whnf)
        | (refine ⟨_, rfl, rfl, rfl, by decide, by decide, ?_⟩; conv => whnf)
        | (refine ⟨_, by (simp (disch := omega) only [nI_leI, nI_ltI, nI_eq, nz_eq, nz_lt, nz_gt, nz_le, nz_ge, nz_00, nz_10, nz_n1, nI_add, pk_mul, pk_sub, nI_shl1, nI_or, nI_half2, nI_min2, la_put_eq, la_up, lr_same, lr_ne, lu_same, lu_ne, not_true_eq_false, not_false_eq_true, e0]; rfl), by omega, ?_⟩; conv => whnf)
        | (refine And.intro (by first | assumption | decide) ?_; conv => whnf))
      all_goals (try simp (disch := omega) only [nI_leI, nI_ltI, nI_eq, nz_eq, nz_lt, nz_gt, nz_le, nz_ge, nz_00, nz_10, nz_n1, nI_add, pk_mul, pk_sub, nI_shl1, nI_or, nI_half2, nI_min2, la_put_eq, la_up, lr_same, lr_ne, lu_same, lu_ne, not_true_eq_false, not_false_eq_true, e0])
      have : k = m := by omega
      subst this
      exact hret _ _ ⟨rfl, Or.inl ⟨ha, rfl⟩⟩
    | succ n ih =>
      intro k hk ha
      have hB := hS k (by omega)
      obtain ⟨f0, f1, f2, f3⟩ := e1 k (by omega)
      have go : (S 0 k = d → (sp_kn L (S 1 k) (S 2 k) ↔ S 3 k = 1)) → K (some 2) ([(0, vR 2 0 0), (1, vI (nI d)), (2, vR 0 i 0), (3, vI (nI (k + 1)))], [], h) := by
        intro hg
        refine ih (k + 1) (by omega) (fun e he hd2 => ?_)
        rcases Nat.lt_or_ge e k with q | q
        · exact ha e q hd2
        · have : e = k := by omega
          subst this
          exact hg hd2
      refine hK [(2, [0, 1, 2, 3])] 40 _ _ ?_
      conv => whnf
      repeat' (first
        | (refine ⟨fun c => ?_, fun c => ?_⟩ <;> (try simp (disch := omega) only [nI_leI, nI_ltI, nI_eq, nz_eq, nz_lt, nz_gt, nz_le, nz_ge, nz_00, nz_10, nz_n1, nI_add, pk_mul, pk_sub, nI_shl1, nI_or, nI_half2, nI_min2, la_put_eq, la_up, lr_same, lr_ne, lu_same, lu_ne, not_true_eq_false, not_false_eq_true, e0, f0, f1, f2] at c) <;> first | (exfalso; omega) | conv => whnf)
        | (refine ⟨_, rfl, by omega, ?_⟩; conv => whnf)
        | (refine ⟨_, rfl, rfl, rfl, by decide, by decide, ?_⟩; conv => whnf)
        | (refine ⟨_, by (simp (disch := omega) only [nI_leI, nI_ltI, nI_eq, nz_eq, nz_lt, nz_gt, nz_le, nz_ge, nz_00, nz_10, nz_n1, nI_add, pk_mul, pk_sub, nI_shl1, nI_or, nI_half2, nI_min2, la_put_eq, la_up, lr_same, lr_ne, lu_same, lu_ne, not_true_eq_false, not_false_eq_true, e0, f0, f1, f2]; rfl), by omega, ?_⟩; conv => whnf)
        | (refine And.intro (by first | assumption | decide) ?_; conv => whnf))
      all_goals (try simp (disch := omega) only [nI_leI, nI_ltI, nI_eq, nz_eq, nz_lt, nz_gt, nz_le, nz_ge, nz_00, nz_10, nz_n1, nI_add, pk_mul, pk_sub, nI_shl1, nI_or, nI_half2, nI_min2, la_put_eq, la_up, lr_same, lr_ne, lu_same, lu_ne, not_true_eq_false, not_false_eq_true, e0, f0, f1, f2])
      · exact go (fun q => by omega)
      · refine ⟨(i, S 1 k, S 2 k, L, h), ⟨rfl, rfl, hL, hw, by omega, by omega⟩, fun v h' hq => ?_⟩
        obtain ⟨rfl, ⟨hkn, rfl⟩ | ⟨hkn, rfl⟩⟩ := hq
        · conv => whnf
          repeat' (first
            | (refine ⟨fun c => ?_, fun c => ?_⟩ <;> (try simp (disch := omega) only [nI_leI, nI_ltI, nI_eq, nz_eq, nz_lt, nz_gt, nz_le, nz_ge, nz_00, nz_10, nz_n1, nI_add, pk_mul, pk_sub, nI_shl1, nI_or, nI_half2, nI_min2, la_put_eq, la_up, lr_same, lr_ne, lu_same, lu_ne, not_true_eq_false, not_false_eq_true, f3] at c) <;> first | (exfalso; omega) | conv => whnf)
            | (refine ⟨_, rfl, by omega, ?_⟩; conv => whnf)
            | (refine ⟨_, rfl, rfl, rfl, by decide, by decide, ?_⟩; conv => whnf)
            | (refine ⟨_, by (simp (disch := omega) only [nI_leI, nI_ltI, nI_eq, nz_eq, nz_lt, nz_gt, nz_le, nz_ge, nz_00, nz_10, nz_n1, nI_add, pk_mul, pk_sub, nI_shl1, nI_or, nI_half2, nI_min2, la_put_eq, la_up, lr_same, lr_ne, lu_same, lu_ne, not_true_eq_false, not_false_eq_true, f3]; rfl), by omega, ?_⟩; conv => whnf)
            | (refine And.intro (by first | assumption | decide) ?_; conv => whnf))
          all_goals (try simp (disch := omega) only [nI_leI, nI_ltI, nI_eq, nz_eq, nz_lt, nz_gt, nz_le, nz_ge, nz_00, nz_10, nz_n1, nI_add, pk_mul, pk_sub, nI_shl1, nI_or, nI_half2, nI_min2, la_put_eq, la_up, lr_same, lr_ne, lu_same, lu_ne, not_true_eq_false, not_false_eq_true, f3])
          · exact go (fun _ => ⟨fun _ => by omega, fun _ => hkn⟩)
          · refine hret _ _ ⟨rfl, Or.inr ⟨fun q => ?_, rfl⟩⟩
            have := (q k (by omega) (by omega)).mp hkn
            omega
        · conv => whnf
          repeat' (first
            | (refine ⟨fun c => ?_, fun c => ?_⟩ <;> (try simp (disch := omega) only [nI_leI, nI_ltI, nI_eq, nz_eq, nz_lt, nz_gt, nz_le, nz_ge, nz_00, nz_10, nz_n1, nI_add, pk_mul, pk_sub, nI_shl1, nI_or, nI_half2, nI_min2, la_put_eq, la_up, lr_same, lr_ne, lu_same, lu_ne, not_true_eq_false, not_false_eq_true, f3] at c) <;> first | (exfalso; omega) | conv => whnf)
            | (refine ⟨_, rfl, by omega, ?_⟩; conv => whnf)
            | (refine ⟨_, rfl, rfl, rfl, by decide, by decide, ?_⟩; conv => whnf)
            | (refine ⟨_, by (simp (disch := omega) only [nI_leI, nI_ltI, nI_eq, nz_eq, nz_lt, nz_gt, nz_le, nz_ge, nz_00, nz_10, nz_n1, nI_add, pk_mul, pk_sub, nI_shl1, nI_or, nI_half2, nI_min2, la_put_eq, la_up, lr_same, lr_ne, lu_same, lu_ne, not_true_eq_false, not_false_eq_true, f3]; rfl), by omega, ?_⟩; conv => whnf)
            | (refine And.intro (by first | assumption | decide) ?_; conv => whnf))
          all_goals (try simp (disch := omega) only [nI_leI, nI_ltI, nI_eq, nz_eq, nz_lt, nz_gt, nz_le, nz_ge, nz_00, nz_10, nz_n1, nI_add, pk_mul, pk_sub, nI_shl1, nI_or, nI_half2, nI_min2, la_put_eq, la_up, lr_same, lr_ne, lu_same, lu_ne, not_true_eq_false, not_false_eq_true, f3])
          · exact go (fun _ => ⟨fun q => absurd q hkn, fun q => by omega⟩)
          · refine hret _ _ ⟨rfl, Or.inr ⟨fun q => hkn ((q k (by omega) (by omega)).mpr (by omega)), rfl⟩⟩
  refine hK [(2, [0, 1, 2, 3])] 10 _ _ ?_
  conv => whnf
  repeat' (first
    | (refine ⟨fun c => ?_, fun c => ?_⟩ <;> (try simp (disch := omega) only [nI_leI, nI_ltI, nI_eq, nz_eq, nz_lt, nz_gt, nz_le, nz_ge, nz_00, nz_10, nz_n1, nI_add, pk_mul, pk_sub, nI_shl1, nI_or, nI_half2, nI_min2, la_put_eq, la_up, lr_same, lr_ne, lu_same, lu_ne, not_true_eq_false, not_false_eq_true] at c) <;> first | (exfalso; omega) | conv => whnf)
    | (refine ⟨_, rfl, by omega, ?_⟩; conv => whnf)
    | (refine ⟨_, rfl, rfl, rfl, by decide, by decide, ?_⟩; conv => whnf)
    | (refine ⟨_, by (simp (disch := omega) only [nI_leI, nI_ltI, nI_eq, nz_eq, nz_lt, nz_gt, nz_le, nz_ge, nz_00, nz_10, nz_n1, nI_add, pk_mul, pk_sub, nI_shl1, nI_or, nI_half2, nI_min2, la_put_eq, la_up, lr_same, lr_ne, lu_same, lu_ne, not_true_eq_false, not_false_eq_true]; rfl), by omega, ?_⟩; conv => whnf)
    | (refine And.intro (by first | assumption | decide) ?_; conv => whnf))
  all_goals (try simp (disch := omega) only [nI_leI, nI_ltI, nI_eq, nz_eq, nz_lt, nz_gt, nz_le, nz_ge, nz_00, nz_10, nz_n1, nI_add, pk_mul, pk_sub, nI_shl1, nI_or, nI_half2, nI_min2, la_put_eq, la_up, lr_same, lr_ne, lu_same, lu_ne, not_true_eq_false, not_false_eq_true])
  exact loop m 0 (by omega) (fun e he => by omega)
theorem M_X2_fitsBehind : pm_MT yX2_fitsBehind cX2_fitsBehind 4 3 2 P_X2_fitsBehind (pm_pi Q_X2_fitsBehind) := pm_met k_X2_fitsBehind (by decide) rfl (by
  rintro ⟨g0, g1, g2, g3, g4, g5⟩ av h hp
  rw [hp.1]
  exact Nat.le_of_ble_eq_true rfl) pf_X2_fitsBehind
theorem rc_X2_fitsBehind : ∀ g av h, P_X2_fitsBehind g av h → ∃ i t, av = .inr (.inr (2, i, 0)) :: t := by
  rintro ⟨g0, g1, g2, g3, g4, g5⟩ av h hp
  exact ⟨_, _, hp.1⟩
def sp_lives (L : LD) : Nat → LD
  | 0 => L
  | n + 1 => sp_live (sp_lives L n)
theorem sp_lives_day (L : LD) : ∀ n, sp_lives L n 0 10 = L 0 10 + n
  | 0 => rfl
  | n + 1 => by rw [sp_lives, sp_live_day, sp_lives_day L n]; omega
theorem la_ok_lives {L : LD} (hw : la_ok L) : ∀ n, L 0 10 + n ≤ 5000 → la_ok (sp_lives L n)
  | 0, _ => hw
  | n + 1, h => la_ok_live (la_ok_lives hw n (by omega)) (by rw [sp_lives_day]; omega)
theorem sp_lives_s {L : LD} {s j : Nat} (h5 : s ≠ 5) (h2 : s ≠ 2) (hd : ¬ (s = 0 ∧ j = 10)) : ∀ n, sp_lives L n s j = L s j
  | 0 => rfl
  | n + 1 => by rw [sp_lives, sp_live_s h5 h2 hd, sp_lives_s h5 h2 hd n]
def sp_fits (L : LD) (m : Nat) (S : LD) : Prop := ∀ d, d ≤ 30 → sp_fb (sp_lives L d) m S d
theorem sp_fits_iff {L : LD} {m : Nat} {S : LD} (hS : se_ok m S) : sp_fits L m S ↔ ∀ d, d ≤ sp_mx (S 0) m → sp_fb (sp_lives L d) m S d := by
  have hle : sp_mx (S 0) m ≤ 30 := sp_mx_le (fun j hj => (hS.2 j hj).1)
  constructor
  · intro h d hd; exact h d (by omega)
  · intro h d _ e he hed
    have := sp_mx_ge (f := S 0) he
    exact h d (by omega) e he hed
def P_X2_fits : Nat × LD × Nat × LD × pm_H → List pm_V → pm_H → Prop := fun g av h => match g with
  | (i, L, m, S, h0) => av = [vR 2 0 0, vR 0 i 0] ∧ h = h0 ∧ la_at h0 i L ∧ la_ok L ∧ se_at h0 m S ∧ se_ok m S ∧ L 0 10 ≤ 4000
def Q_X2_fits : Nat × LD × Nat × LD × pm_H → Int32 → pm_H → Prop := fun g r h => match g with
  | (i, L, m, S, h0) => (∃ T, la_ok T ∧ h = la_put h0 i T) ∧ ((sp_fits L m S ∧ r = nI 1) ∨ (¬ sp_fits L m S ∧ r = nI 0))
theorem se_at_put {h : pm_H} {i : Nat} {L : LD} {m : Nat} {S : LD} (hS : se_at h m S) : se_at (la_put h i L) m S := by
  refine ⟨by rw [la_put_ne (by omega)]; exact hS.1, fun e he => ?_⟩
  rw [la_put_ne (by omega), la_put_ne (by omega), la_put_ne (by omega), la_put_ne (by omega)]
  exact hS.2 e he
def T_X2_fits : List (Nat × pm_T) := [
  (0, i_al 0 1),
  (1, i_ci 1 P_X2_lastDay Q_X2_lastDay 4),
  (4, i_is 2 5),
  (5, i_c (nI 0) 6),
  (6, i_is 3 7),
  (7, i_il 3 8),
  (8, i_il 2 9),
  (9, i_icgt 34 12),
  (12, i_al 0 13),
  (13, i_il 3 14),
  (14, i_al 1 15),
  (15, i_ci 3 P_X2_fitsBehind Q_X2_fitsBehind 18),
  (18, i_ifne 23 21),
  (21, i_c (nI 0) 22),
  (22, i_zr),
  (23, i_al 1 24),
  (24, i_ci 1 P_X0_live Q_X0_live 27),
  (27, i_pop 28),
  (28, i_inc 3 (nI 1) 31),
  (31, i_go 7),
  (34, i_c (nI 1) 35),
  (35, i_zr)]
theorem k_X2_fits : ∀ q ∈ T_X2_fits, pm_sd RX2 cX2_fits 4 3 3 q.1 q.2 := by
  unfold T_X2_fits
  refine pm_cn (sd_aln (k := 0) (by decide +kernel) rfl rfl) ?_
  refine pm_cn (sd_civ M_X2_lastDay (by decide) cd_X2_lastDay rc_X2_lastDay cl2_ ml_X2_29 im_X2_lastDay se_X2_lastDay nt_X2 (by decide +kernel) (by decide) (by decide) (by decide +kernel) rfl) ?_
  refine pm_cn (sd_isn (k := 2) (by decide +kernel) rfl rfl (by decide)) ?_
  refine pm_cn (sd_iconst (z := 0) (by decide +kernel) (by decide +kernel) rfl) ?_
  refine pm_cn (sd_isn (k := 3) (by decide +kernel) rfl rfl (by decide)) ?_
  refine pm_cn (sd_iln (k := 3) (by decide +kernel) rfl rfl) ?_
  refine pm_cn (sd_iln (k := 2) (by decide +kernel) rfl rfl) ?_
  refine pm_cn (sd_icgt (off := 25) (by decide +kernel) (by decide) rfl) ?_
  refine pm_cn (sd_aln (k := 0) (by decide +kernel) rfl rfl) ?_
  refine pm_cn (sd_iln (k := 3) (by decide +kernel) rfl rfl) ?_
  refine pm_cn (sd_aln (k := 1) (by decide +kernel) rfl rfl) ?_
  refine pm_cn (sd_civ M_X2_fitsBehind (by decide) cd_X2_fitsBehind rc_X2_fitsBehind cl2_ ml_X2_33 im_X2_fitsBehind se_X2_fitsBehind nt_X2 (by decide +kernel) (by decide) (by decide) (by decide +kernel) rfl) ?_
  refine pm_cn (sd_ifne (off := 5) (by decide +kernel) (by decide) rfl) ?_
  refine pm_cn (sd_iconst (z := 0) (by decide +kernel) (by decide +kernel) rfl) ?_
  refine pm_cn (sd_zr (by decide +kernel)) ?_
  refine pm_cn (sd_aln (k := 1) (by decide +kernel) rfl rfl) ?_
  refine pm_cn (sd_civ M_X0_live (by decide) cd_X0_live rc_X0_live cl0_ ml_X2_37 im_X0_live se_X0_live nt_X0 (by decide +kernel) (by decide) (by decide) (by decide +kernel) rfl) ?_
  refine pm_cn (sd_pop (by decide +kernel) rfl) ?_
  refine pm_cn (sd_inc (z := 1) (by decide +kernel) (by decide +kernel) rfl (by decide)) ?_
  refine pm_cn (sd_go (off := -24) (by decide +kernel) (by decide)) ?_
  refine pm_cn (sd_iconst (z := 1) (by decide +kernel) (by decide +kernel) rfl) ?_
  refine pm_cn (sd_zr (by decide +kernel)) ?_
  exact fun _ h => absurd h List.not_mem_nil
set_option maxHeartbeats 4000000 in
set_option maxRecDepth 100000 in
theorem pf_X2_fits : pm_pf T_X2_fits P_X2_fits (pm_pi Q_X2_fits) := by
  rintro ⟨i, L, m, S, h0⟩ av h K hK ⟨rfl, rfl, hL, hw, hS, hSo, hd⟩ hret
  show K (some 0) ([(0, vR 2 0 0), (1, vR 0 i 0)], [], h)
  have hle : sp_mx (S 0) m ≤ 30 := sp_mx_le (fun j hj => (hSo.2 j hj).1)
  have loop : ∀ n d H, d + n = sp_mx (S 0) m + 1 → H = la_put h i (sp_lives L d) → (∀ x, x < d → sp_fb (sp_lives L x) m S x) → K (some 7) ([(0, vR 2 0 0), (1, vR 0 i 0), (2, vI (nI (sp_mx (S 0) m))), (3, vI (nI d))], [], H) := by
    intro n
    induction n with
    | zero =>
      intro d H hk hH ha
      refine hK [(7, [0, 1, 2, 3])] 40 _ _ ?_
      conv => whnf
      repeat' (first
        | (refine ⟨fun c => ?_, fun c => ?_⟩ <;> (try simp (disch := omega) only [nI_leI, nI_ltI, nI_eq, nz_eq, nz_lt, nz_gt, nz_le, nz_ge, nz_00, nz_10, nz_n1, nI_add, pk_mul, pk_sub, nI_shl1, nI_or, nI_half2, nI_min2, la_put_eq, la_up, lr_same, lr_ne, lu_same, lu_ne, not_true_eq_false, not_false_eq_true] at c) <;> first | (exfalso; omega) | conv => whnf)
        | (refine ⟨_, rfl, by omega, ?_⟩; conv => whnf)
        | (refine ⟨_, rfl, rfl, rfl, by decide, by decide, ?_⟩; conv => whnf)
        | (refine ⟨_, by (simp (disch := omega) only [nI_leI, nI_ltI, nI_eq, nz_eq, nz_lt, nz_gt, nz_le, nz_ge, nz_00, nz_10, nz_n1, nI_add, pk_mul, pk_sub, nI_shl1, nI_or, nI_half2, nI_min2, la_put_eq, la_up, lr_same, lr_ne, lu_same, lu_ne, not_true_eq_false, not_false_eq_true]; rfl), by omega, ?_⟩; conv => whnf)
        | (refine And.intro (by first | assumption | decide) ?_; conv => whnf))
      all_goals (try simp (disch := omega) only [nI_leI, nI_ltI, nI_eq, nz_eq, nz_lt, nz_gt, nz_le, nz_ge, nz_00, nz_10, nz_n1, nI_add, pk_mul, pk_sub, nI_shl1, nI_or, nI_half2, nI_min2, la_put_eq, la_up, lr_same, lr_ne, lu_same, lu_ne, not_true_eq_false, not_false_eq_true])
      refine hret _ _ ⟨⟨_, la_ok_lives hw d (by omega), hH⟩, Or.inl ⟨(sp_fits_iff hSo).mpr (fun x hx => ha x (by omega)), rfl⟩⟩
    | succ n ih =>
      intro d H hk hH ha
      have hwd := la_ok_lives hw d (by omega)
      have hdd := sp_lives_day L d
      subst hH
      refine hK [(7, [0, 1, 2, 3])] 40 _ _ ?_
      conv => whnf
      repeat' (first
        | (refine ⟨fun c => ?_, fun c => ?_⟩ <;> (try simp (disch := omega) only [nI_leI, nI_ltI, nI_eq, nz_eq, nz_lt, nz_gt, nz_le, nz_ge, nz_00, nz_10, nz_n1, nI_add, pk_mul, pk_sub, nI_shl1, nI_or, nI_half2, nI_min2, la_put_eq, la_up, lr_same, lr_ne, lu_same, lu_ne, not_true_eq_false, not_false_eq_true] at c) <;> first | (exfalso; omega) | conv => whnf)
        | (refine ⟨_, rfl, by omega, ?_⟩; conv => whnf)
        | (refine ⟨_, rfl, rfl, rfl, by decide, by decide, ?_⟩; conv => whnf)
        | (refine ⟨_, by (simp (disch := omega) only [nI_leI, nI_ltI, nI_eq, nz_eq, nz_lt, nz_gt, nz_le, nz_ge, nz_00, nz_10, nz_n1, nI_add, pk_mul, pk_sub, nI_shl1, nI_or, nI_half2, nI_min2, la_put_eq, la_up, lr_same, lr_ne, lu_same, lu_ne, not_true_eq_false, not_false_eq_true]; rfl), by omega, ?_⟩; conv => whnf)
        | (refine And.intro (by first | assumption | decide) ?_; conv => whnf))
      all_goals (try simp (disch := omega) only [nI_leI, nI_ltI, nI_eq, nz_eq, nz_lt, nz_gt, nz_le, nz_ge, nz_00, nz_10, nz_n1, nI_add, pk_mul, pk_sub, nI_shl1, nI_or, nI_half2, nI_min2, la_put_eq, la_up, lr_same, lr_ne, lu_same, lu_ne, not_true_eq_false, not_false_eq_true])
      refine ⟨(d, i, sp_lives L d, m, S, _), ⟨rfl, rfl, la_put_at _ _ _, hwd, se_at_put hS, hSo, by omega⟩, fun v h' hq => ?_⟩
      obtain ⟨rfl, ⟨hfb, rfl⟩ | ⟨hfb, rfl⟩⟩ := hq
      · conv => whnf
        repeat' (first
          | (refine ⟨fun c => ?_, fun c => ?_⟩ <;> (try simp (disch := omega) only [nI_leI, nI_ltI, nI_eq, nz_eq, nz_lt, nz_gt, nz_le, nz_ge, nz_00, nz_10, nz_n1, nI_add, pk_mul, pk_sub, nI_shl1, nI_or, nI_half2, nI_min2, la_put_eq, la_up, lr_same, lr_ne, lu_same, lu_ne, not_true_eq_false, not_false_eq_true] at c) <;> first | (exfalso; omega) | conv => whnf)
          | (refine ⟨_, rfl, by omega, ?_⟩; conv => whnf)
          | (refine ⟨_, rfl, rfl, rfl, by decide, by decide, ?_⟩; conv => whnf)
          | (refine ⟨_, by (simp (disch := omega) only [nI_leI, nI_ltI, nI_eq, nz_eq, nz_lt, nz_gt, nz_le, nz_ge, nz_00, nz_10, nz_n1, nI_add, pk_mul, pk_sub, nI_shl1, nI_or, nI_half2, nI_min2, la_put_eq, la_up, lr_same, lr_ne, lu_same, lu_ne, not_true_eq_false, not_false_eq_true]; rfl), by omega, ?_⟩; conv => whnf)
          | (refine And.intro (by first | assumption | decide) ?_; conv => whnf))
        all_goals (try simp (disch := omega) only [nI_leI, nI_ltI, nI_eq, nz_eq, nz_lt, nz_gt, nz_le, nz_ge, nz_00, nz_10, nz_n1, nI_add, pk_mul, pk_sub, nI_shl1, nI_or, nI_half2, nI_min2, la_put_eq, la_up, lr_same, lr_ne, lu_same, lu_ne, not_true_eq_false, not_false_eq_true])
        refine ⟨(i, sp_lives L d, _), ⟨rfl, rfl, la_put_at _ _ _, hwd, by omega⟩, fun v h' hq => ?_⟩
        obtain ⟨rfl, rfl⟩ := hq
        conv => whnf
        repeat' (first
          | (refine ⟨fun c => ?_, fun c => ?_⟩ <;> (try simp (disch := omega) only [nI_leI, nI_ltI, nI_eq, nz_eq, nz_lt, nz_gt, nz_le, nz_ge, nz_00, nz_10, nz_n1, nI_add, pk_mul, pk_sub, nI_shl1, nI_or, nI_half2, nI_min2, la_put_eq, la_up, lr_same, lr_ne, lu_same, lu_ne, not_true_eq_false, not_false_eq_true, la_put2] at c) <;> first | (exfalso; omega) | conv => whnf)
          | (refine ⟨_, rfl, by omega, ?_⟩; conv => whnf)
          | (refine ⟨_, rfl, rfl, rfl, by decide, by decide, ?_⟩; conv => whnf)
          | (refine ⟨_, by (simp (disch := omega) only [nI_leI, nI_ltI, nI_eq, nz_eq, nz_lt, nz_gt, nz_le, nz_ge, nz_00, nz_10, nz_n1, nI_add, pk_mul, pk_sub, nI_shl1, nI_or, nI_half2, nI_min2, la_put_eq, la_up, lr_same, lr_ne, lu_same, lu_ne, not_true_eq_false, not_false_eq_true, la_put2]; rfl), by omega, ?_⟩; conv => whnf)
          | (refine And.intro (by first | assumption | decide) ?_; conv => whnf))
        all_goals (try simp (disch := omega) only [nI_leI, nI_ltI, nI_eq, nz_eq, nz_lt, nz_gt, nz_le, nz_ge, nz_00, nz_10, nz_n1, nI_add, pk_mul, pk_sub, nI_shl1, nI_or, nI_half2, nI_min2, la_put_eq, la_up, lr_same, lr_ne, lu_same, lu_ne, not_true_eq_false, not_false_eq_true, la_put2])
        refine ih (d + 1) _ (by omega) rfl (fun x hx => ?_)
        rcases Nat.lt_or_ge x d with q | q
        · exact ha x q
        · have : x = d := by omega
          subst this
          exact hfb
      · conv => whnf
        repeat' (first
          | (refine ⟨fun c => ?_, fun c => ?_⟩ <;> (try simp (disch := omega) only [nI_leI, nI_ltI, nI_eq, nz_eq, nz_lt, nz_gt, nz_le, nz_ge, nz_00, nz_10, nz_n1, nI_add, pk_mul, pk_sub, nI_shl1, nI_or, nI_half2, nI_min2, la_put_eq, la_up, lr_same, lr_ne, lu_same, lu_ne, not_true_eq_false, not_false_eq_true] at c) <;> first | (exfalso; omega) | conv => whnf)
          | (refine ⟨_, rfl, by omega, ?_⟩; conv => whnf)
          | (refine ⟨_, rfl, rfl, rfl, by decide, by decide, ?_⟩; conv => whnf)
          | (refine ⟨_, by (simp (disch := omega) only [nI_leI, nI_ltI, nI_eq, nz_eq, nz_lt, nz_gt, nz_le, nz_ge, nz_00, nz_10, nz_n1, nI_add, pk_mul, pk_sub, nI_shl1, nI_or, nI_half2, nI_min2, la_put_eq, la_up, lr_same, lr_ne, lu_same, lu_ne, not_true_eq_false, not_false_eq_true]; rfl), by omega, ?_⟩; conv => whnf)
          | (refine And.intro (by first | assumption | decide) ?_; conv => whnf))
        all_goals (try simp (disch := omega) only [nI_leI, nI_ltI, nI_eq, nz_eq, nz_lt, nz_gt, nz_le, nz_ge, nz_00, nz_10, nz_n1, nI_add, pk_mul, pk_sub, nI_shl1, nI_or, nI_half2, nI_min2, la_put_eq, la_up, lr_same, lr_ne, lu_same, lu_ne, not_true_eq_false, not_false_eq_true])
        exact hret _ _ ⟨⟨_, hwd, rfl⟩, Or.inr ⟨fun q => hfb (q d (by omega)), rfl⟩⟩
  refine hK [(7, [0, 1, 2, 3])] 20 _ _ ?_
  conv => whnf
  repeat' (first
    | (refine ⟨fun c => ?_, fun c => ?_⟩ <;> (try simp (disch := omega) only [nI_leI, nI_ltI, nI_eq, nz_eq, nz_lt, nz_gt, nz_le, nz_ge, nz_00, nz_10, nz_n1, nI_add, pk_mul, pk_sub, nI_shl1, nI_or, nI_half2, nI_min2, la_put_eq, la_up, lr_same, lr_ne, lu_same, lu_ne, not_true_eq_false, not_false_eq_true] at c) <;> first | (exfalso; omega) | conv => whnf)
    | (refine ⟨_, rfl, by omega, ?_⟩; conv => whnf)
    | (refine ⟨_, rfl, rfl, rfl, by decide, by decide, ?_⟩; conv => whnf)
    | (refine ⟨_, by (simp (disch := omega) only [nI_leI, nI_ltI, nI_eq, nz_eq, nz_lt, nz_gt, nz_le, nz_ge, nz_00, nz_10, nz_n1, nI_add, pk_mul, pk_sub, nI_shl1, nI_or, nI_half2, nI_min2, la_put_eq, la_up, lr_same, lr_ne, lu_same, lu_ne, not_true_eq_false, not_false_eq_true]; rfl), by omega, ?_⟩; conv => whnf)
    | (refine And.intro (by first | assumption | decide) ?_; conv => whnf))
  all_goals (try simp (disch := omega) only [nI_leI, nI_ltI, nI_eq, nz_eq, nz_lt, nz_gt, nz_le, nz_ge, nz_00, nz_10, nz_n1, nI_add, pk_mul, pk_sub, nI_shl1, nI_or, nI_half2, nI_min2, la_put_eq, la_up, lr_same, lr_ne, lu_same, lu_ne, not_true_eq_false, not_false_eq_true])
  refine ⟨(m, S, h), ⟨rfl, rfl, hS, hSo⟩, fun v h' hq => ?_⟩
  obtain ⟨rfl, rfl⟩ := hq
  conv => whnf
  repeat' (first
    | (refine ⟨fun c => ?_, fun c => ?_⟩ <;> (try simp (disch := omega) only [nI_leI, nI_ltI, nI_eq, nz_eq, nz_lt, nz_gt, nz_le, nz_ge, nz_00, nz_10, nz_n1, nI_add, pk_mul, pk_sub, nI_shl1, nI_or, nI_half2, nI_min2, la_put_eq, la_up, lr_same, lr_ne, lu_same, lu_ne, not_true_eq_false, not_false_eq_true] at c) <;> first | (exfalso; omega) | conv => whnf)
    | (refine ⟨_, rfl, by omega, ?_⟩; conv => whnf)
    | (refine ⟨_, rfl, rfl, rfl, by decide, by decide, ?_⟩; conv => whnf)
    | (refine ⟨_, by (simp (disch := omega) only [nI_leI, nI_ltI, nI_eq, nz_eq, nz_lt, nz_gt, nz_le, nz_ge, nz_00, nz_10, nz_n1, nI_add, pk_mul, pk_sub, nI_shl1, nI_or, nI_half2, nI_min2, la_put_eq, la_up, lr_same, lr_ne, lu_same, lu_ne, not_true_eq_false, not_false_eq_true]; rfl), by omega, ?_⟩; conv => whnf)
    | (refine And.intro (by first | assumption | decide) ?_; conv => whnf))
  all_goals (try simp (disch := omega) only [nI_leI, nI_ltI, nI_eq, nz_eq, nz_lt, nz_gt, nz_le, nz_ge, nz_00, nz_10, nz_n1, nI_add, pk_mul, pk_sub, nI_shl1, nI_or, nI_half2, nI_min2, la_put_eq, la_up, lr_same, lr_ne, lu_same, lu_ne, not_true_eq_false, not_false_eq_true])
  exact loop (sp_mx (S 0) m + 1) 0 _ (by omega) (la_self hL).symm (fun x hx => by omega)
theorem M_X2_fits : pm_MT yX2_fits cX2_fits 4 3 3 P_X2_fits (pm_pi Q_X2_fits) := pm_met k_X2_fits (by decide) rfl (by
  rintro ⟨g0, g1, g2, g3, g4⟩ av h hp
  rw [hp.1]
  exact Nat.le_of_ble_eq_true rfl) pf_X2_fits
theorem rc_X2_fits : ∀ g av h, P_X2_fits g av h → ∃ i t, av = .inr (.inr (2, i, 0)) :: t := by
  rintro ⟨g0, g1, g2, g3, g4⟩ av h hp
  exact ⟨_, _, hp.1⟩
def se_put (h : pm_H) (m : Nat) (n f s b : Int32) : pm_H := pm_up (pm_up (pm_up (pm_up (pm_up h 2 0 1 m n) 2 0 2 m f) 2 0 3 m s) 2 0 4 m b) 2 0 0 0 (nI (m + 1))
def P_X2_add : Int32 × Int32 × Int32 × Int32 × Nat × pm_H → List pm_V → pm_H → Prop := fun g av h => match g with
  | (n, f, s, b, m, h0) => av = [vR 2 0 0, vI n, vI f, vI s, vI b] ∧ h = h0 ∧ h0 2 0 0 0 = nI m ∧ m ≤ 6 ∧ (b = 0 ∨ b = 1)
def Q_X2_add : Int32 × Int32 × Int32 × Int32 × Nat × pm_H → Int32 → pm_H → Prop := fun g r h => match g with
  | (n, f, s, b, m, h0) => (m < 6 ∧ r = nI 1 ∧ h = se_put h0 m n f s b) ∨ (6 ≤ m ∧ r = nI 0 ∧ h = h0)
def T_X2_add : List (Nat × pm_T) := [
  (0, i_al 0 1),
  (1, i_gi 2 0 4),
  (4, i_c (nI 6) 6),
  (6, i_iclt 11 9),
  (9, i_c (nI 0) 10),
  (10, i_zr),
  (11, i_al 0 12),
  (12, i_gr 2 (fun i => (2, i, 1)) 15),
  (15, i_al 0 16),
  (16, i_gi 2 0 19),
  (19, i_il 1 20),
  (20, i_ias 21),
  (21, i_al 0 22),
  (22, i_gr 2 (fun i => (2, i, 2)) 25),
  (25, i_al 0 26),
  (26, i_gi 2 0 29),
  (29, i_il 2 30),
  (30, i_ias 31),
  (31, i_al 0 32),
  (32, i_gr 2 (fun i => (2, i, 3)) 35),
  (35, i_al 0 36),
  (36, i_gi 2 0 39),
  (39, i_il 3 40),
  (40, i_ias 41),
  (41, i_al 0 42),
  (42, i_gr 2 (fun i => (2, i, 4)) 45),
  (45, i_al 0 46),
  (46, i_gi 2 0 49),
  (49, i_il 4 51),
  (51, i_zas 52),
  (52, i_al 0 53),
  (53, i_dup 54),
  (54, i_gi 2 0 57),
  (57, i_c (nI 1) 58),
  (58, i_iadd 59),
  (59, i_pi 2 0 62),
  (62, i_c (nI 1) 63),
  (63, i_zr)]
theorem k_X2_add : ∀ q ∈ T_X2_add, pm_sd RX2 cX2_add 5 1 3 q.1 q.2 := by
  unfold T_X2_add
  refine pm_cn (sd_aln (k := 0) (by decide +kernel) rfl rfl) ?_
  refine pm_cn (sd_gi cl2_ in2_ (by decide) (fun _ => rfl) fl_X2_25 (by decide +kernel) rfl) ?_
  refine pm_cn (sd_bipush (z := 6) (by decide +kernel) (by decide +kernel) rfl) ?_
  refine pm_cn (sd_iclt (off := 5) (by decide +kernel) (by decide) rfl) ?_
  refine pm_cn (sd_iconst (z := 0) (by decide +kernel) (by decide +kernel) rfl) ?_
  refine pm_cn (sd_zr (by decide +kernel)) ?_
  refine pm_cn (sd_aln (k := 0) (by decide +kernel) rfl rfl) ?_
  refine pm_cn (sd_gr cl2_ in2_ (j := 1) (by decide) (fun _ => rfl) fl_X2_9 (by decide +kernel) rfl) ?_
  refine pm_cn (sd_aln (k := 0) (by decide +kernel) rfl rfl) ?_
  refine pm_cn (sd_gi cl2_ in2_ (by decide) (fun _ => rfl) fl_X2_25 (by decide +kernel) rfl) ?_
  refine pm_cn (sd_iln (k := 1) (by decide +kernel) rfl rfl) ?_
  refine pm_cn (sd_ias (by decide +kernel) rfl) ?_
  refine pm_cn (sd_aln (k := 0) (by decide +kernel) rfl rfl) ?_
  refine pm_cn (sd_gr cl2_ in2_ (j := 2) (by decide) (fun _ => rfl) fl_X2_15 (by decide +kernel) rfl) ?_
  refine pm_cn (sd_aln (k := 0) (by decide +kernel) rfl rfl) ?_
  refine pm_cn (sd_gi cl2_ in2_ (by decide) (fun _ => rfl) fl_X2_25 (by decide +kernel) rfl) ?_
  refine pm_cn (sd_iln (k := 2) (by decide +kernel) rfl rfl) ?_
  refine pm_cn (sd_ias (by decide +kernel) rfl) ?_
  refine pm_cn (sd_aln (k := 0) (by decide +kernel) rfl rfl) ?_
  refine pm_cn (sd_gr cl2_ in2_ (j := 3) (by decide) (fun _ => rfl) fl_X2_18 (by decide +kernel) rfl) ?_
  refine pm_cn (sd_aln (k := 0) (by decide +kernel) rfl rfl) ?_
  refine pm_cn (sd_gi cl2_ in2_ (by decide) (fun _ => rfl) fl_X2_25 (by decide +kernel) rfl) ?_
  refine pm_cn (sd_iln (k := 3) (by decide +kernel) rfl rfl) ?_
  refine pm_cn (sd_ias (by decide +kernel) rfl) ?_
  refine pm_cn (sd_aln (k := 0) (by decide +kernel) rfl rfl) ?_
  refine pm_cn (sd_gr cl2_ in2_ (j := 4) (by decide) (fun _ => rfl) fl_X2_21 (by decide +kernel) rfl) ?_
  refine pm_cn (sd_aln (k := 0) (by decide +kernel) rfl rfl) ?_
  refine pm_cn (sd_gi cl2_ in2_ (by decide) (fun _ => rfl) fl_X2_25 (by decide +kernel) rfl) ?_
  refine pm_cn (sd_il (by decide +kernel) rfl) ?_
  refine pm_cn (sd_zas (by decide +kernel) rfl) ?_
  refine pm_cn (sd_aln (k := 0) (by decide +kernel) rfl rfl) ?_
  refine pm_cn (sd_dup (by decide +kernel) rfl) ?_
  refine pm_cn (sd_gi cl2_ in2_ (by decide) (fun _ => rfl) fl_X2_25 (by decide +kernel) rfl) ?_
  refine pm_cn (sd_iconst (z := 1) (by decide +kernel) (by decide +kernel) rfl) ?_
  refine pm_cn (sd_iadd (by decide +kernel) rfl) ?_
  refine pm_cn (sd_pi cl2_ in2_ tyX2 tyX2_ok nmX2 (by decide) (fun _ => rfl) rfl rfl fl_X2_25 (by decide +kernel) rfl) ?_
  refine pm_cn (sd_iconst (z := 1) (by decide +kernel) (by decide +kernel) rfl) ?_
  refine pm_cn (sd_zr (by decide +kernel)) ?_
  exact fun _ h => absurd h List.not_mem_nil
theorem pm_up_ne {h : pm_H} {c i s j c' i' s' j' : Nat} {v : Int32} (hn : ¬ (c' = c ∧ i' = i ∧ s' = s ∧ j' = j)) : pm_up h c i s j v c' i' s' j' = h c' i' s' j' := by simp [pm_up, hn]
theorem pm_up_eq {h : pm_H} {c i s j : Nat} {v : Int32} : pm_up h c i s j v c i s j = v := by simp [pm_up]
set_option maxHeartbeats 4000000 in
set_option maxRecDepth 100000 in
theorem pf_X2_add : pm_pf T_X2_add P_X2_add (pm_pi Q_X2_add) := by
  rintro ⟨n, f, s, b, m, h0⟩ av h K hK ⟨rfl, rfl, e0, hm, hb⟩ hret
  show K (some 0) ([(0, vR 2 0 0), (1, vI n), (2, vI f), (3, vI s), (4, vI b)], [], h)
  refine hK [] 60 _ _ ?_
  conv => whnf
  repeat' (first
    | (refine ⟨fun c => ?_, fun c => ?_⟩ <;> (try simp (disch := omega) only [nI_leI, nI_ltI, nI_eq, nz_eq, nz_lt, nz_gt, nz_le, nz_ge, nz_00, nz_10, nz_n1, nI_add, pk_mul, pk_sub, nI_shl1, nI_or, nI_half2, nI_min2, la_put_eq, la_up, lr_same, lr_ne, lu_same, lu_ne, not_true_eq_false, not_false_eq_true, e0, pm_up_ne] at c) <;> first | (exfalso; omega) | conv => whnf)
    | (refine ⟨_, rfl, by omega, ?_⟩; conv => whnf)
    | (refine ⟨_, rfl, rfl, rfl, by decide, by decide, ?_⟩; conv => whnf)
    | (refine ⟨_, by (simp (disch := omega) only [nI_leI, nI_ltI, nI_eq, nz_eq, nz_lt, nz_gt, nz_le, nz_ge, nz_00, nz_10, nz_n1, nI_add, pk_mul, pk_sub, nI_shl1, nI_or, nI_half2, nI_min2, la_put_eq, la_up, lr_same, lr_ne, lu_same, lu_ne, not_true_eq_false, not_false_eq_true, e0, pm_up_ne]; rfl), by omega, ?_⟩; conv => whnf)
    | (refine And.intro (by first | assumption | decide) ?_; conv => whnf))
  all_goals (try simp (disch := omega) only [nI_leI, nI_ltI, nI_eq, nz_eq, nz_lt, nz_gt, nz_le, nz_ge, nz_00, nz_10, nz_n1, nI_add, pk_mul, pk_sub, nI_shl1, nI_or, nI_half2, nI_min2, la_put_eq, la_up, lr_same, lr_ne, lu_same, lu_ne, not_true_eq_false, not_false_eq_true, e0, pm_up_ne])
  · refine hret _ _ ?_
    exact Or.inl ⟨by omega, rfl, rfl⟩
  · refine hret _ _ ?_
    exact Or.inr ⟨by omega, rfl, rfl⟩
theorem M_X2_add : pm_MT yX2_add cX2_add 5 3 1 P_X2_add (pm_pi Q_X2_add) := pm_met k_X2_add (by decide) rfl (by
  rintro ⟨g0, g1, g2, g3, g4, g5⟩ av h hp
  rw [hp.1]
  exact Nat.le_of_ble_eq_true rfl) pf_X2_add
theorem rc_X2_add : ∀ g av h, P_X2_add g av h → ∃ i t, av = .inr (.inr (2, i, 0)) :: t := by
  rintro ⟨g0, g1, g2, g3, g4, g5⟩ av h hp
  exact ⟨_, _, hp.1⟩
end
section
/-! BiscuitLore: what is tried out. -/
theorem la_at_ne {h : pm_H} {i k : Nat} {L M : LD} (hL : la_at h i L) (hk : i ≠ k) : la_at (la_put h k M) i L := fun s j => by rw [la_put_ne (by omega), hL]
def sp_asks (L : LD) : Nat → Nat
  | 0 => 0
  | n + 1 => sp_asks L n ||| sp_ans (sp_lives L n)
theorem sp_ans_lt {L : LD} (h : L 0 11 ≤ 6) : sp_ans L < 64 := by
  refine sp_or_lt (m := 6) (fun k hk => ?_)
  by_cases hc : L 7 k = L 0 10 ∧ sp_knowers L (L 8 k) ≠ 0
  · rw [if_pos hc]
    exact Nat.pow_lt_pow_right (by decide) (by omega)
  · rw [if_neg hc]; decide
theorem sp_asks_lt {L : LD} (h : L 0 11 ≤ 6) : ∀ n, sp_asks L n < 64
  | 0 => by show 0 < 64; decide
  | n + 1 => Nat.or_lt_two_pow (n := 6) (sp_asks_lt h n) (sp_ans_lt (by rw [sp_lives_s (by decide) (by decide) (by decide)]; exact h))
def P_X4_tryDays : Nat × LD × pm_H → List pm_V → pm_H → Prop := fun g av h => match g with
  | (n, L, h0) => av = [vR 4 0 0, vI (nI n)] ∧ h = h0 ∧ la_at h0 1 L ∧ la_ok L ∧ n ≤ 60 ∧ L 0 10 ≤ 4000
def Q_X4_tryDays : Nat × LD × pm_H → Int32 → pm_H → Prop := fun g r h => match g with
  | (n, L, h0) => h = la_put h0 1 (sp_lives L n) ∧ r = nI (sp_asks L n)
def T_X4_tryDays : List (Nat × pm_T) := [
  (0, i_c (nI 0) 1),
  (1, i_is 2 2),
  (2, i_c (nI 0) 3),
  (3, i_is 3 4),
  (4, i_il 3 5),
  (5, i_il 1 6),
  (6, i_icge 33 9),
  (9, i_il 2 10),
  (10, i_al 0 11),
  (11, i_gr 4 (fun _ => (0, 1, 0)) 14),
  (14, i_ci 1 P_X0_answers Q_X0_answers 17),
  (17, i_ior 18),
  (18, i_is 2 19),
  (19, i_al 0 20),
  (20, i_gr 4 (fun _ => (0, 1, 0)) 23),
  (23, i_ci 1 P_X0_live Q_X0_live 26),
  (26, i_pop 27),
  (27, i_inc 3 (nI 1) 30),
  (30, i_go 4),
  (33, i_il 2 34),
  (34, i_ir)]
theorem k_X4_tryDays : ∀ q ∈ T_X4_tryDays, pm_sd RX4 cX4_tryDays 4 3 1 q.1 q.2 := by
  unfold T_X4_tryDays
  refine pm_cn (sd_iconst (z := 0) (by decide +kernel) (by decide +kernel) rfl) ?_
  refine pm_cn (sd_isn (k := 2) (by decide +kernel) rfl rfl (by decide)) ?_
  refine pm_cn (sd_iconst (z := 0) (by decide +kernel) (by decide +kernel) rfl) ?_
  refine pm_cn (sd_isn (k := 3) (by decide +kernel) rfl rfl (by decide)) ?_
  refine pm_cn (sd_iln (k := 3) (by decide +kernel) rfl rfl) ?_
  refine pm_cn (sd_iln (k := 1) (by decide +kernel) rfl rfl) ?_
  refine pm_cn (sd_icge (off := 27) (by decide +kernel) (by decide) rfl) ?_
  refine pm_cn (sd_iln (k := 2) (by decide +kernel) rfl rfl) ?_
  refine pm_cn (sd_aln (k := 0) (by decide +kernel) rfl rfl) ?_
  refine pm_cn (sd_gr cl4_ in4_ (j := 2) (by decide) (fun _ => rfl) fl_X4_23 (by decide +kernel) rfl) ?_
  refine pm_cn (sd_civ M_X0_answers (by decide) cd_X0_answers rc_X0_answers cl0_ ml_X4_270 im_X0_answers se_X0_answers nt_X0 (by decide +kernel) (by decide) (by decide) (by decide +kernel) rfl) ?_
  refine pm_cn (sd_ior (by decide +kernel) rfl) ?_
  refine pm_cn (sd_isn (k := 2) (by decide +kernel) rfl rfl (by decide)) ?_
  refine pm_cn (sd_aln (k := 0) (by decide +kernel) rfl rfl) ?_
  refine pm_cn (sd_gr cl4_ in4_ (j := 2) (by decide) (fun _ => rfl) fl_X4_23 (by decide +kernel) rfl) ?_
  refine pm_cn (sd_civ M_X0_live (by decide) cd_X0_live rc_X0_live cl0_ ml_X4_176 im_X0_live se_X0_live nt_X0 (by decide +kernel) (by decide) (by decide) (by decide +kernel) rfl) ?_
  refine pm_cn (sd_pop (by decide +kernel) rfl) ?_
  refine pm_cn (sd_inc (z := 1) (by decide +kernel) (by decide +kernel) rfl (by decide)) ?_
  refine pm_cn (sd_go (off := -26) (by decide +kernel) (by decide)) ?_
  refine pm_cn (sd_iln (k := 2) (by decide +kernel) rfl rfl) ?_
  refine pm_cn (sd_ir (by decide +kernel)) ?_
  exact fun _ h => absurd h List.not_mem_nil
set_option maxHeartbeats 4000000 in
set_option maxRecDepth 100000 in
theorem pf_X4_tryDays : pm_pf T_X4_tryDays P_X4_tryDays (pm_pi Q_X4_tryDays) := by
  rintro ⟨N, L, h0⟩ av h K hK ⟨rfl, rfl, hL, hw, hN, hd⟩ hret
  show K (some 0) ([(0, vR 4 0 0), (1, vI (nI N))], [], h)
  have loop : ∀ n k a H, k + n = N → a = sp_asks L k → H = la_put h 1 (sp_lives L k) → K (some 4) ([(0, vR 4 0 0), (1, vI (nI N)), (2, vI (nI a)), (3, vI (nI k))], [], H) := by
    intro n
    induction n with
    | zero =>
      intro k a H hk ha hH
      refine hK [(4, [0, 1, 2, 3])] 40 _ _ ?_
      conv => whnf
      repeat' (first
        | (refine ⟨fun c => ?_, fun c => ?_⟩ <;> (try simp (disch := omega) only [nI_leI, nI_ltI, nI_eq, nz_eq, nz_lt, nz_gt, nz_le, nz_ge, nz_00, nz_10, nz_n1, nI_add, pk_mul, pk_sub, nI_shl1, nI_or, nI_half2, nI_min2, la_put_eq, la_up, lr_same, lr_ne, lu_same, lu_ne, not_true_eq_false, not_false_eq_true] at c) <;> first | (exfalso; omega) | conv => whnf)
        | (refine ⟨_, rfl, by omega, ?_⟩; conv => whnf)
        | (refine ⟨_, rfl, rfl, rfl, by decide, by decide, ?_⟩; conv => whnf)
        | (refine ⟨_, by (simp (disch := omega) only [nI_leI, nI_ltI, nI_eq, nz_eq, nz_lt, nz_gt, nz_le, nz_ge, nz_00, nz_10, nz_n1, nI_add, pk_mul, pk_sub, nI_shl1, nI_or, nI_half2, nI_min2, la_put_eq, la_up, lr_same, lr_ne, lu_same, lu_ne, not_true_eq_false, not_false_eq_true]; rfl), by omega, ?_⟩; conv => whnf)
        | (refine And.intro (by first | assumption | decide) ?_; conv => whnf))
      all_goals (try simp (disch := omega) only [nI_leI, nI_ltI, nI_eq, nz_eq, nz_lt, nz_gt, nz_le, nz_ge, nz_00, nz_10, nz_n1, nI_add, pk_mul, pk_sub, nI_shl1, nI_or, nI_half2, nI_min2, la_put_eq, la_up, lr_same, lr_ne, lu_same, lu_ne, not_true_eq_false, not_false_eq_true])
      have : k = N := by omega
      subst this
      subst hH ha
      exact hret _ _ ⟨rfl, rfl⟩
    | succ n ih =>
      intro k a H hk ha hH
      have hwk := la_ok_lives hw k (by omega)
      have hdk := sp_lives_day L k
      subst hH
      refine hK [(4, [0, 1, 2, 3])] 40 _ _ ?_
      conv => whnf
      repeat' (first
        | (refine ⟨fun c => ?_, fun c => ?_⟩ <;> (try simp (disch := omega) only [nI_leI, nI_ltI, nI_eq, nz_eq, nz_lt, nz_gt, nz_le, nz_ge, nz_00, nz_10, nz_n1, nI_add, pk_mul, pk_sub, nI_shl1, nI_or, nI_half2, nI_min2, la_put_eq, la_up, lr_same, lr_ne, lu_same, lu_ne, not_true_eq_false, not_false_eq_true] at c) <;> first | (exfalso; omega) | conv => whnf)
        | (refine ⟨_, rfl, by omega, ?_⟩; conv => whnf)
        | (refine ⟨_, rfl, rfl, rfl, by decide, by decide, ?_⟩; conv => whnf)
        | (refine ⟨_, by (simp (disch := omega) only [nI_leI, nI_ltI, nI_eq, nz_eq, nz_lt, nz_gt, nz_le, nz_ge, nz_00, nz_10, nz_n1, nI_add, pk_mul, pk_sub, nI_shl1, nI_or, nI_half2, nI_min2, la_put_eq, la_up, lr_same, lr_ne, lu_same, lu_ne, not_true_eq_false, not_false_eq_true]; rfl), by omega, ?_⟩; conv => whnf)
        | (refine And.intro (by first | assumption | decide) ?_; conv => whnf))
      all_goals (try simp (disch := omega) only [nI_leI, nI_ltI, nI_eq, nz_eq, nz_lt, nz_gt, nz_le, nz_ge, nz_00, nz_10, nz_n1, nI_add, pk_mul, pk_sub, nI_shl1, nI_or, nI_half2, nI_min2, la_put_eq, la_up, lr_same, lr_ne, lu_same, lu_ne, not_true_eq_false, not_false_eq_true])
      refine ⟨(1, sp_lives L k, _), ⟨rfl, rfl, la_put_at _ _ _, hwk⟩, fun v h' hq => ?_⟩
      obtain ⟨rfl, rfl⟩ := hq
      conv => whnf
      repeat' (first
        | (refine ⟨fun c => ?_, fun c => ?_⟩ <;> (try simp (disch := omega) only [nI_leI, nI_ltI, nI_eq, nz_eq, nz_lt, nz_gt, nz_le, nz_ge, nz_00, nz_10, nz_n1, nI_add, pk_mul, pk_sub, nI_shl1, nI_or, nI_half2, nI_min2, la_put_eq, la_up, lr_same, lr_ne, lu_same, lu_ne, not_true_eq_false, not_false_eq_true] at c) <;> first | (exfalso; omega) | conv => whnf)
        | (refine ⟨_, rfl, by omega, ?_⟩; conv => whnf)
        | (refine ⟨_, rfl, rfl, rfl, by decide, by decide, ?_⟩; conv => whnf)
        | (refine ⟨_, by (simp (disch := omega) only [nI_leI, nI_ltI, nI_eq, nz_eq, nz_lt, nz_gt, nz_le, nz_ge, nz_00, nz_10, nz_n1, nI_add, pk_mul, pk_sub, nI_shl1, nI_or, nI_half2, nI_min2, la_put_eq, la_up, lr_same, lr_ne, lu_same, lu_ne, not_true_eq_false, not_false_eq_true]; rfl), by omega, ?_⟩; conv => whnf)
        | (refine And.intro (by first | assumption | decide) ?_; conv => whnf))
      all_goals (try simp (disch := omega) only [nI_leI, nI_ltI, nI_eq, nz_eq, nz_lt, nz_gt, nz_le, nz_ge, nz_00, nz_10, nz_n1, nI_add, pk_mul, pk_sub, nI_shl1, nI_or, nI_half2, nI_min2, la_put_eq, la_up, lr_same, lr_ne, lu_same, lu_ne, not_true_eq_false, not_false_eq_true])
      refine ⟨(1, sp_lives L k, _), ⟨rfl, rfl, la_put_at _ _ _, hwk, by omega⟩, fun v h' hq => ?_⟩
      obtain ⟨rfl, rfl⟩ := hq
      conv => whnf
      repeat' (first
        | (refine ⟨fun c => ?_, fun c => ?_⟩ <;> (try simp (disch := omega) only [nI_leI, nI_ltI, nI_eq, nz_eq, nz_lt, nz_gt, nz_le, nz_ge, nz_00, nz_10, nz_n1, nI_add, pk_mul, pk_sub, nI_shl1, nI_or, nI_half2, nI_min2, la_put_eq, la_up, lr_same, lr_ne, lu_same, lu_ne, not_true_eq_false, not_false_eq_true, la_put2] at c) <;> first | (exfalso; omega) | conv => whnf)
        | (refine ⟨_, rfl, by omega, ?_⟩; conv => whnf)
        | (refine ⟨_, rfl, rfl, rfl, by decide, by decide, ?_⟩; conv => whnf)
        | (refine ⟨_, by (simp (disch := omega) only [nI_leI, nI_ltI, nI_eq, nz_eq, nz_lt, nz_gt, nz_le, nz_ge, nz_00, nz_10, nz_n1, nI_add, pk_mul, pk_sub, nI_shl1, nI_or, nI_half2, nI_min2, la_put_eq, la_up, lr_same, lr_ne, lu_same, lu_ne, not_true_eq_false, not_false_eq_true, la_put2]; rfl), by omega, ?_⟩; conv => whnf)
        | (refine And.intro (by first | assumption | decide) ?_; conv => whnf))
      all_goals (try simp (disch := omega) only [nI_leI, nI_ltI, nI_eq, nz_eq, nz_lt, nz_gt, nz_le, nz_ge, nz_00, nz_10, nz_n1, nI_add, pk_mul, pk_sub, nI_shl1, nI_or, nI_half2, nI_min2, la_put_eq, la_up, lr_same, lr_ne, lu_same, lu_ne, not_true_eq_false, not_false_eq_true, la_put2])
      exact ih (k + 1) _ _ (by omega) (by rw [sp_asks, ← ha]) rfl
  refine hK [(4, [0, 1, 2, 3])] 20 _ _ ?_
  conv => whnf
  repeat' (first
    | (refine ⟨fun c => ?_, fun c => ?_⟩ <;> (try simp (disch := omega) only [nI_leI, nI_ltI, nI_eq, nz_eq, nz_lt, nz_gt, nz_le, nz_ge, nz_00, nz_10, nz_n1, nI_add, pk_mul, pk_sub, nI_shl1, nI_or, nI_half2, nI_min2, la_put_eq, la_up, lr_same, lr_ne, lu_same, lu_ne, not_true_eq_false, not_false_eq_true] at c) <;> first | (exfalso; omega) | conv => whnf)
    | (refine ⟨_, rfl, by omega, ?_⟩; conv => whnf)
    | (refine ⟨_, rfl, rfl, rfl, by decide, by decide, ?_⟩; conv => whnf)
    | (refine ⟨_, by (simp (disch := omega) only [nI_leI, nI_ltI, nI_eq, nz_eq, nz_lt, nz_gt, nz_le, nz_ge, nz_00, nz_10, nz_n1, nI_add, pk_mul, pk_sub, nI_shl1, nI_or, nI_half2, nI_min2, la_put_eq, la_up, lr_same, lr_ne, lu_same, lu_ne, not_true_eq_false, not_false_eq_true]; rfl), by omega, ?_⟩; conv => whnf)
    | (refine And.intro (by first | assumption | decide) ?_; conv => whnf))
  all_goals (try simp (disch := omega) only [nI_leI, nI_ltI, nI_eq, nz_eq, nz_lt, nz_gt, nz_le, nz_ge, nz_00, nz_10, nz_n1, nI_add, pk_mul, pk_sub, nI_shl1, nI_or, nI_half2, nI_min2, la_put_eq, la_up, lr_same, lr_ne, lu_same, lu_ne, not_true_eq_false, not_false_eq_true])
  exact loop N 0 0 h (by omega) rfl (la_self hL).symm
theorem M_X4_tryDays : pm_MT yX4_tryDays cX4_tryDays 4 1 3 P_X4_tryDays (pm_pi Q_X4_tryDays) := pm_met k_X4_tryDays (by decide) rfl (by
  rintro ⟨g0, g1, g2⟩ av h hp
  rw [hp.1]
  exact Nat.le_of_ble_eq_true rfl) pf_X4_tryDays
theorem rc_X4_tryDays : ∀ g av h, P_X4_tryDays g av h → ∃ i t, av = .inr (.inr (4, i, 0)) :: t := by
  rintro ⟨g0, g1, g2⟩ av h hp
  exact ⟨_, _, hp.1⟩
def sp_cnt (L : LD) : Nat := sp_pop (sp_asks L 60)
def P_X4_countAnswered : LD × pm_H → List pm_V → pm_H → Prop := fun g av h => match g with
  | (L, h0) => av = [vR 4 0 0] ∧ h = h0 ∧ la_at h0 1 L ∧ la_ok L ∧ L 0 10 ≤ 4000
def Q_X4_countAnswered : LD × pm_H → Int32 → pm_H → Prop := fun g r h => match g with
  | (L, h0) => (∃ T, la_ok T ∧ h = la_put h0 1 T) ∧ r = nI (sp_cnt L)
def T_X4_countAnswered : List (Nat × pm_T) := [
  (0, i_al 0 1),
  (1, i_c (nI 60) 3),
  (3, i_ci 2 P_X4_tryDays Q_X4_tryDays 6),
  (6, i_ci 1 P_J6_bitCount_0f7a4 Q_J6_bitCount_0f7a4 9),
  (9, i_ir)]
theorem k_X4_countAnswered : ∀ q ∈ T_X4_countAnswered, pm_sd RX4 cX4_countAnswered 1 4 1 q.1 q.2 := by
  unfold T_X4_countAnswered
  refine pm_cn (sd_aln (k := 0) (by decide +kernel) rfl rfl) ?_
  refine pm_cn (sd_bipush (z := 60) (by decide +kernel) (by decide +kernel) rfl) ?_
  refine pm_cn (sd_civ M_X4_tryDays (by decide) cd_X4_tryDays rc_X4_tryDays cl4_ ml_X4_179 im_X4_tryDays se_X4_tryDays nt_X4 (by decide +kernel) (by decide) (by decide) (by decide +kernel) rfl) ?_
  refine pm_cn (sd_cis M_J6_bitCount_0f7a4 (by decide) cd_J6_bitCount_0f7a4 ml_X4_195 st_J6_bitCount_0f7a4 nt_J6 (by decide +kernel) (by decide) (by decide) (by decide +kernel) rfl) ?_
  refine pm_cn (sd_ir (by decide +kernel)) ?_
  exact fun _ h => absurd h List.not_mem_nil
set_option maxHeartbeats 4000000 in
set_option maxRecDepth 100000 in
theorem pf_X4_countAnswered : pm_pf T_X4_countAnswered P_X4_countAnswered (pm_pi Q_X4_countAnswered) := by
  rintro ⟨L, h0⟩ av h K hK ⟨rfl, rfl, hL, hw, hd⟩ hret
  show K (some 0) ([(0, vR 4 0 0)], [], h)
  refine hK [] 20 _ _ ?_
  conv => whnf
  repeat' (first
    | (refine ⟨fun c => ?_, fun c => ?_⟩ <;> (try simp (disch := omega) only [nI_leI, nI_ltI, nI_eq, nz_eq, nz_lt, nz_gt, nz_le, nz_ge, nz_00, nz_10, nz_n1, nI_add, pk_mul, pk_sub, nI_shl1, nI_or, nI_half2, nI_min2, la_put_eq, la_up, lr_same, lr_ne, lu_same, lu_ne, not_true_eq_false, not_false_eq_true] at c) <;> first | (exfalso; omega) | conv => whnf)
    | (refine ⟨_, rfl, by omega, ?_⟩; conv => whnf)
    | (refine ⟨_, rfl, rfl, rfl, by decide, by decide, ?_⟩; conv => whnf)
    | (refine ⟨_, by (simp (disch := omega) only [nI_leI, nI_ltI, nI_eq, nz_eq, nz_lt, nz_gt, nz_le, nz_ge, nz_00, nz_10, nz_n1, nI_add, pk_mul, pk_sub, nI_shl1, nI_or, nI_half2, nI_min2, la_put_eq, la_up, lr_same, lr_ne, lu_same, lu_ne, not_true_eq_false, not_false_eq_true]; rfl), by omega, ?_⟩; conv => whnf)
    | (refine And.intro (by first | assumption | decide) ?_; conv => whnf))
  all_goals (try simp (disch := omega) only [nI_leI, nI_ltI, nI_eq, nz_eq, nz_lt, nz_gt, nz_le, nz_ge, nz_00, nz_10, nz_n1, nI_add, pk_mul, pk_sub, nI_shl1, nI_or, nI_half2, nI_min2, la_put_eq, la_up, lr_same, lr_ne, lu_same, lu_ne, not_true_eq_false, not_false_eq_true])
  refine ⟨(60, L, h), ⟨rfl, rfl, hL, hw, by omega, hd⟩, fun v h' hq => ?_⟩
  obtain ⟨rfl, rfl⟩ := hq
  conv => whnf
  repeat' (first
    | (refine ⟨fun c => ?_, fun c => ?_⟩ <;> (try simp (disch := omega) only [nI_leI, nI_ltI, nI_eq, nz_eq, nz_lt, nz_gt, nz_le, nz_ge, nz_00, nz_10, nz_n1, nI_add, pk_mul, pk_sub, nI_shl1, nI_or, nI_half2, nI_min2, la_put_eq, la_up, lr_same, lr_ne, lu_same, lu_ne, not_true_eq_false, not_false_eq_true] at c) <;> first | (exfalso; omega) | conv => whnf)
    | (refine ⟨_, rfl, by omega, ?_⟩; conv => whnf)
    | (refine ⟨_, rfl, rfl, rfl, by decide, by decide, ?_⟩; conv => whnf)
    | (refine ⟨_, by (simp (disch := omega) only [nI_leI, nI_ltI, nI_eq, nz_eq, nz_lt, nz_gt, nz_le, nz_ge, nz_00, nz_10, nz_n1, nI_add, pk_mul, pk_sub, nI_shl1, nI_or, nI_half2, nI_min2, la_put_eq, la_up, lr_same, lr_ne, lu_same, lu_ne, not_true_eq_false, not_false_eq_true]; rfl), by omega, ?_⟩; conv => whnf)
    | (refine And.intro (by first | assumption | decide) ?_; conv => whnf))
  all_goals (try simp (disch := omega) only [nI_leI, nI_ltI, nI_eq, nz_eq, nz_lt, nz_gt, nz_le, nz_ge, nz_00, nz_10, nz_n1, nI_add, pk_mul, pk_sub, nI_shl1, nI_or, nI_half2, nI_min2, la_put_eq, la_up, lr_same, lr_ne, lu_same, lu_ne, not_true_eq_false, not_false_eq_true])
  have := sp_asks_lt hw.2.2.2.2.2.1 60
  refine ⟨(sp_asks L 60, _), ⟨rfl, rfl, by omega⟩, fun v h' hq => ?_⟩
  obtain ⟨rfl, rfl⟩ := hq
  conv => whnf
  repeat' (first
    | (refine ⟨fun c => ?_, fun c => ?_⟩ <;> (try simp (disch := omega) only [nI_leI, nI_ltI, nI_eq, nz_eq, nz_lt, nz_gt, nz_le, nz_ge, nz_00, nz_10, nz_n1, nI_add, pk_mul, pk_sub, nI_shl1, nI_or, nI_half2, nI_min2, la_put_eq, la_up, lr_same, lr_ne, lu_same, lu_ne, not_true_eq_false, not_false_eq_true] at c) <;> first | (exfalso; omega) | conv => whnf)
    | (refine ⟨_, rfl, by omega, ?_⟩; conv => whnf)
    | (refine ⟨_, rfl, rfl, rfl, by decide, by decide, ?_⟩; conv => whnf)
    | (refine ⟨_, by (simp (disch := omega) only [nI_leI, nI_ltI, nI_eq, nz_eq, nz_lt, nz_gt, nz_le, nz_ge, nz_00, nz_10, nz_n1, nI_add, pk_mul, pk_sub, nI_shl1, nI_or, nI_half2, nI_min2, la_put_eq, la_up, lr_same, lr_ne, lu_same, lu_ne, not_true_eq_false, not_false_eq_true]; rfl), by omega, ?_⟩; conv => whnf)
    | (refine And.intro (by first | assumption | decide) ?_; conv => whnf))
  all_goals (try simp (disch := omega) only [nI_leI, nI_ltI, nI_eq, nz_eq, nz_lt, nz_gt, nz_le, nz_ge, nz_00, nz_10, nz_n1, nI_add, pk_mul, pk_sub, nI_shl1, nI_or, nI_half2, nI_min2, la_put_eq, la_up, lr_same, lr_ne, lu_same, lu_ne, not_true_eq_false, not_false_eq_true])
  exact hret _ _ ⟨⟨_, la_ok_lives hw 60 (by omega), rfl⟩, rfl⟩
theorem M_X4_countAnswered : pm_MT yX4_countAnswered cX4_countAnswered 1 1 4 P_X4_countAnswered (pm_pi Q_X4_countAnswered) := pm_met k_X4_countAnswered (by decide) rfl (by
  rintro ⟨g0, g1⟩ av h hp
  rw [hp.1]
  exact Nat.le_of_ble_eq_true rfl) pf_X4_countAnswered
theorem rc_X4_countAnswered : ∀ g av h, P_X4_countAnswered g av h → ∃ i t, av = .inr (.inr (4, i, 0)) :: t := by
  rintro ⟨g0, g1⟩ av h hp
  exact ⟨_, _, hp.1⟩
def P_X4_isKnownBy : Nat × Nat × Nat × LD × LD × pm_H → List pm_V → pm_H → Prop := fun g av h => match g with
  | (b, x, n, N, T, h0) => av = [vR 4 0 0, vI (nI b), vI (nI x), vI (nI n)] ∧ h = h0 ∧ la_at h0 0 N ∧ la_at h0 1 T ∧ la_ok N ∧ la_ok T ∧ b < 6 ∧ x ≤ 99 ∧ n ≤ 60 ∧ N 0 10 ≤ 4000
def Q_X4_isKnownBy : Nat × Nat × Nat × LD × LD × pm_H → Int32 → pm_H → Prop := fun g r h => match g with
  | (b, x, n, N, T, h0) => (∃ T', la_ok T' ∧ h = la_put h0 1 T') ∧ ((sp_kn (sp_lives (lu N 5 b x) n) (N 6 b) (N 4 b) ∧ r = nI 1) ∨ (¬ sp_kn (sp_lives (lu N 5 b x) n) (N 6 b) (N 4 b) ∧ r = nI 0))
def T_X4_isKnownBy : List (Nat × pm_T) := [
  (0, i_al 0 1),
  (1, i_gr 4 (fun _ => (0, 1, 0)) 4),
  (4, i_al 0 5),
  (5, i_gr 4 (fun _ => (0, 0, 0)) 8),
  (8, i_cv 2 P_X0_take Q_X0_take 11),
  (11, i_al 0 12),
  (12, i_gr 4 (fun _ => (0, 1, 0)) 15),
  (15, i_gr 0 (fun i => (0, i, 5)) 18),
  (18, i_il 1 19),
  (19, i_il 2 20),
  (20, i_ias 21),
  (21, i_al 0 22),
  (22, i_il 3 23),
  (23, i_ci 2 P_X4_tryDays Q_X4_tryDays 26),
  (26, i_pop 27),
  (27, i_al 0 28),
  (28, i_gr 4 (fun _ => (0, 1, 0)) 31),
  (31, i_al 0 32),
  (32, i_gr 4 (fun _ => (0, 1, 0)) 35),
  (35, i_gr 0 (fun i => (0, i, 6)) 38),
  (38, i_il 1 39),
  (39, i_ia 40),
  (40, i_al 0 41),
  (41, i_gr 4 (fun _ => (0, 1, 0)) 44),
  (44, i_gr 0 (fun i => (0, i, 4)) 47),
  (47, i_il 1 48),
  (48, i_ia 49),
  (49, i_ci 3 P_X0_isKnower Q_X0_isKnower 52),
  (52, i_zr)]
theorem k_X4_isKnownBy : ∀ q ∈ T_X4_isKnownBy, pm_sd RX4 cX4_isKnownBy 4 4 3 q.1 q.2 := by
  unfold T_X4_isKnownBy
  refine pm_cn (sd_aln (k := 0) (by decide +kernel) rfl rfl) ?_
  refine pm_cn (sd_gr cl4_ in4_ (j := 2) (by decide) (fun _ => rfl) fl_X4_23 (by decide +kernel) rfl) ?_
  refine pm_cn (sd_aln (k := 0) (by decide +kernel) rfl rfl) ?_
  refine pm_cn (sd_gr cl4_ in4_ (j := 1) (by decide) (fun _ => rfl) fl_X4_19 (by decide +kernel) rfl) ?_
  refine pm_cn (sd_cvv M_X0_take cd_X0_take rc_X0_take cl0_ ml_X4_76 im_X0_take se_X0_take nt_X0 (by decide +kernel) (by decide) (by decide) (by decide +kernel) rfl) ?_
  refine pm_cn (sd_aln (k := 0) (by decide +kernel) rfl rfl) ?_
  refine pm_cn (sd_gr cl4_ in4_ (j := 2) (by decide) (fun _ => rfl) fl_X4_23 (by decide +kernel) rfl) ?_
  refine pm_cn (sd_gr cl0_ in0_ (j := 6) (by decide) (fun _ => rfl) fl_X4_140 (by decide +kernel) rfl) ?_
  refine pm_cn (sd_iln (k := 1) (by decide +kernel) rfl rfl) ?_
  refine pm_cn (sd_iln (k := 2) (by decide +kernel) rfl rfl) ?_
  refine pm_cn (sd_ias (by decide +kernel) rfl) ?_
  refine pm_cn (sd_aln (k := 0) (by decide +kernel) rfl rfl) ?_
  refine pm_cn (sd_iln (k := 3) (by decide +kernel) rfl rfl) ?_
  refine pm_cn (sd_civ M_X4_tryDays (by decide) cd_X4_tryDays rc_X4_tryDays cl4_ ml_X4_179 im_X4_tryDays se_X4_tryDays nt_X4 (by decide +kernel) (by decide) (by decide) (by decide +kernel) rfl) ?_
  refine pm_cn (sd_pop (by decide +kernel) rfl) ?_
  refine pm_cn (sd_aln (k := 0) (by decide +kernel) rfl rfl) ?_
  refine pm_cn (sd_gr cl4_ in4_ (j := 2) (by decide) (fun _ => rfl) fl_X4_23 (by decide +kernel) rfl) ?_
  refine pm_cn (sd_aln (k := 0) (by decide +kernel) rfl rfl) ?_
  refine pm_cn (sd_gr cl4_ in4_ (j := 2) (by decide) (fun _ => rfl) fl_X4_23 (by decide +kernel) rfl) ?_
  refine pm_cn (sd_gr cl0_ in0_ (j := 7) (by decide) (fun _ => rfl) fl_X4_143 (by decide +kernel) rfl) ?_
  refine pm_cn (sd_iln (k := 1) (by decide +kernel) rfl rfl) ?_
  refine pm_cn (sd_ia (by decide +kernel) rfl) ?_
  refine pm_cn (sd_aln (k := 0) (by decide +kernel) rfl rfl) ?_
  refine pm_cn (sd_gr cl4_ in4_ (j := 2) (by decide) (fun _ => rfl) fl_X4_23 (by decide +kernel) rfl) ?_
  refine pm_cn (sd_gr cl0_ in0_ (j := 5) (by decide) (fun _ => rfl) fl_X4_137 (by decide +kernel) rfl) ?_
  refine pm_cn (sd_iln (k := 1) (by decide +kernel) rfl rfl) ?_
  refine pm_cn (sd_ia (by decide +kernel) rfl) ?_
  refine pm_cn (sd_civ M_X0_isKnower (by decide) cd_X0_isKnower rc_X0_isKnower cl0_ ml_X4_273 im_X0_isKnower se_X0_isKnower nt_X0 (by decide +kernel) (by decide) (by decide) (by decide +kernel) rfl) ?_
  refine pm_cn (sd_zr (by decide +kernel)) ?_
  exact fun _ h => absurd h List.not_mem_nil
set_option maxHeartbeats 4000000 in
set_option maxRecDepth 100000 in
theorem pf_X4_isKnownBy : pm_pf T_X4_isKnownBy P_X4_isKnownBy (pm_pi Q_X4_isKnownBy) := by
  rintro ⟨b, x, n, N, T, h0⟩ av h K hK ⟨rfl, rfl, hN, hT, wN, wT, hb, hx, hn, hd⟩ hret
  show K (some 0) ([(0, vR 4 0 0), (1, vI (nI b)), (2, vI (nI x)), (3, vI (nI n))], [], h)
  have wX : la_ok (lu N 5 b x) := la_ok_lu wN (by unfold la_rel; omega) (by unfold la_bd; omega)
  have e10 : lu N 5 b x 0 10 = N 0 10 := lu_ne (by omega)
  have hB := (id wN).2.2.2.2.2.2.2.1 b hb
  refine hK [] 60 _ _ ?_
  conv => whnf
  repeat' (first
    | (refine ⟨fun c => ?_, fun c => ?_⟩ <;> (try simp (disch := omega) only [nI_leI, nI_ltI, nI_eq, nz_eq, nz_lt, nz_gt, nz_le, nz_ge, nz_00, nz_10, nz_n1, nI_add, pk_mul, pk_sub, nI_shl1, nI_or, nI_half2, nI_min2, la_put_eq, la_up, lr_same, lr_ne, lu_same, lu_ne, not_true_eq_false, not_false_eq_true] at c) <;> first | (exfalso; omega) | conv => whnf)
    | (refine ⟨_, rfl, by omega, ?_⟩; conv => whnf)
    | (refine ⟨_, rfl, rfl, rfl, by decide, by decide, ?_⟩; conv => whnf)
    | (refine ⟨_, by (simp (disch := omega) only [nI_leI, nI_ltI, nI_eq, nz_eq, nz_lt, nz_gt, nz_le, nz_ge, nz_00, nz_10, nz_n1, nI_add, pk_mul, pk_sub, nI_shl1, nI_or, nI_half2, nI_min2, la_put_eq, la_up, lr_same, lr_ne, lu_same, lu_ne, not_true_eq_false, not_false_eq_true]; rfl), by omega, ?_⟩; conv => whnf)
    | (refine And.intro (by first | assumption | decide) ?_; conv => whnf))
  all_goals (try simp (disch := omega) only [nI_leI, nI_ltI, nI_eq, nz_eq, nz_lt, nz_gt, nz_le, nz_ge, nz_00, nz_10, nz_n1, nI_add, pk_mul, pk_sub, nI_shl1, nI_or, nI_half2, nI_min2, la_put_eq, la_up, lr_same, lr_ne, lu_same, lu_ne, not_true_eq_false, not_false_eq_true])
  refine ⟨(1, 0, T, N, h), ⟨rfl, rfl, hT, hN, wT, wN, by decide⟩, fun h' hq => ?_⟩
  have hq : h' = la_put h 1 N := hq
  subst hq
  conv => whnf
  repeat' (first
    | (refine ⟨fun c => ?_, fun c => ?_⟩ <;> (try simp (disch := omega) only [nI_leI, nI_ltI, nI_eq, nz_eq, nz_lt, nz_gt, nz_le, nz_ge, nz_00, nz_10, nz_n1, nI_add, pk_mul, pk_sub, nI_shl1, nI_or, nI_half2, nI_min2, la_put_eq, la_up, lr_same, lr_ne, lu_same, lu_ne, not_true_eq_false, not_false_eq_true] at c) <;> first | (exfalso; omega) | conv => whnf)
    | (refine ⟨_, rfl, by omega, ?_⟩; conv => whnf)
    | (refine ⟨_, rfl, rfl, rfl, by decide, by decide, ?_⟩; conv => whnf)
    | (refine ⟨_, by (simp (disch := omega) only [nI_leI, nI_ltI, nI_eq, nz_eq, nz_lt, nz_gt, nz_le, nz_ge, nz_00, nz_10, nz_n1, nI_add, pk_mul, pk_sub, nI_shl1, nI_or, nI_half2, nI_min2, la_put_eq, la_up, lr_same, lr_ne, lu_same, lu_ne, not_true_eq_false, not_false_eq_true]; rfl), by omega, ?_⟩; conv => whnf)
    | (refine And.intro (by first | assumption | decide) ?_; conv => whnf))
  all_goals (try simp (disch := omega) only [nI_leI, nI_ltI, nI_eq, nz_eq, nz_lt, nz_gt, nz_le, nz_ge, nz_00, nz_10, nz_n1, nI_add, pk_mul, pk_sub, nI_shl1, nI_or, nI_half2, nI_min2, la_put_eq, la_up, lr_same, lr_ne, lu_same, lu_ne, not_true_eq_false, not_false_eq_true])
  refine ⟨(n, lu N 5 b x, _), ⟨rfl, rfl, ?_, wX, hn, by omega⟩, fun v h' hq => ?_⟩
  · exact la_put_at _ _ _
  obtain ⟨rfl, rfl⟩ := hq
  have e6 : sp_lives (lu N 5 b x) n 6 b = N 6 b := by rw [sp_lives_s (by decide) (by decide) (by omega), lu_ne (by omega)]
  have e4 : sp_lives (lu N 5 b x) n 4 b = N 4 b := by rw [sp_lives_s (by decide) (by decide) (by omega), lu_ne (by omega)]
  have wl := la_ok_lives wX n (by omega)
  conv => whnf
  repeat' (first
    | (refine ⟨fun c => ?_, fun c => ?_⟩ <;> (try simp (disch := omega) only [nI_leI, nI_ltI, nI_eq, nz_eq, nz_lt, nz_gt, nz_le, nz_ge, nz_00, nz_10, nz_n1, nI_add, pk_mul, pk_sub, nI_shl1, nI_or, nI_half2, nI_min2, la_put_eq, la_up, lr_same, lr_ne, lu_same, lu_ne, not_true_eq_false, not_false_eq_true, e6, e4] at c) <;> first | (exfalso; omega) | conv => whnf)
    | (refine ⟨_, rfl, by omega, ?_⟩; conv => whnf)
    | (refine ⟨_, rfl, rfl, rfl, by decide, by decide, ?_⟩; conv => whnf)
    | (refine ⟨_, by (simp (disch := omega) only [nI_leI, nI_ltI, nI_eq, nz_eq, nz_lt, nz_gt, nz_le, nz_ge, nz_00, nz_10, nz_n1, nI_add, pk_mul, pk_sub, nI_shl1, nI_or, nI_half2, nI_min2, la_put_eq, la_up, lr_same, lr_ne, lu_same, lu_ne, not_true_eq_false, not_false_eq_true, e6, e4]; rfl), by omega, ?_⟩; conv => whnf)
    | (refine And.intro (by first | assumption | decide) ?_; conv => whnf))
  all_goals (try simp (disch := omega) only [nI_leI, nI_ltI, nI_eq, nz_eq, nz_lt, nz_gt, nz_le, nz_ge, nz_00, nz_10, nz_n1, nI_add, pk_mul, pk_sub, nI_shl1, nI_or, nI_half2, nI_min2, la_put_eq, la_up, lr_same, lr_ne, lu_same, lu_ne, not_true_eq_false, not_false_eq_true, e6, e4])
  refine ⟨(1, N 6 b, N 4 b, sp_lives (lu N 5 b x) n, _), ⟨rfl, rfl, la_put_at _ _ _, wl, by omega, by omega⟩, fun v h' hq => ?_⟩
  obtain ⟨rfl, hq⟩ := hq
  rcases hq with ⟨hk, rfl⟩ | ⟨hk, rfl⟩
  · conv => whnf
    repeat' (first
      | (refine ⟨fun c => ?_, fun c => ?_⟩ <;> (try simp (disch := omega) only [nI_leI, nI_ltI, nI_eq, nz_eq, nz_lt, nz_gt, nz_le, nz_ge, nz_00, nz_10, nz_n1, nI_add, pk_mul, pk_sub, nI_shl1, nI_or, nI_half2, nI_min2, la_put_eq, la_up, lr_same, lr_ne, lu_same, lu_ne, not_true_eq_false, not_false_eq_true, la_put2] at c) <;> first | (exfalso; omega) | conv => whnf)
      | (refine ⟨_, rfl, by omega, ?_⟩; conv => whnf)
      | (refine ⟨_, rfl, rfl, rfl, by decide, by decide, ?_⟩; conv => whnf)
      | (refine ⟨_, by (simp (disch := omega) only [nI_leI, nI_ltI, nI_eq, nz_eq, nz_lt, nz_gt, nz_le, nz_ge, nz_00, nz_10, nz_n1, nI_add, pk_mul, pk_sub, nI_shl1, nI_or, nI_half2, nI_min2, la_put_eq, la_up, lr_same, lr_ne, lu_same, lu_ne, not_true_eq_false, not_false_eq_true, la_put2]; rfl), by omega, ?_⟩; conv => whnf)
      | (refine And.intro (by first | assumption | decide) ?_; conv => whnf))
    all_goals (try simp (disch := omega) only [nI_leI, nI_ltI, nI_eq, nz_eq, nz_lt, nz_gt, nz_le, nz_ge, nz_00, nz_10, nz_n1, nI_add, pk_mul, pk_sub, nI_shl1, nI_or, nI_half2, nI_min2, la_put_eq, la_up, lr_same, lr_ne, lu_same, lu_ne, not_true_eq_false, not_false_eq_true, la_put2])
    exact hret _ _ ⟨⟨_, wl, rfl⟩, Or.inl ⟨hk, rfl⟩⟩
  · conv => whnf
    repeat' (first
      | (refine ⟨fun c => ?_, fun c => ?_⟩ <;> (try simp (disch := omega) only [nI_leI, nI_ltI, nI_eq, nz_eq, nz_lt, nz_gt, nz_le, nz_ge, nz_00, nz_10, nz_n1, nI_add, pk_mul, pk_sub, nI_shl1, nI_or, nI_half2, nI_min2, la_put_eq, la_up, lr_same, lr_ne, lu_same, lu_ne, not_true_eq_false, not_false_eq_true, la_put2] at c) <;> first | (exfalso; omega) | conv => whnf)
      | (refine ⟨_, rfl, by omega, ?_⟩; conv => whnf)
      | (refine ⟨_, rfl, rfl, rfl, by decide, by decide, ?_⟩; conv => whnf)
      | (refine ⟨_, by (simp (disch := omega) only [nI_leI, nI_ltI, nI_eq, nz_eq, nz_lt, nz_gt, nz_le, nz_ge, nz_00, nz_10, nz_n1, nI_add, pk_mul, pk_sub, nI_shl1, nI_or, nI_half2, nI_min2, la_put_eq, la_up, lr_same, lr_ne, lu_same, lu_ne, not_true_eq_false, not_false_eq_true, la_put2]; rfl), by omega, ?_⟩; conv => whnf)
      | (refine And.intro (by first | assumption | decide) ?_; conv => whnf))
    all_goals (try simp (disch := omega) only [nI_leI, nI_ltI, nI_eq, nz_eq, nz_lt, nz_gt, nz_le, nz_ge, nz_00, nz_10, nz_n1, nI_add, pk_mul, pk_sub, nI_shl1, nI_or, nI_half2, nI_min2, la_put_eq, la_up, lr_same, lr_ne, lu_same, lu_ne, not_true_eq_false, not_false_eq_true, la_put2])
    exact hret _ _ ⟨⟨_, wl, rfl⟩, Or.inr ⟨hk, rfl⟩⟩
theorem M_X4_isKnownBy : pm_MT yX4_isKnownBy cX4_isKnownBy 4 3 4 P_X4_isKnownBy (pm_pi Q_X4_isKnownBy) := pm_met k_X4_isKnownBy (by decide) rfl (by
  rintro ⟨g0, g1, g2, g3, g4, g5⟩ av h hp
  rw [hp.1]
  exact Nat.le_of_ble_eq_true rfl) pf_X4_isKnownBy
theorem rc_X4_isKnownBy : ∀ g av h, P_X4_isKnownBy g av h → ∃ i t, av = .inr (.inr (4, i, 0)) :: t := by
  rintro ⟨g0, g1, g2, g3, g4, g5⟩ av h hp
  exact ⟨_, _, hp.1⟩
noncomputable def sp_c (p : Prop) (v : Nat) : Nat := @ite Nat p (Classical.propDecidable p) v 0
theorem sp_c_t {p : Prop} {v : Nat} (h : p) : sp_c p v = v := by unfold sp_c; rw [if_pos h]
theorem sp_c_f {p : Prop} {v : Nat} (h : ¬ p) : sp_c p v = 0 := by unfold sp_c; rw [if_neg h]
noncomputable def sp_kinds (N : LD) (m : Nat) (S : LD) (b : Nat) : Nat := sp_or (fun k => sp_c (sp_fits (lu N 3 b k) m S) (2 ^ k)) 4
def P_X4_kindsLeft : Nat × LD × LD × Nat × LD × pm_H → List pm_V → pm_H → Prop := fun g av h => match g with
  | (b, N, T, m, S, h0) => av = [vR 4 0 0, vI (nI b)] ∧ h = h0 ∧ la_at h0 0 N ∧ la_at h0 1 T ∧ la_ok N ∧ la_ok T ∧ se_at h0 m S ∧ se_ok m S ∧ b < 6 ∧ N 0 10 ≤ 4000
def Q_X4_kindsLeft : Nat × LD × LD × Nat × LD × pm_H → Int32 → pm_H → Prop := fun g r h => match g with
  | (b, N, T, m, S, h0) => (∃ T', la_ok T' ∧ h = la_put h0 1 T') ∧ r = nI (sp_kinds N m S b)
def T_X4_kindsLeft : List (Nat × pm_T) := [
  (0, i_c (nI 0) 1),
  (1, i_is 2 2),
  (2, i_c (nI 0) 3),
  (3, i_is 3 4),
  (4, i_il 3 5),
  (5, i_c (nI 3) 6),
  (6, i_icgt 56 9),
  (9, i_al 0 10),
  (10, i_gr 4 (fun _ => (0, 1, 0)) 13),
  (13, i_al 0 14),
  (14, i_gr 4 (fun _ => (0, 0, 0)) 17),
  (17, i_cv 2 P_X0_take Q_X0_take 20),
  (20, i_al 0 21),
  (21, i_gr 4 (fun _ => (0, 1, 0)) 24),
  (24, i_gr 0 (fun i => (0, i, 3)) 27),
  (27, i_il 1 28),
  (28, i_il 3 29),
  (29, i_ias 30),
  (30, i_al 0 31),
  (31, i_gr 4 (fun _ => (2, 0, 0)) 34),
  (34, i_al 0 35),
  (35, i_gr 4 (fun _ => (0, 1, 0)) 38),
  (38, i_ci 2 P_X2_fits Q_X2_fits 41),
  (41, i_ifeq 50 44),
  (44, i_il 2 45),
  (45, i_c (nI 1) 46),
  (46, i_il 3 47),
  (47, i_ishl 48),
  (48, i_ior 49),
  (49, i_is 2 50),
  (50, i_inc 3 (nI 1) 53),
  (53, i_go 4),
  (56, i_il 2 57),
  (57, i_ir)]
theorem k_X4_kindsLeft : ∀ q ∈ T_X4_kindsLeft, pm_sd RX4 cX4_kindsLeft 4 4 1 q.1 q.2 := by
  unfold T_X4_kindsLeft
  refine pm_cn (sd_iconst (z := 0) (by decide +kernel) (by decide +kernel) rfl) ?_
  refine pm_cn (sd_isn (k := 2) (by decide +kernel) rfl rfl (by decide)) ?_
  refine pm_cn (sd_iconst (z := 0) (by decide +kernel) (by decide +kernel) rfl) ?_
  refine pm_cn (sd_isn (k := 3) (by decide +kernel) rfl rfl (by decide)) ?_
  refine pm_cn (sd_iln (k := 3) (by decide +kernel) rfl rfl) ?_
  refine pm_cn (sd_iconst (z := 3) (by decide +kernel) (by decide +kernel) rfl) ?_
  refine pm_cn (sd_icgt (off := 50) (by decide +kernel) (by decide) rfl) ?_
  refine pm_cn (sd_aln (k := 0) (by decide +kernel) rfl rfl) ?_
  refine pm_cn (sd_gr cl4_ in4_ (j := 2) (by decide) (fun _ => rfl) fl_X4_23 (by decide +kernel) rfl) ?_
  refine pm_cn (sd_aln (k := 0) (by decide +kernel) rfl rfl) ?_
  refine pm_cn (sd_gr cl4_ in4_ (j := 1) (by decide) (fun _ => rfl) fl_X4_19 (by decide +kernel) rfl) ?_
  refine pm_cn (sd_cvv M_X0_take cd_X0_take rc_X0_take cl0_ ml_X4_76 im_X0_take se_X0_take nt_X0 (by decide +kernel) (by decide) (by decide) (by decide +kernel) rfl) ?_
  refine pm_cn (sd_aln (k := 0) (by decide +kernel) rfl rfl) ?_
  refine pm_cn (sd_gr cl4_ in4_ (j := 2) (by decide) (fun _ => rfl) fl_X4_23 (by decide +kernel) rfl) ?_
  refine pm_cn (sd_gr cl0_ in0_ (j := 4) (by decide) (fun _ => rfl) fl_X4_134 (by decide +kernel) rfl) ?_
  refine pm_cn (sd_iln (k := 1) (by decide +kernel) rfl rfl) ?_
  refine pm_cn (sd_iln (k := 3) (by decide +kernel) rfl rfl) ?_
  refine pm_cn (sd_ias (by decide +kernel) rfl) ?_
  refine pm_cn (sd_aln (k := 0) (by decide +kernel) rfl rfl) ?_
  refine pm_cn (sd_gr cl4_ in4_ (j := 5) (by decide) (fun _ => rfl) fl_X4_37 (by decide +kernel) rfl) ?_
  refine pm_cn (sd_aln (k := 0) (by decide +kernel) rfl rfl) ?_
  refine pm_cn (sd_gr cl4_ in4_ (j := 2) (by decide) (fun _ => rfl) fl_X4_23 (by decide +kernel) rfl) ?_
  refine pm_cn (sd_civ M_X2_fits (by decide) cd_X2_fits rc_X2_fits cl2_ ml_X4_224 im_X2_fits se_X2_fits nt_X2 (by decide +kernel) (by decide) (by decide) (by decide +kernel) rfl) ?_
  refine pm_cn (sd_ifeq (off := 9) (by decide +kernel) (by decide) rfl) ?_
  refine pm_cn (sd_iln (k := 2) (by decide +kernel) rfl rfl) ?_
  refine pm_cn (sd_iconst (z := 1) (by decide +kernel) (by decide +kernel) rfl) ?_
  refine pm_cn (sd_iln (k := 3) (by decide +kernel) rfl rfl) ?_
  refine pm_cn (sd_ishl (by decide +kernel) rfl) ?_
  refine pm_cn (sd_ior (by decide +kernel) rfl) ?_
  refine pm_cn (sd_isn (k := 2) (by decide +kernel) rfl rfl (by decide)) ?_
  refine pm_cn (sd_inc (z := 1) (by decide +kernel) (by decide +kernel) rfl (by decide)) ?_
  refine pm_cn (sd_go (off := -49) (by decide +kernel) (by decide)) ?_
  refine pm_cn (sd_iln (k := 2) (by decide +kernel) rfl rfl) ?_
  refine pm_cn (sd_ir (by decide +kernel)) ?_
  exact fun _ h => absurd h List.not_mem_nil
set_option maxHeartbeats 4000000 in
set_option maxRecDepth 100000 in
theorem pf_X4_kindsLeft : pm_pf T_X4_kindsLeft P_X4_kindsLeft (pm_pi Q_X4_kindsLeft) := by
  rintro ⟨b, N, T, m, S, h0⟩ av h K hK ⟨rfl, rfl, hN, hT, wN, wT, hS, hSo, hb, hd⟩ hret
  show K (some 0) ([(0, vR 4 0 0), (1, vI (nI b))], [], h)
  have loop : ∀ n k a X, k + n = 4 → a = sp_or (fun k => sp_c (sp_fits (lu N 3 b k) m S) (2 ^ k)) k → la_ok X → K (some 4) ([(0, vR 4 0 0), (1, vI (nI b)), (2, vI (nI a)), (3, vI (nI k))], [], la_put h 1 X) := by
    intro n
    induction n with
    | zero =>
      intro k a X hk ha wX
      refine hK [(4, [0, 1, 2, 3])] 40 _ _ ?_
      conv => whnf
      repeat' (first
        | (refine ⟨fun c => ?_, fun c => ?_⟩ <;> (try simp (disch := omega) only [nI_leI, nI_ltI, nI_eq, nz_eq, nz_lt, nz_gt, nz_le, nz_ge, nz_00, nz_10, nz_n1, nI_add, pk_mul, pk_sub, nI_shl1, nI_or, nI_half2, nI_min2, la_put_eq, la_up, lr_same, lr_ne, lu_same, lu_ne, not_true_eq_false, not_false_eq_true] at c) <;> first | (exfalso; omega) | conv => whnf)
        | (refine ⟨_, rfl, by omega, ?_⟩; conv => whnf)
        | (refine ⟨_, rfl, rfl, rfl, by decide, by decide, ?_⟩; conv => whnf)
        | (refine ⟨_, by (simp (disch := omega) only [nI_leI, nI_ltI, nI_eq, nz_eq, nz_lt, nz_gt, nz_le, nz_ge, nz_00, nz_10, nz_n1, nI_add, pk_mul, pk_sub, nI_shl1, nI_or, nI_half2, nI_min2, la_put_eq, la_up, lr_same, lr_ne, lu_same, lu_ne, not_true_eq_false, not_false_eq_true]; rfl), by omega, ?_⟩; conv => whnf)
        | (refine And.intro (by first | assumption | decide) ?_; conv => whnf))
      all_goals (try simp (disch := omega) only [nI_leI, nI_ltI, nI_eq, nz_eq, nz_lt, nz_gt, nz_le, nz_ge, nz_00, nz_10, nz_n1, nI_add, pk_mul, pk_sub, nI_shl1, nI_or, nI_half2, nI_min2, la_put_eq, la_up, lr_same, lr_ne, lu_same, lu_ne, not_true_eq_false, not_false_eq_true])
      have : k = 4 := by omega
      subst this
      exact hret _ _ ⟨⟨X, wX, rfl⟩, by rw [ha]; rfl⟩
    | succ n ih =>
      intro k a X hk ha wX
      have wK : la_ok (lu N 3 b k) := la_ok_lu wN (by unfold la_rel; omega) (by unfold la_bd; omega)
      have e10 : lu N 3 b k 0 10 = N 0 10 := lu_ne (by omega)
      refine hK [(4, [0, 1, 2, 3])] 40 _ _ ?_
      conv => whnf
      repeat' (first
        | (refine ⟨fun c => ?_, fun c => ?_⟩ <;> (try simp (disch := omega) only [nI_leI, nI_ltI, nI_eq, nz_eq, nz_lt, nz_gt, nz_le, nz_ge, nz_00, nz_10, nz_n1, nI_add, pk_mul, pk_sub, nI_shl1, nI_or, nI_half2, nI_min2, la_put_eq, la_up, lr_same, lr_ne, lu_same, lu_ne, not_true_eq_false, not_false_eq_true] at c) <;> first | (exfalso; omega) | conv => whnf)
        | (refine ⟨_, rfl, by omega, ?_⟩; conv => whnf)
        | (refine ⟨_, rfl, rfl, rfl, by decide, by decide, ?_⟩; conv => whnf)
        | (refine ⟨_, by (simp (disch := omega) only [nI_leI, nI_ltI, nI_eq, nz_eq, nz_lt, nz_gt, nz_le, nz_ge, nz_00, nz_10, nz_n1, nI_add, pk_mul, pk_sub, nI_shl1, nI_or, nI_half2, nI_min2, la_put_eq, la_up, lr_same, lr_ne, lu_same, lu_ne, not_true_eq_false, not_false_eq_true]; rfl), by omega, ?_⟩; conv => whnf)
        | (refine And.intro (by first | assumption | decide) ?_; conv => whnf))
      all_goals (try simp (disch := omega) only [nI_leI, nI_ltI, nI_eq, nz_eq, nz_lt, nz_gt, nz_le, nz_ge, nz_00, nz_10, nz_n1, nI_add, pk_mul, pk_sub, nI_shl1, nI_or, nI_half2, nI_min2, la_put_eq, la_up, lr_same, lr_ne, lu_same, lu_ne, not_true_eq_false, not_false_eq_true])
      refine ⟨(1, 0, X, N, _), ⟨rfl, rfl, la_put_at _ _ _, la_at_ne hN (by decide), wX, wN, by decide⟩, fun h' hq => ?_⟩
      have hq : h' = la_put (la_put h 1 X) 1 N := hq
      rw [la_put2] at hq
      subst hq
      conv => whnf
      repeat' (first
        | (refine ⟨fun c => ?_, fun c => ?_⟩ <;> (try simp (disch := omega) only [nI_leI, nI_ltI, nI_eq, nz_eq, nz_lt, nz_gt, nz_le, nz_ge, nz_00, nz_10, nz_n1, nI_add, pk_mul, pk_sub, nI_shl1, nI_or, nI_half2, nI_min2, la_put_eq, la_up, lr_same, lr_ne, lu_same, lu_ne, not_true_eq_false, not_false_eq_true] at c) <;> first | (exfalso; omega) | conv => whnf)
        | (refine ⟨_, rfl, by omega, ?_⟩; conv => whnf)
        | (refine ⟨_, rfl, rfl, rfl, by decide, by decide, ?_⟩; conv => whnf)
        | (refine ⟨_, by (simp (disch := omega) only [nI_leI, nI_ltI, nI_eq, nz_eq, nz_lt, nz_gt, nz_le, nz_ge, nz_00, nz_10, nz_n1, nI_add, pk_mul, pk_sub, nI_shl1, nI_or, nI_half2, nI_min2, la_put_eq, la_up, lr_same, lr_ne, lu_same, lu_ne, not_true_eq_false, not_false_eq_true]; rfl), by omega, ?_⟩; conv => whnf)
        | (refine And.intro (by first | assumption | decide) ?_; conv => whnf))
      all_goals (try simp (disch := omega) only [nI_leI, nI_ltI, nI_eq, nz_eq, nz_lt, nz_gt, nz_le, nz_ge, nz_00, nz_10, nz_n1, nI_add, pk_mul, pk_sub, nI_shl1, nI_or, nI_half2, nI_min2, la_put_eq, la_up, lr_same, lr_ne, lu_same, lu_ne, not_true_eq_false, not_false_eq_true])
      refine ⟨(1, lu N 3 b k, m, S, _), ⟨rfl, rfl, ?_, wK, ?_, hSo, by omega⟩, fun v h' hq => ?_⟩
      · exact la_put_at _ _ _
      · exact se_at_put hS
      obtain ⟨⟨T', wT', rfl⟩, ⟨hf, rfl⟩ | ⟨hf, rfl⟩⟩ := hq
      · conv => whnf
        repeat' (first
          | (refine ⟨fun c => ?_, fun c => ?_⟩ <;> (try simp (disch := omega) only [nI_leI, nI_ltI, nI_eq, nz_eq, nz_lt, nz_gt, nz_le, nz_ge, nz_00, nz_10, nz_n1, nI_add, pk_mul, pk_sub, nI_shl1, nI_or, nI_half2, nI_min2, la_put_eq, la_up, lr_same, lr_ne, lu_same, lu_ne, not_true_eq_false, not_false_eq_true, la_put2] at c) <;> first | (exfalso; omega) | conv => whnf)
          | (refine ⟨_, rfl, by omega, ?_⟩; conv => whnf)
          | (refine ⟨_, rfl, rfl, rfl, by decide, by decide, ?_⟩; conv => whnf)
          | (refine ⟨_, by (simp (disch := omega) only [nI_leI, nI_ltI, nI_eq, nz_eq, nz_lt, nz_gt, nz_le, nz_ge, nz_00, nz_10, nz_n1, nI_add, pk_mul, pk_sub, nI_shl1, nI_or, nI_half2, nI_min2, la_put_eq, la_up, lr_same, lr_ne, lu_same, lu_ne, not_true_eq_false, not_false_eq_true, la_put2]; rfl), by omega, ?_⟩; conv => whnf)
          | (refine And.intro (by first | assumption | decide) ?_; conv => whnf))
        all_goals (try simp (disch := omega) only [nI_leI, nI_ltI, nI_eq, nz_eq, nz_lt, nz_gt, nz_le, nz_ge, nz_00, nz_10, nz_n1, nI_add, pk_mul, pk_sub, nI_shl1, nI_or, nI_half2, nI_min2, la_put_eq, la_up, lr_same, lr_ne, lu_same, lu_ne, not_true_eq_false, not_false_eq_true, la_put2])
        refine ih (k + 1) _ _ (by omega) ?_ wT'
        rw [sp_or, ← ha, sp_c_t hf]
      · conv => whnf
        repeat' (first
          | (refine ⟨fun c => ?_, fun c => ?_⟩ <;> (try simp (disch := omega) only [nI_leI, nI_ltI, nI_eq, nz_eq, nz_lt, nz_gt, nz_le, nz_ge, nz_00, nz_10, nz_n1, nI_add, pk_mul, pk_sub, nI_shl1, nI_or, nI_half2, nI_min2, la_put_eq, la_up, lr_same, lr_ne, lu_same, lu_ne, not_true_eq_false, not_false_eq_true, la_put2] at c) <;> first | (exfalso; omega) | conv => whnf)
          | (refine ⟨_, rfl, by omega, ?_⟩; conv => whnf)
          | (refine ⟨_, rfl, rfl, rfl, by decide, by decide, ?_⟩; conv => whnf)
          | (refine ⟨_, by (simp (disch := omega) only [nI_leI, nI_ltI, nI_eq, nz_eq, nz_lt, nz_gt, nz_le, nz_ge, nz_00, nz_10, nz_n1, nI_add, pk_mul, pk_sub, nI_shl1, nI_or, nI_half2, nI_min2, la_put_eq, la_up, lr_same, lr_ne, lu_same, lu_ne, not_true_eq_false, not_false_eq_true, la_put2]; rfl), by omega, ?_⟩; conv => whnf)
          | (refine And.intro (by first | assumption | decide) ?_; conv => whnf))
        all_goals (try simp (disch := omega) only [nI_leI, nI_ltI, nI_eq, nz_eq, nz_lt, nz_gt, nz_le, nz_ge, nz_00, nz_10, nz_n1, nI_add, pk_mul, pk_sub, nI_shl1, nI_or, nI_half2, nI_min2, la_put_eq, la_up, lr_same, lr_ne, lu_same, lu_ne, not_true_eq_false, not_false_eq_true, la_put2])
        refine ih (k + 1) _ _ (by omega) ?_ wT'
        rw [sp_or, ← ha, sp_c_f hf, Nat.or_zero]
  refine hK [(4, [0, 1, 2, 3])] 20 _ _ ?_
  conv => whnf
  repeat' (first
    | (refine ⟨fun c => ?_, fun c => ?_⟩ <;> (try simp (disch := omega) only [nI_leI, nI_ltI, nI_eq, nz_eq, nz_lt, nz_gt, nz_le, nz_ge, nz_00, nz_10, nz_n1, nI_add, pk_mul, pk_sub, nI_shl1, nI_or, nI_half2, nI_min2, la_put_eq, la_up, lr_same, lr_ne, lu_same, lu_ne, not_true_eq_false, not_false_eq_true] at c) <;> first | (exfalso; omega) | conv => whnf)
    | (refine ⟨_, rfl, by omega, ?_⟩; conv => whnf)
    | (refine ⟨_, rfl, rfl, rfl, by decide, by decide, ?_⟩; conv => whnf)
    | (refine ⟨_, by (simp (disch := omega) only [nI_leI, nI_ltI, nI_eq, nz_eq, nz_lt, nz_gt, nz_le, nz_ge, nz_00, nz_10, nz_n1, nI_add, pk_mul, pk_sub, nI_shl1, nI_or, nI_half2, nI_min2, la_put_eq, la_up, lr_same, lr_ne, lu_same, lu_ne, not_true_eq_false, not_false_eq_true]; rfl), by omega, ?_⟩; conv => whnf)
    | (refine And.intro (by first | assumption | decide) ?_; conv => whnf))
  all_goals (try simp (disch := omega) only [nI_leI, nI_ltI, nI_eq, nz_eq, nz_lt, nz_gt, nz_le, nz_ge, nz_00, nz_10, nz_n1, nI_add, pk_mul, pk_sub, nI_shl1, nI_or, nI_half2, nI_min2, la_put_eq, la_up, lr_same, lr_ne, lu_same, lu_ne, not_true_eq_false, not_false_eq_true])
  have := loop 4 0 0 T (by omega) rfl wT
  rw [la_self hT] at this
  exact this
theorem M_X4_kindsLeft : pm_MT yX4_kindsLeft cX4_kindsLeft 4 1 4 P_X4_kindsLeft (pm_pi Q_X4_kindsLeft) := pm_met k_X4_kindsLeft (by decide) rfl (by
  rintro ⟨g0, g1, g2, g3, g4, g5⟩ av h hp
  rw [hp.1]
  exact Nat.le_of_ble_eq_true rfl) pf_X4_kindsLeft
theorem rc_X4_kindsLeft : ∀ g av h, P_X4_kindsLeft g av h → ∃ i t, av = .inr (.inr (4, i, 0)) :: t := by
  rintro ⟨g0, g1, g2, g3, g4, g5⟩ av h hp
  exact ⟨_, _, hp.1⟩
/-! outcome, powerOfTen, partOf -/
noncomputable def sp_out (o : Bool) (f s : Nat) (X : LD) : Nat := if o then sp_c (sp_kn X f s) 1 else sp_sum (X 5) (X 0 3)
def sp_fo (o : Bool) (f : Nat) : Int32 := if o then nI f else (-4)
def P_X4_outcome : Bool × Nat × Nat × LD × pm_H → List pm_V → pm_H → Prop := fun g av h => match g with
  | (o, f, s, X, h0) => av = [vR 4 0 0, vI (sp_fo o f), vI (sp_fo o s)] ∧ h = h0 ∧ la_at h0 1 X ∧ la_ok X ∧ f ≤ 9 ∧ s ≤ 9
def Q_X4_outcome : Bool × Nat × Nat × LD × pm_H → Int64 → pm_H → Prop := fun g r h => match g with
  | (o, f, s, X, h0) => h = h0 ∧ r = lN (sp_out o f s X)
def T_X4_outcome : List (Nat × pm_T) := [
  (0, i_il 1 1),
  (1, i_c (-4) 3),
  (3, i_icne 15 6),
  (6, i_al 0 7),
  (7, i_gr 4 (fun _ => (0, 1, 0)) 10),
  (10, i_ci 1 P_X0_allCrumbs Q_X0_allCrumbs 13),
  (13, i_i2l 14),
  (14, i_lr),
  (15, i_al 0 16),
  (16, i_gr 4 (fun _ => (0, 1, 0)) 19),
  (19, i_il 1 20),
  (20, i_il 2 21),
  (21, i_ci 3 P_X0_isKnower Q_X0_isKnower 24),
  (24, i_ifeq 31 27),
  (27, i_cl 1 28),
  (28, i_go 32),
  (31, i_cl 0 32),
  (32, i_lr)]
theorem k_X4_outcome : ∀ q ∈ T_X4_outcome, pm_sd RX4 cX4_outcome 3 3 2 q.1 q.2 := by
  unfold T_X4_outcome
  refine pm_cn (sd_iln (k := 1) (by decide +kernel) rfl rfl) ?_
  refine pm_cn (sd_bipush (z := -4) (by decide +kernel) (by decide +kernel) rfl) ?_
  refine pm_cn (sd_icne (off := 12) (by decide +kernel) (by decide) rfl) ?_
  refine pm_cn (sd_aln (k := 0) (by decide +kernel) rfl rfl) ?_
  refine pm_cn (sd_gr cl4_ in4_ (j := 2) (by decide) (fun _ => rfl) fl_X4_23 (by decide +kernel) rfl) ?_
  refine pm_cn (sd_civ M_X0_allCrumbs (by decide) cd_X0_allCrumbs rc_X0_allCrumbs cl0_ ml_X4_104 im_X0_allCrumbs se_X0_allCrumbs nt_X0 (by decide +kernel) (by decide) (by decide) (by decide +kernel) rfl) ?_
  refine pm_cn (sd_i2l (by decide +kernel) rfl) ?_
  refine pm_cn (sd_lr (by decide +kernel)) ?_
  refine pm_cn (sd_aln (k := 0) (by decide +kernel) rfl rfl) ?_
  refine pm_cn (sd_gr cl4_ in4_ (j := 2) (by decide) (fun _ => rfl) fl_X4_23 (by decide +kernel) rfl) ?_
  refine pm_cn (sd_iln (k := 1) (by decide +kernel) rfl rfl) ?_
  refine pm_cn (sd_iln (k := 2) (by decide +kernel) rfl rfl) ?_
  refine pm_cn (sd_civ M_X0_isKnower (by decide) cd_X0_isKnower rc_X0_isKnower cl0_ ml_X4_273 im_X0_isKnower se_X0_isKnower nt_X0 (by decide +kernel) (by decide) (by decide) (by decide +kernel) rfl) ?_
  refine pm_cn (sd_ifeq (off := 7) (by decide +kernel) (by decide) rfl) ?_
  refine pm_cn (sd_lconst (z := 1) (by decide +kernel) (by decide +kernel) rfl) ?_
  refine pm_cn (sd_go (off := 4) (by decide +kernel) (by decide)) ?_
  refine pm_cn (sd_lconst (z := 0) (by decide +kernel) (by decide +kernel) rfl) ?_
  refine pm_cn (sd_lr (by decide +kernel)) ?_
  exact fun _ h => absurd h List.not_mem_nil
theorem ni4 : ∀ f, f ≤ 9 → ¬ nI f = (-4) := by
  have h : ∀ f : Fin 10, ¬ nI f.val = (-4) := by decide +kernel
  exact fun f hf => h ⟨f, by omega⟩
set_option maxHeartbeats 4000000 in
set_option maxRecDepth 100000 in
theorem pf_X4_outcome : pm_pf T_X4_outcome P_X4_outcome (pm_pl2 Q_X4_outcome) := by
  rintro ⟨o, f, s, X, h0⟩ av h K hK ⟨rfl, rfl, hX, hw, hf, hs⟩ hret
  obtain ⟨w1, w2, w3, w4, w5, w6, w7, w8, w9, w10⟩ := id hw
  cases o with
  | true =>
    show K (some 0) ([(0, vR 4 0 0), (1, vI (nI f)), (2, vI (nI s))], [], h)
    have := ni4 f hf
    refine hK [] 40 _ _ ?_
    conv => whnf
    refine ⟨fun c1 => ?_, fun c1 => absurd c1 this⟩
    conv => whnf
    refine ⟨(1, f, s, X, h), ⟨rfl, rfl, hX, hw, by omega, by omega⟩, fun v h' hq => ?_⟩
    obtain ⟨rfl, ⟨hk, rfl⟩ | ⟨hk, rfl⟩⟩ := hq
    · conv => whnf
      repeat' (first
        | (refine ⟨fun c => ?_, fun c => ?_⟩ <;> (try simp (disch := omega) only [nI_leI, nI_ltI, nI_eq, nz_eq, nz_lt, nz_gt, nz_le, nz_ge, nz_00, nz_10, nz_n1, nI_add, pk_mul, pk_sub, nI_shl1, nI_or, nI_half2, nI_min2, la_put_eq, la_up, lr_same, lr_ne, lu_same, lu_ne, not_true_eq_false, not_false_eq_true] at c) <;> first | (exfalso; omega) | conv => whnf)
        | (refine ⟨_, rfl, by omega, ?_⟩; conv => whnf)
        | (refine ⟨_, rfl, rfl, rfl, by decide, by decide, ?_⟩; conv => whnf)
        | (refine ⟨_, by (simp (disch := omega) only [nI_leI, nI_ltI, nI_eq, nz_eq, nz_lt, nz_gt, nz_le, nz_ge, nz_00, nz_10, nz_n1, nI_add, pk_mul, pk_sub, nI_shl1, nI_or, nI_half2, nI_min2, la_put_eq, la_up, lr_same, lr_ne, lu_same, lu_ne, not_true_eq_false, not_false_eq_true]; rfl), by omega, ?_⟩; conv => whnf)
        | (refine And.intro (by first | assumption | decide) ?_; conv => whnf))
      all_goals (try simp (disch := omega) only [nI_leI, nI_ltI, nI_eq, nz_eq, nz_lt, nz_gt, nz_le, nz_ge, nz_00, nz_10, nz_n1, nI_add, pk_mul, pk_sub, nI_shl1, nI_or, nI_half2, nI_min2, la_put_eq, la_up, lr_same, lr_ne, lu_same, lu_ne, not_true_eq_false, not_false_eq_true])
      exact hret _ _ ⟨rfl, by unfold sp_out; rw [if_pos rfl, sp_c_t hk]; rfl⟩
    · conv => whnf
      repeat' (first
        | (refine ⟨fun c => ?_, fun c => ?_⟩ <;> (try simp (disch := omega) only [nI_leI, nI_ltI, nI_eq, nz_eq, nz_lt, nz_gt, nz_le, nz_ge, nz_00, nz_10, nz_n1, nI_add, pk_mul, pk_sub, nI_shl1, nI_or, nI_half2, nI_min2, la_put_eq, la_up, lr_same, lr_ne, lu_same, lu_ne, not_true_eq_false, not_false_eq_true] at c) <;> first | (exfalso; omega) | conv => whnf)
        | (refine ⟨_, rfl, by omega, ?_⟩; conv => whnf)
        | (refine ⟨_, rfl, rfl, rfl, by decide, by decide, ?_⟩; conv => whnf)
        | (refine ⟨_, by (simp (disch := omega) only [nI_leI, nI_ltI, nI_eq, nz_eq, nz_lt, nz_gt, nz_le, nz_ge, nz_00, nz_10, nz_n1, nI_add, pk_mul, pk_sub, nI_shl1, nI_or, nI_half2, nI_min2, la_put_eq, la_up, lr_same, lr_ne, lu_same, lu_ne, not_true_eq_false, not_false_eq_true]; rfl), by omega, ?_⟩; conv => whnf)
        | (refine And.intro (by first | assumption | decide) ?_; conv => whnf))
      all_goals (try simp (disch := omega) only [nI_leI, nI_ltI, nI_eq, nz_eq, nz_lt, nz_gt, nz_le, nz_ge, nz_00, nz_10, nz_n1, nI_add, pk_mul, pk_sub, nI_shl1, nI_or, nI_half2, nI_min2, la_put_eq, la_up, lr_same, lr_ne, lu_same, lu_ne, not_true_eq_false, not_false_eq_true])
      exact hret _ _ ⟨rfl, by unfold sp_out; rw [if_pos rfl, sp_c_f hk]; rfl⟩
  | false =>
    show K (some 0) ([(0, vR 4 0 0), (1, vI (-4)), (2, vI (-4))], [], h)
    refine hK [] 40 _ _ ?_
    conv => whnf
    refine ⟨fun c1 => absurd rfl c1, fun c1 => ?_⟩
    conv => whnf
    refine ⟨(1, X, h), ⟨rfl, rfl, hX, hw⟩, fun v h' hq => ?_⟩
    obtain ⟨rfl, rfl⟩ := hq
    have hle : sp_sum (X 5) (X 0 3) ≤ X 0 3 * 99 := sp_sum_le (fun k hk => (w8 k (by omega)).2.2.1)
    have : X 0 3 * 99 ≤ 6 * 99 := Nat.mul_le_mul_right 99 w2
    conv => whnf
    repeat' (first
      | (refine ⟨fun c => ?_, fun c => ?_⟩ <;> (try simp (disch := omega) only [nI_leI, nI_ltI, nI_eq, nz_eq, nz_lt, nz_gt, nz_le, nz_ge, nz_00, nz_10, nz_n1, nI_add, pk_mul, pk_sub, nI_shl1, nI_or, nI_half2, nI_min2, la_put_eq, la_up, lr_same, lr_ne, lu_same, lu_ne, not_true_eq_false, not_false_eq_true] at c) <;> first | (exfalso; omega) | conv => whnf)
      | (refine ⟨_, rfl, by omega, ?_⟩; conv => whnf)
      | (refine ⟨_, rfl, rfl, rfl, by decide, by decide, ?_⟩; conv => whnf)
      | (refine ⟨_, by (simp (disch := omega) only [nI_leI, nI_ltI, nI_eq, nz_eq, nz_lt, nz_gt, nz_le, nz_ge, nz_00, nz_10, nz_n1, nI_add, pk_mul, pk_sub, nI_shl1, nI_or, nI_half2, nI_min2, la_put_eq, la_up, lr_same, lr_ne, lu_same, lu_ne, not_true_eq_false, not_false_eq_true]; rfl), by omega, ?_⟩; conv => whnf)
      | (refine And.intro (by first | assumption | decide) ?_; conv => whnf))
    all_goals (try simp (disch := omega) only [nI_leI, nI_ltI, nI_eq, nz_eq, nz_lt, nz_gt, nz_le, nz_ge, nz_00, nz_10, nz_n1, nI_add, pk_mul, pk_sub, nI_shl1, nI_or, nI_half2, nI_min2, la_put_eq, la_up, lr_same, lr_ne, lu_same, lu_ne, not_true_eq_false, not_false_eq_true])
    rw [nI_l (by omega)]
    exact hret _ _ ⟨rfl, rfl⟩
theorem M_X4_outcome : pm_MT yX4_outcome cX4_outcome 3 2 3 P_X4_outcome (pm_pl2 Q_X4_outcome) := pm_met k_X4_outcome (by decide) rfl (by
  rintro ⟨g0, g1, g2, g3, g4⟩ av h hp
  rw [hp.1]
  exact Nat.le_of_ble_eq_true rfl) pf_X4_outcome
theorem rc_X4_outcome : ∀ g av h, P_X4_outcome g av h → ∃ i t, av = .inr (.inr (4, i, 0)) :: t := by
  rintro ⟨g0, g1, g2, g3, g4⟩ av h hp
  exact ⟨_, _, hp.1⟩
def P_X4_powerOfTen : Nat × pm_H → List pm_V → pm_H → Prop := fun g av h => match g with
  | (n, h0) => av = [vI (nI n)] ∧ h = h0 ∧ n ≤ 8
def Q_X4_powerOfTen : Nat × pm_H → Int64 → pm_H → Prop := fun g r h => match g with
  | (n, h0) => h = h0 ∧ r = lN (10 ^ n)
def T_X4_powerOfTen : List (Nat × pm_T) := [
  (0, i_cl 1 1),
  (1, i_ls 1 2),
  (2, i_c (nI 0) 3),
  (3, i_is 3 4),
  (4, i_il 3 5),
  (5, i_il 0 6),
  (6, i_icge 21 9),
  (9, i_ll 1 10),
  (10, i_cl (10) 13),
  (13, i_lmul 14),
  (14, i_ls 1 15),
  (15, i_inc 3 (nI 1) 18),
  (18, i_go 4),
  (21, i_ll 1 22),
  (22, i_lr)]
theorem k_X4_powerOfTen : ∀ q ∈ T_X4_powerOfTen, pm_sd RX4 cX4_powerOfTen 4 1 2 q.1 q.2 := by
  unfold T_X4_powerOfTen
  refine pm_cn (sd_lconst (z := 1) (by decide +kernel) (by decide +kernel) rfl) ?_
  refine pm_cn (sd_lsn (k := 1) (by decide +kernel) rfl rfl (by decide)) ?_
  refine pm_cn (sd_iconst (z := 0) (by decide +kernel) (by decide +kernel) rfl) ?_
  refine pm_cn (sd_isn (k := 3) (by decide +kernel) rfl rfl (by decide)) ?_
  refine pm_cn (sd_iln (k := 3) (by decide +kernel) rfl rfl) ?_
  refine pm_cn (sd_iln (k := 0) (by decide +kernel) rfl rfl) ?_
  refine pm_cn (sd_icge (off := 15) (by decide +kernel) (by decide) rfl) ?_
  refine pm_cn (sd_lln (k := 1) (by decide +kernel) rfl rfl) ?_
  refine pm_cn (sd_ldc2 (k := 290) (by decide +kernel) (pm_tin (by decide +kernel) rfl) rfl) ?_
  refine pm_cn (sd_lmul (by decide +kernel) rfl) ?_
  refine pm_cn (sd_lsn (k := 1) (by decide +kernel) rfl rfl (by decide)) ?_
  refine pm_cn (sd_inc (z := 1) (by decide +kernel) (by decide +kernel) rfl (by decide)) ?_
  refine pm_cn (sd_go (off := -14) (by decide +kernel) (by decide)) ?_
  refine pm_cn (sd_lln (k := 1) (by decide +kernel) rfl rfl) ?_
  refine pm_cn (sd_lr (by decide +kernel)) ?_
  exact fun _ h => absurd h List.not_mem_nil
theorem lN_10 : (10 : Int64) = lN 10 := rfl
set_option maxHeartbeats 4000000 in
set_option maxRecDepth 100000 in
theorem pf_X4_powerOfTen : pm_pf T_X4_powerOfTen P_X4_powerOfTen (pm_pl2 Q_X4_powerOfTen) := by
  rintro ⟨N, h0⟩ av h K hK ⟨rfl, rfl, hN⟩ hret
  show K (some 0) ([(0, vI (nI N))], [], h)
  have loop : ∀ n k a, k + n = N → a = 10 ^ k → K (some 4) ([(0, vI (nI N)), (1, vJ (lN a)), (3, vI (nI k))], [], h) := by
    intro n
    induction n with
    | zero =>
      intro k a hk ha
      refine hK [(4, [0, 1, 3])] 40 _ _ ?_
      conv => whnf
      repeat' (first
        | (refine ⟨fun c => ?_, fun c => ?_⟩ <;> (try simp (disch := omega) only [nI_leI, nI_ltI, nI_eq, nz_eq, nz_lt, nz_gt, nz_le, nz_ge, nz_00, nz_10, nz_n1, nI_add, pk_mul, pk_sub, nI_shl1, nI_or, nI_half2, nI_min2, la_put_eq, la_up, lr_same, lr_ne, lu_same, lu_ne, not_true_eq_false, not_false_eq_true] at c) <;> first | (exfalso; omega) | conv => whnf)
        | (refine ⟨_, rfl, by omega, ?_⟩; conv => whnf)
        | (refine ⟨_, rfl, rfl, rfl, by decide, by decide, ?_⟩; conv => whnf)
        | (refine ⟨_, by (simp (disch := omega) only [nI_leI, nI_ltI, nI_eq, nz_eq, nz_lt, nz_gt, nz_le, nz_ge, nz_00, nz_10, nz_n1, nI_add, pk_mul, pk_sub, nI_shl1, nI_or, nI_half2, nI_min2, la_put_eq, la_up, lr_same, lr_ne, lu_same, lu_ne, not_true_eq_false, not_false_eq_true]; rfl), by omega, ?_⟩; conv => whnf)
        | (refine And.intro (by first | assumption | decide) ?_; conv => whnf))
      all_goals (try simp (disch := omega) only [nI_leI, nI_ltI, nI_eq, nz_eq, nz_lt, nz_gt, nz_le, nz_ge, nz_00, nz_10, nz_n1, nI_add, pk_mul, pk_sub, nI_shl1, nI_or, nI_half2, nI_min2, la_put_eq, la_up, lr_same, lr_ne, lu_same, lu_ne, not_true_eq_false, not_false_eq_true])
      have : k = N := by omega
      subst this
      exact hret _ _ ⟨rfl, by rw [ha]⟩
    | succ n ih =>
      intro k a hk ha
      refine hK [(4, [0, 1, 3])] 40 _ _ ?_
      conv => whnf
      repeat' (first
        | (refine ⟨fun c => ?_, fun c => ?_⟩ <;> (try simp (disch := omega) only [nI_leI, nI_ltI, nI_eq, nz_eq, nz_lt, nz_gt, nz_le, nz_ge, nz_00, nz_10, nz_n1, nI_add, pk_mul, pk_sub, nI_shl1, nI_or, nI_half2, nI_min2, la_put_eq, la_up, lr_same, lr_ne, lu_same, lu_ne, not_true_eq_false, not_false_eq_true, lN_10, lN_mul] at c) <;> first | (exfalso; omega) | conv => whnf)
        | (refine ⟨_, rfl, by omega, ?_⟩; conv => whnf)
        | (refine ⟨_, rfl, rfl, rfl, by decide, by decide, ?_⟩; conv => whnf)
        | (refine ⟨_, by (simp (disch := omega) only [nI_leI, nI_ltI, nI_eq, nz_eq, nz_lt, nz_gt, nz_le, nz_ge, nz_00, nz_10, nz_n1, nI_add, pk_mul, pk_sub, nI_shl1, nI_or, nI_half2, nI_min2, la_put_eq, la_up, lr_same, lr_ne, lu_same, lu_ne, not_true_eq_false, not_false_eq_true, lN_10, lN_mul]; rfl), by omega, ?_⟩; conv => whnf)
        | (refine And.intro (by first | assumption | decide) ?_; conv => whnf))
      all_goals (try simp (disch := omega) only [nI_leI, nI_ltI, nI_eq, nz_eq, nz_lt, nz_gt, nz_le, nz_ge, nz_00, nz_10, nz_n1, nI_add, pk_mul, pk_sub, nI_shl1, nI_or, nI_half2, nI_min2, la_put_eq, la_up, lr_same, lr_ne, lu_same, lu_ne, not_true_eq_false, not_false_eq_true, lN_10, lN_mul])
      exact ih (k + 1) _ (by omega) (by rw [ha, Nat.pow_succ])
  refine hK [(4, [0, 1, 3])] 20 _ _ ?_
  conv => whnf
  repeat' (first
    | (refine ⟨fun c => ?_, fun c => ?_⟩ <;> (try simp (disch := omega) only [nI_leI, nI_ltI, nI_eq, nz_eq, nz_lt, nz_gt, nz_le, nz_ge, nz_00, nz_10, nz_n1, nI_add, pk_mul, pk_sub, nI_shl1, nI_or, nI_half2, nI_min2, la_put_eq, la_up, lr_same, lr_ne, lu_same, lu_ne, not_true_eq_false, not_false_eq_true] at c) <;> first | (exfalso; omega) | conv => whnf)
    | (refine ⟨_, rfl, by omega, ?_⟩; conv => whnf)
    | (refine ⟨_, rfl, rfl, rfl, by decide, by decide, ?_⟩; conv => whnf)
    | (refine ⟨_, by (simp (disch := omega) only [nI_leI, nI_ltI, nI_eq, nz_eq, nz_lt, nz_gt, nz_le, nz_ge, nz_00, nz_10, nz_n1, nI_add, pk_mul, pk_sub, nI_shl1, nI_or, nI_half2, nI_min2, la_put_eq, la_up, lr_same, lr_ne, lu_same, lu_ne, not_true_eq_false, not_false_eq_true]; rfl), by omega, ?_⟩; conv => whnf)
    | (refine And.intro (by first | assumption | decide) ?_; conv => whnf))
  all_goals (try simp (disch := omega) only [nI_leI, nI_ltI, nI_eq, nz_eq, nz_lt, nz_gt, nz_le, nz_ge, nz_00, nz_10, nz_n1, nI_add, pk_mul, pk_sub, nI_shl1, nI_or, nI_half2, nI_min2, la_put_eq, la_up, lr_same, lr_ne, lu_same, lu_ne, not_true_eq_false, not_false_eq_true])
  exact loop N 0 1 (by omega) rfl
theorem M_X4_powerOfTen : pm_MT yX4_powerOfTen cX4_powerOfTen 4 2 1 P_X4_powerOfTen (pm_pl2 Q_X4_powerOfTen) := pm_met k_X4_powerOfTen (by decide) rfl (by
  rintro ⟨g0, g1⟩ av h hp
  rw [hp.1]
  exact Nat.le_of_ble_eq_true rfl) pf_X4_powerOfTen
def P_X4_partOf : Nat × Nat × Int32 × pm_H → List pm_V → pm_H → Prop := fun g av h => match g with
  | (a, b, w, h0) => av = [vJ (lN a), vJ (lN b), vI w] ∧ h = h0 ∧ 0 < b ∧ b ≤ 2 ^ 27 ∧ a < 2 ^ 37 ∧ hf w
def Q_X4_partOf : Nat × Nat × Int32 × pm_H → Int64 → pm_H → Prop := fun g r h => match g with
  | (a, b, w, h0) => h = h0 ∧ ((w = nI 0 ∧ r = lN (a / Nat.gcd a b)) ∨ (w = nI 1 ∧ r = lN (b / Nat.gcd a b)))
def T_X4_partOf : List (Nat × pm_T) := [
  (0, i_ll 2 1),
  (1, i_ls 5 3),
  (3, i_ll 0 4),
  (4, i_ls 7 6),
  (6, i_c (nI 0) 7),
  (7, i_is 9 9),
  (9, i_il 9 11),
  (11, i_c (nI 200) 14),
  (14, i_icge 45 17),
  (17, i_ll 7 19),
  (19, i_cl 0 20),
  (20, i_lcmp 21),
  (21, i_ifeq 45 24),
  (24, i_ll 5 26),
  (26, i_ll 7 28),
  (28, i_lrem 29),
  (29, i_ls 10 31),
  (31, i_ll 7 33),
  (33, i_ls 5 35),
  (35, i_ll 10 37),
  (37, i_ls 7 39),
  (39, i_inc 9 (nI 1) 42),
  (42, i_go 9),
  (45, i_ll 5 47),
  (47, i_cl 0 48),
  (48, i_lcmp 49),
  (49, i_ifne 54 52),
  (52, i_cl 0 53),
  (53, i_lr),
  (54, i_il 4 56),
  (56, i_ifne 63 59),
  (59, i_ll 0 60),
  (60, i_go 64),
  (63, i_ll 2 64),
  (64, i_ll 5 66),
  (66, i_ldiv 67),
  (67, i_lr)]
theorem k_X4_partOf : ∀ q ∈ T_X4_partOf, pm_sd RX4 cX4_partOf 12 1 2 q.1 q.2 := by
  unfold T_X4_partOf
  refine pm_cn (sd_lln (k := 2) (by decide +kernel) rfl rfl) ?_
  refine pm_cn (sd_ls (by decide +kernel) rfl (by decide)) ?_
  refine pm_cn (sd_lln (k := 0) (by decide +kernel) rfl rfl) ?_
  refine pm_cn (sd_ls (by decide +kernel) rfl (by decide)) ?_
  refine pm_cn (sd_iconst (z := 0) (by decide +kernel) (by decide +kernel) rfl) ?_
  refine pm_cn (sd_is (by decide +kernel) rfl (by decide)) ?_
  refine pm_cn (sd_il (by decide +kernel) rfl) ?_
  refine pm_cn (sd_sipush (z := 200) (by decide +kernel) (by decide +kernel) rfl) ?_
  refine pm_cn (sd_icge (off := 31) (by decide +kernel) (by decide) rfl) ?_
  refine pm_cn (sd_ll (by decide +kernel) rfl) ?_
  refine pm_cn (sd_lconst (z := 0) (by decide +kernel) (by decide +kernel) rfl) ?_
  refine pm_cn (sd_lcmp (by decide +kernel) rfl) ?_
  refine pm_cn (sd_ifeq (off := 24) (by decide +kernel) (by decide) rfl) ?_
  refine pm_cn (sd_ll (by decide +kernel) rfl) ?_
  refine pm_cn (sd_ll (by decide +kernel) rfl) ?_
  refine pm_cn (sd_lrem (by decide +kernel) rfl) ?_
  refine pm_cn (sd_ls (by decide +kernel) rfl (by decide)) ?_
  refine pm_cn (sd_ll (by decide +kernel) rfl) ?_
  refine pm_cn (sd_ls (by decide +kernel) rfl (by decide)) ?_
  refine pm_cn (sd_ll (by decide +kernel) rfl) ?_
  refine pm_cn (sd_ls (by decide +kernel) rfl (by decide)) ?_
  refine pm_cn (sd_inc (z := 1) (by decide +kernel) (by decide +kernel) rfl (by decide)) ?_
  refine pm_cn (sd_go (off := -33) (by decide +kernel) (by decide)) ?_
  refine pm_cn (sd_ll (by decide +kernel) rfl) ?_
  refine pm_cn (sd_lconst (z := 0) (by decide +kernel) (by decide +kernel) rfl) ?_
  refine pm_cn (sd_lcmp (by decide +kernel) rfl) ?_
  refine pm_cn (sd_ifne (off := 5) (by decide +kernel) (by decide) rfl) ?_
  refine pm_cn (sd_lconst (z := 0) (by decide +kernel) (by decide +kernel) rfl) ?_
  refine pm_cn (sd_lr (by decide +kernel)) ?_
  refine pm_cn (sd_il (by decide +kernel) rfl) ?_
  refine pm_cn (sd_ifne (off := 7) (by decide +kernel) (by decide) rfl) ?_
  refine pm_cn (sd_lln (k := 0) (by decide +kernel) rfl rfl) ?_
  refine pm_cn (sd_go (off := 4) (by decide +kernel) (by decide)) ?_
  refine pm_cn (sd_lln (k := 2) (by decide +kernel) rfl rfl) ?_
  refine pm_cn (sd_ll (by decide +kernel) rfl) ?_
  refine pm_cn (sd_ldiv (by decide +kernel) rfl) ?_
  refine pm_cn (sd_lr (by decide +kernel)) ?_
  exact fun _ h => absurd h List.not_mem_nil
theorem lg_cmp0 {a : Nat} (h : a < 2 ^ 63) : (lg_cmp (lN a) 0 = 0) ↔ a = 0 := by
  unfold lg_cmp
  have e : (0 : Int64) = lN 0 := rfl
  rw [e]
  by_cases ha : a = 0
  · subst ha
    have h1 : ¬ (lN 0 > lN 0) := by
      show ¬ (lN 0 < lN 0)
      rw [pk_lLT (by decide) (by decide)]; omega
    rw [if_neg h1, if_pos rfl]
    simp
  · have h1 : lN a > lN 0 := by
      show lN 0 < lN a
      rw [pk_lLT (by decide) h]; omega
    rw [if_pos h1]
    simp [ha]
set_option maxHeartbeats 4000000 in
set_option maxRecDepth 100000 in
theorem pf_X4_partOf : pm_pf T_X4_partOf P_X4_partOf (pm_pl2 Q_X4_partOf) := by
  rintro ⟨a, b, w, h0⟩ av h K hK ⟨rfl, rfl, hb, hb2, ha, hw⟩ hret
  show K (some 0) ([(0, vJ (lN a)), (2, vJ (lN b)), (4, vI w)], [], h)
  have hg : 0 < Nat.gcd a b := Nat.gcd_pos_of_pos_right a hb
  have hgb : Nat.gcd a b ≤ b := Nat.gcd_le_right a hb
  have fin : ∀ x, x = Nat.gcd a b → K (some 45) ([(0, vJ (lN a)), (2, vJ (lN b)), (4, vI w), (5, vJ (lN x))], [], h) := by
    intro x hx
    have hx0 : ¬ x = 0 := by omega
    have hne : ¬ lN x = 0 := by
      rw [show (0 : Int64) = lN 0 from rfl, pk_lEQ (by omega) (by decide)]
      exact hx0
    refine hK [] 40 _ _ ?_
    conv => whnf
    refine ⟨fun c1 => ?_, fun c1 => absurd ((lg_cmp0 (by omega)).mp c1) hx0⟩
    conv => whnf
    refine ⟨fun c2 => ?_, fun c2 => ?_⟩
    · conv => whnf
      refine ⟨hne, ?_⟩
      conv => whnf
      rw [pk_lDiv (by omega) (by omega) (by omega), hx]
      refine hret _ _ ⟨rfl, Or.inr ⟨?_, rfl⟩⟩
      rcases hw with q | q
      · exact absurd q c2
      · exact q
    · conv => whnf
      refine ⟨hne, ?_⟩
      conv => whnf
      rw [pk_lDiv (by omega) (by omega) (by omega), hx]
      exact hret _ _ ⟨rfl, Or.inl ⟨c2, rfl⟩⟩
  have loop : ∀ n x y i, y ≤ x → x * y < 2 ^ n → x < 2 ^ 38 → Nat.gcd y x = Nat.gcd a b → i + n < 150 → K (some 9) ([(0, vJ (lN a)), (2, vJ (lN b)), (4, vI w), (5, vJ (lN x)), (7, vJ (lN y)), (9, vI (nI i))], [], h) := by
    intro n
    induction n with
    | zero =>
      intro x y i hyx hxy hx hgc hi
      have hy0 : y = 0 := by
        rcases Nat.eq_zero_or_pos y with q | q
        · exact q
        · have : 1 * 1 ≤ x * y := Nat.mul_le_mul (by omega) q
          omega
      subst hy0
      refine hK [(9, [0, 2, 4, 5, 7, 9]), (45, [0, 2, 4, 5])] 40 _ _ ?_
      conv => whnf
      refine ⟨fun c1 => absurd c1 (nI_ge (by omega) (by omega)), fun c1 => ?_⟩
      conv => whnf
      refine ⟨fun c2 => ?_, fun c2 => absurd ((lg_cmp0 (by omega)).mpr rfl) c2⟩
      conv => whnf
      exact fin _ (by rw [← hgc, Nat.gcd_zero_left])
    | succ n ih =>
      intro x y i hyx hxy hx hgc hi
      refine hK [(9, [0, 2, 4, 5, 7, 9]), (45, [0, 2, 4, 5])] 40 _ _ ?_
      conv => whnf
      refine ⟨fun c1 => absurd c1 (nI_ge (by omega) (by omega)), fun c1 => ?_⟩
      conv => whnf
      refine ⟨fun c2 => ?_, fun c2 => ?_⟩
      · have hy0 := (lg_cmp0 (by omega)).mp c2
        subst hy0
        conv => whnf
        exact fin _ (by rw [← hgc, Nat.gcd_zero_left])
      · have hy0 : ¬ y = 0 := fun q => c2 ((lg_cmp0 (by omega)).mpr q)
        conv => whnf
        refine ⟨?_, ?_⟩
        · rw [show (0 : Int64) = lN 0 from rfl, pk_lEQ (by omega) (by decide)]
          exact hy0
        conv => whnf
        rw [pk_lRem (by omega) (by omega) (by omega), nI_add]
        refine ih y (x % y) (i + 1) (Nat.le_of_lt (Nat.mod_lt _ (by omega))) ?_ (by omega) ?_ (by omega)
        · have h1 : x % y + y ≤ x := by
            have := Nat.mod_add_div x y
            have h2 : 1 ≤ x / y := Nat.div_pos hyx (by omega)
            have h3 : y * 1 ≤ y * (x / y) := Nat.mul_le_mul_left y h2
            omega
          have h4 : x % y < y := Nat.mod_lt _ (by omega)
          have h5 : 2 * (x % y) ≤ x := by omega
          have h6 : y * (2 * (x % y)) ≤ y * x := Nat.mul_le_mul_left y h5
          have h7 : y * (2 * (x % y)) = 2 * (y * (x % y)) := by rw [Nat.mul_left_comm]
          have h8 : y * x = x * y := Nat.mul_comm _ _
          rw [Nat.pow_succ] at hxy
          omega
        · rw [← hgc, ← Nat.gcd_rec]
  refine hK [(9, [0, 2, 4, 5, 7, 9])] 20 _ _ ?_
  conv => whnf
  rcases Nat.lt_or_ge b a with q | q
  · refine hK [(9, [0, 2, 4, 5, 7, 9]), (45, [0, 2, 4, 5])] 40 _ _ ?_
    conv => whnf
    refine ⟨fun c1 => absurd c1 (by decide +kernel), fun c1 => ?_⟩
    conv => whnf
    refine ⟨fun c2 => absurd ((lg_cmp0 (by omega)).mp c2) (by omega), fun c2 => ?_⟩
    conv => whnf
    refine ⟨?_, ?_⟩
    · rw [show (0 : Int64) = lN 0 from rfl, pk_lEQ (by omega) (by decide)]
      omega
    conv => whnf
    rw [pk_lRem (by omega) (by omega) (by omega), Nat.mod_eq_of_lt q, nI_add]
    refine loop 64 a b 1 (by omega) ?_ (by omega) (Nat.gcd_comm b a) (by omega)
    have h1 : a * b ≤ 2 ^ 37 * 2 ^ 27 := Nat.mul_le_mul (by omega) hb2
    have h2 : a * b < 2 ^ 37 * b := Nat.mul_lt_mul_of_pos_right ha hb
    have h3 : 2 ^ 37 * b ≤ 2 ^ 37 * 2 ^ 27 := Nat.mul_le_mul_left _ hb2
    have h4 : (2 : Nat) ^ 37 * 2 ^ 27 = 2 ^ 64 := by decide
    omega
  · refine loop 64 b a 0 (by omega) ?_ (by omega) rfl (by omega)
    have h1 : b * a ≤ 2 ^ 27 * 2 ^ 27 := Nat.mul_le_mul hb2 (by omega)
    have h4 : (2 : Nat) ^ 27 * 2 ^ 27 = 2 ^ 54 := by decide
    have h5 : (2 : Nat) ^ 54 < 2 ^ 64 := by decide
    omega
theorem M_X4_partOf : pm_MT yX4_partOf cX4_partOf 12 2 1 P_X4_partOf (pm_pl2 Q_X4_partOf) := pm_met k_X4_partOf (by decide) rfl (by
  rintro ⟨g0, g1, g2, g3⟩ av h hp
  rw [hp.1]
  exact Nat.le_of_ble_eq_true rfl) pf_X4_partOf
end
section
/-! BiscuitLore: tallies, and the damp days. -/
theorem nI_shr {k f : Nat} (hk : k < 2 ^ 31) (hf : f < 31) : nI k >>> (nI f &&& 31) = nI (k / 2 ^ f) := by
  have h : ∀ f : Fin 31, ((nI f.val &&& 31).toBitVec.smod 32).toNat = f.val := by decide +kernel
  exact pk_shrN hk _ f (h ⟨f, hf⟩)
theorem nI_and1 {a : Nat} (h : a < 2 ^ 32) : nI a &&& nI 1 = nI (a % 2) := pk_andN h 1 (by decide +kernel)
theorem ua_eq {H : pm_H} {c i s j : Nat} {F : Nat → Int32} : pm_ua H c i s F c i s j = F j := by simp [pm_ua]
theorem ua_ne {H : pm_H} {c i s c' i' s' j : Nat} {F : Nat → Int32} (h : ¬ (c' = c ∧ i' = i ∧ s' = s)) : pm_ua H c i s F c' i' s' j = H c' i' s' j := by simp [pm_ua, h]
theorem ua_up {H : pm_H} {c i s j : Nat} {F : Nat → Int32} {v : Int32} : pm_up (pm_ua H c i s F) c i s j v = pm_ua H c i s (upd F j v) := by
  rw [pm_up_ua, pm_ua_self]
  funext c' i' s' j'
  unfold pm_ua
  by_cases h : c' = c ∧ i' = i ∧ s' = s <;> simp [h]
theorem ua_self {H : pm_H} {c i s : Nat} : pm_ua H c i s (H c i s) = H := by
  funext c' i' s' j'
  unfold pm_ua
  by_cases h : c' = c ∧ i' = i ∧ s' = s
  · obtain ⟨rfl, rfl, rfl⟩ := h; simp
  · simp [h]
theorem ua_ua {H : pm_H} {c i s : Nat} {F G : Nat → Int32} : pm_ua (pm_ua H c i s F) c i s G = pm_ua H c i s G := by
  funext c' i' s' j'
  unfold pm_ua
  by_cases h : c' = c ∧ i' = i ∧ s' = s <;> simp [h]
theorem la_at_ua {H : pm_H} {c i s k : Nat} {F : Nat → Int32} {L : LD} (hL : la_at H k L) (hc : c ≠ 0) : la_at (pm_ua H c i s F) k L := fun s' j => by rw [ua_ne (by omega), hL]
theorem la_put_ua {H : pm_H} {c i s k : Nat} {F : Nat → Int32} {L : LD} (hc : c ≠ 0) : la_put (pm_ua H c i s F) k L = pm_ua (la_put H k L) c i s F := by
  funext c' i' s' j'
  unfold la_put pm_ua
  by_cases h : c' = 0 ∧ i' = k
  · obtain ⟨rfl, rfl⟩ := h
    simp [Ne.symm hc]
  · by_cases h2 : c' = c ∧ i' = i ∧ s' = s
    · obtain ⟨rfl, rfl, rfl⟩ := h2
      simp [h]
    · simp [h, h2]
theorem upd_eq {F : Nat → Int32} {j : Nat} {v : Int32} : upd F j v j = v := by simp [upd]
theorem upd_ne {F : Nat → Int32} {j k : Nat} {v : Int32} (h : k ≠ j) : upd F j v k = F k := by simp [upd, h]
def sp_kb (L : LD) (s j : Nat) : Nat := sp_knowers (sp_lives L (j / 4)) s / 2 ^ (j % 4) % 2
def P_X4_tallyDays : Nat × LD × (Nat → Nat) × pm_H → List pm_V → pm_H → Prop := fun g av h => match g with
  | (s, L, G, h0) => av = [vR 4 0 0, vI (nI s)] ∧ h = h0 ∧ la_at h0 1 L ∧ la_ok L ∧ s ≤ 9 ∧ L 0 10 ≤ 4000 ∧ ∀ j, j < 124 → h0 4 0 5 j = nI (G j)
def Q_X4_tallyDays : Nat × LD × (Nat → Nat) × pm_H → pm_H → Prop := fun g h => match g with
  | (s, L, G, h0) => ∃ T F, la_ok T ∧ h = pm_ua (la_put h0 1 T) 4 0 5 F ∧ ∀ j, j < 124 → F j = nI (G j + sp_kb L s j)
def T_X4_tallyDays : List (Nat × pm_T) := [
  (0, i_c (nI 0) 1),
  (1, i_is 2 2),
  (2, i_il 2 3),
  (3, i_c (nI 30) 5),
  (5, i_icgt 66 8),
  (8, i_al 0 9),
  (9, i_gr 4 (fun _ => (0, 1, 0)) 12),
  (12, i_il 1 13),
  (13, i_ci 2 P_X0_knowersOf Q_X0_knowersOf 16),
  (16, i_is 3 17),
  (17, i_c (nI 0) 18),
  (18, i_is 4 20),
  (20, i_il 4 22),
  (22, i_c (nI 4) 23),
  (23, i_icge 52 26),
  (26, i_al 0 27),
  (27, i_gr 4 (fun _ => (4, 0, 5)) 30),
  (30, i_il 2 31),
  (31, i_c (nI 4) 32),
  (32, i_imul 33),
  (33, i_il 4 35),
  (35, i_iadd 36),
  (36, i_dup2 37),
  (37, i_ia 38),
  (38, i_il 3 39),
  (39, i_il 4 41),
  (41, i_ishr 42),
  (42, i_c (nI 1) 43),
  (43, i_iand 44),
  (44, i_iadd 45),
  (45, i_ias 46),
  (46, i_inc 4 (nI 1) 49),
  (49, i_go 20),
  (52, i_al 0 53),
  (53, i_gr 4 (fun _ => (0, 1, 0)) 56),
  (56, i_ci 1 P_X0_live Q_X0_live 59),
  (59, i_pop 60),
  (60, i_inc 2 (nI 1) 63),
  (63, i_go 2),
  (66, i_vr)]
theorem k_X4_tallyDays : ∀ q ∈ T_X4_tallyDays, pm_sd RX4 cX4_tallyDays 5 3 0 q.1 q.2 := by
  unfold T_X4_tallyDays
  refine pm_cn (sd_iconst (z := 0) (by decide +kernel) (by decide +kernel) rfl) ?_
  refine pm_cn (sd_isn (k := 2) (by decide +kernel) rfl rfl (by decide)) ?_
  refine pm_cn (sd_iln (k := 2) (by decide +kernel) rfl rfl) ?_
  refine pm_cn (sd_bipush (z := 30) (by decide +kernel) (by decide +kernel) rfl) ?_
  refine pm_cn (sd_icgt (off := 61) (by decide +kernel) (by decide) rfl) ?_
  refine pm_cn (sd_aln (k := 0) (by decide +kernel) rfl rfl) ?_
  refine pm_cn (sd_gr cl4_ in4_ (j := 2) (by decide) (fun _ => rfl) fl_X4_23 (by decide +kernel) rfl) ?_
  refine pm_cn (sd_iln (k := 1) (by decide +kernel) rfl rfl) ?_
  refine pm_cn (sd_civ M_X0_knowersOf (by decide) cd_X0_knowersOf rc_X0_knowersOf cl0_ ml_X4_161 im_X0_knowersOf se_X0_knowersOf nt_X0 (by decide +kernel) (by omega) (by decide) (by decide +kernel) rfl) ?_
  refine pm_cn (sd_isn (k := 3) (by decide +kernel) rfl rfl (by decide)) ?_
  refine pm_cn (sd_iconst (z := 0) (by decide +kernel) (by decide +kernel) rfl) ?_
  refine pm_cn (sd_is (by decide +kernel) rfl (by decide)) ?_
  refine pm_cn (sd_il (by decide +kernel) rfl) ?_
  refine pm_cn (sd_iconst (z := 4) (by decide +kernel) (by decide +kernel) rfl) ?_
  refine pm_cn (sd_icge (off := 29) (by decide +kernel) (by decide) rfl) ?_
  refine pm_cn (sd_aln (k := 0) (by decide +kernel) rfl rfl) ?_
  refine pm_cn (sd_gr cl4_ in4_ (j := 8) (by decide) (fun _ => rfl) fl_X4_52 (by decide +kernel) rfl) ?_
  refine pm_cn (sd_iln (k := 2) (by decide +kernel) rfl rfl) ?_
  refine pm_cn (sd_iconst (z := 4) (by decide +kernel) (by decide +kernel) rfl) ?_
  refine pm_cn (sd_imul (by decide +kernel) rfl) ?_
  refine pm_cn (sd_il (by decide +kernel) rfl) ?_
  refine pm_cn (sd_iadd (by decide +kernel) rfl) ?_
  refine pm_cn (sd_dup2 (by decide +kernel) rfl) ?_
  refine pm_cn (sd_ia (by decide +kernel) rfl) ?_
  refine pm_cn (sd_iln (k := 3) (by decide +kernel) rfl rfl) ?_
  refine pm_cn (sd_il (by decide +kernel) rfl) ?_
  refine pm_cn (sd_ishr (by decide +kernel) rfl) ?_
  refine pm_cn (sd_iconst (z := 1) (by decide +kernel) (by decide +kernel) rfl) ?_
  refine pm_cn (sd_iand (by decide +kernel) rfl) ?_
  refine pm_cn (sd_iadd (by decide +kernel) rfl) ?_
  refine pm_cn (sd_ias (by decide +kernel) rfl) ?_
  refine pm_cn (sd_inc (z := 1) (by decide +kernel) (by decide +kernel) rfl (by decide)) ?_
  refine pm_cn (sd_go (off := -29) (by decide +kernel) (by decide)) ?_
  refine pm_cn (sd_aln (k := 0) (by decide +kernel) rfl rfl) ?_
  refine pm_cn (sd_gr cl4_ in4_ (j := 2) (by decide) (fun _ => rfl) fl_X4_23 (by decide +kernel) rfl) ?_
  refine pm_cn (sd_civ M_X0_live (by decide) cd_X0_live rc_X0_live cl0_ ml_X4_176 im_X0_live se_X0_live nt_X0 (by decide +kernel) (by omega) (by decide) (by decide +kernel) rfl) ?_
  refine pm_cn (sd_pop (by decide +kernel) rfl) ?_
  refine pm_cn (sd_inc (z := 1) (by decide +kernel) (by decide +kernel) rfl (by decide)) ?_
  refine pm_cn (sd_go (off := -61) (by decide +kernel) (by decide)) ?_
  refine pm_cn (sd_vr (by decide +kernel)) ?_
  exact fun _ h => absurd h List.not_mem_nil
set_option maxHeartbeats 4000000 in
set_option maxRecDepth 100000 in
theorem pf_X4_tallyDays : pm_pf T_X4_tallyDays P_X4_tallyDays (pm_pv Q_X4_tallyDays) := by
  rintro ⟨s, L, G, h0⟩ av h K hK ⟨rfl, rfl, hL, hw, hs, hd, hG⟩ hret
  show K (some 0) ([(0, vR 4 0 0), (1, vI (nI s))], [], h)
  have outer : ∀ n d F, d + n = 31 → (∀ j, j < 124 → F j = nI (G j + if j < 4 * d then sp_kb L s j else 0)) → K (some 2) ([(0, vR 4 0 0), (1, vI (nI s)), (2, vI (nI d))], [], pm_ua (la_put h 1 (sp_lives L d)) 4 0 5 F) := by
    intro n
    induction n with
    | zero =>
      intro d F hk hF
      refine hK [(2, [0, 1, 2])] 40 _ _ ?_
      conv => whnf
      repeat' (first
        | (refine ⟨fun c9 => ?_, fun c9 => ?_⟩ <;> (try simp (disch := omega) only [nI_leI, nI_ltI, nI_eq, nz_eq, nz_lt, nz_gt, nz_le, nz_ge, nz_00, nz_n1, nI_add, pk_mul, pk_sub, nI_shl1, nI_or, nI_half2, nI_min2, la_put_eq, la_up, lr_same, lr_ne, lu_same, lu_ne, not_true_eq_false, not_false_eq_true] at c9) <;> first | (exfalso; omega) | conv => whnf)
        | (refine ⟨_, rfl, by omega, ?_⟩; conv => whnf)
        | (refine ⟨_, rfl, rfl, rfl, by decide, by decide, ?_⟩; conv => whnf)
        | (refine ⟨_, by (simp (disch := omega) only [nI_leI, nI_ltI, nI_eq, nz_eq, nz_lt, nz_gt, nz_le, nz_ge, nz_00, nz_n1, nI_add, pk_mul, pk_sub, nI_shl1, nI_or, nI_half2, nI_min2, la_put_eq, la_up, lr_same, lr_ne, lu_same, lu_ne, not_true_eq_false, not_false_eq_true]; rfl), by omega, ?_⟩; conv => whnf)
        | (refine And.intro (by first | assumption | decide) ?_; conv => whnf))
      all_goals (try simp (disch := omega) only [nI_leI, nI_ltI, nI_eq, nz_eq, nz_lt, nz_gt, nz_le, nz_ge, nz_00, nz_n1, nI_add, pk_mul, pk_sub, nI_shl1, nI_or, nI_half2, nI_min2, la_put_eq, la_up, lr_same, lr_ne, lu_same, lu_ne, not_true_eq_false, not_false_eq_true])
      refine hret _ _ ⟨_, F, la_ok_lives hw d (by omega), rfl, fun j hj => ?_⟩
      rw [hF j hj, if_pos (by omega)]
    | succ n ih =>
      intro d F hk hF
      have hwd := la_ok_lives hw d (by omega)
      have hdd := sp_lives_day L d
      have hkl := sp_knowers_lt hwd s
      refine hK [(2, [0, 1, 2]), (20, [0, 1, 2, 3, 4])] 40 _ _ ?_
      conv => whnf
      repeat' (first
        | (refine ⟨fun c9 => ?_, fun c9 => ?_⟩ <;> (try simp (disch := omega) only [nI_leI, nI_ltI, nI_eq, nz_eq, nz_lt, nz_gt, nz_le, nz_ge, nz_00, nz_n1, nI_add, pk_mul, pk_sub, nI_shl1, nI_or, nI_half2, nI_min2, la_put_eq, la_up, lr_same, lr_ne, lu_same, lu_ne, not_true_eq_false, not_false_eq_true] at c9) <;> first | (exfalso; omega) | conv => whnf)
        | (refine ⟨_, rfl, by omega, ?_⟩; conv => whnf)
        | (refine ⟨_, rfl, rfl, rfl, by decide, by decide, ?_⟩; conv => whnf)
        | (refine ⟨_, by (simp (disch := omega) only [nI_leI, nI_ltI, nI_eq, nz_eq, nz_lt, nz_gt, nz_le, nz_ge, nz_00, nz_n1, nI_add, pk_mul, pk_sub, nI_shl1, nI_or, nI_half2, nI_min2, la_put_eq, la_up, lr_same, lr_ne, lu_same, lu_ne, not_true_eq_false, not_false_eq_true]; rfl), by omega, ?_⟩; conv => whnf)
        | (refine And.intro (by first | assumption | decide) ?_; conv => whnf))
      all_goals (try simp (disch := omega) only [nI_leI, nI_ltI, nI_eq, nz_eq, nz_lt, nz_gt, nz_le, nz_ge, nz_00, nz_n1, nI_add, pk_mul, pk_sub, nI_shl1, nI_or, nI_half2, nI_min2, la_put_eq, la_up, lr_same, lr_ne, lu_same, lu_ne, not_true_eq_false, not_false_eq_true])
      refine ⟨(1, s, sp_lives L d, _), ⟨rfl, rfl, la_at_ua (la_put_at _ _ _) (by decide), hwd, by omega⟩, fun v h' hq => ?_⟩
      obtain ⟨rfl, rfl⟩ := hq
      have inner : ∀ n f F, f + n = 4 → (∀ j, j < 124 → F j = nI (G j + if j < 4 * d + f then sp_kb L s j else 0)) → K (some 20) ([(0, vR 4 0 0), (1, vI (nI s)), (2, vI (nI d)), (3, vI (nI (sp_knowers (sp_lives L d) s))), (4, vI (nI f))], [], pm_ua (la_put h 1 (sp_lives L d)) 4 0 5 F) := by
        intro n
        induction n with
        | zero =>
          intro f F hk hF
          refine hK [(2, [0, 1, 2]), (20, [0, 1, 2, 3, 4])] 40 _ _ ?_
          conv => whnf
          repeat' (first
            | (refine ⟨fun c9 => ?_, fun c9 => ?_⟩ <;> (try simp (disch := omega) only [nI_leI, nI_ltI, nI_eq, nz_eq, nz_lt, nz_gt, nz_le, nz_ge, nz_00, nz_n1, nI_add, pk_mul, pk_sub, nI_shl1, nI_or, nI_half2, nI_min2, la_put_eq, la_up, lr_same, lr_ne, lu_same, lu_ne, not_true_eq_false, not_false_eq_true] at c9) <;> first | (exfalso; omega) | conv => whnf)
            | (refine ⟨_, rfl, by omega, ?_⟩; conv => whnf)
            | (refine ⟨_, rfl, rfl, rfl, by decide, by decide, ?_⟩; conv => whnf)
            | (refine ⟨_, by (simp (disch := omega) only [nI_leI, nI_ltI, nI_eq, nz_eq, nz_lt, nz_gt, nz_le, nz_ge, nz_00, nz_n1, nI_add, pk_mul, pk_sub, nI_shl1, nI_or, nI_half2, nI_min2, la_put_eq, la_up, lr_same, lr_ne, lu_same, lu_ne, not_true_eq_false, not_false_eq_true]; rfl), by omega, ?_⟩; conv => whnf)
            | (refine And.intro (by first | assumption | decide) ?_; conv => whnf))
          all_goals (try simp (disch := omega) only [nI_leI, nI_ltI, nI_eq, nz_eq, nz_lt, nz_gt, nz_le, nz_ge, nz_00, nz_n1, nI_add, pk_mul, pk_sub, nI_shl1, nI_or, nI_half2, nI_min2, la_put_eq, la_up, lr_same, lr_ne, lu_same, lu_ne, not_true_eq_false, not_false_eq_true])
          refine ⟨(1, sp_lives L d, _), ⟨rfl, rfl, la_at_ua (la_put_at _ _ _) (by decide), hwd, by omega⟩, fun v h' hq => ?_⟩
          obtain ⟨rfl, rfl⟩ := hq
          rw [la_put_ua (by decide), la_put2]
          conv => whnf
          repeat' (first
            | (refine ⟨fun c9 => ?_, fun c9 => ?_⟩ <;> (try simp (disch := omega) only [nI_leI, nI_ltI, nI_eq, nz_eq, nz_lt, nz_gt, nz_le, nz_ge, nz_00, nz_n1, nI_add, pk_mul, pk_sub, nI_shl1, nI_or, nI_half2, nI_min2, la_put_eq, la_up, lr_same, lr_ne, lu_same, lu_ne, not_true_eq_false, not_false_eq_true] at c9) <;> first | (exfalso; omega) | conv => whnf)
            | (refine ⟨_, rfl, by omega, ?_⟩; conv => whnf)
            | (refine ⟨_, rfl, rfl, rfl, by decide, by decide, ?_⟩; conv => whnf)
            | (refine ⟨_, by (simp (disch := omega) only [nI_leI, nI_ltI, nI_eq, nz_eq, nz_lt, nz_gt, nz_le, nz_ge, nz_00, nz_n1, nI_add, pk_mul, pk_sub, nI_shl1, nI_or, nI_half2, nI_min2, la_put_eq, la_up, lr_same, lr_ne, lu_same, lu_ne, not_true_eq_false, not_false_eq_true]; rfl), by omega, ?_⟩; conv => whnf)
            | (refine And.intro (by first | assumption | decide) ?_; conv => whnf))
          all_goals (try simp (disch := omega) only [nI_leI, nI_ltI, nI_eq, nz_eq, nz_lt, nz_gt, nz_le, nz_ge, nz_00, nz_n1, nI_add, pk_mul, pk_sub, nI_shl1, nI_or, nI_half2, nI_min2, la_put_eq, la_up, lr_same, lr_ne, lu_same, lu_ne, not_true_eq_false, not_false_eq_true])
          have e9 : sp_live (sp_lives L d) = sp_lives L (d + 1) := rfl
          rw [e9]
          refine ih (d + 1) F (by omega) (fun j hj => ?_)
          rw [hF j hj, show 4 * (d + 1) = 4 * d + f by omega]
        | succ n ih2 =>
          intro f F hk hF
          have hFj := hF (d * 4 + f) (by omega)
          rw [if_neg (by omega), Nat.add_zero] at hFj
          have hdiv : sp_knowers (sp_lives L d) s / 2 ^ f ≤ sp_knowers (sp_lives L d) s := Nat.div_le_self _ _
          refine hK [(2, [0, 1, 2]), (20, [0, 1, 2, 3, 4])] 60 _ _ ?_
          conv => whnf
          repeat' (first
            | (refine ⟨fun c9 => ?_, fun c9 => ?_⟩ <;> (try simp (disch := omega) only [nI_leI, nI_ltI, nI_eq, nz_eq, nz_lt, nz_gt, nz_le, nz_ge, nz_00, nz_n1, nI_add, pk_mul, pk_sub, nI_shl1, nI_or, nI_half2, nI_min2, la_put_eq, la_up, lr_same, lr_ne, lu_same, lu_ne, not_true_eq_false, not_false_eq_true, ua_eq, hFj, nI_shr, nI_and1, ua_up] at c9) <;> first | (exfalso; omega) | conv => whnf)
            | (refine ⟨_, rfl, by omega, ?_⟩; conv => whnf)
            | (refine ⟨_, rfl, rfl, rfl, by decide, by decide, ?_⟩; conv => whnf)
            | (refine ⟨_, by (simp (disch := omega) only [nI_leI, nI_ltI, nI_eq, nz_eq, nz_lt, nz_gt, nz_le, nz_ge, nz_00, nz_n1, nI_add, pk_mul, pk_sub, nI_shl1, nI_or, nI_half2, nI_min2, la_put_eq, la_up, lr_same, lr_ne, lu_same, lu_ne, not_true_eq_false, not_false_eq_true, ua_eq, hFj, nI_shr, nI_and1, ua_up]; rfl), by omega, ?_⟩; conv => whnf)
            | (refine And.intro (by first | assumption | decide) ?_; conv => whnf))
          all_goals (try simp (disch := omega) only [nI_leI, nI_ltI, nI_eq, nz_eq, nz_lt, nz_gt, nz_le, nz_ge, nz_00, nz_n1, nI_add, pk_mul, pk_sub, nI_shl1, nI_or, nI_half2, nI_min2, la_put_eq, la_up, lr_same, lr_ne, lu_same, lu_ne, not_true_eq_false, not_false_eq_true, ua_eq, hFj, nI_shr, nI_and1, ua_up])
          refine ih2 (f + 1) _ (by omega) (fun j hj => ?_)
          by_cases hjj : j = d * 4 + f
          · subst hjj
            rw [upd_eq, if_pos (by omega)]
            have e1 : (d * 4 + f) / 4 = d := by omega
            have e2 : (d * 4 + f) % 4 = f := by omega
            rw [sp_kb, e1, e2]
          · rw [upd_ne hjj, hF j hj]
            by_cases hlt : j < 4 * d + f
            · rw [if_pos hlt, if_pos (by omega)]
            · rw [if_neg hlt, if_neg (by omega)]
      conv => whnf
      repeat' (first
        | (refine ⟨fun c9 => ?_, fun c9 => ?_⟩ <;> (try simp (disch := omega) only [nI_leI, nI_ltI, nI_eq, nz_eq, nz_lt, nz_gt, nz_le, nz_ge, nz_00, nz_n1, nI_add, pk_mul, pk_sub, nI_shl1, nI_or, nI_half2, nI_min2, la_put_eq, la_up, lr_same, lr_ne, lu_same, lu_ne, not_true_eq_false, not_false_eq_true] at c9) <;> first | (exfalso; omega) | conv => whnf)
        | (refine ⟨_, rfl, by omega, ?_⟩; conv => whnf)
        | (refine ⟨_, rfl, rfl, rfl, by decide, by decide, ?_⟩; conv => whnf)
        | (refine ⟨_, by (simp (disch := omega) only [nI_leI, nI_ltI, nI_eq, nz_eq, nz_lt, nz_gt, nz_le, nz_ge, nz_00, nz_n1, nI_add, pk_mul, pk_sub, nI_shl1, nI_or, nI_half2, nI_min2, la_put_eq, la_up, lr_same, lr_ne, lu_same, lu_ne, not_true_eq_false, not_false_eq_true]; rfl), by omega, ?_⟩; conv => whnf)
        | (refine And.intro (by first | assumption | decide) ?_; conv => whnf))
      all_goals (try simp (disch := omega) only [nI_leI, nI_ltI, nI_eq, nz_eq, nz_lt, nz_gt, nz_le, nz_ge, nz_00, nz_n1, nI_add, pk_mul, pk_sub, nI_shl1, nI_or, nI_half2, nI_min2, la_put_eq, la_up, lr_same, lr_ne, lu_same, lu_ne, not_true_eq_false, not_false_eq_true])
      exact inner 4 0 F (by omega) hF
  refine hK [(2, [0, 1, 2])] 20 _ _ ?_
  conv => whnf
  repeat' (first
    | (refine ⟨fun c9 => ?_, fun c9 => ?_⟩ <;> (try simp (disch := omega) only [nI_leI, nI_ltI, nI_eq, nz_eq, nz_lt, nz_gt, nz_le, nz_ge, nz_00, nz_n1, nI_add, pk_mul, pk_sub, nI_shl1, nI_or, nI_half2, nI_min2, la_put_eq, la_up, lr_same, lr_ne, lu_same, lu_ne, not_true_eq_false, not_false_eq_true] at c9) <;> first | (exfalso; omega) | conv => whnf)
    | (refine ⟨_, rfl, by omega, ?_⟩; conv => whnf)
    | (refine ⟨_, rfl, rfl, rfl, by decide, by decide, ?_⟩; conv => whnf)
    | (refine ⟨_, by (simp (disch := omega) only [nI_leI, nI_ltI, nI_eq, nz_eq, nz_lt, nz_gt, nz_le, nz_ge, nz_00, nz_n1, nI_add, pk_mul, pk_sub, nI_shl1, nI_or, nI_half2, nI_min2, la_put_eq, la_up, lr_same, lr_ne, lu_same, lu_ne, not_true_eq_false, not_false_eq_true]; rfl), by omega, ?_⟩; conv => whnf)
    | (refine And.intro (by first | assumption | decide) ?_; conv => whnf))
  all_goals (try simp (disch := omega) only [nI_leI, nI_ltI, nI_eq, nz_eq, nz_lt, nz_gt, nz_le, nz_ge, nz_00, nz_n1, nI_add, pk_mul, pk_sub, nI_shl1, nI_or, nI_half2, nI_min2, la_put_eq, la_up, lr_same, lr_ne, lu_same, lu_ne, not_true_eq_false, not_false_eq_true])
  have := outer 31 0 (h 4 0 5) (by omega) (fun j hj => by rw [if_neg (by omega), Nat.add_zero]; exact hG j hj)
  have e1 : la_put h 1 (sp_lives L 0) = h := la_self hL
  rw [e1, ua_self] at this
  exact this
theorem M_X4_tallyDays : pm_MT yX4_tallyDays cX4_tallyDays 5 0 3 P_X4_tallyDays (pm_pv Q_X4_tallyDays) := pm_met k_X4_tallyDays (by decide) rfl (by
  rintro ⟨g0, g1, g2, g3⟩ av h hp
  rw [hp.1]
  exact Nat.le_of_ble_eq_true rfl) pf_X4_tallyDays
theorem rc_X4_tallyDays : ∀ g av h, P_X4_tallyDays g av h → ∃ i t, av = .inr (.inr (4, i, 0)) :: t := by
  rintro ⟨g0, g1, g2, g3⟩ av h hp
  exact ⟨_, _, hp.1⟩
def sp_tally (N : LD) (b lf n j : Nat) : Nat := sp_sum (fun q => if lf / 2 ^ q % 2 = 1 then sp_kb (lu N 3 b q) (N 4 b) j else 0) n
def P_X4_tallyKnowers : Nat × Nat × LD × LD × pm_H → List pm_V → pm_H → Prop := fun g av h => match g with
  | (b, lf, N, T, h0) => av = [vR 4 0 0, vI (nI b), vI (nI lf)] ∧ h = h0 ∧ la_at h0 0 N ∧ la_at h0 1 T ∧ la_ok N ∧ la_ok T ∧ b < 6 ∧ lf < 16 ∧ N 0 10 ≤ 4000
def Q_X4_tallyKnowers : Nat × Nat × LD × LD × pm_H → pm_H → Prop := fun g h => match g with
  | (b, lf, N, T, h0) => ∃ X F, la_ok X ∧ h = pm_ua (la_put h0 1 X) 4 0 5 F ∧ ∀ j, j < 124 → F j = nI (sp_tally N b lf 4 j)
def T_X4_tallyKnowers : List (Nat × pm_T) := [
  (0, i_c (nI 0) 1),
  (1, i_is 3 2),
  (2, i_il 3 3),
  (3, i_al 0 4),
  (4, i_gr 4 (fun _ => (4, 0, 5)) 7),
  (7, i_len 8),
  (8, i_icge 24 11),
  (11, i_al 0 12),
  (12, i_gr 4 (fun _ => (4, 0, 5)) 15),
  (15, i_il 3 16),
  (16, i_c (nI 0) 17),
  (17, i_ias 18),
  (18, i_inc 3 (nI 1) 21),
  (21, i_go 2),
  (24, i_c (nI 0) 25),
  (25, i_is 3 26),
  (26, i_il 3 27),
  (27, i_c (nI 3) 28),
  (28, i_icgt 80 31),
  (31, i_il 2 32),
  (32, i_il 3 33),
  (33, i_ishr 34),
  (34, i_c (nI 1) 35),
  (35, i_iand 36),
  (36, i_c (nI 1) 37),
  (37, i_icne 74 40),
  (40, i_al 0 41),
  (41, i_gr 4 (fun _ => (0, 1, 0)) 44),
  (44, i_al 0 45),
  (45, i_gr 4 (fun _ => (0, 0, 0)) 48),
  (48, i_cv 2 P_X0_take Q_X0_take 51),
  (51, i_al 0 52),
  (52, i_gr 4 (fun _ => (0, 1, 0)) 55),
  (55, i_gr 0 (fun i => (0, i, 3)) 58),
  (58, i_il 1 59),
  (59, i_il 3 60),
  (60, i_ias 61),
  (61, i_al 0 62),
  (62, i_al 0 63),
  (63, i_gr 4 (fun _ => (0, 1, 0)) 66),
  (66, i_gr 0 (fun i => (0, i, 4)) 69),
  (69, i_il 1 70),
  (70, i_ia 71),
  (71, i_cv 2 P_X4_tallyDays Q_X4_tallyDays 74),
  (74, i_inc 3 (nI 1) 77),
  (77, i_go 26),
  (80, i_vr)]
theorem k_X4_tallyKnowers : ∀ q ∈ T_X4_tallyKnowers, pm_sd RX4 cX4_tallyKnowers 4 4 0 q.1 q.2 := by
  unfold T_X4_tallyKnowers
  refine pm_cn (sd_iconst (z := 0) (by decide +kernel) (by decide +kernel) rfl) ?_
  refine pm_cn (sd_isn (k := 3) (by decide +kernel) rfl rfl (by decide)) ?_
  refine pm_cn (sd_iln (k := 3) (by decide +kernel) rfl rfl) ?_
  refine pm_cn (sd_aln (k := 0) (by decide +kernel) rfl rfl) ?_
  refine pm_cn (sd_gr cl4_ in4_ (j := 8) (by decide) (fun _ => rfl) fl_X4_52 (by decide +kernel) rfl) ?_
  refine pm_cn (sd_len (by decide +kernel) rfl) ?_
  refine pm_cn (sd_icge (off := 16) (by decide +kernel) (by decide) rfl) ?_
  refine pm_cn (sd_aln (k := 0) (by decide +kernel) rfl rfl) ?_
  refine pm_cn (sd_gr cl4_ in4_ (j := 8) (by decide) (fun _ => rfl) fl_X4_52 (by decide +kernel) rfl) ?_
  refine pm_cn (sd_iln (k := 3) (by decide +kernel) rfl rfl) ?_
  refine pm_cn (sd_iconst (z := 0) (by decide +kernel) (by decide +kernel) rfl) ?_
  refine pm_cn (sd_ias (by decide +kernel) rfl) ?_
  refine pm_cn (sd_inc (z := 1) (by decide +kernel) (by decide +kernel) rfl (by decide)) ?_
  refine pm_cn (sd_go (off := -19) (by decide +kernel) (by decide)) ?_
  refine pm_cn (sd_iconst (z := 0) (by decide +kernel) (by decide +kernel) rfl) ?_
  refine pm_cn (sd_isn (k := 3) (by decide +kernel) rfl rfl (by decide)) ?_
  refine pm_cn (sd_iln (k := 3) (by decide +kernel) rfl rfl) ?_
  refine pm_cn (sd_iconst (z := 3) (by decide +kernel) (by decide +kernel) rfl) ?_
  refine pm_cn (sd_icgt (off := 52) (by decide +kernel) (by decide) rfl) ?_
  refine pm_cn (sd_iln (k := 2) (by decide +kernel) rfl rfl) ?_
  refine pm_cn (sd_iln (k := 3) (by decide +kernel) rfl rfl) ?_
  refine pm_cn (sd_ishr (by decide +kernel) rfl) ?_
  refine pm_cn (sd_iconst (z := 1) (by decide +kernel) (by decide +kernel) rfl) ?_
  refine pm_cn (sd_iand (by decide +kernel) rfl) ?_
  refine pm_cn (sd_iconst (z := 1) (by decide +kernel) (by decide +kernel) rfl) ?_
  refine pm_cn (sd_icne (off := 37) (by decide +kernel) (by decide) rfl) ?_
  refine pm_cn (sd_aln (k := 0) (by decide +kernel) rfl rfl) ?_
  refine pm_cn (sd_gr cl4_ in4_ (j := 2) (by decide) (fun _ => rfl) fl_X4_23 (by decide +kernel) rfl) ?_
  refine pm_cn (sd_aln (k := 0) (by decide +kernel) rfl rfl) ?_
  refine pm_cn (sd_gr cl4_ in4_ (j := 1) (by decide) (fun _ => rfl) fl_X4_19 (by decide +kernel) rfl) ?_
  refine pm_cn (sd_cvv M_X0_take cd_X0_take rc_X0_take cl0_ ml_X4_76 im_X0_take se_X0_take nt_X0 (by decide +kernel) (by omega) (by decide) (by decide +kernel) rfl) ?_
  refine pm_cn (sd_aln (k := 0) (by decide +kernel) rfl rfl) ?_
  refine pm_cn (sd_gr cl4_ in4_ (j := 2) (by decide) (fun _ => rfl) fl_X4_23 (by decide +kernel) rfl) ?_
  refine pm_cn (sd_gr cl0_ in0_ (j := 4) (by decide) (fun _ => rfl) fl_X4_134 (by decide +kernel) rfl) ?_
  refine pm_cn (sd_iln (k := 1) (by decide +kernel) rfl rfl) ?_
  refine pm_cn (sd_iln (k := 3) (by decide +kernel) rfl rfl) ?_
  refine pm_cn (sd_ias (by decide +kernel) rfl) ?_
  refine pm_cn (sd_aln (k := 0) (by decide +kernel) rfl rfl) ?_
  refine pm_cn (sd_aln (k := 0) (by decide +kernel) rfl rfl) ?_
  refine pm_cn (sd_gr cl4_ in4_ (j := 2) (by decide) (fun _ => rfl) fl_X4_23 (by decide +kernel) rfl) ?_
  refine pm_cn (sd_gr cl0_ in0_ (j := 5) (by decide) (fun _ => rfl) fl_X4_137 (by decide +kernel) rfl) ?_
  refine pm_cn (sd_iln (k := 1) (by decide +kernel) rfl rfl) ?_
  refine pm_cn (sd_ia (by decide +kernel) rfl) ?_
  refine pm_cn (sd_cvv M_X4_tallyDays cd_X4_tallyDays rc_X4_tallyDays cl4_ ml_X4_276 im_X4_tallyDays se_X4_tallyDays nt_X4 (by decide +kernel) (by omega) (by decide) (by decide +kernel) rfl) ?_
  refine pm_cn (sd_inc (z := 1) (by decide +kernel) (by decide +kernel) rfl (by decide)) ?_
  refine pm_cn (sd_go (off := -51) (by decide +kernel) (by decide)) ?_
  refine pm_cn (sd_vr (by decide +kernel)) ?_
  exact fun _ h => absurd h List.not_mem_nil
set_option maxHeartbeats 4000000 in
set_option maxRecDepth 100000 in
theorem pf_X4_tallyKnowers : pm_pf T_X4_tallyKnowers P_X4_tallyKnowers (pm_pv Q_X4_tallyKnowers) := by
  rintro ⟨b, lf, N, T, h0⟩ av h K hK ⟨rfl, rfl, hN, hT, wN, wT, hb, hlf, hd⟩ hret
  have hB := (id wN).2.2.2.2.2.2.2.1 b hb
  show K (some 0) ([(0, vR 4 0 0), (1, vI (nI b)), (2, vI (nI lf))], [], h)
  have loop2 : ∀ n k X F, k + n = 4 → la_ok X → (∀ j, j < 124 → F j = nI (sp_tally N b lf k j)) → K (some 26) ([(0, vR 4 0 0), (1, vI (nI b)), (2, vI (nI lf)), (3, vI (nI k))], [], pm_ua (la_put h 1 X) 4 0 5 F) := by
    intro n
    induction n with
    | zero =>
      intro k X F hk wX hF
      refine hK [(26, [0, 1, 2, 3])] 40 _ _ ?_
      conv => whnf
      repeat' (first
        | (refine ⟨fun c9 => ?_, fun c9 => ?_⟩ <;> (try simp (disch := omega) only [nI_leI, nI_ltI, nI_eq, nz_eq, nz_lt, nz_gt, nz_le, nz_ge, nz_00, nz_n1, nI_add, pk_mul, pk_sub, nI_shl1, nI_or, nI_half2, nI_min2, la_put_eq, la_up, lr_same, lr_ne, lu_same, lu_ne, not_true_eq_false, not_false_eq_true] at c9) <;> first | (exfalso; omega) | conv => whnf)
        | (refine ⟨_, rfl, by omega, ?_⟩; conv => whnf)
        | (refine ⟨_, rfl, rfl, rfl, by decide, by decide, ?_⟩; conv => whnf)
        | (refine ⟨_, by (simp (disch := omega) only [nI_leI, nI_ltI, nI_eq, nz_eq, nz_lt, nz_gt, nz_le, nz_ge, nz_00, nz_n1, nI_add, pk_mul, pk_sub, nI_shl1, nI_or, nI_half2, nI_min2, la_put_eq, la_up, lr_same, lr_ne, lu_same, lu_ne, not_true_eq_false, not_false_eq_true]; rfl), by omega, ?_⟩; conv => whnf)
        | (refine And.intro (by first | assumption | decide) ?_; conv => whnf))
      all_goals (try simp (disch := omega) only [nI_leI, nI_ltI, nI_eq, nz_eq, nz_lt, nz_gt, nz_le, nz_ge, nz_00, nz_n1, nI_add, pk_mul, pk_sub, nI_shl1, nI_or, nI_half2, nI_min2, la_put_eq, la_up, lr_same, lr_ne, lu_same, lu_ne, not_true_eq_false, not_false_eq_true])
      have : k = 4 := by omega
      subst this
      exact hret _ _ ⟨X, F, wX, rfl, hF⟩
    | succ n ih =>
      intro k X F hk wX hF
      have wK : la_ok (lu N 3 b k) := la_ok_lu wN (by unfold la_rel; omega) (by unfold la_bd; omega)
      have e10 : lu N 3 b k 0 10 = N 0 10 := lu_ne (by omega)
      have hdiv : lf / 2 ^ k ≤ lf := Nat.div_le_self _ _
      refine hK [(26, [0, 1, 2, 3])] 60 _ _ ?_
      conv => whnf
      repeat' (first
        | (refine ⟨fun c9 => ?_, fun c9 => ?_⟩ <;> (try simp (disch := omega) only [nI_leI, nI_ltI, nI_eq, nz_eq, nz_lt, nz_gt, nz_le, nz_ge, nz_00, nz_n1, nI_add, pk_mul, pk_sub, nI_shl1, nI_or, nI_half2, nI_min2, la_put_eq, la_up, lr_same, lr_ne, lu_same, lu_ne, not_true_eq_false, not_false_eq_true, nI_shr, nI_and1] at c9) <;> first | (exfalso; omega) | conv => whnf)
        | (refine ⟨_, rfl, by omega, ?_⟩; conv => whnf)
        | (refine ⟨_, rfl, rfl, rfl, by decide, by decide, ?_⟩; conv => whnf)
        | (refine ⟨_, by (simp (disch := omega) only [nI_leI, nI_ltI, nI_eq, nz_eq, nz_lt, nz_gt, nz_le, nz_ge, nz_00, nz_n1, nI_add, pk_mul, pk_sub, nI_shl1, nI_or, nI_half2, nI_min2, la_put_eq, la_up, lr_same, lr_ne, lu_same, lu_ne, not_true_eq_false, not_false_eq_true, nI_shr, nI_and1]; rfl), by omega, ?_⟩; conv => whnf)
        | (refine And.intro (by first | assumption | decide) ?_; conv => whnf))
      all_goals (try simp (disch := omega) only [nI_leI, nI_ltI, nI_eq, nz_eq, nz_lt, nz_gt, nz_le, nz_ge, nz_00, nz_n1, nI_add, pk_mul, pk_sub, nI_shl1, nI_or, nI_half2, nI_min2, la_put_eq, la_up, lr_same, lr_ne, lu_same, lu_ne, not_true_eq_false, not_false_eq_true, nI_shr, nI_and1])
      · refine ih (k + 1) X F (by omega) wX (fun j hj => ?_)
        rw [hF j hj, sp_tally, sp_tally, sp_sum, if_neg (by omega), Nat.add_zero]
      · refine ⟨(1, 0, X, N, _), ⟨rfl, rfl, la_at_ua (la_put_at _ _ _) (by decide), la_at_ua (la_at_ne hN (by decide)) (by decide), wX, wN, by decide⟩, fun h' hq => ?_⟩
        have hq : h' = la_put (pm_ua (la_put h 1 X) 4 0 5 F) 1 N := hq
        rw [la_put_ua (by decide), la_put2, ← la_put_ua (by decide)] at hq
        subst hq
        conv => whnf
        repeat' (first
          | (refine ⟨fun c9 => ?_, fun c9 => ?_⟩ <;> (try simp (disch := omega) only [nI_leI, nI_ltI, nI_eq, nz_eq, nz_lt, nz_gt, nz_le, nz_ge, nz_00, nz_n1, nI_add, pk_mul, pk_sub, nI_shl1, nI_or, nI_half2, nI_min2, la_put_eq, la_up, lr_same, lr_ne, lu_same, lu_ne, not_true_eq_false, not_false_eq_true] at c9) <;> first | (exfalso; omega) | conv => whnf)
          | (refine ⟨_, rfl, by omega, ?_⟩; conv => whnf)
          | (refine ⟨_, rfl, rfl, rfl, by decide, by decide, ?_⟩; conv => whnf)
          | (refine ⟨_, by (simp (disch := omega) only [nI_leI, nI_ltI, nI_eq, nz_eq, nz_lt, nz_gt, nz_le, nz_ge, nz_00, nz_n1, nI_add, pk_mul, pk_sub, nI_shl1, nI_or, nI_half2, nI_min2, la_put_eq, la_up, lr_same, lr_ne, lu_same, lu_ne, not_true_eq_false, not_false_eq_true]; rfl), by omega, ?_⟩; conv => whnf)
          | (refine And.intro (by first | assumption | decide) ?_; conv => whnf))
        all_goals (try simp (disch := omega) only [nI_leI, nI_ltI, nI_eq, nz_eq, nz_lt, nz_gt, nz_le, nz_ge, nz_00, nz_n1, nI_add, pk_mul, pk_sub, nI_shl1, nI_or, nI_half2, nI_min2, la_put_eq, la_up, lr_same, lr_ne, lu_same, lu_ne, not_true_eq_false, not_false_eq_true])
        refine ⟨(N 4 b, lu N 3 b k, sp_tally N b lf k, _), ⟨rfl, rfl, la_put_at _ _ _, wK, by omega, by omega, fun j hj => ?_⟩, fun h' hq => ?_⟩
        · rw [la_put_ne (by omega), ua_eq]; exact hF j hj
        obtain ⟨Y, F', wY, rfl, hF'⟩ := hq
        rw [la_put2, la_put_ua (by decide), ua_ua]
        conv => whnf
        repeat' (first
          | (refine ⟨fun c9 => ?_, fun c9 => ?_⟩ <;> (try simp (disch := omega) only [nI_leI, nI_ltI, nI_eq, nz_eq, nz_lt, nz_gt, nz_le, nz_ge, nz_00, nz_n1, nI_add, pk_mul, pk_sub, nI_shl1, nI_or, nI_half2, nI_min2, la_put_eq, la_up, lr_same, lr_ne, lu_same, lu_ne, not_true_eq_false, not_false_eq_true] at c9) <;> first | (exfalso; omega) | conv => whnf)
          | (refine ⟨_, rfl, by omega, ?_⟩; conv => whnf)
          | (refine ⟨_, rfl, rfl, rfl, by decide, by decide, ?_⟩; conv => whnf)
          | (refine ⟨_, by (simp (disch := omega) only [nI_leI, nI_ltI, nI_eq, nz_eq, nz_lt, nz_gt, nz_le, nz_ge, nz_00, nz_n1, nI_add, pk_mul, pk_sub, nI_shl1, nI_or, nI_half2, nI_min2, la_put_eq, la_up, lr_same, lr_ne, lu_same, lu_ne, not_true_eq_false, not_false_eq_true]; rfl), by omega, ?_⟩; conv => whnf)
          | (refine And.intro (by first | assumption | decide) ?_; conv => whnf))
        all_goals (try simp (disch := omega) only [nI_leI, nI_ltI, nI_eq, nz_eq, nz_lt, nz_gt, nz_le, nz_ge, nz_00, nz_n1, nI_add, pk_mul, pk_sub, nI_shl1, nI_or, nI_half2, nI_min2, la_put_eq, la_up, lr_same, lr_ne, lu_same, lu_ne, not_true_eq_false, not_false_eq_true])
        refine ih (k + 1) Y F' (by omega) wY (fun j hj => ?_)
        rw [hF' j hj, sp_tally, sp_tally, sp_sum, if_pos (by omega)]
  have loop1 : ∀ n k F, k + n = 124 → (∀ j, j < k → F j = nI 0) → K (some 2) ([(0, vR 4 0 0), (1, vI (nI b)), (2, vI (nI lf)), (3, vI (nI k))], [], pm_ua (la_put h 1 T) 4 0 5 F) := by
    intro n
    induction n with
    | zero =>
      intro k F hk hF
      refine hK [(2, [0, 1, 2, 3]), (26, [0, 1, 2, 3])] 40 _ _ ?_
      conv => whnf
      repeat' (first
        | (refine ⟨fun c9 => ?_, fun c9 => ?_⟩ <;> (try simp (disch := omega) only [nI_leI, nI_ltI, nI_eq, nz_eq, nz_lt, nz_gt, nz_le, nz_ge, nz_00, nz_n1, nI_add, pk_mul, pk_sub, nI_shl1, nI_or, nI_half2, nI_min2, la_put_eq, la_up, lr_same, lr_ne, lu_same, lu_ne, not_true_eq_false, not_false_eq_true] at c9) <;> first | (exfalso; omega) | conv => whnf)
        | (refine ⟨_, rfl, by omega, ?_⟩; conv => whnf)
        | (refine ⟨_, rfl, rfl, rfl, by decide, by decide, ?_⟩; conv => whnf)
        | (refine ⟨_, by (simp (disch := omega) only [nI_leI, nI_ltI, nI_eq, nz_eq, nz_lt, nz_gt, nz_le, nz_ge, nz_00, nz_n1, nI_add, pk_mul, pk_sub, nI_shl1, nI_or, nI_half2, nI_min2, la_put_eq, la_up, lr_same, lr_ne, lu_same, lu_ne, not_true_eq_false, not_false_eq_true]; rfl), by omega, ?_⟩; conv => whnf)
        | (refine And.intro (by first | assumption | decide) ?_; conv => whnf))
      all_goals (try simp (disch := omega) only [nI_leI, nI_ltI, nI_eq, nz_eq, nz_lt, nz_gt, nz_le, nz_ge, nz_00, nz_n1, nI_add, pk_mul, pk_sub, nI_shl1, nI_or, nI_half2, nI_min2, la_put_eq, la_up, lr_same, lr_ne, lu_same, lu_ne, not_true_eq_false, not_false_eq_true])
      refine loop2 4 0 T F (by omega) wT (fun j hj => ?_)
      rw [hF j (by omega)]
      rfl
    | succ n ih =>
      intro k F hk hF
      refine hK [(2, [0, 1, 2, 3]), (26, [0, 1, 2, 3])] 40 _ _ ?_
      conv => whnf
      repeat' (first
        | (refine ⟨fun c9 => ?_, fun c9 => ?_⟩ <;> (try simp (disch := omega) only [nI_leI, nI_ltI, nI_eq, nz_eq, nz_lt, nz_gt, nz_le, nz_ge, nz_00, nz_n1, nI_add, pk_mul, pk_sub, nI_shl1, nI_or, nI_half2, nI_min2, la_put_eq, la_up, lr_same, lr_ne, lu_same, lu_ne, not_true_eq_false, not_false_eq_true, ua_up] at c9) <;> first | (exfalso; omega) | conv => whnf)
        | (refine ⟨_, rfl, by omega, ?_⟩; conv => whnf)
        | (refine ⟨_, rfl, rfl, rfl, by decide, by decide, ?_⟩; conv => whnf)
        | (refine ⟨_, by (simp (disch := omega) only [nI_leI, nI_ltI, nI_eq, nz_eq, nz_lt, nz_gt, nz_le, nz_ge, nz_00, nz_n1, nI_add, pk_mul, pk_sub, nI_shl1, nI_or, nI_half2, nI_min2, la_put_eq, la_up, lr_same, lr_ne, lu_same, lu_ne, not_true_eq_false, not_false_eq_true, ua_up]; rfl), by omega, ?_⟩; conv => whnf)
        | (refine And.intro (by first | assumption | decide) ?_; conv => whnf))
      all_goals (try simp (disch := omega) only [nI_leI, nI_ltI, nI_eq, nz_eq, nz_lt, nz_gt, nz_le, nz_ge, nz_00, nz_n1, nI_add, pk_mul, pk_sub, nI_shl1, nI_or, nI_half2, nI_min2, la_put_eq, la_up, lr_same, lr_ne, lu_same, lu_ne, not_true_eq_false, not_false_eq_true, ua_up])
      refine ih (k + 1) _ (by omega) (fun j hj => ?_)
      by_cases hjk : j = k
      · subst hjk; rw [upd_eq]
      · rw [upd_ne hjk]; exact hF j (by omega)
  refine hK [(2, [0, 1, 2, 3])] 20 _ _ ?_
  conv => whnf
  repeat' (first
    | (refine ⟨fun c9 => ?_, fun c9 => ?_⟩ <;> (try simp (disch := omega) only [nI_leI, nI_ltI, nI_eq, nz_eq, nz_lt, nz_gt, nz_le, nz_ge, nz_00, nz_n1, nI_add, pk_mul, pk_sub, nI_shl1, nI_or, nI_half2, nI_min2, la_put_eq, la_up, lr_same, lr_ne, lu_same, lu_ne, not_true_eq_false, not_false_eq_true] at c9) <;> first | (exfalso; omega) | conv => whnf)
    | (refine ⟨_, rfl, by omega, ?_⟩; conv => whnf)
    | (refine ⟨_, rfl, rfl, rfl, by decide, by decide, ?_⟩; conv => whnf)
    | (refine ⟨_, by (simp (disch := omega) only [nI_leI, nI_ltI, nI_eq, nz_eq, nz_lt, nz_gt, nz_le, nz_ge, nz_00, nz_n1, nI_add, pk_mul, pk_sub, nI_shl1, nI_or, nI_half2, nI_min2, la_put_eq, la_up, lr_same, lr_ne, lu_same, lu_ne, not_true_eq_false, not_false_eq_true]; rfl), by omega, ?_⟩; conv => whnf)
    | (refine And.intro (by first | assumption | decide) ?_; conv => whnf))
  all_goals (try simp (disch := omega) only [nI_leI, nI_ltI, nI_eq, nz_eq, nz_lt, nz_gt, nz_le, nz_ge, nz_00, nz_n1, nI_add, pk_mul, pk_sub, nI_shl1, nI_or, nI_half2, nI_min2, la_put_eq, la_up, lr_same, lr_ne, lu_same, lu_ne, not_true_eq_false, not_false_eq_true])
  have := loop1 124 0 (h 4 0 5) (by omega) (fun j hj => by omega)
  rw [la_self hT, ua_self] at this
  exact this
theorem M_X4_tallyKnowers : pm_MT yX4_tallyKnowers cX4_tallyKnowers 4 0 4 P_X4_tallyKnowers (pm_pv Q_X4_tallyKnowers) := pm_met k_X4_tallyKnowers (by decide) rfl (by
  rintro ⟨g0, g1, g2, g3, g4⟩ av h hp
  rw [hp.1]
  exact Nat.le_of_ble_eq_true rfl) pf_X4_tallyKnowers
theorem rc_X4_tallyKnowers : ∀ g av h, P_X4_tallyKnowers g av h → ∃ i t, av = .inr (.inr (4, i, 0)) :: t := by
  rintro ⟨g0, g1, g2, g3, g4⟩ av h hp
  exact ⟨_, _, hp.1⟩
/-! weigh: what comes out of a larder in k days, each damp by v out of ten -/
noncomputable def sp_w (o : Bool) (f s v d : Nat) : Nat → LD → Nat
  | 0, X => sp_out o f s X
  | k + 1, X => v * sp_w o f s v d k (sp_live (lu X 0 8 9)) + (10 - v) * sp_w o f s v d k (sp_live (lu X 0 8 d))
/-- alike but for hunger, day and damp -/
def sm (X Y : LD) : Prop := ∀ s j, s ≠ 2 → ¬ (s = 0 ∧ (j = 10 ∨ j = 8)) → X s j = Y s j
/-- alike but for crumbs too -/
def sm5 (X Y : LD) : Prop := ∀ s j, s ≠ 2 → s ≠ 5 → ¬ (s = 0 ∧ (j = 10 ∨ j = 8)) → X s j = Y s j
theorem sm_left {X Y : LD} (h : sm X Y) (f : Nat) : ∀ n, sp_left X f n = sp_left Y f n
  | 0 => h 1 f (by decide) (by omega)
  | n + 1 => by rw [sp_left, sp_left, sm_left h f n, h 6 n (by decide) (by omega), h 5 n (by decide) (by omega)]
theorem sm_feast {X Y : LD} (h : sm X Y) (f : Nat) : sm (sp_feast X f) (sp_feast Y f) := by
  intro s j h2 h0
  by_cases h5 : s = 5
  · subst h5
    rw [sp_feast_5, sp_feast_5]
    unfold sp_ate
    rw [h 0 3 (by decide) (by omega), h 6 j (by decide) (by omega), h 5 j (by decide) (by omega), sm_left h f j]
  · rw [sp_feast_s h5 h2, sp_feast_s h5 h2]
    exact h s j h2 h0
theorem sm_feasts {X Y : LD} (h : sm X Y) : ∀ n, sm (sp_feasts X n) (sp_feasts Y n)
  | 0 => h
  | n + 1 => sm_feast (sm_feasts h n) n
theorem sm_rot {X Y : LD} (h : sm X Y) (hd : X 0 8 = Y 0 8) (n : Nat) : sm (sp_rot X n) (sp_rot Y n) := by
  intro s j h2 h0
  by_cases h5 : s = 5
  · subst h5
    rw [sp_rot_5, sp_rot_5]
    unfold sp_spoil
    rw [hd, h 3 j (by decide) (by omega), h 5 j (by decide) (by omega)]
  · rw [sp_rot_s h5, sp_rot_s h5]
    exact h s j h2 h0
theorem sm_live {X Y : LD} (h : sm X Y) (hd : X 0 8 = Y 0 8) : sm (sp_live X) (sp_live Y) := by
  intro s j h2 h0
  unfold sp_live
  rw [lu_ne (by omega), lu_ne (by omega), h 0 3 (by decide) (by omega), h 0 0 (by decide) (by omega)]
  exact sm_feasts (sm_rot h hd _) _ s j h2 h0
theorem sm_damp {X Y : LD} (h : sm X Y) (e : Nat) : sm (lu X 0 8 e) (lu Y 0 8 e) := by
  intro s j h2 h0
  rw [lu_ne (by omega), lu_ne (by omega)]
  exact h s j h2 h0
theorem sm_out {X Y : LD} (h : sm X Y) (o : Bool) (f s : Nat) : sp_out o f s X = sp_out o f s Y := by
  unfold sp_out
  cases o with
  | true =>
    have : sp_kn X f s ↔ sp_kn Y f s := by
      unfold sp_kn
      rw [h 0 3 (by decide) (by omega), h 0 9 (by decide) (by omega)]
      constructor
      · rintro ⟨b, h1, h2, h3, h4⟩
        exact ⟨b, h1, by rw [← h 6 b (by decide) (by omega)]; exact h2, by rw [← h 4 b (by decide) (by omega)]; exact h3, by rw [← h 5 b (by decide) (by omega)]; exact h4⟩
      · rintro ⟨b, h1, h2, h3, h4⟩
        exact ⟨b, h1, by rw [h 6 b (by decide) (by omega)]; exact h2, by rw [h 4 b (by decide) (by omega)]; exact h3, by rw [h 5 b (by decide) (by omega)]; exact h4⟩
    rw [if_pos rfl, if_pos rfl, this]
  | false =>
    rw [if_neg (by decide), if_neg (by decide), h 0 3 (by decide) (by omega)]
    exact sp_sum_congr (fun k _ => h 5 k (by decide) (by omega))
theorem sm_w {o : Bool} {f s v d : Nat} : ∀ {k : Nat} {X Y : LD}, sm X Y → sp_w o f s v d k X = sp_w o f s v d k Y
  | 0, X, Y, h => sm_out h o f s
  | k + 1, X, Y, h => by
    have h9 : lu X 0 8 9 0 8 = lu Y 0 8 9 0 8 := by rw [lu_same, lu_same]
    have hd : lu X 0 8 d 0 8 = lu Y 0 8 d 0 8 := by rw [lu_same, lu_same]
    rw [sp_w, sp_w, sm_w (k := k) (sm_live (sm_damp h 9) h9), sm_w (k := k) (sm_live (sm_damp h d) hd)]
theorem sp_out_le {X : LD} (hw : la_ok X) (o : Bool) (f s : Nat) : sp_out o f s X ≤ 594 := by
  unfold sp_out
  cases o with
  | true =>
    rw [if_pos rfl]
    by_cases h : sp_kn X f s
    · rw [sp_c_t h]; decide
    · rw [sp_c_f h]; decide
  | false =>
    rw [if_neg (by decide)]
    have h1 : sp_sum (X 5) (X 0 3) ≤ X 0 3 * 99 := sp_sum_le (fun k hk => ((id hw).2.2.2.2.2.2.2.1 k (by have := hw.2.1; omega)).2.2.1)
    have h2 : X 0 3 * 99 ≤ 6 * 99 := Nat.mul_le_mul_right 99 hw.2.1
    omega
def P_X4_weigh (k : Nat) : Nat × Nat × Nat × Nat × Bool × Nat × Nat × LD × LD × pm_H → List pm_V → pm_H → Prop := fun g av h => match k, g with
  | 0, _ => False
  | k + 1, (r, gn, n, v, o, f, s, N, X, h0) => av = [vR 4 0 0, vI (nI gn), vI (nI n), vI (nI v), vI (sp_fo o f), vI (sp_fo o s)] ∧ h = h0 ∧ r ≤ k ∧ gn + r = n ∧ n ≤ 8 ∧ v ≤ 10 ∧ f ≤ 9 ∧ s ≤ 9 ∧ la_at h0 0 N ∧ la_at h0 1 X ∧ la_ok N ∧ la_ok X ∧ X 0 10 + 2 ^ (r + 1) ≤ 4000
def Q_X4_weigh (k : Nat) : Nat × Nat × Nat × Nat × Bool × Nat × Nat × LD × LD × pm_H → Int64 → pm_H → Prop := fun g z h => match k, g with
  | 0, _ => True
  | k + 1, (r, gn, n, v, o, f, s, N, X, h0) => z = lN (sp_w o f s v (N 0 8) r X) ∧ ∃ Y, la_ok Y ∧ sm5 Y X ∧ Y 0 10 + 2 ≤ X 0 10 + 2 ^ (r + 1) ∧ la_at h 1 Y ∧ ∀ c i s j, ¬ (c = 0 ∧ i = 1) → ¬ (c = 6 ∧ gn ≤ i) → h c i s j = h0 c i s j
theorem rc_X4_weigh (k : Nat) : ∀ g av h, P_X4_weigh k g av h → ∃ i t, av = .inr (.inr (4, i, 0)) :: t := by
  rintro ⟨r, gn, n, v, o, f, s, N, X, h0⟩ av h hp
  cases k with
  | zero => exact hp.elim
  | succ k => exact ⟨_, _, hp.1⟩
def T_X4_weigh (k : Nat) : List (Nat × pm_T) := [
  (0, i_il 1 1),
  (1, i_il 2 2),
  (2, i_icge 11 5),
  (5, i_il 1 6),
  (6, i_c (nI 8) 8),
  (8, i_iclt 20 11),
  (11, i_al 0 12),
  (12, i_il 4 14),
  (14, i_il 5 16),
  (16, i_cL 3 P_X4_outcome Q_X4_outcome 19),
  (19, i_lr),
  (20, i_al 0 21),
  (21, i_gr 4 (fun _ => (4, 0, 4)) 24),
  (24, i_il 1 25),
  (25, i_aa 5 (fun k => (6, k, 0)) 26),
  (26, i_as 6 28),
  (28, i_al 0 29),
  (29, i_gr 4 (fun _ => (0, 1, 0)) 32),
  (32, i_gr 0 (fun i => (0, i, 5)) 35),
  (35, i_c (nI 0) 36),
  (36, i_al 6 38),
  (38, i_c (nI 0) 39),
  (39, i_c (nI 6) 41),
  (41, i_cp 44),
  (44, i_cl 0 45),
  (45, i_ls 7 47),
  (47, i_il 3 48),
  (48, i_ifle 89 51),
  (51, i_al 0 52),
  (52, i_gr 4 (fun _ => (0, 1, 0)) 55),
  (55, i_c (nI 9) 57),
  (57, i_pi 0 8 60),
  (60, i_al 0 61),
  (61, i_gr 4 (fun _ => (0, 1, 0)) 64),
  (64, i_ci 1 P_X0_live Q_X0_live 67),
  (67, i_pop 68),
  (68, i_ll 7 70),
  (70, i_il 3 71),
  (71, i_i2l 72),
  (72, i_al 0 73),
  (73, i_il 1 74),
  (74, i_c (nI 1) 75),
  (75, i_iadd 76),
  (76, i_il 2 77),
  (77, i_il 3 78),
  (78, i_il 4 80),
  (80, i_il 5 82),
  (82, i_cL 6 (P_X4_weigh k) (Q_X4_weigh k) 85),
  (85, i_lmul 86),
  (86, i_ladd 87),
  (87, i_ls 7 89),
  (89, i_il 3 90),
  (90, i_c (nI 10) 92),
  (92, i_icge 157 95),
  (95, i_al 6 97),
  (97, i_c (nI 0) 98),
  (98, i_al 0 99),
  (99, i_gr 4 (fun _ => (0, 1, 0)) 102),
  (102, i_gr 0 (fun i => (0, i, 5)) 105),
  (105, i_c (nI 0) 106),
  (106, i_c (nI 6) 108),
  (108, i_cp 111),
  (111, i_al 0 112),
  (112, i_gr 4 (fun _ => (0, 1, 0)) 115),
  (115, i_al 0 116),
  (116, i_gr 4 (fun _ => (0, 0, 0)) 119),
  (119, i_gi 0 8 122),
  (122, i_pi 0 8 125),
  (125, i_al 0 126),
  (126, i_gr 4 (fun _ => (0, 1, 0)) 129),
  (129, i_ci 1 P_X0_live Q_X0_live 132),
  (132, i_pop 133),
  (133, i_ll 7 135),
  (135, i_c (nI 10) 137),
  (137, i_il 3 138),
  (138, i_isub 139),
  (139, i_i2l 140),
  (140, i_al 0 141),
  (141, i_il 1 142),
  (142, i_c (nI 1) 143),
  (143, i_iadd 144),
  (144, i_il 2 145),
  (145, i_il 3 146),
  (146, i_il 4 148),
  (148, i_il 5 150),
  (150, i_cL 6 (P_X4_weigh k) (Q_X4_weigh k) 153),
  (153, i_lmul 154),
  (154, i_ladd 155),
  (155, i_ls 7 157),
  (157, i_ll 7 159),
  (159, i_lr)]
theorem k_X4_weigh (k : Nat) (hM : pm_MT yX4_weigh cX4_weigh 9 2 (4 + k) (P_X4_weigh k) (pm_pl2 (Q_X4_weigh k))) : ∀ q ∈ T_X4_weigh k, pm_sd RX4 cX4_weigh 9 (4 + (k + 1)) 2 q.1 q.2 := by
  unfold T_X4_weigh
  refine pm_cn (sd_iln (k := 1) (by decide +kernel) rfl rfl) ?_
  refine pm_cn (sd_iln (k := 2) (by decide +kernel) rfl rfl) ?_
  refine pm_cn (sd_icge (off := 9) (by decide +kernel) (by decide) rfl) ?_
  refine pm_cn (sd_iln (k := 1) (by decide +kernel) rfl rfl) ?_
  refine pm_cn (sd_bipush (z := 8) (by decide +kernel) (by decide +kernel) rfl) ?_
  refine pm_cn (sd_iclt (off := 12) (by decide +kernel) (by decide) rfl) ?_
  refine pm_cn (sd_aln (k := 0) (by decide +kernel) rfl rfl) ?_
  refine pm_cn (sd_il (by decide +kernel) rfl) ?_
  refine pm_cn (sd_il (by decide +kernel) rfl) ?_
  refine pm_cn (sd_cLv M_X4_outcome cd_X4_outcome rc_X4_outcome cl4_ ml_X4_280 im_X4_outcome se_X4_outcome nt_X4 (by decide +kernel) (by omega) (by decide) (by decide +kernel) rfl) ?_
  refine pm_cn (sd_lr (by decide +kernel)) ?_
  refine pm_cn (sd_aln (k := 0) (by decide +kernel) rfl rfl) ?_
  refine pm_cn (sd_gr cl4_ in4_ (j := 7) (by decide) (fun _ => rfl) fl_X4_49 (by decide +kernel) rfl) ?_
  refine pm_cn (sd_iln (k := 1) (by decide +kernel) rfl rfl) ?_
  refine pm_cn (sd_aa (by decide) (fun _ => rfl) (by decide +kernel) rfl) ?_
  refine pm_cn (sd_as (by decide +kernel) rfl (by decide)) ?_
  refine pm_cn (sd_aln (k := 0) (by decide +kernel) rfl rfl) ?_
  refine pm_cn (sd_gr cl4_ in4_ (j := 2) (by decide) (fun _ => rfl) fl_X4_23 (by decide +kernel) rfl) ?_
  refine pm_cn (sd_gr cl0_ in0_ (j := 6) (by decide) (fun _ => rfl) fl_X4_140 (by decide +kernel) rfl) ?_
  refine pm_cn (sd_iconst (z := 0) (by decide +kernel) (by decide +kernel) rfl) ?_
  refine pm_cn (sd_al (by decide +kernel) rfl) ?_
  refine pm_cn (sd_iconst (z := 0) (by decide +kernel) (by decide +kernel) rfl) ?_
  refine pm_cn (sd_bipush (z := 6) (by decide +kernel) (by decide +kernel) rfl) ?_
  refine pm_cn (sd_cp ml_X4_284 nt_arraycopy st_arraycopy nt_System (by omega) (by decide +kernel) rfl) ?_
  refine pm_cn (sd_lconst (z := 0) (by decide +kernel) (by decide +kernel) rfl) ?_
  refine pm_cn (sd_ls (by decide +kernel) rfl (by decide)) ?_
  refine pm_cn (sd_iln (k := 3) (by decide +kernel) rfl rfl) ?_
  refine pm_cn (sd_ifle (off := 41) (by decide +kernel) (by decide) rfl) ?_
  refine pm_cn (sd_aln (k := 0) (by decide +kernel) rfl rfl) ?_
  refine pm_cn (sd_gr cl4_ in4_ (j := 2) (by decide) (fun _ => rfl) fl_X4_23 (by decide +kernel) rfl) ?_
  refine pm_cn (sd_bipush (z := 9) (by decide +kernel) (by decide +kernel) rfl) ?_
  refine pm_cn (sd_pi cl0_ in0_ tyX0 tyX0_ok nmX0 (by decide) (fun _ => rfl) rfl rfl fl_X4_95 (by decide +kernel) rfl) ?_
  refine pm_cn (sd_aln (k := 0) (by decide +kernel) rfl rfl) ?_
  refine pm_cn (sd_gr cl4_ in4_ (j := 2) (by decide) (fun _ => rfl) fl_X4_23 (by decide +kernel) rfl) ?_
  refine pm_cn (sd_civ M_X0_live (by decide) cd_X0_live rc_X0_live cl0_ ml_X4_176 im_X0_live se_X0_live nt_X0 (by decide +kernel) (by omega) (by decide) (by decide +kernel) rfl) ?_
  refine pm_cn (sd_pop (by decide +kernel) rfl) ?_
  refine pm_cn (sd_ll (by decide +kernel) rfl) ?_
  refine pm_cn (sd_iln (k := 3) (by decide +kernel) rfl rfl) ?_
  refine pm_cn (sd_i2l (by decide +kernel) rfl) ?_
  refine pm_cn (sd_aln (k := 0) (by decide +kernel) rfl rfl) ?_
  refine pm_cn (sd_iln (k := 1) (by decide +kernel) rfl rfl) ?_
  refine pm_cn (sd_iconst (z := 1) (by decide +kernel) (by decide +kernel) rfl) ?_
  refine pm_cn (sd_iadd (by decide +kernel) rfl) ?_
  refine pm_cn (sd_iln (k := 2) (by decide +kernel) rfl rfl) ?_
  refine pm_cn (sd_iln (k := 3) (by decide +kernel) rfl rfl) ?_
  refine pm_cn (sd_il (by decide +kernel) rfl) ?_
  refine pm_cn (sd_il (by decide +kernel) rfl) ?_
  refine pm_cn (sd_cLv hM cd_X4_weigh (rc_X4_weigh k) cl4_ ml_X4_205 im_X4_weigh se_X4_weigh nt_X4 (by decide +kernel) (by omega) (by decide) (by decide +kernel) rfl) ?_
  refine pm_cn (sd_lmul (by decide +kernel) rfl) ?_
  refine pm_cn (sd_ladd (by decide +kernel) rfl) ?_
  refine pm_cn (sd_ls (by decide +kernel) rfl (by decide)) ?_
  refine pm_cn (sd_iln (k := 3) (by decide +kernel) rfl rfl) ?_
  refine pm_cn (sd_bipush (z := 10) (by decide +kernel) (by decide +kernel) rfl) ?_
  refine pm_cn (sd_icge (off := 65) (by decide +kernel) (by decide) rfl) ?_
  refine pm_cn (sd_al (by decide +kernel) rfl) ?_
  refine pm_cn (sd_iconst (z := 0) (by decide +kernel) (by decide +kernel) rfl) ?_
  refine pm_cn (sd_aln (k := 0) (by decide +kernel) rfl rfl) ?_
  refine pm_cn (sd_gr cl4_ in4_ (j := 2) (by decide) (fun _ => rfl) fl_X4_23 (by decide +kernel) rfl) ?_
  refine pm_cn (sd_gr cl0_ in0_ (j := 6) (by decide) (fun _ => rfl) fl_X4_140 (by decide +kernel) rfl) ?_
  refine pm_cn (sd_iconst (z := 0) (by decide +kernel) (by decide +kernel) rfl) ?_
  refine pm_cn (sd_bipush (z := 6) (by decide +kernel) (by decide +kernel) rfl) ?_
  refine pm_cn (sd_cp ml_X4_284 nt_arraycopy st_arraycopy nt_System (by omega) (by decide +kernel) rfl) ?_
  refine pm_cn (sd_aln (k := 0) (by decide +kernel) rfl rfl) ?_
  refine pm_cn (sd_gr cl4_ in4_ (j := 2) (by decide) (fun _ => rfl) fl_X4_23 (by decide +kernel) rfl) ?_
  refine pm_cn (sd_aln (k := 0) (by decide +kernel) rfl rfl) ?_
  refine pm_cn (sd_gr cl4_ in4_ (j := 1) (by decide) (fun _ => rfl) fl_X4_19 (by decide +kernel) rfl) ?_
  refine pm_cn (sd_gi cl0_ in0_ (by decide) (fun _ => rfl) fl_X4_95 (by decide +kernel) rfl) ?_
  refine pm_cn (sd_pi cl0_ in0_ tyX0 tyX0_ok nmX0 (by decide) (fun _ => rfl) rfl rfl fl_X4_95 (by decide +kernel) rfl) ?_
  refine pm_cn (sd_aln (k := 0) (by decide +kernel) rfl rfl) ?_
  refine pm_cn (sd_gr cl4_ in4_ (j := 2) (by decide) (fun _ => rfl) fl_X4_23 (by decide +kernel) rfl) ?_
  refine pm_cn (sd_civ M_X0_live (by decide) cd_X0_live rc_X0_live cl0_ ml_X4_176 im_X0_live se_X0_live nt_X0 (by decide +kernel) (by omega) (by decide) (by decide +kernel) rfl) ?_
  refine pm_cn (sd_pop (by decide +kernel) rfl) ?_
  refine pm_cn (sd_ll (by decide +kernel) rfl) ?_
  refine pm_cn (sd_bipush (z := 10) (by decide +kernel) (by decide +kernel) rfl) ?_
  refine pm_cn (sd_iln (k := 3) (by decide +kernel) rfl rfl) ?_
  refine pm_cn (sd_isub (by decide +kernel) rfl) ?_
  refine pm_cn (sd_i2l (by decide +kernel) rfl) ?_
  refine pm_cn (sd_aln (k := 0) (by decide +kernel) rfl rfl) ?_
  refine pm_cn (sd_iln (k := 1) (by decide +kernel) rfl rfl) ?_
  refine pm_cn (sd_iconst (z := 1) (by decide +kernel) (by decide +kernel) rfl) ?_
  refine pm_cn (sd_iadd (by decide +kernel) rfl) ?_
  refine pm_cn (sd_iln (k := 2) (by decide +kernel) rfl rfl) ?_
  refine pm_cn (sd_iln (k := 3) (by decide +kernel) rfl rfl) ?_
  refine pm_cn (sd_il (by decide +kernel) rfl) ?_
  refine pm_cn (sd_il (by decide +kernel) rfl) ?_
  refine pm_cn (sd_cLv hM cd_X4_weigh (rc_X4_weigh k) cl4_ ml_X4_205 im_X4_weigh se_X4_weigh nt_X4 (by decide +kernel) (by omega) (by decide) (by decide +kernel) rfl) ?_
  refine pm_cn (sd_lmul (by decide +kernel) rfl) ?_
  refine pm_cn (sd_ladd (by decide +kernel) rfl) ?_
  refine pm_cn (sd_ls (by decide +kernel) rfl (by decide)) ?_
  refine pm_cn (sd_ll (by decide +kernel) rfl) ?_
  refine pm_cn (sd_lr (by decide +kernel)) ?_
  exact fun _ h => absurd h List.not_mem_nil
theorem la_cp6 {h : pm_H} {i g : Nat} {Z : LD} {f : Nat → Nat} (hr : ∀ j, j < 6 → h 6 g 0 j = nI (f j)) : pm_ua (la_put h i Z) 0 i 5 (pm_cp (la_put h i Z 6 g 0) (la_put h i Z 0 i 5) 6) = la_put h i (lc Z 5 f 6) := by
  funext c i' s' j'
  by_cases hc : c = 0 ∧ i' = i
  · obtain ⟨rfl, rfl⟩ := hc
    rw [la_put_eq, lc_eq]
    by_cases hs : s' = 5
    · subst hs
      rw [ua_eq]
      unfold pm_cp
      by_cases hj : j' < 6
      · rw [if_pos hj, if_pos ⟨rfl, hj⟩, la_put_ne (by omega), hr j' hj]
      · rw [if_neg hj, if_neg (by omega), la_put_eq]
    · rw [ua_ne (by omega), la_put_eq, if_neg (by omega)]
  · rw [la_put_ne hc, ua_ne (by omega), la_put_ne hc]
theorem la_ok_lc5 {Z : LD} (hw : la_ok Z) {f : Nat → Nat} (hf : ∀ j, j < 6 → f j ≤ 99) : la_ok (lc Z 5 f 6) := by
  rw [la_ok_iff] at hw ⊢
  intro s j
  rw [lc_eq]
  by_cases h : s = 5 ∧ j < 6
  · rw [if_pos h]
    have := hf j h.2
    refine ⟨fun _ => ?_, fun hr => absurd ?_ hr⟩
    · unfold la_bd; omega
    · unfold la_rel; omega
  · rw [if_neg h]
    exact hw s j
theorem lN_0 : (0 : Int64) = lN 0 := rfl
set_option maxHeartbeats 4000000 in
set_option maxRecDepth 100000 in
theorem pf_X4_weigh (k : Nat) : pm_pf (T_X4_weigh k) (P_X4_weigh (k + 1)) (pm_pl2 (Q_X4_weigh (k + 1))) := by
  rintro ⟨r, gn, n, v, o, f, s, N, X, h0⟩ av h K hK hp hret
  obtain ⟨rfl, rfl, hrk, hgn, hn, hv, hf, hs, hN, hX, wN, wX, hday⟩ := hp
  show K (some 0) ([(0, vR 4 0 0), (1, vI (nI gn)), (2, vI (nI n)), (3, vI (nI v)), (4, vI (sp_fo o f)), (5, vI (sp_fo o s))], [], h)
  cases r with
  | zero =>
    refine hK [] 40 _ _ ?_
    conv => whnf
    repeat' (first
      | (refine ⟨fun c9 => ?_, fun c9 => ?_⟩ <;> (try simp (disch := omega) only [nI_leI, nI_ltI, nI_eq, nz_eq, nz_lt, nz_gt, nz_le, nz_ge, nz_00, nz_n1, nI_add, pk_mul, pk_sub, nI_shl1, nI_or, nI_half2, nI_min2, la_put_eq, la_up, lr_same, lr_ne, lu_same, lu_ne, not_true_eq_false, not_false_eq_true] at c9) <;> first | (exfalso; omega) | conv => whnf)
      | (refine ⟨_, rfl, by omega, ?_⟩; conv => whnf)
      | (refine ⟨_, rfl, rfl, rfl, by decide, by decide, ?_⟩; conv => whnf)
      | (refine ⟨_, by (simp (disch := omega) only [nI_leI, nI_ltI, nI_eq, nz_eq, nz_lt, nz_gt, nz_le, nz_ge, nz_00, nz_n1, nI_add, pk_mul, pk_sub, nI_shl1, nI_or, nI_half2, nI_min2, la_put_eq, la_up, lr_same, lr_ne, lu_same, lu_ne, not_true_eq_false, not_false_eq_true]; rfl), by omega, ?_⟩; conv => whnf)
      | (refine And.intro (by first | assumption | decide) ?_; conv => whnf))
    all_goals (try simp (disch := omega) only [nI_leI, nI_ltI, nI_eq, nz_eq, nz_lt, nz_gt, nz_le, nz_ge, nz_00, nz_n1, nI_add, pk_mul, pk_sub, nI_shl1, nI_or, nI_half2, nI_min2, la_put_eq, la_up, lr_same, lr_ne, lu_same, lu_ne, not_true_eq_false, not_false_eq_true])
    refine ⟨(o, f, s, X, h), ⟨rfl, rfl, hX, wX, hf, hs⟩, fun z h' hq => ?_⟩
    obtain ⟨rfl, rfl⟩ := hq
    conv => whnf
    repeat' (first
      | (refine ⟨fun c9 => ?_, fun c9 => ?_⟩ <;> (try simp (disch := omega) only [nI_leI, nI_ltI, nI_eq, nz_eq, nz_lt, nz_gt, nz_le, nz_ge, nz_00, nz_n1, nI_add, pk_mul, pk_sub, nI_shl1, nI_or, nI_half2, nI_min2, la_put_eq, la_up, lr_same, lr_ne, lu_same, lu_ne, not_true_eq_false, not_false_eq_true] at c9) <;> first | (exfalso; omega) | conv => whnf)
      | (refine ⟨_, rfl, by omega, ?_⟩; conv => whnf)
      | (refine ⟨_, rfl, rfl, rfl, by decide, by decide, ?_⟩; conv => whnf)
      | (refine ⟨_, by (simp (disch := omega) only [nI_leI, nI_ltI, nI_eq, nz_eq, nz_lt, nz_gt, nz_le, nz_ge, nz_00, nz_n1, nI_add, pk_mul, pk_sub, nI_shl1, nI_or, nI_half2, nI_min2, la_put_eq, la_up, lr_same, lr_ne, lu_same, lu_ne, not_true_eq_false, not_false_eq_true]; rfl), by omega, ?_⟩; conv => whnf)
      | (refine And.intro (by first | assumption | decide) ?_; conv => whnf))
    all_goals (try simp (disch := omega) only [nI_leI, nI_ltI, nI_eq, nz_eq, nz_lt, nz_gt, nz_le, nz_ge, nz_00, nz_n1, nI_add, pk_mul, pk_sub, nI_shl1, nI_or, nI_half2, nI_min2, la_put_eq, la_up, lr_same, lr_ne, lu_same, lu_ne, not_true_eq_false, not_false_eq_true])
    refine hret _ _ ?_
    exact ⟨rfl, X, wX, fun _ _ _ _ _ => rfl, Nat.add_le_add_left (by decide) _, hX, fun _ _ _ _ _ _ => rfl⟩
  | succ r =>
    obtain ⟨k', rfl⟩ : ∃ k', k = k' + 1 := ⟨k - 1, by omega⟩
    have w3 := wN.2.2.1
    have e2 : 2 ^ (r + 1 + 1) = 2 * 2 ^ (r + 1) := by rw [Nat.pow_succ]; omega
    have p2 : 2 ≤ 2 ^ (r + 1) := by
      have := Nat.one_le_two_pow (n := r)
      rw [Nat.pow_succ]; omega
    generalize 2 ^ (r + 1 + 1) = p4 at hday e2 hret
    subst e2
    have hX5 : ∀ j, j < 6 → X 5 j ≤ 99 := fun j hj => ((id wX).2.2.2.2.2.2.2.1 j hj).2.2.1
    have mid : ∀ (a : Nat) (Z : LD) (H : pm_H), a = v * sp_w o f s v (N 0 8) r (sp_live (lu X 0 8 9)) → la_ok Z → sm5 Z X → Z 0 10 + 1 ≤ X 0 10 + 2 ^ (r + 1) → la_at H 1 Z → (∀ j, j < 6 → H 6 gn 0 j = nI (X 5 j)) → (∀ c i s j, ¬ (c = 0 ∧ i = 1) → ¬ (c = 6 ∧ gn ≤ i) → H c i s j = h c i s j) → K (some 89) ([(0, vR 4 0 0), (1, vI (nI gn)), (2, vI (nI n)), (3, vI (nI v)), (4, vI (sp_fo o f)), (5, vI (sp_fo o s)), (6, vR 6 gn 0), (7, vJ (lN a))], [], H) := by
      intro a Z H ha wZ hZX hZd hHZ hrow hfr
      have hcp := la_cp6 (i := 1) (Z := Z) hrow
      have hNd : ∀ (M : LD), la_put H 1 M 0 0 0 8 = nI (N 0 8) := fun M => by rw [la_put_ne (by omega), hfr _ _ _ _ (by omega) (by omega), hN]
      rw [← la_self hHZ]
      have wC := la_ok_lc5 wZ hX5
      have wD : la_ok (lu (lc Z 5 (X 5) 6) 0 8 (N 0 8)) := la_ok_lu wC (by unfold la_rel; omega) (by unfold la_bd; omega)
      have eD : lu (lc Z 5 (X 5) 6) 0 8 (N 0 8) 0 10 = Z 0 10 := by rw [lu_ne (by omega), lc_eq, if_neg (by omega)]
      have hsm : sm (lu (lc Z 5 (X 5) 6) 0 8 (N 0 8)) (lu X 0 8 (N 0 8)) := by
        intro s' j' h2 h0
        rw [lu_ne (by omega), lu_ne (by omega), lc_eq]
        by_cases hs5 : s' = 5
        · subst hs5
          by_cases hj : j' < 6
          · rw [if_pos ⟨rfl, hj⟩]
          · rw [if_neg (by omega), (la_ok_iff.mp wZ 5 j').2 (by unfold la_rel; omega), (la_ok_iff.mp wX 5 j').2 (by unfold la_rel; omega)]
        · rw [if_neg (by omega)]
          exact hZX s' j' h2 hs5 h0
      refine hK [] 100 _ _ ?_
      conv => whnf
      repeat' (first
        | (refine ⟨fun c9 => ?_, fun c9 => ?_⟩ <;> (try simp (disch := omega) only [nI_leI, nI_ltI, nI_eq, nz_eq, nz_lt, nz_gt, nz_le, nz_ge, nz_00, nz_n1, nI_add, pk_mul, pk_sub, nI_shl1, nI_or, nI_half2, nI_min2, la_put_eq, la_up, lr_same, lr_ne, lu_same, lu_ne, not_true_eq_false, not_false_eq_true, hcp, hNd] at c9) <;> first | (exfalso; omega) | conv => whnf)
        | (refine ⟨_, rfl, by omega, ?_⟩; conv => whnf)
        | (refine ⟨_, rfl, rfl, rfl, by decide, by decide, ?_⟩; conv => whnf)
        | (refine ⟨_, by (simp (disch := omega) only [nI_leI, nI_ltI, nI_eq, nz_eq, nz_lt, nz_gt, nz_le, nz_ge, nz_00, nz_n1, nI_add, pk_mul, pk_sub, nI_shl1, nI_or, nI_half2, nI_min2, la_put_eq, la_up, lr_same, lr_ne, lu_same, lu_ne, not_true_eq_false, not_false_eq_true, hcp, hNd]; rfl), by omega, ?_⟩; conv => whnf)
        | (refine And.intro (by first | assumption | decide) ?_; conv => whnf))
      all_goals (try simp (disch := omega) only [nI_leI, nI_ltI, nI_eq, nz_eq, nz_lt, nz_gt, nz_le, nz_ge, nz_00, nz_n1, nI_add, pk_mul, pk_sub, nI_shl1, nI_or, nI_half2, nI_min2, la_put_eq, la_up, lr_same, lr_ne, lu_same, lu_ne, not_true_eq_false, not_false_eq_true, hcp, hNd])
      · refine hret _ _ ?_
        refine ⟨?_, Z, wZ, hZX, by omega, la_put_at _ _ _, fun c i s' j' h1 h2 => ?_⟩
        · rw [sp_w, ← ha, show 10 - v = 0 by omega, Nat.zero_mul, Nat.add_zero]
        · rw [la_put_ne h1]; exact hfr c i s' j' h1 h2
      · refine ⟨(1, lu (lc Z 5 (X 5) 6) 0 8 (N 0 8), _), ⟨rfl, rfl, la_put_at _ _ _, wD, by omega⟩, fun z h' hq => ?_⟩
        obtain ⟨rfl, rfl⟩ := hq
        have eL := sp_live_day (lu (lc Z 5 (X 5) 6) 0 8 (N 0 8))
        have wL := la_ok_live wD (by omega)
        conv => whnf
        repeat' (first
          | (refine ⟨fun c9 => ?_, fun c9 => ?_⟩ <;> (try simp (disch := omega) only [nI_leI, nI_ltI, nI_eq, nz_eq, nz_lt, nz_gt, nz_le, nz_ge, nz_00, nz_n1, nI_add, pk_mul, pk_sub, nI_shl1, nI_or, nI_half2, nI_min2, la_put_eq, la_up, lr_same, lr_ne, lu_same, lu_ne, not_true_eq_false, not_false_eq_true, la_put2] at c9) <;> first | (exfalso; omega) | conv => whnf)
          | (refine ⟨_, rfl, by omega, ?_⟩; conv => whnf)
          | (refine ⟨_, rfl, rfl, rfl, by decide, by decide, ?_⟩; conv => whnf)
          | (refine ⟨_, by (simp (disch := omega) only [nI_leI, nI_ltI, nI_eq, nz_eq, nz_lt, nz_gt, nz_le, nz_ge, nz_00, nz_n1, nI_add, pk_mul, pk_sub, nI_shl1, nI_or, nI_half2, nI_min2, la_put_eq, la_up, lr_same, lr_ne, lu_same, lu_ne, not_true_eq_false, not_false_eq_true, la_put2]; rfl), by omega, ?_⟩; conv => whnf)
          | (refine And.intro (by first | assumption | decide) ?_; conv => whnf))
        all_goals (try simp (disch := omega) only [nI_leI, nI_ltI, nI_eq, nz_eq, nz_lt, nz_gt, nz_le, nz_ge, nz_00, nz_n1, nI_add, pk_mul, pk_sub, nI_shl1, nI_or, nI_half2, nI_min2, la_put_eq, la_up, lr_same, lr_ne, lu_same, lu_ne, not_true_eq_false, not_false_eq_true, la_put2])
        refine ⟨(r, gn + 1, n, v, o, f, s, N, sp_live (lu (lc Z 5 (X 5) 6) 0 8 (N 0 8)), _), ⟨rfl, rfl, by omega, by omega, hn, hv, hf, hs, ?_, la_put_at _ _ _, wN, wL, by omega⟩, fun z h' hq => ?_⟩
        · intro s' j'
          rw [la_put_ne (by omega), hfr _ _ _ _ (by omega) (by omega), hN]
        obtain ⟨hr, Y, wY, hY5, hYd, hYa, hYf⟩ := hq
        subst hr
        rw [sm_w (sm_live hsm (by rw [lu_same, lu_same]))]
        have e10 : nI 10 - nI v = nI (10 - v) := pk_sub hv
        have ei : (nI (10 - v)).toInt64 = lN (10 - v) := nI_l (by omega)
        conv => whnf
        repeat' (first
          | (refine ⟨fun c9 => ?_, fun c9 => ?_⟩ <;> (try simp (disch := omega) only [nI_leI, nI_ltI, nI_eq, nz_eq, nz_lt, nz_gt, nz_le, nz_ge, nz_00, nz_n1, nI_add, pk_mul, pk_sub, nI_shl1, nI_or, nI_half2, nI_min2, la_put_eq, la_up, lr_same, lr_ne, lu_same, lu_ne, not_true_eq_false, not_false_eq_true, e10, ei, lN_mul, lN_add] at c9) <;> first | (exfalso; omega) | conv => whnf)
          | (refine ⟨_, rfl, by omega, ?_⟩; conv => whnf)
          | (refine ⟨_, rfl, rfl, rfl, by decide, by decide, ?_⟩; conv => whnf)
          | (refine ⟨_, by (simp (disch := omega) only [nI_leI, nI_ltI, nI_eq, nz_eq, nz_lt, nz_gt, nz_le, nz_ge, nz_00, nz_n1, nI_add, pk_mul, pk_sub, nI_shl1, nI_or, nI_half2, nI_min2, la_put_eq, la_up, lr_same, lr_ne, lu_same, lu_ne, not_true_eq_false, not_false_eq_true, e10, ei, lN_mul, lN_add]; rfl), by omega, ?_⟩; conv => whnf)
          | (refine And.intro (by first | assumption | decide) ?_; conv => whnf))
        all_goals (try simp (disch := omega) only [nI_leI, nI_ltI, nI_eq, nz_eq, nz_lt, nz_gt, nz_le, nz_ge, nz_00, nz_n1, nI_add, pk_mul, pk_sub, nI_shl1, nI_or, nI_half2, nI_min2, la_put_eq, la_up, lr_same, lr_ne, lu_same, lu_ne, not_true_eq_false, not_false_eq_true, e10, ei, lN_mul, lN_add])
        refine hret _ _ ?_
        refine ⟨?_, Y, wY, fun s' j' h2 h5 h0 => ?_, by omega, hYa, fun c i s' j' h1 h2 => ?_⟩
        · rw [sp_w, ← ha]
        · rw [hY5 s' j' h2 h5 h0, sp_live_s h5 h2 (by omega), lu_ne (by omega), lc_eq, if_neg (by omega)]
          exact hZX s' j' h2 h5 h0
        · rw [hYf c i s' j' h1 (by omega), la_put_ne h1]
          exact hfr c i s' j' h1 h2
    have st : ∀ H : pm_H, la_at H 1 X → (∀ j, j < 6 → H 6 gn 0 j = nI (X 5 j)) → (∀ c i s j, ¬ (c = 0 ∧ i = 1) → ¬ (c = 6 ∧ gn ≤ i) → H c i s j = h c i s j) → K (some 47) ([(0, vR 4 0 0), (1, vI (nI gn)), (2, vI (nI n)), (3, vI (nI v)), (4, vI (sp_fo o f)), (5, vI (sp_fo o s)), (6, vR 6 gn 0), (7, vJ (lN 0))], [], H) := by
      intro H hHX hrow hfr
      have w9 : la_ok (lu X 0 8 9) := la_ok_lu wX (by unfold la_rel; omega) (by unfold la_bd; omega)
      have e9 : lu X 0 8 9 0 10 = X 0 10 := lu_ne (by omega)
      rw [← la_self hHX]
      refine hK [(89, [0, 1, 2, 3, 4, 5, 6, 7])] 100 _ _ ?_
      conv => whnf
      repeat' (first
        | (refine ⟨fun c9 => ?_, fun c9 => ?_⟩ <;> (try simp (disch := omega) only [nI_leI, nI_ltI, nI_eq, nz_eq, nz_lt, nz_gt, nz_le, nz_ge, nz_00, nz_n1, nI_add, pk_mul, pk_sub, nI_shl1, nI_or, nI_half2, nI_min2, la_put_eq, la_up, lr_same, lr_ne, lu_same, lu_ne, not_true_eq_false, not_false_eq_true] at c9) <;> first | (exfalso; omega) | conv => whnf)
        | (refine ⟨_, rfl, by omega, ?_⟩; conv => whnf)
        | (refine ⟨_, rfl, rfl, rfl, by decide, by decide, ?_⟩; conv => whnf)
        | (refine ⟨_, by (simp (disch := omega) only [nI_leI, nI_ltI, nI_eq, nz_eq, nz_lt, nz_gt, nz_le, nz_ge, nz_00, nz_n1, nI_add, pk_mul, pk_sub, nI_shl1, nI_or, nI_half2, nI_min2, la_put_eq, la_up, lr_same, lr_ne, lu_same, lu_ne, not_true_eq_false, not_false_eq_true]; rfl), by omega, ?_⟩; conv => whnf)
        | (refine And.intro (by first | assumption | decide) ?_; conv => whnf))
      all_goals (try simp (disch := omega) only [nI_leI, nI_ltI, nI_eq, nz_eq, nz_lt, nz_gt, nz_le, nz_ge, nz_00, nz_n1, nI_add, pk_mul, pk_sub, nI_shl1, nI_or, nI_half2, nI_min2, la_put_eq, la_up, lr_same, lr_ne, lu_same, lu_ne, not_true_eq_false, not_false_eq_true])
      · rw [la_self hHX]
        refine mid 0 X H ?_ wX (fun _ _ _ _ _ => rfl) (by omega) hHX hrow hfr
        rw [show v = 0 by omega, Nat.zero_mul]
      · refine ⟨(1, lu X 0 8 9, _), ⟨rfl, rfl, la_put_at _ _ _, w9, by omega⟩, fun z h' hq => ?_⟩
        obtain ⟨rfl, rfl⟩ := hq
        have eL := sp_live_day (lu X 0 8 9)
        have wL := la_ok_live w9 (by omega)
        conv => whnf
        repeat' (first
          | (refine ⟨fun c9 => ?_, fun c9 => ?_⟩ <;> (try simp (disch := omega) only [nI_leI, nI_ltI, nI_eq, nz_eq, nz_lt, nz_gt, nz_le, nz_ge, nz_00, nz_n1, nI_add, pk_mul, pk_sub, nI_shl1, nI_or, nI_half2, nI_min2, la_put_eq, la_up, lr_same, lr_ne, lu_same, lu_ne, not_true_eq_false, not_false_eq_true, la_put2] at c9) <;> first | (exfalso; omega) | conv => whnf)
          | (refine ⟨_, rfl, by omega, ?_⟩; conv => whnf)
          | (refine ⟨_, rfl, rfl, rfl, by decide, by decide, ?_⟩; conv => whnf)
          | (refine ⟨_, by (simp (disch := omega) only [nI_leI, nI_ltI, nI_eq, nz_eq, nz_lt, nz_gt, nz_le, nz_ge, nz_00, nz_n1, nI_add, pk_mul, pk_sub, nI_shl1, nI_or, nI_half2, nI_min2, la_put_eq, la_up, lr_same, lr_ne, lu_same, lu_ne, not_true_eq_false, not_false_eq_true, la_put2]; rfl), by omega, ?_⟩; conv => whnf)
          | (refine And.intro (by first | assumption | decide) ?_; conv => whnf))
        all_goals (try simp (disch := omega) only [nI_leI, nI_ltI, nI_eq, nz_eq, nz_lt, nz_gt, nz_le, nz_ge, nz_00, nz_n1, nI_add, pk_mul, pk_sub, nI_shl1, nI_or, nI_half2, nI_min2, la_put_eq, la_up, lr_same, lr_ne, lu_same, lu_ne, not_true_eq_false, not_false_eq_true, la_put2])
        refine ⟨(r, gn + 1, n, v, o, f, s, N, sp_live (lu X 0 8 9), _), ⟨rfl, rfl, by omega, by omega, hn, hv, hf, hs, ?_, la_put_at _ _ _, wN, wL, by omega⟩, fun z h' hq => ?_⟩
        · intro s' j'
          rw [la_put_ne (by omega), hfr _ _ _ _ (by omega) (by omega), hN]
        obtain ⟨hr, Y, wY, hY5, hYd, hYa, hYf⟩ := hq
        subst hr
        have ei : (nI v).toInt64 = lN v := nI_l (by omega)
        conv => whnf
        repeat' (first
          | (refine ⟨fun c9 => ?_, fun c9 => ?_⟩ <;> (try simp (disch := omega) only [nI_leI, nI_ltI, nI_eq, nz_eq, nz_lt, nz_gt, nz_le, nz_ge, nz_00, nz_n1, nI_add, pk_mul, pk_sub, nI_shl1, nI_or, nI_half2, nI_min2, la_put_eq, la_up, lr_same, lr_ne, lu_same, lu_ne, not_true_eq_false, not_false_eq_true, ei, lN_mul, lN_add, Nat.zero_add] at c9) <;> first | (exfalso; omega) | conv => whnf)
          | (refine ⟨_, rfl, by omega, ?_⟩; conv => whnf)
          | (refine ⟨_, rfl, rfl, rfl, by decide, by decide, ?_⟩; conv => whnf)
          | (refine ⟨_, by (simp (disch := omega) only [nI_leI, nI_ltI, nI_eq, nz_eq, nz_lt, nz_gt, nz_le, nz_ge, nz_00, nz_n1, nI_add, pk_mul, pk_sub, nI_shl1, nI_or, nI_half2, nI_min2, la_put_eq, la_up, lr_same, lr_ne, lu_same, lu_ne, not_true_eq_false, not_false_eq_true, ei, lN_mul, lN_add, Nat.zero_add]; rfl), by omega, ?_⟩; conv => whnf)
          | (refine And.intro (by first | assumption | decide) ?_; conv => whnf))
        all_goals (try simp (disch := omega) only [nI_leI, nI_ltI, nI_eq, nz_eq, nz_lt, nz_gt, nz_le, nz_ge, nz_00, nz_n1, nI_add, pk_mul, pk_sub, nI_shl1, nI_or, nI_half2, nI_min2, la_put_eq, la_up, lr_same, lr_ne, lu_same, lu_ne, not_true_eq_false, not_false_eq_true, ei, lN_mul, lN_add, Nat.zero_add])
        refine mid _ Y h' rfl wY (fun s' j' h2 h5 h0 => ?_) (by omega) hYa (fun j hj => ?_) (fun c i s' j' h1 h2 => ?_)
        · rw [hY5 s' j' h2 h5 h0, sp_live_s h5 h2 (by omega), lu_ne (by omega)]
        · rw [hYf 6 gn 0 j (by omega) (by omega), la_put_ne (by omega)]
          exact hrow j hj
        · rw [hYf c i s' j' h1 (by omega), la_put_ne h1]
          exact hfr c i s' j' h1 h2
    refine hK [(47, [0, 1, 2, 3, 4, 5, 6, 7])] 100 _ _ ?_
    conv => whnf
    repeat' (first
      | (refine ⟨fun c9 => ?_, fun c9 => ?_⟩ <;> (try simp (disch := omega) only [nI_leI, nI_ltI, nI_eq, nz_eq, nz_lt, nz_gt, nz_le, nz_ge, nz_00, nz_n1, nI_add, pk_mul, pk_sub, nI_shl1, nI_or, nI_half2, nI_min2, la_put_eq, la_up, lr_same, lr_ne, lu_same, lu_ne, not_true_eq_false, not_false_eq_true] at c9) <;> first | (exfalso; omega) | conv => whnf)
      | (refine ⟨_, rfl, by omega, ?_⟩; conv => whnf)
      | (refine ⟨_, rfl, rfl, rfl, by decide, by decide, ?_⟩; conv => whnf)
      | (refine ⟨_, by (simp (disch := omega) only [nI_leI, nI_ltI, nI_eq, nz_eq, nz_lt, nz_gt, nz_le, nz_ge, nz_00, nz_n1, nI_add, pk_mul, pk_sub, nI_shl1, nI_or, nI_half2, nI_min2, la_put_eq, la_up, lr_same, lr_ne, lu_same, lu_ne, not_true_eq_false, not_false_eq_true]; rfl), by omega, ?_⟩; conv => whnf)
      | (refine And.intro (by first | assumption | decide) ?_; conv => whnf))
    all_goals (try simp (disch := omega) only [nI_leI, nI_ltI, nI_eq, nz_eq, nz_lt, nz_gt, nz_le, nz_ge, nz_00, nz_n1, nI_add, pk_mul, pk_sub, nI_shl1, nI_or, nI_half2, nI_min2, la_put_eq, la_up, lr_same, lr_ne, lu_same, lu_ne, not_true_eq_false, not_false_eq_true])
    refine st _ (fun s' j' => ?_) (fun j hj => ?_) (fun c i s' j' h1 h2 => ?_)
    · rw [ua_ne (by omega)]; exact hX s' j'
    · rw [ua_eq]
      unfold pm_cp
      rw [if_pos hj]
      exact hX 5 j
    · rw [ua_ne (by omega)]
theorem M_X4_weigh : ∀ k, pm_MT yX4_weigh cX4_weigh 9 2 (4 + k) (P_X4_weigh k) (pm_pl2 (Q_X4_weigh k))
  | 0 => fun _ _ _ _ _ _ _ _ hp => hp.elim
  | k + 1 => pm_met (k_X4_weigh k (M_X4_weigh k)) (by decide) rfl (by
      rintro ⟨r, gn, n, v, o, f, s, N, X, h0⟩ av h hp
      rw [hp.1]
      exact Nat.le_of_ble_eq_true rfl) (pf_X4_weigh k)
end
