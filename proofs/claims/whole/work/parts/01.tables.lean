-- ===== PART A: goes FIRST, ahead of the names: the tables' words, and 'selects' of the private methods out of them =====
/-- a private method of a class that the tables say can be made, by its rows of tables_1 -/
def lw_okq (q : MethodName × Nat) : Prop := (q.1.cls ≠ "java/lang/invoke/MethodHandle" ∧ q.1.cls ≠ "java/lang/invoke/VarHandle") ∧ Cond.instantiable q.1.cls q.2 ∈ tables_1 ∧ Cond.privateMethod q.1 ∈ tables_1 ∧ Cond.instanceMethod q.1 ∈ tables_1
theorem lw_p0 : lw_okq (⟨"WinkCircle", "finding", "(I)I"⟩, 10) := ⟨⟨by decide +kernel, by decide +kernel⟩, List.mem_of_getElem? (i := 13) (by decide +kernel), List.mem_of_getElem? (i := 257) (by decide +kernel), List.mem_of_getElem? (i := 258) (by decide +kernel)⟩
theorem lw_p1 : lw_okq (⟨"WinkCircle", "unhindered", "(I)I"⟩, 10) := ⟨⟨by decide +kernel, by decide +kernel⟩, List.mem_of_getElem? (i := 13) (by decide +kernel), List.mem_of_getElem? (i := 266) (by decide +kernel), List.mem_of_getElem? (i := 267) (by decide +kernel)⟩
theorem lw_p2 : lw_okq (⟨"WinkCircle$Rows", "isWithin", "(III)Z"⟩, 3) := ⟨⟨by decide +kernel, by decide +kernel⟩, List.mem_of_getElem? (i := 21) (by decide +kernel), List.mem_of_getElem? (i := 282) (by decide +kernel), List.mem_of_getElem? (i := 283) (by decide +kernel)⟩
theorem lw_p3 : lw_okq (⟨"WinkCircle$Tape", "readSign", "(I)V"⟩, 4) := ⟨⟨by decide +kernel, by decide +kernel⟩, List.mem_of_getElem? (i := 40) (by decide +kernel), List.mem_of_getElem? (i := 340) (by decide +kernel), List.mem_of_getElem? (i := 341) (by decide +kernel)⟩
theorem lw_p4 : lw_okq (⟨"WinkCircle$Tape", "readNumber", "(II)I"⟩, 4) := ⟨⟨by decide +kernel, by decide +kernel⟩, List.mem_of_getElem? (i := 40) (by decide +kernel), List.mem_of_getElem? (i := 344) (by decide +kernel), List.mem_of_getElem? (i := 345) (by decide +kernel)⟩
theorem lw_p5 : lw_okq (⟨"WinkCircle$Tape", "isFigureAt", "(I)Z"⟩, 4) := ⟨⟨by decide +kernel, by decide +kernel⟩, List.mem_of_getElem? (i := 40) (by decide +kernel), List.mem_of_getElem? (i := 348) (by decide +kernel), List.mem_of_getElem? (i := 349) (by decide +kernel)⟩
theorem lw_p6 : lw_okq (⟨"WinkCircle$Tape", "readPlayer", "(LWinkCircle$Circle;I)V"⟩, 4) := ⟨⟨by decide +kernel, by decide +kernel⟩, List.mem_of_getElem? (i := 40) (by decide +kernel), List.mem_of_getElem? (i := 352) (by decide +kernel), List.mem_of_getElem? (i := 353) (by decide +kernel)⟩
theorem lw_p7 : lw_okq (⟨"WinkCircle$Circle", "nextLook", "(I)I"⟩, 12) := ⟨⟨by decide +kernel, by decide +kernel⟩, List.mem_of_getElem? (i := 59) (by decide +kernel), List.mem_of_getElem? (i := 418) (by decide +kernel), List.mem_of_getElem? (i := 419) (by decide +kernel)⟩
theorem lw_p8 : lw_okq (⟨"WinkCircle$Circle", "isAsleep", "(I)Z"⟩, 12) := ⟨⟨by decide +kernel, by decide +kernel⟩, List.mem_of_getElem? (i := 59) (by decide +kernel), List.mem_of_getElem? (i := 422) (by decide +kernel), List.mem_of_getElem? (i := 423) (by decide +kernel)⟩
theorem lw_p9 : lw_okq (⟨"WinkCircle$Circle", "roveUp", "(I)I"⟩, 12) := ⟨⟨by decide +kernel, by decide +kernel⟩, List.mem_of_getElem? (i := 59) (by decide +kernel), List.mem_of_getElem? (i := 426) (by decide +kernel), List.mem_of_getElem? (i := 427) (by decide +kernel)⟩
theorem lw_p10 : lw_okq (⟨"WinkCircle$Circle", "roveDown", "(I)I"⟩, 12) := ⟨⟨by decide +kernel, by decide +kernel⟩, List.mem_of_getElem? (i := 59) (by decide +kernel), List.mem_of_getElem? (i := 430) (by decide +kernel), List.mem_of_getElem? (i := 431) (by decide +kernel)⟩
theorem lw_p11 : lw_okq (⟨"WinkCircle$Circle", "nextNotDead", "(I)I"⟩, 12) := ⟨⟨by decide +kernel, by decide +kernel⟩, List.mem_of_getElem? (i := 59) (by decide +kernel), List.mem_of_getElem? (i := 438) (by decide +kernel), List.mem_of_getElem? (i := 439) (by decide +kernel)⟩
theorem lw_p12 : lw_okq (⟨"WinkCircle$Circle", "wink", "()V"⟩, 12) := ⟨⟨by decide +kernel, by decide +kernel⟩, List.mem_of_getElem? (i := 59) (by decide +kernel), List.mem_of_getElem? (i := 442) (by decide +kernel), List.mem_of_getElem? (i := 443) (by decide +kernel)⟩
theorem lw_p13 : lw_okq (⟨"WinkCircle$Circle", "seeWink", "(I)V"⟩, 12) := ⟨⟨by decide +kernel, by decide +kernel⟩, List.mem_of_getElem? (i := 59) (by decide +kernel), List.mem_of_getElem? (i := 450) (by decide +kernel), List.mem_of_getElem? (i := 451) (by decide +kernel)⟩
theorem lw_p14 : lw_okq (⟨"WinkCircle$Circle", "fade", "()V"⟩, 12) := ⟨⟨by decide +kernel, by decide +kernel⟩, List.mem_of_getElem? (i := 59) (by decide +kernel), List.mem_of_getElem? (i := 454) (by decide +kernel), List.mem_of_getElem? (i := 455) (by decide +kernel)⟩
theorem lw_p15 : lw_okq (⟨"WinkCircle$Seer", "beginWithMurderer", "(LWinkCircle$Circle;I)V"⟩, 10) := ⟨⟨by decide +kernel, by decide +kernel⟩, List.mem_of_getElem? (i := 148) (by decide +kernel), List.mem_of_getElem? (i := 554) (by decide +kernel), List.mem_of_getElem? (i := 555) (by decide +kernel)⟩
def lw_privs_1 : List (MethodName × Nat) := [(⟨"WinkCircle", "finding", "(I)I"⟩, 10), (⟨"WinkCircle", "unhindered", "(I)I"⟩, 10), (⟨"WinkCircle$Rows", "isWithin", "(III)Z"⟩, 3), (⟨"WinkCircle$Tape", "readSign", "(I)V"⟩, 4), (⟨"WinkCircle$Tape", "readNumber", "(II)I"⟩, 4), (⟨"WinkCircle$Tape", "isFigureAt", "(I)Z"⟩, 4), (⟨"WinkCircle$Tape", "readPlayer", "(LWinkCircle$Circle;I)V"⟩, 4), (⟨"WinkCircle$Circle", "nextLook", "(I)I"⟩, 12), (⟨"WinkCircle$Circle", "isAsleep", "(I)Z"⟩, 12), (⟨"WinkCircle$Circle", "roveUp", "(I)I"⟩, 12), (⟨"WinkCircle$Circle", "roveDown", "(I)I"⟩, 12), (⟨"WinkCircle$Circle", "nextNotDead", "(I)I"⟩, 12), (⟨"WinkCircle$Circle", "wink", "()V"⟩, 12), (⟨"WinkCircle$Circle", "seeWink", "(I)V"⟩, 12), (⟨"WinkCircle$Circle", "fade", "()V"⟩, 12), (⟨"WinkCircle$Seer", "beginWithMurderer", "(LWinkCircle$Circle;I)V"⟩, 10)]
theorem lw_r1 : ∀ q ∈ lw_privs_1, lw_okq q := List.forall_mem_cons.mpr ⟨lw_p0, List.forall_mem_cons.mpr ⟨lw_p1, List.forall_mem_cons.mpr ⟨lw_p2, List.forall_mem_cons.mpr ⟨lw_p3, List.forall_mem_cons.mpr ⟨lw_p4, List.forall_mem_cons.mpr ⟨lw_p5, List.forall_mem_cons.mpr ⟨lw_p6, List.forall_mem_cons.mpr ⟨lw_p7, List.forall_mem_cons.mpr ⟨lw_p8, List.forall_mem_cons.mpr ⟨lw_p9, List.forall_mem_cons.mpr ⟨lw_p10, List.forall_mem_cons.mpr ⟨lw_p11, List.forall_mem_cons.mpr ⟨lw_p12, List.forall_mem_cons.mpr ⟨lw_p13, List.forall_mem_cons.mpr ⟨lw_p14, List.forall_mem_cons.mpr ⟨lw_p15, fun _ h => absurd h List.not_mem_nil⟩⟩⟩⟩⟩⟩⟩⟩⟩⟩⟩⟩⟩⟩⟩⟩
theorem lw_p16 : lw_okq (⟨"WinkCircle$Seer", "offer", "(II)V"⟩, 10) := ⟨⟨by decide +kernel, by decide +kernel⟩, List.mem_of_getElem? (i := 148) (by decide +kernel), List.mem_of_getElem? (i := 563) (by decide +kernel), List.mem_of_getElem? (i := 564) (by decide +kernel)⟩
theorem lw_p17 : lw_okq (⟨"WinkCircle$Seer", "isAsHeard", "()Z"⟩, 10) := ⟨⟨by decide +kernel, by decide +kernel⟩, List.mem_of_getElem? (i := 148) (by decide +kernel), List.mem_of_getElem? (i := 647) (by decide +kernel), List.mem_of_getElem? (i := 648) (by decide +kernel)⟩
theorem lw_p18 : lw_okq (⟨"WinkCircle$Seer", "isFoundThough", "(LWinkCircle$Circle;II)Z"⟩, 10) := ⟨⟨by decide +kernel, by decide +kernel⟩, List.mem_of_getElem? (i := 148) (by decide +kernel), List.mem_of_getElem? (i := 683) (by decide +kernel), List.mem_of_getElem? (i := 684) (by decide +kernel)⟩
theorem lw_p19 : lw_okq (⟨"WinkCircle$Seer", "reduce", "()V"⟩, 10) := ⟨⟨by decide +kernel, by decide +kernel⟩, List.mem_of_getElem? (i := 148) (by decide +kernel), List.mem_of_getElem? (i := 687) (by decide +kernel), List.mem_of_getElem? (i := 688) (by decide +kernel)⟩
theorem lw_p20 : lw_okq (⟨"WinkCircle$Seer", "disturb", "(J)V"⟩, 10) := ⟨⟨by decide +kernel, by decide +kernel⟩, List.mem_of_getElem? (i := 148) (by decide +kernel), List.mem_of_getElem? (i := 702) (by decide +kernel), List.mem_of_getElem? (i := 703) (by decide +kernel)⟩
theorem lw_p21 : lw_okq (⟨"WinkCircle$Asks", "sizeOfShy", "()I"⟩, 6) := ⟨⟨by decide +kernel, by decide +kernel⟩, List.mem_of_getElem? (i := 193) (by decide +kernel), List.mem_of_getElem? (i := 744) (by decide +kernel), List.mem_of_getElem? (i := 745) (by decide +kernel)⟩
theorem lw_p22 : lw_okq (⟨"WinkCircle$Asks", "leave", "(I)V"⟩, 6) := ⟨⟨by decide +kernel, by decide +kernel⟩, List.mem_of_getElem? (i := 193) (by decide +kernel), List.mem_of_getElem? (i := 748) (by decide +kernel), List.mem_of_getElem? (i := 749) (by decide +kernel)⟩
theorem lw_p23 : lw_okq (⟨"WinkCircle$Asks", "sizeOfRover", "()I"⟩, 6) := ⟨⟨by decide +kernel, by decide +kernel⟩, List.mem_of_getElem? (i := 193) (by decide +kernel), List.mem_of_getElem? (i := 752) (by decide +kernel), List.mem_of_getElem? (i := 753) (by decide +kernel)⟩
theorem lw_p24 : lw_okq (⟨"WinkCircle$Asks", "markOfRover", "()I"⟩, 6) := ⟨⟨by decide +kernel, by decide +kernel⟩, List.mem_of_getElem? (i := 193) (by decide +kernel), List.mem_of_getElem? (i := 756) (by decide +kernel), List.mem_of_getElem? (i := 757) (by decide +kernel)⟩
theorem lw_p25 : lw_okq (⟨"WinkCircle$Asks", "markOfShy", "()I"⟩, 6) := ⟨⟨by decide +kernel, by decide +kernel⟩, List.mem_of_getElem? (i := 193) (by decide +kernel), List.mem_of_getElem? (i := 764) (by decide +kernel), List.mem_of_getElem? (i := 765) (by decide +kernel)⟩
theorem lw_p26 : lw_okq (⟨"WinkCircleModel", "found", "(I)I"⟩, 24) := ⟨⟨by decide +kernel, by decide +kernel⟩, List.mem_of_getElem? (i := 795) (by decide +kernel), List.mem_of_getElem? (i := 887) (by decide +kernel), List.mem_of_getElem? (i := 888) (by decide +kernel)⟩
theorem lw_p27 : lw_okq (⟨"WinkCircleModel", "well", "(I)I"⟩, 24) := ⟨⟨by decide +kernel, by decide +kernel⟩, List.mem_of_getElem? (i := 795) (by decide +kernel), List.mem_of_getElem? (i := 892) (by decide +kernel), List.mem_of_getElem? (i := 893) (by decide +kernel)⟩
theorem lw_p28 : lw_okq (⟨"WinkCircleModel", "areIn", "(III)Z"⟩, 24) := ⟨⟨by decide +kernel, by decide +kernel⟩, List.mem_of_getElem? (i := 795) (by decide +kernel), List.mem_of_getElem? (i := 907) (by decide +kernel), List.mem_of_getElem? (i := 908) (by decide +kernel)⟩
theorem lw_p29 : lw_okq (⟨"WinkCircleModel", "step", "()V"⟩, 24) := ⟨⟨by decide +kernel, by decide +kernel⟩, List.mem_of_getElem? (i := 795) (by decide +kernel), List.mem_of_getElem? (i := 924) (by decide +kernel), List.mem_of_getElem? (i := 925) (by decide +kernel)⟩
theorem lw_p30 : lw_okq (⟨"WinkCircleModel", "here", "()I"⟩, 24) := ⟨⟨by decide +kernel, by decide +kernel⟩, List.mem_of_getElem? (i := 795) (by decide +kernel), List.mem_of_getElem? (i := 928) (by decide +kernel), List.mem_of_getElem? (i := 929) (by decide +kernel)⟩
theorem lw_p31 : lw_okq (⟨"WinkCircleModel", "isLetter", "(I)Z"⟩, 24) := ⟨⟨by decide +kernel, by decide +kernel⟩, List.mem_of_getElem? (i := 795) (by decide +kernel), List.mem_of_getElem? (i := 932) (by decide +kernel), List.mem_of_getElem? (i := 933) (by decide +kernel)⟩
def lw_privs_2 : List (MethodName × Nat) := [(⟨"WinkCircle$Seer", "offer", "(II)V"⟩, 10), (⟨"WinkCircle$Seer", "isAsHeard", "()Z"⟩, 10), (⟨"WinkCircle$Seer", "isFoundThough", "(LWinkCircle$Circle;II)Z"⟩, 10), (⟨"WinkCircle$Seer", "reduce", "()V"⟩, 10), (⟨"WinkCircle$Seer", "disturb", "(J)V"⟩, 10), (⟨"WinkCircle$Asks", "sizeOfShy", "()I"⟩, 6), (⟨"WinkCircle$Asks", "leave", "(I)V"⟩, 6), (⟨"WinkCircle$Asks", "sizeOfRover", "()I"⟩, 6), (⟨"WinkCircle$Asks", "markOfRover", "()I"⟩, 6), (⟨"WinkCircle$Asks", "markOfShy", "()I"⟩, 6), (⟨"WinkCircleModel", "found", "(I)I"⟩, 24), (⟨"WinkCircleModel", "well", "(I)I"⟩, 24), (⟨"WinkCircleModel", "areIn", "(III)Z"⟩, 24), (⟨"WinkCircleModel", "step", "()V"⟩, 24), (⟨"WinkCircleModel", "here", "()I"⟩, 24), (⟨"WinkCircleModel", "isLetter", "(I)Z"⟩, 24)]
theorem lw_r2 : ∀ q ∈ lw_privs_2, lw_okq q := List.forall_mem_cons.mpr ⟨lw_p16, List.forall_mem_cons.mpr ⟨lw_p17, List.forall_mem_cons.mpr ⟨lw_p18, List.forall_mem_cons.mpr ⟨lw_p19, List.forall_mem_cons.mpr ⟨lw_p20, List.forall_mem_cons.mpr ⟨lw_p21, List.forall_mem_cons.mpr ⟨lw_p22, List.forall_mem_cons.mpr ⟨lw_p23, List.forall_mem_cons.mpr ⟨lw_p24, List.forall_mem_cons.mpr ⟨lw_p25, List.forall_mem_cons.mpr ⟨lw_p26, List.forall_mem_cons.mpr ⟨lw_p27, List.forall_mem_cons.mpr ⟨lw_p28, List.forall_mem_cons.mpr ⟨lw_p29, List.forall_mem_cons.mpr ⟨lw_p30, List.forall_mem_cons.mpr ⟨lw_p31, fun _ h => absurd h List.not_mem_nil⟩⟩⟩⟩⟩⟩⟩⟩⟩⟩⟩⟩⟩⟩⟩⟩
theorem lw_p32 : lw_okq (⟨"WinkCircleModel", "due", "(ZI)V"⟩, 24) := ⟨⟨by decide +kernel, by decide +kernel⟩, List.mem_of_getElem? (i := 795) (by decide +kernel), List.mem_of_getElem? (i := 936) (by decide +kernel), List.mem_of_getElem? (i := 937) (by decide +kernel)⟩
theorem lw_p33 : lw_okq (⟨"WinkCircleModel", "told", "(III)I"⟩, 24) := ⟨⟨by decide +kernel, by decide +kernel⟩, List.mem_of_getElem? (i := 795) (by decide +kernel), List.mem_of_getElem? (i := 940) (by decide +kernel), List.mem_of_getElem? (i := 941) (by decide +kernel)⟩
theorem lw_p34 : lw_okq (⟨"WinkCircleModel", "playerSort", "()I"⟩, 24) := ⟨⟨by decide +kernel, by decide +kernel⟩, List.mem_of_getElem? (i := 795) (by decide +kernel), List.mem_of_getElem? (i := 944) (by decide +kernel), List.mem_of_getElem? (i := 945) (by decide +kernel)⟩
theorem lw_p35 : lw_okq (⟨"WinkCircleModel", "readPlayer", "()V"⟩, 24) := ⟨⟨by decide +kernel, by decide +kernel⟩, List.mem_of_getElem? (i := 795) (by decide +kernel), List.mem_of_getElem? (i := 948) (by decide +kernel), List.mem_of_getElem? (i := 949) (by decide +kernel)⟩
theorem lw_p36 : lw_okq (⟨"WinkCircleModel", "know", "()V"⟩, 24) := ⟨⟨by decide +kernel, by decide +kernel⟩, List.mem_of_getElem? (i := 795) (by decide +kernel), List.mem_of_getElem? (i := 966) (by decide +kernel), List.mem_of_getElem? (i := 967) (by decide +kernel)⟩
theorem lw_p37 : lw_okq (⟨"WinkCircleModel", "passOn", "([I)I"⟩, 24) := ⟨⟨by decide +kernel, by decide +kernel⟩, List.mem_of_getElem? (i := 795) (by decide +kernel), List.mem_of_getElem? (i := 970) (by decide +kernel), List.mem_of_getElem? (i := 971) (by decide +kernel)⟩
theorem lw_p38 : lw_okq (⟨"WinkCircleModel", "isPlayer", "(I)Z"⟩, 24) := ⟨⟨by decide +kernel, by decide +kernel⟩, List.mem_of_getElem? (i := 795) (by decide +kernel), List.mem_of_getElem? (i := 999) (by decide +kernel), List.mem_of_getElem? (i := 1000) (by decide +kernel)⟩
theorem lw_p39 : lw_okq (⟨"WinkCircleModel", "take", "()V"⟩, 24) := ⟨⟨by decide +kernel, by decide +kernel⟩, List.mem_of_getElem? (i := 795) (by decide +kernel), List.mem_of_getElem? (i := 1037) (by decide +kernel), List.mem_of_getElem? (i := 1038) (by decide +kernel)⟩
theorem lw_p40 : lw_okq (⟨"WinkCircleModel", "passAll", "(I)V"⟩, 24) := ⟨⟨by decide +kernel, by decide +kernel⟩, List.mem_of_getElem? (i := 795) (by decide +kernel), List.mem_of_getElem? (i := 1041) (by decide +kernel), List.mem_of_getElem? (i := 1042) (by decide +kernel)⟩
theorem lw_p41 : lw_okq (⟨"WinkCircleModel", "takeWith", "(I)V"⟩, 24) := ⟨⟨by decide +kernel, by decide +kernel⟩, List.mem_of_getElem? (i := 795) (by decide +kernel), List.mem_of_getElem? (i := 1065) (by decide +kernel), List.mem_of_getElem? (i := 1066) (by decide +kernel)⟩
theorem lw_p42 : lw_okq (⟨"WinkCircleModel", "allSaw", "()I"⟩, 24) := ⟨⟨by decide +kernel, by decide +kernel⟩, List.mem_of_getElem? (i := 795) (by decide +kernel), List.mem_of_getElem? (i := 1091) (by decide +kernel), List.mem_of_getElem? (i := 1092) (by decide +kernel)⟩
theorem lw_p43 : lw_okq (⟨"WinkCircleModel", "deadBy", "(III)I"⟩, 24) := ⟨⟨by decide +kernel, by decide +kernel⟩, List.mem_of_getElem? (i := 795) (by decide +kernel), List.mem_of_getElem? (i := 1099) (by decide +kernel), List.mem_of_getElem? (i := 1100) (by decide +kernel)⟩
theorem lw_p44 : lw_okq (⟨"WinkCircleModel", "isSo", "(III)Z"⟩, 24) := ⟨⟨by decide +kernel, by decide +kernel⟩, List.mem_of_getElem? (i := 795) (by decide +kernel), List.mem_of_getElem? (i := 1107) (by decide +kernel), List.mem_of_getElem? (i := 1108) (by decide +kernel)⟩
theorem lw_p45 : lw_okq (⟨"WinkCircleModel", "sizeOf", "(I)I"⟩, 24) := ⟨⟨by decide +kernel, by decide +kernel⟩, List.mem_of_getElem? (i := 795) (by decide +kernel), List.mem_of_getElem? (i := 1147) (by decide +kernel), List.mem_of_getElem? (i := 1148) (by decide +kernel)⟩
theorem lw_p46 : lw_okq (⟨"WinkCircleModel", "leave", "(I)V"⟩, 24) := ⟨⟨by decide +kernel, by decide +kernel⟩, List.mem_of_getElem? (i := 795) (by decide +kernel), List.mem_of_getElem? (i := 1151) (by decide +kernel), List.mem_of_getElem? (i := 1152) (by decide +kernel)⟩
theorem lw_p47 : lw_okq (⟨"WinkCircleModel", "body11", "(I)I"⟩, 24) := ⟨⟨by decide +kernel, by decide +kernel⟩, List.mem_of_getElem? (i := 795) (by decide +kernel), List.mem_of_getElem? (i := 1155) (by decide +kernel), List.mem_of_getElem? (i := 1156) (by decide +kernel)⟩
def lw_privs_3 : List (MethodName × Nat) := [(⟨"WinkCircleModel", "due", "(ZI)V"⟩, 24), (⟨"WinkCircleModel", "told", "(III)I"⟩, 24), (⟨"WinkCircleModel", "playerSort", "()I"⟩, 24), (⟨"WinkCircleModel", "readPlayer", "()V"⟩, 24), (⟨"WinkCircleModel", "know", "()V"⟩, 24), (⟨"WinkCircleModel", "passOn", "([I)I"⟩, 24), (⟨"WinkCircleModel", "isPlayer", "(I)Z"⟩, 24), (⟨"WinkCircleModel", "take", "()V"⟩, 24), (⟨"WinkCircleModel", "passAll", "(I)V"⟩, 24), (⟨"WinkCircleModel", "takeWith", "(I)V"⟩, 24), (⟨"WinkCircleModel", "allSaw", "()I"⟩, 24), (⟨"WinkCircleModel", "deadBy", "(III)I"⟩, 24), (⟨"WinkCircleModel", "isSo", "(III)Z"⟩, 24), (⟨"WinkCircleModel", "sizeOf", "(I)I"⟩, 24), (⟨"WinkCircleModel", "leave", "(I)V"⟩, 24), (⟨"WinkCircleModel", "body11", "(I)I"⟩, 24)]
theorem lw_r3 : ∀ q ∈ lw_privs_3, lw_okq q := List.forall_mem_cons.mpr ⟨lw_p32, List.forall_mem_cons.mpr ⟨lw_p33, List.forall_mem_cons.mpr ⟨lw_p34, List.forall_mem_cons.mpr ⟨lw_p35, List.forall_mem_cons.mpr ⟨lw_p36, List.forall_mem_cons.mpr ⟨lw_p37, List.forall_mem_cons.mpr ⟨lw_p38, List.forall_mem_cons.mpr ⟨lw_p39, List.forall_mem_cons.mpr ⟨lw_p40, List.forall_mem_cons.mpr ⟨lw_p41, List.forall_mem_cons.mpr ⟨lw_p42, List.forall_mem_cons.mpr ⟨lw_p43, List.forall_mem_cons.mpr ⟨lw_p44, List.forall_mem_cons.mpr ⟨lw_p45, List.forall_mem_cons.mpr ⟨lw_p46, List.forall_mem_cons.mpr ⟨lw_p47, fun _ h => absurd h List.not_mem_nil⟩⟩⟩⟩⟩⟩⟩⟩⟩⟩⟩⟩⟩⟩⟩⟩
theorem lw_p48 : lw_okq (⟨"WinkCircleModel", "body10", "(I)I"⟩, 24) := ⟨⟨by decide +kernel, by decide +kernel⟩, List.mem_of_getElem? (i := 795) (by decide +kernel), List.mem_of_getElem? (i := 1159) (by decide +kernel), List.mem_of_getElem? (i := 1160) (by decide +kernel)⟩
theorem lw_p49 : lw_okq (⟨"WinkCircleModel", "markOfRover", "(I)I"⟩, 24) := ⟨⟨by decide +kernel, by decide +kernel⟩, List.mem_of_getElem? (i := 795) (by decide +kernel), List.mem_of_getElem? (i := 1163) (by decide +kernel), List.mem_of_getElem? (i := 1164) (by decide +kernel)⟩
theorem lw_p50 : lw_okq (⟨"WinkCircleModel", "body21", "(I)I"⟩, 24) := ⟨⟨by decide +kernel, by decide +kernel⟩, List.mem_of_getElem? (i := 795) (by decide +kernel), List.mem_of_getElem? (i := 1167) (by decide +kernel), List.mem_of_getElem? (i := 1168) (by decide +kernel)⟩
theorem lw_p51 : lw_okq (⟨"WinkCircleModel", "body20", "(I)I"⟩, 24) := ⟨⟨by decide +kernel, by decide +kernel⟩, List.mem_of_getElem? (i := 795) (by decide +kernel), List.mem_of_getElem? (i := 1171) (by decide +kernel), List.mem_of_getElem? (i := 1172) (by decide +kernel)⟩
theorem lw_p52 : lw_okq (⟨"WinkCircleModel", "body13", "(I)I"⟩, 24) := ⟨⟨by decide +kernel, by decide +kernel⟩, List.mem_of_getElem? (i := 795) (by decide +kernel), List.mem_of_getElem? (i := 1175) (by decide +kernel), List.mem_of_getElem? (i := 1176) (by decide +kernel)⟩
theorem lw_p53 : lw_okq (⟨"WinkCircleModel", "markOf", "(I)I"⟩, 24) := ⟨⟨by decide +kernel, by decide +kernel⟩, List.mem_of_getElem? (i := 795) (by decide +kernel), List.mem_of_getElem? (i := 1179) (by decide +kernel), List.mem_of_getElem? (i := 1180) (by decide +kernel)⟩
def lw_privs_4 : List (MethodName × Nat) := [(⟨"WinkCircleModel", "body10", "(I)I"⟩, 24), (⟨"WinkCircleModel", "markOfRover", "(I)I"⟩, 24), (⟨"WinkCircleModel", "body21", "(I)I"⟩, 24), (⟨"WinkCircleModel", "body20", "(I)I"⟩, 24), (⟨"WinkCircleModel", "body13", "(I)I"⟩, 24), (⟨"WinkCircleModel", "markOf", "(I)I"⟩, 24)]
theorem lw_r4 : ∀ q ∈ lw_privs_4, lw_okq q := List.forall_mem_cons.mpr ⟨lw_p48, List.forall_mem_cons.mpr ⟨lw_p49, List.forall_mem_cons.mpr ⟨lw_p50, List.forall_mem_cons.mpr ⟨lw_p51, List.forall_mem_cons.mpr ⟨lw_p52, List.forall_mem_cons.mpr ⟨lw_p53, fun _ h => absurd h List.not_mem_nil⟩⟩⟩⟩⟩⟩
def lw_privs : List (MethodName × Nat) := lw_privs_1 ++ (lw_privs_2 ++ (lw_privs_3 ++ (lw_privs_4)))
def lw_tbl : List Cond := k2_sels lw_privs ++ tables_1
theorem lw_privs_ok : ∀ q ∈ lw_privs, lw_okq q := by
  show ∀ q ∈ lw_privs_1 ++ (lw_privs_2 ++ (lw_privs_3 ++ (lw_privs_4))), lw_okq q
  exact List.forall_mem_append.mpr ⟨lw_r1, List.forall_mem_append.mpr ⟨lw_r2, List.forall_mem_append.mpr ⟨lw_r3, lw_r4⟩⟩⟩
def RX0 : String := "WinkCircle$Acts"
def TX0 : u_T := fun k => match k with
  | 0 => ("WinkCircle$Acts", "before", "[LWinkCircle$Circle;", true)
  | 1 => ("WinkCircle$Acts", "oldest", "I", false)
  | _ => ("WinkCircle$Acts", "kept", "I", false)
def tyX0 : Nat → FieldType := fun k => match k with
  | 0 => .array (.object "WinkCircle$Circle")
  | 1 => .int
  | _ => .int
theorem nmX0 : ∀ a, a < 3 → ∀ b, b < 3 → a ≠ b → (TX0 a).2.1 ≠ (TX0 b).2.1 := by decide +kernel
theorem tyX0_ok : ∀ k, k < 3 → parseFieldDescriptor (TX0 k).2.2.1 = some (tyX0 k) := by decide +kernel
theorem inX0 : ∀ w ∈ u_ws RX0 TX0 3, w ∈ lw_tbl := by
  have h : u_ws RX0 TX0 3 = ([194, 196, 198] : List Nat).filterMap (fun i => lw_tbl[i]?) := by decide +kernel
  intro w hw
  rw [h] at hw
  obtain ⟨i, -, hi⟩ := List.mem_filterMap.mp hw
  exact List.mem_of_getElem? hi
def RX1 : String := "WinkCircle$Asks"
def TX1 : u_T := fun k => match k with
  | 0 => ("WinkCircle$Asks", "numbers", "[I", true)
  | 1 => ("WinkCircle$Asks", "used", "I", false)
  | 2 => ("WinkCircle$Asks", "one", "I", false)
  | 3 => ("WinkCircle$Asks", "kind", "I", false)
  | 4 => ("WinkCircle$Asks", "slow", "I", false)
  | _ => ("WinkCircle$Asks", "saw", "I", false)
def tyX1 : Nat → FieldType := fun k => match k with
  | 0 => .array .int
  | 1 => .int
  | 2 => .int
  | 3 => .int
  | 4 => .int
  | _ => .int
theorem nmX1 : ∀ a, a < 6 → ∀ b, b < 6 → a ≠ b → (TX1 a).2.1 ≠ (TX1 b).2.1 := by decide +kernel
theorem tyX1_ok : ∀ k, k < 6 → parseFieldDescriptor (TX1 k).2.2.1 = some (tyX1 k) := by decide +kernel
theorem inX1 : ∀ w ∈ u_ws RX1 TX1 6, w ∈ lw_tbl := by
  have h : u_ws RX1 TX1 6 = ([258, 260, 262, 264, 266, 268] : List Nat).filterMap (fun i => lw_tbl[i]?) := by decide +kernel
  intro w hw
  rw [h] at hw
  obtain ⟨i, -, hi⟩ := List.mem_filterMap.mp hw
  exact List.mem_of_getElem? hi
def RX2 : String := "WinkCircle$Circle"
def TX2 : u_T := fun k => match k with
  | 0 => ("WinkCircle$Circle", "players", "I", false)
  | 1 => ("WinkCircle$Circle", "murderer", "I", false)
  | 2 => ("WinkCircle$Circle", "proof", "I", false)
  | 3 => ("WinkCircle$Circle", "tick", "I", false)
  | 4 => ("WinkCircle$Circle", "found", "Z", false)
  | 5 => ("WinkCircle$Circle", "asleep", "I", false)
  | 6 => ("WinkCircle$Circle", "kind", "[I", true)
  | 7 => ("WinkCircle$Circle", "look", "[I", true)
  | 8 => ("WinkCircle$Circle", "slow", "[I", true)
  | 9 => ("WinkCircle$Circle", "how", "[I", true)
  | 10 => ("WinkCircle$Circle", "left", "[I", true)
  | _ => ("WinkCircle$Circle", "saw", "[I", true)
def tyX2 : Nat → FieldType := fun k => match k with
  | 0 => .int
  | 1 => .int
  | 2 => .int
  | 3 => .int
  | 4 => .boolean
  | 5 => .int
  | 6 => .array .int
  | 7 => .array .int
  | 8 => .array .int
  | 9 => .array .int
  | 10 => .array .int
  | _ => .array .int
theorem nmX2 : ∀ a, a < 12 → ∀ b, b < 12 → a ≠ b → (TX2 a).2.1 ≠ (TX2 b).2.1 := by decide +kernel
theorem tyX2_ok : ∀ k, k < 12 → parseFieldDescriptor (TX2 k).2.2.1 = some (tyX2 k) := by decide +kernel
theorem inX2 : ∀ w ∈ u_ws RX2 TX2 12, w ∈ lw_tbl := by
  have h : u_ws RX2 TX2 12 = ([157, 159, 161, 163, 165, 167, 169, 171, 173, 175, 177, 179] : List Nat).filterMap (fun i => lw_tbl[i]?) := by decide +kernel
  intro w hw
  rw [h] at hw
  obtain ⟨i, -, hi⟩ := List.mem_filterMap.mp hw
  exact List.mem_of_getElem? hi
def RX3 : String := "WinkCircle$Rows"
def TX3 : u_T := fun k => match k with
  | 0 => ("WinkCircle$Rows", "items", "[[I", true)
  | 1 => ("WinkCircle$Rows", "lane", "[I", true)
  | _ => ("WinkCircle$Rows", "size", "[I", true)
def tyX3 : Nat → FieldType := fun k => match k with
  | 0 => .array (.array .int)
  | 1 => .array .int
  | _ => .array .int
theorem nmX3 : ∀ a, a < 3 → ∀ b, b < 3 → a ≠ b → (TX3 a).2.1 ≠ (TX3 b).2.1 := by decide +kernel
theorem tyX3_ok : ∀ k, k < 3 → parseFieldDescriptor (TX3 k).2.2.1 = some (tyX3 k) := by decide +kernel
theorem inX3 : ∀ w ∈ u_ws RX3 TX3 3, w ∈ lw_tbl := by
  have h : u_ws RX3 TX3 3 = ([85, 87, 89] : List Nat).filterMap (fun i => lw_tbl[i]?) := by decide +kernel
  intro w hw
  rw [h] at hw
  obtain ⟨i, -, hi⟩ := List.mem_filterMap.mp hw
  exact List.mem_of_getElem? hi
def RX4 : String := "WinkCircle$Seer"
def TX4 : u_T := fun k => match k with
  | 0 => ("WinkCircle$Seer", "trial", "LWinkCircle$Circle;", true)
  | 1 => ("WinkCircle$Seer", "table", "LWinkCircle$Circle;", true)
  | 2 => ("WinkCircle$Seer", "heard", "[I", true)
  | 3 => ("WinkCircle$Seer", "heardLength", "I", false)
  | 4 => ("WinkCircle$Seer", "bestOne", "I", false)
  | 5 => ("WinkCircle$Seer", "bestDead", "I", false)
  | 6 => ("WinkCircle$Seer", "died", "I", false)
  | 7 => ("WinkCircle$Seer", "timesFound", "I", false)
  | 8 => ("WinkCircle$Seer", "numerator", "J", false)
  | _ => ("WinkCircle$Seer", "denominator", "J", false)
def tyX4 : Nat → FieldType := fun k => match k with
  | 0 => .object "WinkCircle$Circle"
  | 1 => .object "WinkCircle$Circle"
  | 2 => .array .int
  | 3 => .int
  | 4 => .int
  | 5 => .int
  | 6 => .int
  | 7 => .int
  | 8 => .long
  | _ => .long
theorem nmX4 : ∀ a, a < 10 → ∀ b, b < 10 → a ≠ b → (TX4 a).2.1 ≠ (TX4 b).2.1 := by decide +kernel
theorem tyX4_ok : ∀ k, k < 10 → parseFieldDescriptor (TX4 k).2.2.1 = some (tyX4 k) := by decide +kernel
theorem inX4 : ∀ w ∈ u_ws RX4 TX4 10, w ∈ lw_tbl := by
  have h : u_ws RX4 TX4 10 = ([225, 227, 229, 231, 233, 235, 237, 239, 241, 243] : List Nat).filterMap (fun i => lw_tbl[i]?) := by decide +kernel
  intro w hw
  rw [h] at hw
  obtain ⟨i, -, hi⟩ := List.mem_filterMap.mp hw
  exact List.mem_of_getElem? hi
def RX5 : String := "WinkCircle$Tape"
def TX5 : u_T := fun k => match k with
  | 0 => ("WinkCircle$Tape", "bytes", "[I", true)
  | 1 => ("WinkCircle$Tape", "used", "I", false)
  | 2 => ("WinkCircle$Tape", "at", "I", false)
  | _ => ("WinkCircle$Tape", "fault", "I", false)
def tyX5 : Nat → FieldType := fun k => match k with
  | 0 => .array .int
  | 1 => .int
  | 2 => .int
  | _ => .int
theorem nmX5 : ∀ a, a < 4 → ∀ b, b < 4 → a ≠ b → (TX5 a).2.1 ≠ (TX5 b).2.1 := by decide +kernel
theorem tyX5_ok : ∀ k, k < 4 → parseFieldDescriptor (TX5 k).2.2.1 = some (tyX5 k) := by decide +kernel
theorem inX5 : ∀ w ∈ u_ws RX5 TX5 4, w ∈ lw_tbl := by
  have h : u_ws RX5 TX5 4 = ([103, 105, 107, 109] : List Nat).filterMap (fun i => lw_tbl[i]?) := by decide +kernel
  intro w hw
  rw [h] at hw
  obtain ⟨i, -, hi⟩ := List.mem_filterMap.mp hw
  exact List.mem_of_getElem? hi
def RX6 : String := "WinkCircle"
def TX6 : u_T := fun k => match k with
  | 0 => ("WinkCircle", "rows", "LWinkCircle$Rows;", true)
  | 1 => ("WinkCircle", "tape", "LWinkCircle$Tape;", true)
  | 2 => ("WinkCircle", "now", "LWinkCircle$Circle;", true)
  | 3 => ("WinkCircle", "draft", "LWinkCircle$Circle;", true)
  | 4 => ("WinkCircle", "acts", "LWinkCircle$Acts;", true)
  | 5 => ("WinkCircle", "images", "[LWinkCircle$Circle;", true)
  | 6 => ("WinkCircle", "seer", "LWinkCircle$Seer;", true)
  | 7 => ("WinkCircle", "asks", "LWinkCircle$Asks;", true)
  | 8 => ("WinkCircle", "latestFault", "I", false)
  | _ => ("WinkCircle", "latestFinding", "I", false)
def tyX6 : Nat → FieldType := fun k => match k with
  | 0 => .object "WinkCircle$Rows"
  | 1 => .object "WinkCircle$Tape"
  | 2 => .object "WinkCircle$Circle"
  | 3 => .object "WinkCircle$Circle"
  | 4 => .object "WinkCircle$Acts"
  | 5 => .array (.object "WinkCircle$Circle")
  | 6 => .object "WinkCircle$Seer"
  | 7 => .object "WinkCircle$Asks"
  | 8 => .int
  | _ => .int
theorem nmX6 : ∀ a, a < 10 → ∀ b, b < 10 → a ≠ b → (TX6 a).2.1 ≠ (TX6 b).2.1 := by decide +kernel
theorem tyX6_ok : ∀ k, k < 10 → parseFieldDescriptor (TX6 k).2.2.1 = some (tyX6 k) := by decide +kernel
theorem inX6 : ∀ w ∈ u_ws RX6 TX6 10, w ∈ lw_tbl := by
  have h : u_ws RX6 TX6 10 = ([281, 283, 285, 287, 289, 291, 293, 295, 297, 299] : List Nat).filterMap (fun i => lw_tbl[i]?) := by decide +kernel
  intro w hw
  rw [h] at hw
  obtain ⟨i, -, hi⟩ := List.mem_filterMap.mp hw
  exact List.mem_of_getElem? hi
def RX7 : String := "WinkCircleModel"
def TX7 : u_T := fun k => match k with
  | 0 => ("WinkCircleModel", "lane", "[I", true)
  | 1 => ("WinkCircleModel", "many", "[I", true)
  | 2 => ("WinkCircleModel", "items", "[I", true)
  | 3 => ("WinkCircleModel", "status", "I", false)
  | 4 => ("WinkCircleModel", "moved", "[I", true)
  | 5 => ("WinkCircleModel", "isThere", "Z", false)
  | 6 => ("WinkCircleModel", "now", "[I", true)
  | 7 => ("WinkCircleModel", "tried", "[I", true)
  | 8 => ("WinkCircleModel", "before", "[I", true)
  | 9 => ("WinkCircleModel", "acts", "I", false)
  | 10 => ("WinkCircleModel", "images", "[I", true)
  | 11 => ("WinkCircleModel", "isKept", "[Z", true)
  | 12 => ("WinkCircleModel", "looks", "[I", true)
  | 13 => ("WinkCircleModel", "tape", "[B", true)
  | 14 => ("WinkCircleModel", "typed", "I", false)
  | 15 => ("WinkCircleModel", "fault", "I", false)
  | 16 => ("WinkCircleModel", "at", "I", false)
  | 17 => ("WinkCircleModel", "start", "I", false)
  | 18 => ("WinkCircleModel", "sort", "I", false)
  | 19 => ("WinkCircleModel", "value", "I", false)
  | 20 => ("WinkCircleModel", "wrong", "I", false)
  | 21 => ("WinkCircleModel", "comes", "[I", true)
  | 22 => ("WinkCircleModel", "trace", "[I", true)
  | _ => ("WinkCircleModel", "traced", "I", false)
def tyX7 : Nat → FieldType := fun k => match k with
  | 0 => .array .int
  | 1 => .array .int
  | 2 => .array .int
  | 3 => .int
  | 4 => .array .int
  | 5 => .boolean
  | 6 => .array .int
  | 7 => .array .int
  | 8 => .array .int
  | 9 => .int
  | 10 => .array .int
  | 11 => .array .boolean
  | 12 => .array .int
  | 13 => .array .byte
  | 14 => .int
  | 15 => .int
  | 16 => .int
  | 17 => .int
  | 18 => .int
  | 19 => .int
  | 20 => .int
  | 21 => .array .int
  | 22 => .array .int
  | _ => .int
theorem nmX7 : ∀ a, a < 24 → ∀ b, b < 24 → a ≠ b → (TX7 a).2.1 ≠ (TX7 b).2.1 := by decide +kernel
theorem tyX7_ok : ∀ k, k < 24 → parseFieldDescriptor (TX7 k).2.2.1 = some (tyX7 k) := by decide +kernel
theorem inX7 : ∀ w ∈ u_ws RX7 TX7 24, w ∈ lw_tbl := by
  have h : u_ws RX7 TX7 24 = ([878, 880, 882, 884, 886, 888, 890, 892, 894, 896, 898, 900, 902, 904, 906, 908, 910, 912, 914, 916, 918, 920, 922, 924] : List Nat).filterMap (fun i => lw_tbl[i]?) := by decide +kernel
  intro w hw
  rw [h] at hw
  obtain ⟨i, -, hi⟩ := List.mem_filterMap.mp hw
  exact List.mem_of_getElem? hi
abbrev vwCl : List vw_C := [(RX0, TX0, 3), (RX1, TX1, 6), (RX2, TX2, 12), (RX3, TX3, 3), (RX4, TX4, 10), (RX5, TX5, 4), (RX6, TX6, 10), (RX7, TX7, 24)]
