-- ===== PART A: goes FIRST, ahead of the names: the tables' words, and 'selects' of the private methods out of them =====
/-- a private method of a class that the tables say can be made, by its rows of tables_1 -/
def lw_okq (q : MethodName × Nat) : Prop := (q.1.cls ≠ "java/lang/invoke/MethodHandle" ∧ q.1.cls ≠ "java/lang/invoke/VarHandle") ∧ Cond.instantiable q.1.cls q.2 ∈ tables_1 ∧ Cond.privateMethod q.1 ∈ tables_1 ∧ Cond.instanceMethod q.1 ∈ tables_1
theorem lw_p0 : lw_okq (⟨"LeapNet", "placeStatus", "(II)I"⟩, 19) := ⟨⟨by decide +kernel, by decide +kernel⟩, List.mem_of_getElem? (i := 31) (by decide +kernel), List.mem_of_getElem? (i := 256) (by decide +kernel), List.mem_of_getElem? (i := 257) (by decide +kernel)⟩
theorem lw_p1 : lw_okq (⟨"LeapNet", "pourStatus", "(IIIII)I"⟩, 19) := ⟨⟨by decide +kernel, by decide +kernel⟩, List.mem_of_getElem? (i := 31) (by decide +kernel), List.mem_of_getElem? (i := 281) (by decide +kernel), List.mem_of_getElem? (i := 282) (by decide +kernel)⟩
theorem lw_p2 : lw_okq (⟨"LeapNet", "leapStatus", "(II)I"⟩, 19) := ⟨⟨by decide +kernel, by decide +kernel⟩, List.mem_of_getElem? (i := 31) (by decide +kernel), List.mem_of_getElem? (i := 296) (by decide +kernel), List.mem_of_getElem? (i := 297) (by decide +kernel)⟩
theorem lw_p3 : lw_okq (⟨"LeapNet$Table", "placeOf", "(I)I"⟩, 7) := ⟨⟨by decide +kernel, by decide +kernel⟩, List.mem_of_getElem? (i := 41) (by decide +kernel), List.mem_of_getElem? (i := 310) (by decide +kernel), List.mem_of_getElem? (i := 311) (by decide +kernel)⟩
theorem lw_p4 : lw_okq (⟨"LeapNet$Table", "isAt", "(II)Z"⟩, 7) := ⟨⟨by decide +kernel, by decide +kernel⟩, List.mem_of_getElem? (i := 41) (by decide +kernel), List.mem_of_getElem? (i := 314) (by decide +kernel), List.mem_of_getElem? (i := 315) (by decide +kernel)⟩
theorem lw_p5 : lw_okq (⟨"LeapNet$Table", "removeAt", "(I)V"⟩, 7) := ⟨⟨by decide +kernel, by decide +kernel⟩, List.mem_of_getElem? (i := 41) (by decide +kernel), List.mem_of_getElem? (i := 326) (by decide +kernel), List.mem_of_getElem? (i := 327) (by decide +kernel)⟩
theorem lw_p6 : lw_okq (⟨"LeapNet$Table", "insertAt", "(III)V"⟩, 7) := ⟨⟨by decide +kernel, by decide +kernel⟩, List.mem_of_getElem? (i := 41) (by decide +kernel), List.mem_of_getElem? (i := 331) (by decide +kernel), List.mem_of_getElem? (i := 332) (by decide +kernel)⟩
theorem lw_p7 : lw_okq (⟨"LeapNet$Table", "reckonStarts", "()V"⟩, 7) := ⟨⟨by decide +kernel, by decide +kernel⟩, List.mem_of_getElem? (i := 41) (by decide +kernel), List.mem_of_getElem? (i := 335) (by decide +kernel), List.mem_of_getElem? (i := 336) (by decide +kernel)⟩
theorem lw_p8 : lw_okq (⟨"LeapNet$Table", "turnToPlainDay", "(IJ)V"⟩, 7) := ⟨⟨by decide +kernel, by decide +kernel⟩, List.mem_of_getElem? (i := 41) (by decide +kernel), List.mem_of_getElem? (i := 352) (by decide +kernel), List.mem_of_getElem? (i := 353) (by decide +kernel)⟩
theorem lw_p9 : lw_okq (⟨"LeapNet", "countStatus", "(II)I"⟩, 19) := ⟨⟨by decide +kernel, by decide +kernel⟩, List.mem_of_getElem? (i := 31) (by decide +kernel), List.mem_of_getElem? (i := 361) (by decide +kernel), List.mem_of_getElem? (i := 362) (by decide +kernel)⟩
theorem lw_p10 : lw_okq (⟨"java/util/ArrayList", "add", "(Ljava/lang/Object;[Ljava/lang/Object;I)V"⟩, 3) := ⟨⟨by decide +kernel, by decide +kernel⟩, List.mem_of_getElem? (i := 77) (by decide +kernel), List.mem_of_getElem? (i := 417) (by decide +kernel), List.mem_of_getElem? (i := 418) (by decide +kernel)⟩
theorem lw_p11 : lw_okq (⟨"java/util/ArrayList", "grow", "()[Ljava/lang/Object;"⟩, 3) := ⟨⟨by decide +kernel, by decide +kernel⟩, List.mem_of_getElem? (i := 77) (by decide +kernel), List.mem_of_getElem? (i := 421) (by decide +kernel), List.mem_of_getElem? (i := 422) (by decide +kernel)⟩
theorem lw_p12 : lw_okq (⟨"java/util/ArrayList", "grow", "(I)[Ljava/lang/Object;"⟩, 3) := ⟨⟨by decide +kernel, by decide +kernel⟩, List.mem_of_getElem? (i := 77) (by decide +kernel), List.mem_of_getElem? (i := 425) (by decide +kernel), List.mem_of_getElem? (i := 426) (by decide +kernel)⟩
theorem lw_p13 : lw_okq (⟨"LeapNet", "isClock", "(I)Z"⟩, 19) := ⟨⟨by decide +kernel, by decide +kernel⟩, List.mem_of_getElem? (i := 31) (by decide +kernel), List.mem_of_getElem? (i := 475) (by decide +kernel), List.mem_of_getElem? (i := 476) (by decide +kernel)⟩
theorem lw_p14 : lw_okq (⟨"LeapNet", "clockCountStatus", "(II)I"⟩, 19) := ⟨⟨by decide +kernel, by decide +kernel⟩, List.mem_of_getElem? (i := 31) (by decide +kernel), List.mem_of_getElem? (i := 501) (by decide +kernel), List.mem_of_getElem? (i := 502) (by decide +kernel)⟩
theorem lw_p15 : lw_okq (⟨"LeapNet", "settle", "()V"⟩, 19) := ⟨⟨by decide +kernel, by decide +kernel⟩, List.mem_of_getElem? (i := 31) (by decide +kernel), List.mem_of_getElem? (i := 505) (by decide +kernel), List.mem_of_getElem? (i := 506) (by decide +kernel)⟩
def lw_privs_1 : List (MethodName × Nat) := [(⟨"LeapNet", "placeStatus", "(II)I"⟩, 19), (⟨"LeapNet", "pourStatus", "(IIIII)I"⟩, 19), (⟨"LeapNet", "leapStatus", "(II)I"⟩, 19), (⟨"LeapNet$Table", "placeOf", "(I)I"⟩, 7), (⟨"LeapNet$Table", "isAt", "(II)Z"⟩, 7), (⟨"LeapNet$Table", "removeAt", "(I)V"⟩, 7), (⟨"LeapNet$Table", "insertAt", "(III)V"⟩, 7), (⟨"LeapNet$Table", "reckonStarts", "()V"⟩, 7), (⟨"LeapNet$Table", "turnToPlainDay", "(IJ)V"⟩, 7), (⟨"LeapNet", "countStatus", "(II)I"⟩, 19), (⟨"java/util/ArrayList", "add", "(Ljava/lang/Object;[Ljava/lang/Object;I)V"⟩, 3), (⟨"java/util/ArrayList", "grow", "()[Ljava/lang/Object;"⟩, 3), (⟨"java/util/ArrayList", "grow", "(I)[Ljava/lang/Object;"⟩, 3), (⟨"LeapNet", "isClock", "(I)Z"⟩, 19), (⟨"LeapNet", "clockCountStatus", "(II)I"⟩, 19), (⟨"LeapNet", "settle", "()V"⟩, 19)]
theorem lw_r1 : ∀ q ∈ lw_privs_1, lw_okq q := List.forall_mem_cons.mpr ⟨lw_p0, List.forall_mem_cons.mpr ⟨lw_p1, List.forall_mem_cons.mpr ⟨lw_p2, List.forall_mem_cons.mpr ⟨lw_p3, List.forall_mem_cons.mpr ⟨lw_p4, List.forall_mem_cons.mpr ⟨lw_p5, List.forall_mem_cons.mpr ⟨lw_p6, List.forall_mem_cons.mpr ⟨lw_p7, List.forall_mem_cons.mpr ⟨lw_p8, List.forall_mem_cons.mpr ⟨lw_p9, List.forall_mem_cons.mpr ⟨lw_p10, List.forall_mem_cons.mpr ⟨lw_p11, List.forall_mem_cons.mpr ⟨lw_p12, List.forall_mem_cons.mpr ⟨lw_p13, List.forall_mem_cons.mpr ⟨lw_p14, List.forall_mem_cons.mpr ⟨lw_p15, fun _ h => absurd h List.not_mem_nil⟩⟩⟩⟩⟩⟩⟩⟩⟩⟩⟩⟩⟩⟩⟩⟩
theorem lw_p16 : lw_okq (⟨"LeapNet", "isBelieved", "(I)Z"⟩, 19) := ⟨⟨by decide +kernel, by decide +kernel⟩, List.mem_of_getElem? (i := 31) (by decide +kernel), List.mem_of_getElem? (i := 514) (by decide +kernel), List.mem_of_getElem? (i := 515) (by decide +kernel)⟩
theorem lw_p17 : lw_okq (⟨"LeapNet", "textInForce", "(I)LLeapNet$Rule;"⟩, 19) := ⟨⟨by decide +kernel, by decide +kernel⟩, List.mem_of_getElem? (i := 31) (by decide +kernel), List.mem_of_getElem? (i := 518) (by decide +kernel), List.mem_of_getElem? (i := 519) (by decide +kernel)⟩
theorem lw_p18 : lw_okq (⟨"LeapNet", "fillVariables", "([JII)V"⟩, 19) := ⟨⟨by decide +kernel, by decide +kernel⟩, List.mem_of_getElem? (i := 31) (by decide +kernel), List.mem_of_getElem? (i := 523) (by decide +kernel), List.mem_of_getElem? (i := 524) (by decide +kernel)⟩
theorem lw_p19 : lw_okq (⟨"LeapNet$Rule", "perform", "(II)V"⟩, 14) := ⟨⟨by decide +kernel, by decide +kernel⟩, List.mem_of_getElem? (i := 543) (by decide +kernel), List.mem_of_getElem? (i := 541) (by decide +kernel), List.mem_of_getElem? (i := 542) (by decide +kernel)⟩
theorem lw_p20 : lw_okq (⟨"LeapNet$Rule", "lay", "(JZ)V"⟩, 14) := ⟨⟨by decide +kernel, by decide +kernel⟩, List.mem_of_getElem? (i := 543) (by decide +kernel), List.mem_of_getElem? (i := 546) (by decide +kernel), List.mem_of_getElem? (i := 547) (by decide +kernel)⟩
theorem lw_p21 : lw_okq (⟨"LeapNet$Rule", "keepValue", "(I)V"⟩, 14) := ⟨⟨by decide +kernel, by decide +kernel⟩, List.mem_of_getElem? (i := 543) (by decide +kernel), List.mem_of_getElem? (i := 550) (by decide +kernel), List.mem_of_getElem? (i := 551) (by decide +kernel)⟩
theorem lw_p22 : lw_okq (⟨"LeapNet$Rule", "choose", "()V"⟩, 14) := ⟨⟨by decide +kernel, by decide +kernel⟩, List.mem_of_getElem? (i := 543) (by decide +kernel), List.mem_of_getElem? (i := 554) (by decide +kernel), List.mem_of_getElem? (i := 555) (by decide +kernel)⟩
theorem lw_p23 : lw_okq (⟨"LeapNet$Rule", "combine", "(IZ)V"⟩, 14) := ⟨⟨by decide +kernel, by decide +kernel⟩, List.mem_of_getElem? (i := 543) (by decide +kernel), List.mem_of_getElem? (i := 558) (by decide +kernel), List.mem_of_getElem? (i := 559) (by decide +kernel)⟩
theorem lw_p24 : lw_okq (⟨"LeapNet", "worstStatus", "(III)I"⟩, 19) := ⟨⟨by decide +kernel, by decide +kernel⟩, List.mem_of_getElem? (i := 31) (by decide +kernel), List.mem_of_getElem? (i := 619) (by decide +kernel), List.mem_of_getElem? (i := 620) (by decide +kernel)⟩
theorem lw_p25 : lw_okq (⟨"LeapNet", "spreadAt", "(I)J"⟩, 19) := ⟨⟨by decide +kernel, by decide +kernel⟩, List.mem_of_getElem? (i := 31) (by decide +kernel), List.mem_of_getElem? (i := 623) (by decide +kernel), List.mem_of_getElem? (i := 624) (by decide +kernel)⟩
theorem lw_p26 : lw_okq (⟨"LeapNet", "feedOne", "(I)V"⟩, 19) := ⟨⟨by decide +kernel, by decide +kernel⟩, List.mem_of_getElem? (i := 31) (by decide +kernel), List.mem_of_getElem? (i := 637) (by decide +kernel), List.mem_of_getElem? (i := 638) (by decide +kernel)⟩
theorem lw_p27 : lw_okq (⟨"LeapNet$Reader", "cutOne", "(I)I"⟩, 11) := ⟨⟨by decide +kernel, by decide +kernel⟩, List.mem_of_getElem? (i := 645) (by decide +kernel), List.mem_of_getElem? (i := 698) (by decide +kernel), List.mem_of_getElem? (i := 699) (by decide +kernel)⟩
theorem lw_p28 : lw_okq (⟨"LeapNet$Reader", "endOfRun", "(ICC)I"⟩, 11) := ⟨⟨by decide +kernel, by decide +kernel⟩, List.mem_of_getElem? (i := 645) (by decide +kernel), List.mem_of_getElem? (i := 703) (by decide +kernel), List.mem_of_getElem? (i := 704) (by decide +kernel)⟩
theorem lw_p29 : lw_okq (⟨"LeapNet$Reader", "placeInWords", "(II)I"⟩, 11) := ⟨⟨by decide +kernel, by decide +kernel⟩, List.mem_of_getElem? (i := 645) (by decide +kernel), List.mem_of_getElem? (i := 707) (by decide +kernel), List.mem_of_getElem? (i := 708) (by decide +kernel)⟩
theorem lw_p30 : lw_okq (⟨"LeapNet$Reader", "isSpelt", "(IIII)Z"⟩, 11) := ⟨⟨by decide +kernel, by decide +kernel⟩, List.mem_of_getElem? (i := 645) (by decide +kernel), List.mem_of_getElem? (i := 757) (by decide +kernel), List.mem_of_getElem? (i := 758) (by decide +kernel)⟩
theorem lw_p31 : lw_okq (⟨"LeapNet$Reader", "add", "(IIII)V"⟩, 11) := ⟨⟨by decide +kernel, by decide +kernel⟩, List.mem_of_getElem? (i := 645) (by decide +kernel), List.mem_of_getElem? (i := 761) (by decide +kernel), List.mem_of_getElem? (i := 762) (by decide +kernel)⟩
def lw_privs_2 : List (MethodName × Nat) := [(⟨"LeapNet", "isBelieved", "(I)Z"⟩, 19), (⟨"LeapNet", "textInForce", "(I)LLeapNet$Rule;"⟩, 19), (⟨"LeapNet", "fillVariables", "([JII)V"⟩, 19), (⟨"LeapNet$Rule", "perform", "(II)V"⟩, 14), (⟨"LeapNet$Rule", "lay", "(JZ)V"⟩, 14), (⟨"LeapNet$Rule", "keepValue", "(I)V"⟩, 14), (⟨"LeapNet$Rule", "choose", "()V"⟩, 14), (⟨"LeapNet$Rule", "combine", "(IZ)V"⟩, 14), (⟨"LeapNet", "worstStatus", "(III)I"⟩, 19), (⟨"LeapNet", "spreadAt", "(I)J"⟩, 19), (⟨"LeapNet", "feedOne", "(I)V"⟩, 19), (⟨"LeapNet$Reader", "cutOne", "(I)I"⟩, 11), (⟨"LeapNet$Reader", "endOfRun", "(ICC)I"⟩, 11), (⟨"LeapNet$Reader", "placeInWords", "(II)I"⟩, 11), (⟨"LeapNet$Reader", "isSpelt", "(IIII)Z"⟩, 11), (⟨"LeapNet$Reader", "add", "(IIII)V"⟩, 11)]
theorem lw_r2 : ∀ q ∈ lw_privs_2, lw_okq q := List.forall_mem_cons.mpr ⟨lw_p16, List.forall_mem_cons.mpr ⟨lw_p17, List.forall_mem_cons.mpr ⟨lw_p18, List.forall_mem_cons.mpr ⟨lw_p19, List.forall_mem_cons.mpr ⟨lw_p20, List.forall_mem_cons.mpr ⟨lw_p21, List.forall_mem_cons.mpr ⟨lw_p22, List.forall_mem_cons.mpr ⟨lw_p23, List.forall_mem_cons.mpr ⟨lw_p24, List.forall_mem_cons.mpr ⟨lw_p25, List.forall_mem_cons.mpr ⟨lw_p26, List.forall_mem_cons.mpr ⟨lw_p27, List.forall_mem_cons.mpr ⟨lw_p28, List.forall_mem_cons.mpr ⟨lw_p29, List.forall_mem_cons.mpr ⟨lw_p30, List.forall_mem_cons.mpr ⟨lw_p31, fun _ h => absurd h List.not_mem_nil⟩⟩⟩⟩⟩⟩⟩⟩⟩⟩⟩⟩⟩⟩⟩⟩
theorem lw_p32 : lw_okq (⟨"LeapNet$Reader", "numberOf", "(II)I"⟩, 11) := ⟨⟨by decide +kernel, by decide +kernel⟩, List.mem_of_getElem? (i := 645) (by decide +kernel), List.mem_of_getElem? (i := 765) (by decide +kernel), List.mem_of_getElem? (i := 766) (by decide +kernel)⟩
theorem lw_p33 : lw_okq (⟨"LeapNet$Rule", "readDef", "()V"⟩, 14) := ⟨⟨by decide +kernel, by decide +kernel⟩, List.mem_of_getElem? (i := 543) (by decide +kernel), List.mem_of_getElem? (i := 888) (by decide +kernel), List.mem_of_getElem? (i := 889) (by decide +kernel)⟩
theorem lw_p34 : lw_okq (⟨"LeapNet$Rule", "isName", "()Z"⟩, 14) := ⟨⟨by decide +kernel, by decide +kernel⟩, List.mem_of_getElem? (i := 543) (by decide +kernel), List.mem_of_getElem? (i := 892) (by decide +kernel), List.mem_of_getElem? (i := 893) (by decide +kernel)⟩
theorem lw_p35 : lw_okq (⟨"LeapNet$Rule", "isKeyWord", "()Z"⟩, 14) := ⟨⟨by decide +kernel, by decide +kernel⟩, List.mem_of_getElem? (i := 543) (by decide +kernel), List.mem_of_getElem? (i := 904) (by decide +kernel), List.mem_of_getElem? (i := 905) (by decide +kernel)⟩
theorem lw_p36 : lw_okq (⟨"LeapNet$Rule", "isVariable", "()Z"⟩, 14) := ⟨⟨by decide +kernel, by decide +kernel⟩, List.mem_of_getElem? (i := 543) (by decide +kernel), List.mem_of_getElem? (i := 913) (by decide +kernel), List.mem_of_getElem? (i := 914) (by decide +kernel)⟩
theorem lw_p37 : lw_okq (⟨"LeapNet$Rule", "placeOfName", "()I"⟩, 14) := ⟨⟨by decide +kernel, by decide +kernel⟩, List.mem_of_getElem? (i := 543) (by decide +kernel), List.mem_of_getElem? (i := 921) (by decide +kernel), List.mem_of_getElem? (i := 922) (by decide +kernel)⟩
theorem lw_p38 : lw_okq (⟨"LeapNet$Rule", "readPart", "(IZ)V"⟩, 14) := ⟨⟨by decide +kernel, by decide +kernel⟩, List.mem_of_getElem? (i := 543) (by decide +kernel), List.mem_of_getElem? (i := 948) (by decide +kernel), List.mem_of_getElem? (i := 949) (by decide +kernel)⟩
theorem lw_p39 : lw_okq (⟨"LeapNet$Rule", "canBeginSum", "()Z"⟩, 14) := ⟨⟨by decide +kernel, by decide +kernel⟩, List.mem_of_getElem? (i := 543) (by decide +kernel), List.mem_of_getElem? (i := 952) (by decide +kernel), List.mem_of_getElem? (i := 953) (by decide +kernel)⟩
theorem lw_p40 : lw_okq (⟨"LeapNet$Rule", "isFew", "()Z"⟩, 14) := ⟨⟨by decide +kernel, by decide +kernel⟩, List.mem_of_getElem? (i := 543) (by decide +kernel), List.mem_of_getElem? (i := 956) (by decide +kernel), List.mem_of_getElem? (i := 957) (by decide +kernel)⟩
theorem lw_p41 : lw_okq (⟨"LeapNet$Rule", "readTest", "(I)V"⟩, 14) := ⟨⟨by decide +kernel, by decide +kernel⟩, List.mem_of_getElem? (i := 543) (by decide +kernel), List.mem_of_getElem? (i := 965) (by decide +kernel), List.mem_of_getElem? (i := 966) (by decide +kernel)⟩
theorem lw_p42 : lw_okq (⟨"LeapNet$Rule", "readOne", "(I)V"⟩, 14) := ⟨⟨by decide +kernel, by decide +kernel⟩, List.mem_of_getElem? (i := 543) (by decide +kernel), List.mem_of_getElem? (i := 969) (by decide +kernel), List.mem_of_getElem? (i := 970) (by decide +kernel)⟩
theorem lw_p43 : lw_okq (⟨"LeapNet$Rule", "readSum", "(I)V"⟩, 14) := ⟨⟨by decide +kernel, by decide +kernel⟩, List.mem_of_getElem? (i := 543) (by decide +kernel), List.mem_of_getElem? (i := 973) (by decide +kernel), List.mem_of_getElem? (i := 974) (by decide +kernel)⟩
theorem lw_p44 : lw_okq (⟨"LeapNet$Rule", "readItem", "(I)V"⟩, 14) := ⟨⟨by decide +kernel, by decide +kernel⟩, List.mem_of_getElem? (i := 543) (by decide +kernel), List.mem_of_getElem? (i := 977) (by decide +kernel), List.mem_of_getElem? (i := 978) (by decide +kernel)⟩
theorem lw_p45 : lw_okq (⟨"LeapNet$Rule", "readAtom", "(I)V"⟩, 14) := ⟨⟨by decide +kernel, by decide +kernel⟩, List.mem_of_getElem? (i := 543) (by decide +kernel), List.mem_of_getElem? (i := 981) (by decide +kernel), List.mem_of_getElem? (i := 982) (by decide +kernel)⟩
theorem lw_p46 : lw_okq (⟨"LeapNet$Rule", "emit", "(II)V"⟩, 14) := ⟨⟨by decide +kernel, by decide +kernel⟩, List.mem_of_getElem? (i := 543) (by decide +kernel), List.mem_of_getElem? (i := 985) (by decide +kernel), List.mem_of_getElem? (i := 986) (by decide +kernel)⟩
theorem lw_p47 : lw_okq (⟨"LeapNet$Rule", "readFew", "(I)V"⟩, 14) := ⟨⟨by decide +kernel, by decide +kernel⟩, List.mem_of_getElem? (i := 543) (by decide +kernel), List.mem_of_getElem? (i := 989) (by decide +kernel), List.mem_of_getElem? (i := 990) (by decide +kernel)⟩
def lw_privs_3 : List (MethodName × Nat) := [(⟨"LeapNet$Reader", "numberOf", "(II)I"⟩, 11), (⟨"LeapNet$Rule", "readDef", "()V"⟩, 14), (⟨"LeapNet$Rule", "isName", "()Z"⟩, 14), (⟨"LeapNet$Rule", "isKeyWord", "()Z"⟩, 14), (⟨"LeapNet$Rule", "isVariable", "()Z"⟩, 14), (⟨"LeapNet$Rule", "placeOfName", "()I"⟩, 14), (⟨"LeapNet$Rule", "readPart", "(IZ)V"⟩, 14), (⟨"LeapNet$Rule", "canBeginSum", "()Z"⟩, 14), (⟨"LeapNet$Rule", "isFew", "()Z"⟩, 14), (⟨"LeapNet$Rule", "readTest", "(I)V"⟩, 14), (⟨"LeapNet$Rule", "readOne", "(I)V"⟩, 14), (⟨"LeapNet$Rule", "readSum", "(I)V"⟩, 14), (⟨"LeapNet$Rule", "readItem", "(I)V"⟩, 14), (⟨"LeapNet$Rule", "readAtom", "(I)V"⟩, 14), (⟨"LeapNet$Rule", "emit", "(II)V"⟩, 14), (⟨"LeapNet$Rule", "readFew", "(I)V"⟩, 14)]
theorem lw_r3 : ∀ q ∈ lw_privs_3, lw_okq q := List.forall_mem_cons.mpr ⟨lw_p32, List.forall_mem_cons.mpr ⟨lw_p33, List.forall_mem_cons.mpr ⟨lw_p34, List.forall_mem_cons.mpr ⟨lw_p35, List.forall_mem_cons.mpr ⟨lw_p36, List.forall_mem_cons.mpr ⟨lw_p37, List.forall_mem_cons.mpr ⟨lw_p38, List.forall_mem_cons.mpr ⟨lw_p39, List.forall_mem_cons.mpr ⟨lw_p40, List.forall_mem_cons.mpr ⟨lw_p41, List.forall_mem_cons.mpr ⟨lw_p42, List.forall_mem_cons.mpr ⟨lw_p43, List.forall_mem_cons.mpr ⟨lw_p44, List.forall_mem_cons.mpr ⟨lw_p45, List.forall_mem_cons.mpr ⟨lw_p46, List.forall_mem_cons.mpr ⟨lw_p47, fun _ h => absurd h List.not_mem_nil⟩⟩⟩⟩⟩⟩⟩⟩⟩⟩⟩⟩⟩⟩⟩⟩
theorem lw_p48 : lw_okq (⟨"LeapNet$Rule", "readWordAtom", "()V"⟩, 14) := ⟨⟨by decide +kernel, by decide +kernel⟩, List.mem_of_getElem? (i := 543) (by decide +kernel), List.mem_of_getElem? (i := 993) (by decide +kernel), List.mem_of_getElem? (i := 994) (by decide +kernel)⟩
theorem lw_p49 : lw_okq (⟨"LeapNet$Rule", "timesHere", "()I"⟩, 14) := ⟨⟨by decide +kernel, by decide +kernel⟩, List.mem_of_getElem? (i := 543) (by decide +kernel), List.mem_of_getElem? (i := 997) (by decide +kernel), List.mem_of_getElem? (i := 998) (by decide +kernel)⟩
theorem lw_p50 : lw_okq (⟨"LeapNet$Rule", "comparesHere", "()I"⟩, 14) := ⟨⟨by decide +kernel, by decide +kernel⟩, List.mem_of_getElem? (i := 543) (by decide +kernel), List.mem_of_getElem? (i := 1001) (by decide +kernel), List.mem_of_getElem? (i := 1002) (by decide +kernel)⟩
theorem lw_p51 : lw_okq (⟨"LeapNet", "endReading", "(LLeapNet$Reader;)V"⟩, 19) := ⟨⟨by decide +kernel, by decide +kernel⟩, List.mem_of_getElem? (i := 31) (by decide +kernel), List.mem_of_getElem? (i := 1010) (by decide +kernel), List.mem_of_getElem? (i := 1011) (by decide +kernel)⟩
theorem lw_p52 : lw_okq (⟨"LeapNet", "noticeStatus", "(IIIII)I"⟩, 19) := ⟨⟨by decide +kernel, by decide +kernel⟩, List.mem_of_getElem? (i := 31) (by decide +kernel), List.mem_of_getElem? (i := 1046) (by decide +kernel), List.mem_of_getElem? (i := 1047) (by decide +kernel)⟩
theorem lw_p53 : lw_okq (⟨"LeapNet", "toldStatus", "(II)I"⟩, 19) := ⟨⟨by decide +kernel, by decide +kernel⟩, List.mem_of_getElem? (i := 31) (by decide +kernel), List.mem_of_getElem? (i := 1088) (by decide +kernel), List.mem_of_getElem? (i := 1089) (by decide +kernel)⟩
theorem lw_p54 : lw_okq (⟨"LeapNet", "isTold", "(II)Z"⟩, 19) := ⟨⟨by decide +kernel, by decide +kernel⟩, List.mem_of_getElem? (i := 31) (by decide +kernel), List.mem_of_getElem? (i := 1092) (by decide +kernel), List.mem_of_getElem? (i := 1093) (by decide +kernel)⟩
theorem lw_p55 : lw_okq (⟨"LeapNet", "isLastToGovern", "(I)Z"⟩, 19) := ⟨⟨by decide +kernel, by decide +kernel⟩, List.mem_of_getElem? (i := 31) (by decide +kernel), List.mem_of_getElem? (i := 1096) (by decide +kernel), List.mem_of_getElem? (i := 1097) (by decide +kernel)⟩
theorem lw_p56 : lw_okq (⟨"LeapNet", "stampStatus", "(II)I"⟩, 19) := ⟨⟨by decide +kernel, by decide +kernel⟩, List.mem_of_getElem? (i := 31) (by decide +kernel), List.mem_of_getElem? (i := 1116) (by decide +kernel), List.mem_of_getElem? (i := 1117) (by decide +kernel)⟩
theorem lw_p57 : lw_okq (⟨"LeapNet", "readStamps", "()V"⟩, 19) := ⟨⟨by decide +kernel, by decide +kernel⟩, List.mem_of_getElem? (i := 31) (by decide +kernel), List.mem_of_getElem? (i := 1143) (by decide +kernel), List.mem_of_getElem? (i := 1144) (by decide +kernel)⟩
theorem lw_p58 : lw_okq (⟨"LeapNet", "quarrels", "()[I"⟩, 19) := ⟨⟨by decide +kernel, by decide +kernel⟩, List.mem_of_getElem? (i := 31) (by decide +kernel), List.mem_of_getElem? (i := 1155) (by decide +kernel), List.mem_of_getElem? (i := 1156) (by decide +kernel)⟩
theorem lw_p59 : lw_okq (⟨"LeapNet", "isBlamable", "(I[I)Z"⟩, 19) := ⟨⟨by decide +kernel, by decide +kernel⟩, List.mem_of_getElem? (i := 31) (by decide +kernel), List.mem_of_getElem? (i := 1165) (by decide +kernel), List.mem_of_getElem? (i := 1166) (by decide +kernel)⟩
theorem lw_p60 : lw_okq (⟨"LeapNet$Program", "readLinesWithin", "(I)V"⟩, 6) := ⟨⟨by decide +kernel, by decide +kernel⟩, List.mem_of_getElem? (i := 1175) (by decide +kernel), List.mem_of_getElem? (i := 1209) (by decide +kernel), List.mem_of_getElem? (i := 1210) (by decide +kernel)⟩
theorem lw_p61 : lw_okq (⟨"LeapNet$Program", "canBeLine", "()Z"⟩, 6) := ⟨⟨by decide +kernel, by decide +kernel⟩, List.mem_of_getElem? (i := 1175) (by decide +kernel), List.mem_of_getElem? (i := 1213) (by decide +kernel), List.mem_of_getElem? (i := 1214) (by decide +kernel)⟩
theorem lw_p62 : lw_okq (⟨"LeapNet$Program", "readLine", "(I)V"⟩, 6) := ⟨⟨by decide +kernel, by decide +kernel⟩, List.mem_of_getElem? (i := 1175) (by decide +kernel), List.mem_of_getElem? (i := 1220) (by decide +kernel), List.mem_of_getElem? (i := 1221) (by decide +kernel)⟩
theorem lw_p63 : lw_okq (⟨"LeapNet$Program", "readAgain", "(I)V"⟩, 6) := ⟨⟨by decide +kernel, by decide +kernel⟩, List.mem_of_getElem? (i := 1175) (by decide +kernel), List.mem_of_getElem? (i := 1229) (by decide +kernel), List.mem_of_getElem? (i := 1230) (by decide +kernel)⟩
def lw_privs_4 : List (MethodName × Nat) := [(⟨"LeapNet$Rule", "readWordAtom", "()V"⟩, 14), (⟨"LeapNet$Rule", "timesHere", "()I"⟩, 14), (⟨"LeapNet$Rule", "comparesHere", "()I"⟩, 14), (⟨"LeapNet", "endReading", "(LLeapNet$Reader;)V"⟩, 19), (⟨"LeapNet", "noticeStatus", "(IIIII)I"⟩, 19), (⟨"LeapNet", "toldStatus", "(II)I"⟩, 19), (⟨"LeapNet", "isTold", "(II)Z"⟩, 19), (⟨"LeapNet", "isLastToGovern", "(I)Z"⟩, 19), (⟨"LeapNet", "stampStatus", "(II)I"⟩, 19), (⟨"LeapNet", "readStamps", "()V"⟩, 19), (⟨"LeapNet", "quarrels", "()[I"⟩, 19), (⟨"LeapNet", "isBlamable", "(I[I)Z"⟩, 19), (⟨"LeapNet$Program", "readLinesWithin", "(I)V"⟩, 6), (⟨"LeapNet$Program", "canBeLine", "()Z"⟩, 6), (⟨"LeapNet$Program", "readLine", "(I)V"⟩, 6), (⟨"LeapNet$Program", "readAgain", "(I)V"⟩, 6)]
theorem lw_r4 : ∀ q ∈ lw_privs_4, lw_okq q := List.forall_mem_cons.mpr ⟨lw_p48, List.forall_mem_cons.mpr ⟨lw_p49, List.forall_mem_cons.mpr ⟨lw_p50, List.forall_mem_cons.mpr ⟨lw_p51, List.forall_mem_cons.mpr ⟨lw_p52, List.forall_mem_cons.mpr ⟨lw_p53, List.forall_mem_cons.mpr ⟨lw_p54, List.forall_mem_cons.mpr ⟨lw_p55, List.forall_mem_cons.mpr ⟨lw_p56, List.forall_mem_cons.mpr ⟨lw_p57, List.forall_mem_cons.mpr ⟨lw_p58, List.forall_mem_cons.mpr ⟨lw_p59, List.forall_mem_cons.mpr ⟨lw_p60, List.forall_mem_cons.mpr ⟨lw_p61, List.forall_mem_cons.mpr ⟨lw_p62, List.forall_mem_cons.mpr ⟨lw_p63, fun _ h => absurd h List.not_mem_nil⟩⟩⟩⟩⟩⟩⟩⟩⟩⟩⟩⟩⟩⟩⟩⟩
theorem lw_p64 : lw_okq (⟨"LeapNet$Program", "takeNumber", "(II)I"⟩, 6) := ⟨⟨by decide +kernel, by decide +kernel⟩, List.mem_of_getElem? (i := 1175) (by decide +kernel), List.mem_of_getElem? (i := 1233) (by decide +kernel), List.mem_of_getElem? (i := 1234) (by decide +kernel)⟩
theorem lw_p65 : lw_okq (⟨"LeapNet$Program", "emit", "(III)V"⟩, 6) := ⟨⟨by decide +kernel, by decide +kernel⟩, List.mem_of_getElem? (i := 1175) (by decide +kernel), List.mem_of_getElem? (i := 1239) (by decide +kernel), List.mem_of_getElem? (i := 1240) (by decide +kernel)⟩
theorem lw_p66 : lw_okq (⟨"LeapNet$Program", "readOperand", "(I)I"⟩, 6) := ⟨⟨by decide +kernel, by decide +kernel⟩, List.mem_of_getElem? (i := 1175) (by decide +kernel), List.mem_of_getElem? (i := 1243) (by decide +kernel), List.mem_of_getElem? (i := 1244) (by decide +kernel)⟩
theorem lw_p67 : lw_okq (⟨"LeapNet$Program", "readTime", "()I"⟩, 6) := ⟨⟨by decide +kernel, by decide +kernel⟩, List.mem_of_getElem? (i := 1175) (by decide +kernel), List.mem_of_getElem? (i := 1247) (by decide +kernel), List.mem_of_getElem? (i := 1248) (by decide +kernel)⟩
theorem lw_p68 : lw_okq (⟨"LeapNet$Program", "readHow", "()I"⟩, 6) := ⟨⟨by decide +kernel, by decide +kernel⟩, List.mem_of_getElem? (i := 1175) (by decide +kernel), List.mem_of_getElem? (i := 1251) (by decide +kernel), List.mem_of_getElem? (i := 1252) (by decide +kernel)⟩
theorem lw_p69 : lw_okq (⟨"LeapNet", "runStatus", "(II)I"⟩, 19) := ⟨⟨by decide +kernel, by decide +kernel⟩, List.mem_of_getElem? (i := 31) (by decide +kernel), List.mem_of_getElem? (i := 1259) (by decide +kernel), List.mem_of_getElem? (i := 1260) (by decide +kernel)⟩
theorem lw_p70 : lw_okq (⟨"LeapNet$Run", "performRow", "(I)I"⟩, 10) := ⟨⟨by decide +kernel, by decide +kernel⟩, List.mem_of_getElem? (i := 103) (by decide +kernel), List.mem_of_getElem? (i := 1270) (by decide +kernel), List.mem_of_getElem? (i := 1271) (by decide +kernel)⟩
theorem lw_p71 : lw_okq (⟨"LeapNet$Run", "waitFor", "(I)V"⟩, 10) := ⟨⟨by decide +kernel, by decide +kernel⟩, List.mem_of_getElem? (i := 103) (by decide +kernel), List.mem_of_getElem? (i := 1274) (by decide +kernel), List.mem_of_getElem? (i := 1275) (by decide +kernel)⟩
theorem lw_p72 : lw_okq (⟨"LeapNet$Run", "goOn", "()V"⟩, 10) := ⟨⟨by decide +kernel, by decide +kernel⟩, List.mem_of_getElem? (i := 103) (by decide +kernel), List.mem_of_getElem? (i := 1280) (by decide +kernel), List.mem_of_getElem? (i := 1281) (by decide +kernel)⟩
theorem lw_p73 : lw_okq (⟨"LeapNet$Run", "goOnUntil", "(J)V"⟩, 10) := ⟨⟨by decide +kernel, by decide +kernel⟩, List.mem_of_getElem? (i := 103) (by decide +kernel), List.mem_of_getElem? (i := 1284) (by decide +kernel), List.mem_of_getElem? (i := 1285) (by decide +kernel)⟩
theorem lw_p74 : lw_okq (⟨"LeapNet$Run", "keep", "(J)V"⟩, 10) := ⟨⟨by decide +kernel, by decide +kernel⟩, List.mem_of_getElem? (i := 103) (by decide +kernel), List.mem_of_getElem? (i := 1289) (by decide +kernel), List.mem_of_getElem? (i := 1290) (by decide +kernel)⟩
theorem lw_p75 : lw_okq (⟨"LeapNet$Run", "parse", "(I)V"⟩, 10) := ⟨⟨by decide +kernel, by decide +kernel⟩, List.mem_of_getElem? (i := 103) (by decide +kernel), List.mem_of_getElem? (i := 1293) (by decide +kernel), List.mem_of_getElem? (i := 1294) (by decide +kernel)⟩
theorem lw_p76 : lw_okq (⟨"LeapNet$Run", "rowBehindBack", "(I)I"⟩, 10) := ⟨⟨by decide +kernel, by decide +kernel⟩, List.mem_of_getElem? (i := 103) (by decide +kernel), List.mem_of_getElem? (i := 1298) (by decide +kernel), List.mem_of_getElem? (i := 1299) (by decide +kernel)⟩
theorem lw_p77 : lw_okq (⟨"LeapNet", "rowsStatus", "(IIII)I"⟩, 19) := ⟨⟨by decide +kernel, by decide +kernel⟩, List.mem_of_getElem? (i := 31) (by decide +kernel), List.mem_of_getElem? (i := 1318) (by decide +kernel), List.mem_of_getElem? (i := 1319) (by decide +kernel)⟩
theorem lw_p78 : lw_okq (⟨"LeapNet$Answers", "manyWith", "(J)I"⟩, 6) := ⟨⟨by decide +kernel, by decide +kernel⟩, List.mem_of_getElem? (i := 1327) (by decide +kernel), List.mem_of_getElem? (i := 1362) (by decide +kernel), List.mem_of_getElem? (i := 1363) (by decide +kernel)⟩
theorem lw_p79 : lw_okq (⟨"LeapNet$Answers", "isIn", "(IJ)Z"⟩, 6) := ⟨⟨by decide +kernel, by decide +kernel⟩, List.mem_of_getElem? (i := 1327) (by decide +kernel), List.mem_of_getElem? (i := 1366) (by decide +kernel), List.mem_of_getElem? (i := 1367) (by decide +kernel)⟩
def lw_privs_5 : List (MethodName × Nat) := [(⟨"LeapNet$Program", "takeNumber", "(II)I"⟩, 6), (⟨"LeapNet$Program", "emit", "(III)V"⟩, 6), (⟨"LeapNet$Program", "readOperand", "(I)I"⟩, 6), (⟨"LeapNet$Program", "readTime", "()I"⟩, 6), (⟨"LeapNet$Program", "readHow", "()I"⟩, 6), (⟨"LeapNet", "runStatus", "(II)I"⟩, 19), (⟨"LeapNet$Run", "performRow", "(I)I"⟩, 10), (⟨"LeapNet$Run", "waitFor", "(I)V"⟩, 10), (⟨"LeapNet$Run", "goOn", "()V"⟩, 10), (⟨"LeapNet$Run", "goOnUntil", "(J)V"⟩, 10), (⟨"LeapNet$Run", "keep", "(J)V"⟩, 10), (⟨"LeapNet$Run", "parse", "(I)V"⟩, 10), (⟨"LeapNet$Run", "rowBehindBack", "(I)I"⟩, 10), (⟨"LeapNet", "rowsStatus", "(IIII)I"⟩, 19), (⟨"LeapNet$Answers", "manyWith", "(J)I"⟩, 6), (⟨"LeapNet$Answers", "isIn", "(IJ)Z"⟩, 6)]
theorem lw_r5 : ∀ q ∈ lw_privs_5, lw_okq q := List.forall_mem_cons.mpr ⟨lw_p64, List.forall_mem_cons.mpr ⟨lw_p65, List.forall_mem_cons.mpr ⟨lw_p66, List.forall_mem_cons.mpr ⟨lw_p67, List.forall_mem_cons.mpr ⟨lw_p68, List.forall_mem_cons.mpr ⟨lw_p69, List.forall_mem_cons.mpr ⟨lw_p70, List.forall_mem_cons.mpr ⟨lw_p71, List.forall_mem_cons.mpr ⟨lw_p72, List.forall_mem_cons.mpr ⟨lw_p73, List.forall_mem_cons.mpr ⟨lw_p74, List.forall_mem_cons.mpr ⟨lw_p75, List.forall_mem_cons.mpr ⟨lw_p76, List.forall_mem_cons.mpr ⟨lw_p77, List.forall_mem_cons.mpr ⟨lw_p78, List.forall_mem_cons.mpr ⟨lw_p79, fun _ h => absurd h List.not_mem_nil⟩⟩⟩⟩⟩⟩⟩⟩⟩⟩⟩⟩⟩⟩⟩⟩
theorem lw_p80 : lw_okq (⟨"LeapNet$Land", "isSummer", "(I)Z"⟩, 3) := ⟨⟨by decide +kernel, by decide +kernel⟩, List.mem_of_getElem? (i := 146) (by decide +kernel), List.mem_of_getElem? (i := 1428) (by decide +kernel), List.mem_of_getElem? (i := 1429) (by decide +kernel)⟩
theorem lw_p81 : lw_okq (⟨"LeapNetModel", "no", "(I)Z"⟩, 106) := ⟨⟨by decide +kernel, by decide +kernel⟩, List.mem_of_getElem? (i := 1445) (by decide +kernel), List.mem_of_getElem? (i := 1778) (by decide +kernel), List.mem_of_getElem? (i := 1779) (by decide +kernel)⟩
theorem lw_p82 : lw_okq (⟨"LeapNetModel", "placed", "(II)I"⟩, 106) := ⟨⟨by decide +kernel, by decide +kernel⟩, List.mem_of_getElem? (i := 1445) (by decide +kernel), List.mem_of_getElem? (i := 1786) (by decide +kernel), List.mem_of_getElem? (i := 1787) (by decide +kernel)⟩
theorem lw_p83 : lw_okq (⟨"LeapNetModel", "trayed", "(I)I"⟩, 106) := ⟨⟨by decide +kernel, by decide +kernel⟩, List.mem_of_getElem? (i := 1445) (by decide +kernel), List.mem_of_getElem? (i := 1790) (by decide +kernel), List.mem_of_getElem? (i := 1791) (by decide +kernel)⟩
theorem lw_p84 : lw_okq (⟨"LeapNetModel", "refuse", "(I)I"⟩, 106) := ⟨⟨by decide +kernel, by decide +kernel⟩, List.mem_of_getElem? (i := 1445) (by decide +kernel), List.mem_of_getElem? (i := 1826) (by decide +kernel), List.mem_of_getElem? (i := 1827) (by decide +kernel)⟩
theorem lw_p85 : lw_okq (⟨"LeapNetModel", "takeTrue", "()V"⟩, 106) := ⟨⟨by decide +kernel, by decide +kernel⟩, List.mem_of_getElem? (i := 1445) (by decide +kernel), List.mem_of_getElem? (i := 1830) (by decide +kernel), List.mem_of_getElem? (i := 1831) (by decide +kernel)⟩
theorem lw_p86 : lw_okq (⟨"LeapNetModel", "findCivil", "(J)V"⟩, 106) := ⟨⟨by decide +kernel, by decide +kernel⟩, List.mem_of_getElem? (i := 1445) (by decide +kernel), List.mem_of_getElem? (i := 1834) (by decide +kernel), List.mem_of_getElem? (i := 1835) (by decide +kernel)⟩
theorem lw_p87 : lw_okq (⟨"LeapNetModel", "beginOf", "(I)J"⟩, 106) := ⟨⟨by decide +kernel, by decide +kernel⟩, List.mem_of_getElem? (i := 1445) (by decide +kernel), List.mem_of_getElem? (i := 1839) (by decide +kernel), List.mem_of_getElem? (i := 1840) (by decide +kernel)⟩
theorem lw_p88 : lw_okq (⟨"LeapNetModel", "trueKind", "(I)I"⟩, 106) := ⟨⟨by decide +kernel, by decide +kernel⟩, List.mem_of_getElem? (i := 1445) (by decide +kernel), List.mem_of_getElem? (i := 1848) (by decide +kernel), List.mem_of_getElem? (i := 1849) (by decide +kernel)⟩
theorem lw_p89 : lw_okq (⟨"LeapNetModel", "isClock", "(I)Z"⟩, 106) := ⟨⟨by decide +kernel, by decide +kernel⟩, List.mem_of_getElem? (i := 1445) (by decide +kernel), List.mem_of_getElem? (i := 1861) (by decide +kernel), List.mem_of_getElem? (i := 1862) (by decide +kernel)⟩
theorem lw_p90 : lw_okq (⟨"LeapNetModel", "findSteps", "(I)V"⟩, 106) := ⟨⟨by decide +kernel, by decide +kernel⟩, List.mem_of_getElem? (i := 1445) (by decide +kernel), List.mem_of_getElem? (i := 1869) (by decide +kernel), List.mem_of_getElem? (i := 1870) (by decide +kernel)⟩
theorem lw_p91 : lw_okq (⟨"LeapNetModel", "takeClock", "(I)V"⟩, 106) := ⟨⟨by decide +kernel, by decide +kernel⟩, List.mem_of_getElem? (i := 1445) (by decide +kernel), List.mem_of_getElem? (i := 1873) (by decide +kernel), List.mem_of_getElem? (i := 1874) (by decide +kernel)⟩
theorem lw_p92 : lw_okq (⟨"LeapNetModel", "counts", "(I)Z"⟩, 106) := ⟨⟨by decide +kernel, by decide +kernel⟩, List.mem_of_getElem? (i := 1445) (by decide +kernel), List.mem_of_getElem? (i := 1877) (by decide +kernel), List.mem_of_getElem? (i := 1878) (by decide +kernel)⟩
theorem lw_p93 : lw_okq (⟨"LeapNetModel", "isInTime", "(I)Z"⟩, 106) := ⟨⟨by decide +kernel, by decide +kernel⟩, List.mem_of_getElem? (i := 1445) (by decide +kernel), List.mem_of_getElem? (i := 1881) (by decide +kernel), List.mem_of_getElem? (i := 1882) (by decide +kernel)⟩
theorem lw_p94 : lw_okq (⟨"LeapNetModel", "isBelieved", "(I)Z"⟩, 106) := ⟨⟨by decide +kernel, by decide +kernel⟩, List.mem_of_getElem? (i := 1445) (by decide +kernel), List.mem_of_getElem? (i := 1885) (by decide +kernel), List.mem_of_getElem? (i := 1886) (by decide +kernel)⟩
theorem lw_p95 : lw_okq (⟨"LeapNetModel", "letNothing", "()V"⟩, 106) := ⟨⟨by decide +kernel, by decide +kernel⟩, List.mem_of_getElem? (i := 1445) (by decide +kernel), List.mem_of_getElem? (i := 1889) (by decide +kernel), List.mem_of_getElem? (i := 1890) (by decide +kernel)⟩
def lw_privs_6 : List (MethodName × Nat) := [(⟨"LeapNet$Land", "isSummer", "(I)Z"⟩, 3), (⟨"LeapNetModel", "no", "(I)Z"⟩, 106), (⟨"LeapNetModel", "placed", "(II)I"⟩, 106), (⟨"LeapNetModel", "trayed", "(I)I"⟩, 106), (⟨"LeapNetModel", "refuse", "(I)I"⟩, 106), (⟨"LeapNetModel", "takeTrue", "()V"⟩, 106), (⟨"LeapNetModel", "findCivil", "(J)V"⟩, 106), (⟨"LeapNetModel", "beginOf", "(I)J"⟩, 106), (⟨"LeapNetModel", "trueKind", "(I)I"⟩, 106), (⟨"LeapNetModel", "isClock", "(I)Z"⟩, 106), (⟨"LeapNetModel", "findSteps", "(I)V"⟩, 106), (⟨"LeapNetModel", "takeClock", "(I)V"⟩, 106), (⟨"LeapNetModel", "counts", "(I)Z"⟩, 106), (⟨"LeapNetModel", "isInTime", "(I)Z"⟩, 106), (⟨"LeapNetModel", "isBelieved", "(I)Z"⟩, 106), (⟨"LeapNetModel", "letNothing", "()V"⟩, 106)]
theorem lw_r6 : ∀ q ∈ lw_privs_6, lw_okq q := List.forall_mem_cons.mpr ⟨lw_p80, List.forall_mem_cons.mpr ⟨lw_p81, List.forall_mem_cons.mpr ⟨lw_p82, List.forall_mem_cons.mpr ⟨lw_p83, List.forall_mem_cons.mpr ⟨lw_p84, List.forall_mem_cons.mpr ⟨lw_p85, List.forall_mem_cons.mpr ⟨lw_p86, List.forall_mem_cons.mpr ⟨lw_p87, List.forall_mem_cons.mpr ⟨lw_p88, List.forall_mem_cons.mpr ⟨lw_p89, List.forall_mem_cons.mpr ⟨lw_p90, List.forall_mem_cons.mpr ⟨lw_p91, List.forall_mem_cons.mpr ⟨lw_p92, List.forall_mem_cons.mpr ⟨lw_p93, List.forall_mem_cons.mpr ⟨lw_p94, List.forall_mem_cons.mpr ⟨lw_p95, fun _ h => absurd h List.not_mem_nil⟩⟩⟩⟩⟩⟩⟩⟩⟩⟩⟩⟩⟩⟩⟩⟩
theorem lw_p96 : lw_okq (⟨"LeapNetModel", "told", "(JIJ)J"⟩, 106) := ⟨⟨by decide +kernel, by decide +kernel⟩, List.mem_of_getElem? (i := 1445) (by decide +kernel), List.mem_of_getElem? (i := 1895) (by decide +kernel), List.mem_of_getElem? (i := 1896) (by decide +kernel)⟩
theorem lw_p97 : lw_okq (⟨"LeapNetModel", "force", "(I)I"⟩, 106) := ⟨⟨by decide +kernel, by decide +kernel⟩, List.mem_of_getElem? (i := 1445) (by decide +kernel), List.mem_of_getElem? (i := 1899) (by decide +kernel), List.mem_of_getElem? (i := 1900) (by decide +kernel)⟩
theorem lw_p98 : lw_okq (⟨"LeapNetModel", "work", "(II)V"⟩, 106) := ⟨⟨by decide +kernel, by decide +kernel⟩, List.mem_of_getElem? (i := 1445) (by decide +kernel), List.mem_of_getElem? (i := 1903) (by decide +kernel), List.mem_of_getElem? (i := 1904) (by decide +kernel)⟩
theorem lw_p99 : lw_okq (⟨"LeapNetModel", "does", "(II)I"⟩, 106) := ⟨⟨by decide +kernel, by decide +kernel⟩, List.mem_of_getElem? (i := 1445) (by decide +kernel), List.mem_of_getElem? (i := 1907) (by decide +kernel), List.mem_of_getElem? (i := 1908) (by decide +kernel)⟩
theorem lw_p100 : lw_okq (⟨"LeapNetModel", "push", "(JZ)V"⟩, 106) := ⟨⟨by decide +kernel, by decide +kernel⟩, List.mem_of_getElem? (i := 1445) (by decide +kernel), List.mem_of_getElem? (i := 1912) (by decide +kernel), List.mem_of_getElem? (i := 1913) (by decide +kernel)⟩
theorem lw_p101 : lw_okq (⟨"LeapNetModel", "both", "(II)V"⟩, 106) := ⟨⟨by decide +kernel, by decide +kernel⟩, List.mem_of_getElem? (i := 1445) (by decide +kernel), List.mem_of_getElem? (i := 1916) (by decide +kernel), List.mem_of_getElem? (i := 1917) (by decide +kernel)⟩
theorem lw_p102 : lw_okq (⟨"LeapNetModel", "handKindOf", "(I)I"⟩, 106) := ⟨⟨by decide +kernel, by decide +kernel⟩, List.mem_of_getElem? (i := 1445) (by decide +kernel), List.mem_of_getElem? (i := 1922) (by decide +kernel), List.mem_of_getElem? (i := 1923) (by decide +kernel)⟩
theorem lw_p103 : lw_okq (⟨"LeapNetModel", "showsOf", "(II)J"⟩, 106) := ⟨⟨by decide +kernel, by decide +kernel⟩, List.mem_of_getElem? (i := 1445) (by decide +kernel), List.mem_of_getElem? (i := 1926) (by decide +kernel), List.mem_of_getElem? (i := 1927) (by decide +kernel)⟩
theorem lw_p104 : lw_okq (⟨"LeapNetModel", "aheadAt", "(I)I"⟩, 106) := ⟨⟨by decide +kernel, by decide +kernel⟩, List.mem_of_getElem? (i := 1445) (by decide +kernel), List.mem_of_getElem? (i := 1930) (by decide +kernel), List.mem_of_getElem? (i := 1931) (by decide +kernel)⟩
theorem lw_p105 : lw_okq (⟨"LeapNetModel", "lay", "(I)V"⟩, 106) := ⟨⟨by decide +kernel, by decide +kernel⟩, List.mem_of_getElem? (i := 1445) (by decide +kernel), List.mem_of_getElem? (i := 1961) (by decide +kernel), List.mem_of_getElem? (i := 1962) (by decide +kernel)⟩
theorem lw_p106 : lw_okq (⟨"LeapNetModel", "next", "()V"⟩, 106) := ⟨⟨by decide +kernel, by decide +kernel⟩, List.mem_of_getElem? (i := 1445) (by decide +kernel), List.mem_of_getElem? (i := 1969) (by decide +kernel), List.mem_of_getElem? (i := 1970) (by decide +kernel)⟩
theorem lw_p107 : lw_okq (⟨"LeapNetModel", "look", "(I)I"⟩, 106) := ⟨⟨by decide +kernel, by decide +kernel⟩, List.mem_of_getElem? (i := 1445) (by decide +kernel), List.mem_of_getElem? (i := 1973) (by decide +kernel), List.mem_of_getElem? (i := 1974) (by decide +kernel)⟩
theorem lw_p108 : lw_okq (⟨"LeapNetModel", "readDef", "()V"⟩, 106) := ⟨⟨by decide +kernel, by decide +kernel⟩, List.mem_of_getElem? (i := 1445) (by decide +kernel), List.mem_of_getElem? (i := 1989) (by decide +kernel), List.mem_of_getElem? (i := 1990) (by decide +kernel)⟩
theorem lw_p109 : lw_okq (⟨"LeapNetModel", "variable", "()I"⟩, 106) := ⟨⟨by decide +kernel, by decide +kernel⟩, List.mem_of_getElem? (i := 1445) (by decide +kernel), List.mem_of_getElem? (i := 1993) (by decide +kernel), List.mem_of_getElem? (i := 1994) (by decide +kernel)⟩
theorem lw_p110 : lw_okq (⟨"LeapNetModel", "isWord", "(J)Z"⟩, 106) := ⟨⟨by decide +kernel, by decide +kernel⟩, List.mem_of_getElem? (i := 1445) (by decide +kernel), List.mem_of_getElem? (i := 2000) (by decide +kernel), List.mem_of_getElem? (i := 2001) (by decide +kernel)⟩
theorem lw_p111 : lw_okq (⟨"LeapNetModel", "isKept", "()Z"⟩, 106) := ⟨⟨by decide +kernel, by decide +kernel⟩, List.mem_of_getElem? (i := 1445) (by decide +kernel), List.mem_of_getElem? (i := 2006) (by decide +kernel), List.mem_of_getElem? (i := 2007) (by decide +kernel)⟩
def lw_privs_7 : List (MethodName × Nat) := [(⟨"LeapNetModel", "told", "(JIJ)J"⟩, 106), (⟨"LeapNetModel", "force", "(I)I"⟩, 106), (⟨"LeapNetModel", "work", "(II)V"⟩, 106), (⟨"LeapNetModel", "does", "(II)I"⟩, 106), (⟨"LeapNetModel", "push", "(JZ)V"⟩, 106), (⟨"LeapNetModel", "both", "(II)V"⟩, 106), (⟨"LeapNetModel", "handKindOf", "(I)I"⟩, 106), (⟨"LeapNetModel", "showsOf", "(II)J"⟩, 106), (⟨"LeapNetModel", "aheadAt", "(I)I"⟩, 106), (⟨"LeapNetModel", "lay", "(I)V"⟩, 106), (⟨"LeapNetModel", "next", "()V"⟩, 106), (⟨"LeapNetModel", "look", "(I)I"⟩, 106), (⟨"LeapNetModel", "readDef", "()V"⟩, 106), (⟨"LeapNetModel", "variable", "()I"⟩, 106), (⟨"LeapNetModel", "isWord", "(J)Z"⟩, 106), (⟨"LeapNetModel", "isKept", "()Z"⟩, 106)]
theorem lw_r7 : ∀ q ∈ lw_privs_7, lw_okq q := List.forall_mem_cons.mpr ⟨lw_p96, List.forall_mem_cons.mpr ⟨lw_p97, List.forall_mem_cons.mpr ⟨lw_p98, List.forall_mem_cons.mpr ⟨lw_p99, List.forall_mem_cons.mpr ⟨lw_p100, List.forall_mem_cons.mpr ⟨lw_p101, List.forall_mem_cons.mpr ⟨lw_p102, List.forall_mem_cons.mpr ⟨lw_p103, List.forall_mem_cons.mpr ⟨lw_p104, List.forall_mem_cons.mpr ⟨lw_p105, List.forall_mem_cons.mpr ⟨lw_p106, List.forall_mem_cons.mpr ⟨lw_p107, List.forall_mem_cons.mpr ⟨lw_p108, List.forall_mem_cons.mpr ⟨lw_p109, List.forall_mem_cons.mpr ⟨lw_p110, List.forall_mem_cons.mpr ⟨lw_p111, fun _ h => absurd h List.not_mem_nil⟩⟩⟩⟩⟩⟩⟩⟩⟩⟩⟩⟩⟩⟩⟩⟩
theorem lw_p112 : lw_okq (⟨"LeapNetModel", "isIf", "()Z"⟩, 106) := ⟨⟨by decide +kernel, by decide +kernel⟩, List.mem_of_getElem? (i := 1445) (by decide +kernel), List.mem_of_getElem? (i := 2010) (by decide +kernel), List.mem_of_getElem? (i := 2011) (by decide +kernel)⟩
theorem lw_p113 : lw_okq (⟨"LeapNetModel", "isThen", "()Z"⟩, 106) := ⟨⟨by decide +kernel, by decide +kernel⟩, List.mem_of_getElem? (i := 1445) (by decide +kernel), List.mem_of_getElem? (i := 2014) (by decide +kernel), List.mem_of_getElem? (i := 2015) (by decide +kernel)⟩
theorem lw_p114 : lw_okq (⟨"LeapNetModel", "isElse", "()Z"⟩, 106) := ⟨⟨by decide +kernel, by decide +kernel⟩, List.mem_of_getElem? (i := 1445) (by decide +kernel), List.mem_of_getElem? (i := 2018) (by decide +kernel), List.mem_of_getElem? (i := 2019) (by decide +kernel)⟩
theorem lw_p115 : lw_okq (⟨"LeapNetModel", "isAnd", "()Z"⟩, 106) := ⟨⟨by decide +kernel, by decide +kernel⟩, List.mem_of_getElem? (i := 1445) (by decide +kernel), List.mem_of_getElem? (i := 2022) (by decide +kernel), List.mem_of_getElem? (i := 2023) (by decide +kernel)⟩
theorem lw_p116 : lw_okq (⟨"LeapNetModel", "isOr", "()Z"⟩, 106) := ⟨⟨by decide +kernel, by decide +kernel⟩, List.mem_of_getElem? (i := 1445) (by decide +kernel), List.mem_of_getElem? (i := 2026) (by decide +kernel), List.mem_of_getElem? (i := 2027) (by decide +kernel)⟩
theorem lw_p117 : lw_okq (⟨"LeapNetModel", "isNot", "()Z"⟩, 106) := ⟨⟨by decide +kernel, by decide +kernel⟩, List.mem_of_getElem? (i := 1445) (by decide +kernel), List.mem_of_getElem? (i := 2030) (by decide +kernel), List.mem_of_getElem? (i := 2031) (by decide +kernel)⟩
theorem lw_p118 : lw_okq (⟨"LeapNetModel", "isLeast", "()Z"⟩, 106) := ⟨⟨by decide +kernel, by decide +kernel⟩, List.mem_of_getElem? (i := 1445) (by decide +kernel), List.mem_of_getElem? (i := 2034) (by decide +kernel), List.mem_of_getElem? (i := 2035) (by decide +kernel)⟩
theorem lw_p119 : lw_okq (⟨"LeapNetModel", "isMost", "()Z"⟩, 106) := ⟨⟨by decide +kernel, by decide +kernel⟩, List.mem_of_getElem? (i := 1445) (by decide +kernel), List.mem_of_getElem? (i := 2038) (by decide +kernel), List.mem_of_getElem? (i := 2039) (by decide +kernel)⟩
theorem lw_p120 : lw_okq (⟨"LeapNetModel", "wrongToken", "()V"⟩, 106) := ⟨⟨by decide +kernel, by decide +kernel⟩, List.mem_of_getElem? (i := 1445) (by decide +kernel), List.mem_of_getElem? (i := 2042) (by decide +kernel), List.mem_of_getElem? (i := 2043) (by decide +kernel)⟩
theorem lw_p121 : lw_okq (⟨"LeapNetModel", "fail", "(II)V"⟩, 106) := ⟨⟨by decide +kernel, by decide +kernel⟩, List.mem_of_getElem? (i := 1445) (by decide +kernel), List.mem_of_getElem? (i := 2046) (by decide +kernel), List.mem_of_getElem? (i := 2047) (by decide +kernel)⟩
theorem lw_p122 : lw_okq (⟨"LeapNetModel", "named", "()I"⟩, 106) := ⟨⟨by decide +kernel, by decide +kernel⟩, List.mem_of_getElem? (i := 1445) (by decide +kernel), List.mem_of_getElem? (i := 2050) (by decide +kernel), List.mem_of_getElem? (i := 2051) (by decide +kernel)⟩
theorem lw_p123 : lw_okq (⟨"LeapNetModel", "isSign", "(I)Z"⟩, 106) := ⟨⟨by decide +kernel, by decide +kernel⟩, List.mem_of_getElem? (i := 1445) (by decide +kernel), List.mem_of_getElem? (i := 2054) (by decide +kernel), List.mem_of_getElem? (i := 2055) (by decide +kernel)⟩
theorem lw_p124 : lw_okq (⟨"LeapNetModel", "readWhole", "(I)V"⟩, 106) := ⟨⟨by decide +kernel, by decide +kernel⟩, List.mem_of_getElem? (i := 1445) (by decide +kernel), List.mem_of_getElem? (i := 2058) (by decide +kernel), List.mem_of_getElem? (i := 2059) (by decide +kernel)⟩
theorem lw_p125 : lw_okq (⟨"LeapNetModel", "canBegin", "()Z"⟩, 106) := ⟨⟨by decide +kernel, by decide +kernel⟩, List.mem_of_getElem? (i := 1445) (by decide +kernel), List.mem_of_getElem? (i := 2062) (by decide +kernel), List.mem_of_getElem? (i := 2063) (by decide +kernel)⟩
theorem lw_p126 : lw_okq (⟨"LeapNetModel", "canBeginSum", "()Z"⟩, 106) := ⟨⟨by decide +kernel, by decide +kernel⟩, List.mem_of_getElem? (i := 1445) (by decide +kernel), List.mem_of_getElem? (i := 2066) (by decide +kernel), List.mem_of_getElem? (i := 2067) (by decide +kernel)⟩
theorem lw_p127 : lw_okq (⟨"LeapNetModel", "readSum", "(I)V"⟩, 106) := ⟨⟨by decide +kernel, by decide +kernel⟩, List.mem_of_getElem? (i := 1445) (by decide +kernel), List.mem_of_getElem? (i := 2070) (by decide +kernel), List.mem_of_getElem? (i := 2071) (by decide +kernel)⟩
def lw_privs_8 : List (MethodName × Nat) := [(⟨"LeapNetModel", "isIf", "()Z"⟩, 106), (⟨"LeapNetModel", "isThen", "()Z"⟩, 106), (⟨"LeapNetModel", "isElse", "()Z"⟩, 106), (⟨"LeapNetModel", "isAnd", "()Z"⟩, 106), (⟨"LeapNetModel", "isOr", "()Z"⟩, 106), (⟨"LeapNetModel", "isNot", "()Z"⟩, 106), (⟨"LeapNetModel", "isLeast", "()Z"⟩, 106), (⟨"LeapNetModel", "isMost", "()Z"⟩, 106), (⟨"LeapNetModel", "wrongToken", "()V"⟩, 106), (⟨"LeapNetModel", "fail", "(II)V"⟩, 106), (⟨"LeapNetModel", "named", "()I"⟩, 106), (⟨"LeapNetModel", "isSign", "(I)Z"⟩, 106), (⟨"LeapNetModel", "readWhole", "(I)V"⟩, 106), (⟨"LeapNetModel", "canBegin", "()Z"⟩, 106), (⟨"LeapNetModel", "canBeginSum", "()Z"⟩, 106), (⟨"LeapNetModel", "readSum", "(I)V"⟩, 106)]
theorem lw_r8 : ∀ q ∈ lw_privs_8, lw_okq q := List.forall_mem_cons.mpr ⟨lw_p112, List.forall_mem_cons.mpr ⟨lw_p113, List.forall_mem_cons.mpr ⟨lw_p114, List.forall_mem_cons.mpr ⟨lw_p115, List.forall_mem_cons.mpr ⟨lw_p116, List.forall_mem_cons.mpr ⟨lw_p117, List.forall_mem_cons.mpr ⟨lw_p118, List.forall_mem_cons.mpr ⟨lw_p119, List.forall_mem_cons.mpr ⟨lw_p120, List.forall_mem_cons.mpr ⟨lw_p121, List.forall_mem_cons.mpr ⟨lw_p122, List.forall_mem_cons.mpr ⟨lw_p123, List.forall_mem_cons.mpr ⟨lw_p124, List.forall_mem_cons.mpr ⟨lw_p125, List.forall_mem_cons.mpr ⟨lw_p126, List.forall_mem_cons.mpr ⟨lw_p127, fun _ h => absurd h List.not_mem_nil⟩⟩⟩⟩⟩⟩⟩⟩⟩⟩⟩⟩⟩⟩⟩⟩
theorem lw_p128 : lw_okq (⟨"LeapNetModel", "readItem", "(I)V"⟩, 106) := ⟨⟨by decide +kernel, by decide +kernel⟩, List.mem_of_getElem? (i := 1445) (by decide +kernel), List.mem_of_getElem? (i := 2074) (by decide +kernel), List.mem_of_getElem? (i := 2075) (by decide +kernel)⟩
theorem lw_p129 : lw_okq (⟨"LeapNetModel", "readAtom", "(I)V"⟩, 106) := ⟨⟨by decide +kernel, by decide +kernel⟩, List.mem_of_getElem? (i := 1445) (by decide +kernel), List.mem_of_getElem? (i := 2078) (by decide +kernel), List.mem_of_getElem? (i := 2079) (by decide +kernel)⟩
theorem lw_p130 : lw_okq (⟨"LeapNetModel", "mark", "(II)V"⟩, 106) := ⟨⟨by decide +kernel, by decide +kernel⟩, List.mem_of_getElem? (i := 1445) (by decide +kernel), List.mem_of_getElem? (i := 2082) (by decide +kernel), List.mem_of_getElem? (i := 2083) (by decide +kernel)⟩
theorem lw_p131 : lw_okq (⟨"LeapNetModel", "readFew", "(II)V"⟩, 106) := ⟨⟨by decide +kernel, by decide +kernel⟩, List.mem_of_getElem? (i := 1445) (by decide +kernel), List.mem_of_getElem? (i := 2086) (by decide +kernel), List.mem_of_getElem? (i := 2087) (by decide +kernel)⟩
theorem lw_p132 : lw_okq (⟨"LeapNetModel", "readDeeper", "(I)V"⟩, 106) := ⟨⟨by decide +kernel, by decide +kernel⟩, List.mem_of_getElem? (i := 1445) (by decide +kernel), List.mem_of_getElem? (i := 2090) (by decide +kernel), List.mem_of_getElem? (i := 2091) (by decide +kernel)⟩
theorem lw_p133 : lw_okq (⟨"LeapNetModel", "readTest", "(I)V"⟩, 106) := ⟨⟨by decide +kernel, by decide +kernel⟩, List.mem_of_getElem? (i := 1445) (by decide +kernel), List.mem_of_getElem? (i := 2094) (by decide +kernel), List.mem_of_getElem? (i := 2095) (by decide +kernel)⟩
theorem lw_p134 : lw_okq (⟨"LeapNetModel", "readOne", "(I)V"⟩, 106) := ⟨⟨by decide +kernel, by decide +kernel⟩, List.mem_of_getElem? (i := 1445) (by decide +kernel), List.mem_of_getElem? (i := 2098) (by decide +kernel), List.mem_of_getElem? (i := 2099) (by decide +kernel)⟩
theorem lw_p135 : lw_okq (⟨"LeapNetModel", "noticeOf", "(II)I"⟩, 106) := ⟨⟨by decide +kernel, by decide +kernel⟩, List.mem_of_getElem? (i := 1445) (by decide +kernel), List.mem_of_getElem? (i := 2119) (by decide +kernel), List.mem_of_getElem? (i := 2120) (by decide +kernel)⟩
theorem lw_p136 : lw_okq (⟨"LeapNetModel", "findStamps", "()V"⟩, 106) := ⟨⟨by decide +kernel, by decide +kernel⟩, List.mem_of_getElem? (i := 1445) (by decide +kernel), List.mem_of_getElem? (i := 2139) (by decide +kernel), List.mem_of_getElem? (i := 2140) (by decide +kernel)⟩
theorem lw_p137 : lw_okq (⟨"LeapNetModel", "areWrong", "(II)Z"⟩, 106) := ⟨⟨by decide +kernel, by decide +kernel⟩, List.mem_of_getElem? (i := 1445) (by decide +kernel), List.mem_of_getElem? (i := 2143) (by decide +kernel), List.mem_of_getElem? (i := 2144) (by decide +kernel)⟩
theorem lw_p138 : lw_okq (⟨"LeapNetModel", "readLine", "(I)V"⟩, 106) := ⟨⟨by decide +kernel, by decide +kernel⟩, List.mem_of_getElem? (i := 1445) (by decide +kernel), List.mem_of_getElem? (i := 2157) (by decide +kernel), List.mem_of_getElem? (i := 2158) (by decide +kernel)⟩
theorem lw_p139 : lw_okq (⟨"LeapNetModel", "readNumber", "(II)I"⟩, 106) := ⟨⟨by decide +kernel, by decide +kernel⟩, List.mem_of_getElem? (i := 1445) (by decide +kernel), List.mem_of_getElem? (i := 2161) (by decide +kernel), List.mem_of_getElem? (i := 2162) (by decide +kernel)⟩
theorem lw_p140 : lw_okq (⟨"LeapNetModel", "readSign", "(I)V"⟩, 106) := ⟨⟨by decide +kernel, by decide +kernel⟩, List.mem_of_getElem? (i := 1445) (by decide +kernel), List.mem_of_getElem? (i := 2165) (by decide +kernel), List.mem_of_getElem? (i := 2166) (by decide +kernel)⟩
theorem lw_p141 : lw_okq (⟨"LeapNetModel", "readTime", "(I)V"⟩, 106) := ⟨⟨by decide +kernel, by decide +kernel⟩, List.mem_of_getElem? (i := 1445) (by decide +kernel), List.mem_of_getElem? (i := 2169) (by decide +kernel), List.mem_of_getElem? (i := 2170) (by decide +kernel)⟩
theorem lw_p142 : lw_okq (⟨"LeapNetModel", "readHow", "(I)V"⟩, 106) := ⟨⟨by decide +kernel, by decide +kernel⟩, List.mem_of_getElem? (i := 1445) (by decide +kernel), List.mem_of_getElem? (i := 2173) (by decide +kernel), List.mem_of_getElem? (i := 2174) (by decide +kernel)⟩
theorem lw_p143 : lw_okq (⟨"LeapNetModel", "runLines", "(II)V"⟩, 106) := ⟨⟨by decide +kernel, by decide +kernel⟩, List.mem_of_getElem? (i := 1445) (by decide +kernel), List.mem_of_getElem? (i := 2182) (by decide +kernel), List.mem_of_getElem? (i := 2183) (by decide +kernel)⟩
def lw_privs_9 : List (MethodName × Nat) := [(⟨"LeapNetModel", "readItem", "(I)V"⟩, 106), (⟨"LeapNetModel", "readAtom", "(I)V"⟩, 106), (⟨"LeapNetModel", "mark", "(II)V"⟩, 106), (⟨"LeapNetModel", "readFew", "(II)V"⟩, 106), (⟨"LeapNetModel", "readDeeper", "(I)V"⟩, 106), (⟨"LeapNetModel", "readTest", "(I)V"⟩, 106), (⟨"LeapNetModel", "readOne", "(I)V"⟩, 106), (⟨"LeapNetModel", "noticeOf", "(II)I"⟩, 106), (⟨"LeapNetModel", "findStamps", "()V"⟩, 106), (⟨"LeapNetModel", "areWrong", "(II)Z"⟩, 106), (⟨"LeapNetModel", "readLine", "(I)V"⟩, 106), (⟨"LeapNetModel", "readNumber", "(II)I"⟩, 106), (⟨"LeapNetModel", "readSign", "(I)V"⟩, 106), (⟨"LeapNetModel", "readTime", "(I)V"⟩, 106), (⟨"LeapNetModel", "readHow", "(I)V"⟩, 106), (⟨"LeapNetModel", "runLines", "(II)V"⟩, 106)]
theorem lw_r9 : ∀ q ∈ lw_privs_9, lw_okq q := List.forall_mem_cons.mpr ⟨lw_p128, List.forall_mem_cons.mpr ⟨lw_p129, List.forall_mem_cons.mpr ⟨lw_p130, List.forall_mem_cons.mpr ⟨lw_p131, List.forall_mem_cons.mpr ⟨lw_p132, List.forall_mem_cons.mpr ⟨lw_p133, List.forall_mem_cons.mpr ⟨lw_p134, List.forall_mem_cons.mpr ⟨lw_p135, List.forall_mem_cons.mpr ⟨lw_p136, List.forall_mem_cons.mpr ⟨lw_p137, List.forall_mem_cons.mpr ⟨lw_p138, List.forall_mem_cons.mpr ⟨lw_p139, List.forall_mem_cons.mpr ⟨lw_p140, List.forall_mem_cons.mpr ⟨lw_p141, List.forall_mem_cons.mpr ⟨lw_p142, List.forall_mem_cons.mpr ⟨lw_p143, fun _ h => absurd h List.not_mem_nil⟩⟩⟩⟩⟩⟩⟩⟩⟩⟩⟩⟩⟩⟩⟩⟩
theorem lw_p144 : lw_okq (⟨"LeapNetModel", "runLine", "(I)V"⟩, 106) := ⟨⟨by decide +kernel, by decide +kernel⟩, List.mem_of_getElem? (i := 1445) (by decide +kernel), List.mem_of_getElem? (i := 2186) (by decide +kernel), List.mem_of_getElem? (i := 2187) (by decide +kernel)⟩
theorem lw_p145 : lw_okq (⟨"LeapNetModel", "goesOn", "()V"⟩, 106) := ⟨⟨by decide +kernel, by decide +kernel⟩, List.mem_of_getElem? (i := 1445) (by decide +kernel), List.mem_of_getElem? (i := 2190) (by decide +kernel), List.mem_of_getElem? (i := 2191) (by decide +kernel)⟩
theorem lw_p146 : lw_okq (⟨"LeapNetModel", "keep", "(J)V"⟩, 106) := ⟨⟨by decide +kernel, by decide +kernel⟩, List.mem_of_getElem? (i := 1445) (by decide +kernel), List.mem_of_getElem? (i := 2194) (by decide +kernel), List.mem_of_getElem? (i := 2195) (by decide +kernel)⟩
theorem lw_p147 : lw_okq (⟨"LeapNetModel", "numberOf", "(II)J"⟩, 106) := ⟨⟨by decide +kernel, by decide +kernel⟩, List.mem_of_getElem? (i := 1445) (by decide +kernel), List.mem_of_getElem? (i := 2211) (by decide +kernel), List.mem_of_getElem? (i := 2212) (by decide +kernel)⟩
theorem lw_p148 : lw_okq (⟨"LeapNetModel", "having", "(I)I"⟩, 106) := ⟨⟨by decide +kernel, by decide +kernel⟩, List.mem_of_getElem? (i := 1445) (by decide +kernel), List.mem_of_getElem? (i := 2217) (by decide +kernel), List.mem_of_getElem? (i := 2218) (by decide +kernel)⟩
theorem lw_p149 : lw_okq (⟨"LeapNetModel", "unlike", "(I)I"⟩, 106) := ⟨⟨by decide +kernel, by decide +kernel⟩, List.mem_of_getElem? (i := 1445) (by decide +kernel), List.mem_of_getElem? (i := 2241) (by decide +kernel), List.mem_of_getElem? (i := 2242) (by decide +kernel)⟩
theorem lw_p150 : lw_okq (⟨"LeapNetModel", "localOf", "(II)I"⟩, 106) := ⟨⟨by decide +kernel, by decide +kernel⟩, List.mem_of_getElem? (i := 1445) (by decide +kernel), List.mem_of_getElem? (i := 2259) (by decide +kernel), List.mem_of_getElem? (i := 2260) (by decide +kernel)⟩
def lw_privs_10 : List (MethodName × Nat) := [(⟨"LeapNetModel", "runLine", "(I)V"⟩, 106), (⟨"LeapNetModel", "goesOn", "()V"⟩, 106), (⟨"LeapNetModel", "keep", "(J)V"⟩, 106), (⟨"LeapNetModel", "numberOf", "(II)J"⟩, 106), (⟨"LeapNetModel", "having", "(I)I"⟩, 106), (⟨"LeapNetModel", "unlike", "(I)I"⟩, 106), (⟨"LeapNetModel", "localOf", "(II)I"⟩, 106)]
theorem lw_r10 : ∀ q ∈ lw_privs_10, lw_okq q := List.forall_mem_cons.mpr ⟨lw_p144, List.forall_mem_cons.mpr ⟨lw_p145, List.forall_mem_cons.mpr ⟨lw_p146, List.forall_mem_cons.mpr ⟨lw_p147, List.forall_mem_cons.mpr ⟨lw_p148, List.forall_mem_cons.mpr ⟨lw_p149, List.forall_mem_cons.mpr ⟨lw_p150, fun _ h => absurd h List.not_mem_nil⟩⟩⟩⟩⟩⟩⟩
def lw_privs : List (MethodName × Nat) := lw_privs_1 ++ (lw_privs_2 ++ (lw_privs_3 ++ (lw_privs_4 ++ (lw_privs_5 ++ (lw_privs_6 ++ (lw_privs_7 ++ (lw_privs_8 ++ (lw_privs_9 ++ (lw_privs_10)))))))))
def lw_tbl : List Cond := k2_sels lw_privs ++ tables_1
theorem lw_privs_ok : ∀ q ∈ lw_privs, lw_okq q := by
  show ∀ q ∈ lw_privs_1 ++ (lw_privs_2 ++ (lw_privs_3 ++ (lw_privs_4 ++ (lw_privs_5 ++ (lw_privs_6 ++ (lw_privs_7 ++ (lw_privs_8 ++ (lw_privs_9 ++ (lw_privs_10))))))))), lw_okq q
  exact List.forall_mem_append.mpr ⟨lw_r1, List.forall_mem_append.mpr ⟨lw_r2, List.forall_mem_append.mpr ⟨lw_r3, List.forall_mem_append.mpr ⟨lw_r4, List.forall_mem_append.mpr ⟨lw_r5, List.forall_mem_append.mpr ⟨lw_r6, List.forall_mem_append.mpr ⟨lw_r7, List.forall_mem_append.mpr ⟨lw_r8, List.forall_mem_append.mpr ⟨lw_r9, lw_r10⟩⟩⟩⟩⟩⟩⟩⟩⟩
-- ===== end of PART A; then your names; then what follows =====
def RX0 : String := "LeapNet$Answers"
def TX0 : u_T := fun k => match k with
  | 0 => ("LeapNet$Answers", "leasts", "[J", true)
  | 1 => ("LeapNet$Answers", "greatests", "[J", true)
  | 2 => ("LeapNet$Answers", "many", "I", true)
  | 3 => ("LeapNet$Answers", "agreeing", "I", false)
  | 4 => ("LeapNet$Answers", "spanLeast", "J", false)
  | _ => ("LeapNet$Answers", "spanGreatest", "J", false)
def tyX0 : Nat → FieldType := fun k => match k with
  | 0 => .array .long
  | 1 => .array .long
  | 2 => .int
  | 3 => .int
  | 4 => .long
  | _ => .long
abbrev wsX00 : List Cond := u_ws RX0 TX0 6
theorem nmX0 : ∀ a, a < 6 → ∀ b, b < 6 → a ≠ b → (TX0 a).2.1 ≠ (TX0 b).2.1 := by decide +kernel
theorem tyX0_ok : ∀ k, k < 6 → parseFieldDescriptor (TX0 k).2.2.1 = some (tyX0 k) := by decide +kernel
abbrev cX0_init : ByteArray := prog_2_method_1_code
def yX0_init : MethodName := ⟨RX0, "<init>", "([J[JI)V"⟩
abbrev cX0_agree : ByteArray := prog_2_method_2_code
def yX0_agree : MethodName := ⟨RX0, "agree", "()V"⟩
abbrev cX0_isLie : ByteArray := prog_2_method_3_code
def yX0_isLie : MethodName := ⟨RX0, "isLie", "(I)Z"⟩
abbrev cX0_manyWith : ByteArray := prog_2_method_4_code
def yX0_manyWith : MethodName := ⟨RX0, "manyWith", "(J)I"⟩
abbrev cX0_isIn : ByteArray := prog_2_method_5_code
def yX0_isIn : MethodName := ⟨RX0, "isIn", "(IJ)Z"⟩
def RX1 : String := "LeapNet$Clock"
def TX1 : u_T := fun k => match k with
  | 0 => ("LeapNet$Clock", "way", "I", true)
  | 1 => ("LeapNet$Clock", "table", "LLeapNet$Table;", true)
  | 2 => ("LeapNet$Clock", "stepCounts", "[I", true)
  | 3 => ("LeapNet$Clock", "leads", "[I", true)
  | _ => ("LeapNet$Clock", "steps", "I", false)
def tyX1 : Nat → FieldType := fun k => match k with
  | 0 => .int
  | 1 => .object "LeapNet$Table"
  | 2 => .array .int
  | 3 => .array .int
  | _ => .int
abbrev wsX10 : List Cond := u_ws RX1 TX1 5
theorem nmX1 : ∀ a, a < 5 → ∀ b, b < 5 → a ≠ b → (TX1 a).2.1 ≠ (TX1 b).2.1 := by decide +kernel
theorem tyX1_ok : ∀ k, k < 5 → parseFieldDescriptor (TX1 k).2.2.1 = some (tyX1 k) := by decide +kernel
abbrev cX1_init : ByteArray := prog_3_method_1_code
def yX1_init : MethodName := ⟨RX1, "<init>", "(I)V"⟩
abbrev cX1_addStep : ByteArray := prog_3_method_2_code
def yX1_addStep : MethodName := ⟨RX1, "addStep", "(I)V"⟩
abbrev cX1_reckonSteps : ByteArray := prog_3_method_3_code
def yX1_reckonSteps : MethodName := ⟨RX1, "reckonSteps", "(LLeapNet$Table;)V"⟩
abbrev cX1_leadAt : ByteArray := prog_3_method_4_code
def yX1_leadAt : MethodName := ⟨RX1, "leadAt", "(I)I"⟩
abbrev cX1_shownAt : ByteArray := prog_3_method_5_code
def yX1_shownAt : MethodName := ⟨RX1, "shownAt", "(I)J"⟩
def RX2 : String := "LeapNet$Land"
def TX2 : u_T := fun k => match k with
  | 0 => ("LeapNet$Land", "offset", "I", true)
  | 1 => ("LeapNet$Land", "from", "I", true)
  | _ => ("LeapNet$Land", "to", "I", true)
def tyX2 : Nat → FieldType := fun k => match k with
  | 0 => .int
  | 1 => .int
  | _ => .int
abbrev wsX20 : List Cond := u_ws RX2 TX2 3
theorem nmX2 : ∀ a, a < 3 → ∀ b, b < 3 → a ≠ b → (TX2 a).2.1 ≠ (TX2 b).2.1 := by decide +kernel
theorem tyX2_ok : ∀ k, k < 3 → parseFieldDescriptor (TX2 k).2.2.1 = some (tyX2 k) := by decide +kernel
abbrev cX2_init : ByteArray := prog_4_method_1_code
def yX2_init : MethodName := ⟨RX2, "<init>", "(III)V"⟩
abbrev cX2_localOf : ByteArray := prog_4_method_2_code
def yX2_localOf : MethodName := ⟨RX2, "localOf", "(I)I"⟩
abbrev cX2_timesOf : ByteArray := prog_4_method_3_code
def yX2_timesOf : MethodName := ⟨RX2, "timesOf", "(I)I"⟩
abbrev cX2_isSummer : ByteArray := prog_4_method_4_code
def yX2_isSummer : MethodName := ⟨RX2, "isSummer", "(I)Z"⟩
def RX3 : String := "LeapNet$Notice"
def TX3 : u_T := fun k => match k with
  | 0 => ("LeapNet$Notice", "server", "I", true)
  | 1 => ("LeapNet$Notice", "clock", "I", true)
  | 2 => ("LeapNet$Notice", "day", "I", true)
  | 3 => ("LeapNet$Notice", "kind", "I", true)
  | 4 => ("LeapNet$Notice", "count", "I", true)
  | 5 => ("LeapNet$Notice", "inTime", "Z", false)
  | _ => ("LeapNet$Notice", "believed", "Z", false)
def tyX3 : Nat → FieldType := fun k => match k with
  | 0 => .int
  | 1 => .int
  | 2 => .int
  | 3 => .int
  | 4 => .int
  | 5 => .boolean
  | _ => .boolean
abbrev wsX30 : List Cond := u_ws RX3 TX3 7
theorem nmX3 : ∀ a, a < 7 → ∀ b, b < 7 → a ≠ b → (TX3 a).2.1 ≠ (TX3 b).2.1 := by decide +kernel
theorem tyX3_ok : ∀ k, k < 7 → parseFieldDescriptor (TX3 k).2.2.1 = some (tyX3 k) := by decide +kernel
abbrev cX3_init : ByteArray := prog_5_method_1_code
def yX3_init : MethodName := ⟨RX3, "<init>", "(IIIII)V"⟩
abbrev cX3_governs : ByteArray := prog_5_method_2_code
def yX3_governs : MethodName := ⟨RX3, "governs", "()Z"⟩
abbrev cX3_isOfSameDay : ByteArray := prog_5_method_3_code
def yX3_isOfSameDay : MethodName := ⟨RX3, "isOfSameDay", "(LLeapNet$Notice;)Z"⟩
def RX4 : String := "LeapNet$Program"
def TX4 : u_T := fun k => match k with
  | 0 => ("LeapNet$Program", "reader", "LLeapNet$Reader;", true)
  | 1 => ("LeapNet$Program", "sorts", "[I", true)
  | 2 => ("LeapNet$Program", "operands", "[I", true)
  | 3 => ("LeapNet$Program", "levels", "[I", true)
  | 4 => ("LeapNet$Program", "many", "I", false)
  | _ => ("LeapNet$Program", "lines", "I", false)
def tyX4 : Nat → FieldType := fun k => match k with
  | 0 => .object "LeapNet$Reader"
  | 1 => .array .int
  | 2 => .array .int
  | 3 => .array .int
  | 4 => .int
  | _ => .int
abbrev wsX40 : List Cond := u_ws RX4 TX4 6
theorem nmX4 : ∀ a, a < 6 → ∀ b, b < 6 → a ≠ b → (TX4 a).2.1 ≠ (TX4 b).2.1 := by decide +kernel
theorem tyX4_ok : ∀ k, k < 6 → parseFieldDescriptor (TX4 k).2.2.1 = some (tyX4 k) := by decide +kernel
abbrev cX4_init : ByteArray := prog_6_method_1_code
def yX4_init : MethodName := ⟨RX4, "<init>", "(LLeapNet$Reader;)V"⟩
abbrev cX4_readLines : ByteArray := prog_6_method_2_code
def yX4_readLines : MethodName := ⟨RX4, "readLines", "()V"⟩
abbrev cX4_readLinesWithin : ByteArray := prog_6_method_3_code
def yX4_readLinesWithin : MethodName := ⟨RX4, "readLinesWithin", "(I)V"⟩
abbrev cX4_canBeLine : ByteArray := prog_6_method_4_code
def yX4_canBeLine : MethodName := ⟨RX4, "canBeLine", "()Z"⟩
abbrev cX4_readLine : ByteArray := prog_6_method_5_code
def yX4_readLine : MethodName := ⟨RX4, "readLine", "(I)V"⟩
abbrev cX4_readOperand : ByteArray := prog_6_method_6_code
def yX4_readOperand : MethodName := ⟨RX4, "readOperand", "(I)I"⟩
abbrev cX4_readTime : ByteArray := prog_6_method_7_code
def yX4_readTime : MethodName := ⟨RX4, "readTime", "()I"⟩
abbrev cX4_readHow : ByteArray := prog_6_method_8_code
def yX4_readHow : MethodName := ⟨RX4, "readHow", "()I"⟩
abbrev cX4_readAgain : ByteArray := prog_6_method_9_code
def yX4_readAgain : MethodName := ⟨RX4, "readAgain", "(I)V"⟩
abbrev cX4_takeNumber : ByteArray := prog_6_method_10_code
def yX4_takeNumber : MethodName := ⟨RX4, "takeNumber", "(II)I"⟩
abbrev cX4_emit : ByteArray := prog_6_method_11_code
def yX4_emit : MethodName := ⟨RX4, "emit", "(III)V"⟩
def RX5 : String := "LeapNet$Reader"
def TX5 : u_T := fun k => match k with
  | 0 => ("LeapNet$Reader", "text", "[C", true)
  | 1 => ("LeapNet$Reader", "signs", "Ljava/lang/String;", true)
  | 2 => ("LeapNet$Reader", "words", "Ljava/lang/String;", true)
  | 3 => ("LeapNet$Reader", "kinds", "[I", true)
  | 4 => ("LeapNet$Reader", "codes", "[I", true)
  | 5 => ("LeapNet$Reader", "starts", "[I", true)
  | 6 => ("LeapNet$Reader", "ends", "[I", true)
  | 7 => ("LeapNet$Reader", "many", "I", false)
  | 8 => ("LeapNet$Reader", "at", "I", false)
  | 9 => ("LeapNet$Reader", "faultKind", "I", false)
  | _ => ("LeapNet$Reader", "faultPlace", "I", false)
def tyX5 : Nat → FieldType := fun k => match k with
  | 0 => .array .char
  | 1 => .object "java/lang/String"
  | 2 => .object "java/lang/String"
  | 3 => .array .int
  | 4 => .array .int
  | 5 => .array .int
  | 6 => .array .int
  | 7 => .int
  | 8 => .int
  | 9 => .int
  | _ => .int
abbrev wsX50 : List Cond := u_ws RX5 TX5 11
theorem nmX5 : ∀ a, a < 11 → ∀ b, b < 11 → a ≠ b → (TX5 a).2.1 ≠ (TX5 b).2.1 := by decide +kernel
theorem tyX5_ok : ∀ k, k < 11 → parseFieldDescriptor (TX5 k).2.2.1 = some (tyX5 k) := by decide +kernel
abbrev cX5_init : ByteArray := prog_7_method_1_code
def yX5_init : MethodName := ⟨RX5, "<init>", "([BILjava/lang/String;Ljava/lang/String;)V"⟩
abbrev cX5_cut : ByteArray := prog_7_method_2_code
def yX5_cut : MethodName := ⟨RX5, "cut", "()V"⟩
abbrev cX5_isFine : ByteArray := prog_7_method_3_code
def yX5_isFine : MethodName := ⟨RX5, "isFine", "()Z"⟩
abbrev cX5_isEnd : ByteArray := prog_7_method_4_code
def yX5_isEnd : MethodName := ⟨RX5, "isEnd", "()Z"⟩
abbrev cX5_isNumber : ByteArray := prog_7_method_5_code
def yX5_isNumber : MethodName := ⟨RX5, "isNumber", "()Z"⟩
abbrev cX5_isAnyWord : ByteArray := prog_7_method_6_code
def yX5_isAnyWord : MethodName := ⟨RX5, "isAnyWord", "()Z"⟩
abbrev cX5_isSign : ByteArray := prog_7_method_7_code
def yX5_isSign : MethodName := ⟨RX5, "isSign", "(C)Z"⟩
abbrev cX5_isWord : ByteArray := prog_7_method_8_code
def yX5_isWord : MethodName := ⟨RX5, "isWord", "(I)Z"⟩
abbrev cX5_code : ByteArray := prog_7_method_9_code
def yX5_code : MethodName := ⟨RX5, "code", "()I"⟩
abbrev cX5_wordLength : ByteArray := prog_7_method_10_code
def yX5_wordLength : MethodName := ⟨RX5, "wordLength", "()I"⟩
abbrev cX5_isSameWord : ByteArray := prog_7_method_11_code
def yX5_isSameWord : MethodName := ⟨RX5, "isSameWord", "(I)Z"⟩
abbrev cX5_refuse : ByteArray := prog_7_method_12_code
def yX5_refuse : MethodName := ⟨RX5, "refuse", "(I)V"⟩
abbrev cX5_takeSign : ByteArray := prog_7_method_13_code
def yX5_takeSign : MethodName := ⟨RX5, "takeSign", "(C)V"⟩
abbrev cX5_takeWord : ByteArray := prog_7_method_14_code
def yX5_takeWord : MethodName := ⟨RX5, "takeWord", "(I)V"⟩
abbrev cX5_advance : ByteArray := prog_7_method_15_code
def yX5_advance : MethodName := ⟨RX5, "advance", "()V"⟩
abbrev cX5_add : ByteArray := prog_7_method_16_code
def yX5_add : MethodName := ⟨RX5, "add", "(IIII)V"⟩
abbrev cX5_cutOne : ByteArray := prog_7_method_17_code
def yX5_cutOne : MethodName := ⟨RX5, "cutOne", "(I)I"⟩
abbrev cX5_endOfRun : ByteArray := prog_7_method_18_code
def yX5_endOfRun : MethodName := ⟨RX5, "endOfRun", "(ICC)I"⟩
abbrev cX5_numberOf : ByteArray := prog_7_method_19_code
def yX5_numberOf : MethodName := ⟨RX5, "numberOf", "(II)I"⟩
abbrev cX5_placeInWords : ByteArray := prog_7_method_20_code
def yX5_placeInWords : MethodName := ⟨RX5, "placeInWords", "(II)I"⟩
abbrev cX5_isSpelt : ByteArray := prog_7_method_21_code
def yX5_isSpelt : MethodName := ⟨RX5, "isSpelt", "(IIII)Z"⟩
def RX6 : String := "LeapNet$Rule"
def TX6 : u_T := fun k => match k with
  | 0 => ("LeapNet$Rule", "reader", "LLeapNet$Reader;", true)
  | 1 => ("LeapNet$Rule", "from", "I", true)
  | 2 => ("LeapNet$Rule", "operations", "[I", true)
  | 3 => ("LeapNet$Rule", "operands", "[I", true)
  | 4 => ("LeapNet$Rule", "many", "I", false)
  | 5 => ("LeapNet$Rule", "defs", "I", false)
  | 6 => ("LeapNet$Rule", "believe", "I", false)
  | 7 => ("LeapNet$Rule", "nameTokens", "[I", true)
  | 8 => ("LeapNet$Rule", "variables", "[J", true)
  | 9 => ("LeapNet$Rule", "pile", "[J", true)
  | 10 => ("LeapNet$Rule", "pileLacks", "[Z", true)
  | 11 => ("LeapNet$Rule", "height", "I", false)
  | 12 => ("LeapNet$Rule", "values", "[J", true)
  | _ => ("LeapNet$Rule", "valueLacks", "[Z", true)
def tyX6 : Nat → FieldType := fun k => match k with
  | 0 => .object "LeapNet$Reader"
  | 1 => .int
  | 2 => .array .int
  | 3 => .array .int
  | 4 => .int
  | 5 => .int
  | 6 => .int
  | 7 => .array .int
  | 8 => .array .long
  | 9 => .array .long
  | 10 => .array .boolean
  | 11 => .int
  | 12 => .array .long
  | _ => .array .boolean
abbrev wsX60 : List Cond := u_ws RX6 TX6 14
theorem nmX6 : ∀ a, a < 14 → ∀ b, b < 14 → a ≠ b → (TX6 a).2.1 ≠ (TX6 b).2.1 := by decide +kernel
theorem tyX6_ok : ∀ k, k < 14 → parseFieldDescriptor (TX6 k).2.2.1 = some (tyX6 k) := by decide +kernel
abbrev cX6_init : ByteArray := prog_8_method_1_code
def yX6_init : MethodName := ⟨RX6, "<init>", "(LLeapNet$Reader;I)V"⟩
abbrev cX6_readDefs : ByteArray := prog_8_method_2_code
def yX6_readDefs : MethodName := ⟨RX6, "readDefs", "()V"⟩
abbrev cX6_readDef : ByteArray := prog_8_method_3_code
def yX6_readDef : MethodName := ⟨RX6, "readDef", "()V"⟩
abbrev cX6_isName : ByteArray := prog_8_method_4_code
def yX6_isName : MethodName := ⟨RX6, "isName", "()Z"⟩
abbrev cX6_isKeyWord : ByteArray := prog_8_method_5_code
def yX6_isKeyWord : MethodName := ⟨RX6, "isKeyWord", "()Z"⟩
abbrev cX6_isVariable : ByteArray := prog_8_method_6_code
def yX6_isVariable : MethodName := ⟨RX6, "isVariable", "()Z"⟩
abbrev cX6_placeOfName : ByteArray := prog_8_method_7_code
def yX6_placeOfName : MethodName := ⟨RX6, "placeOfName", "()I"⟩
abbrev cX6_readPart : ByteArray := prog_8_method_8_code
def yX6_readPart : MethodName := ⟨RX6, "readPart", "(IZ)V"⟩
abbrev cX6_canBeginSum : ByteArray := prog_8_method_9_code
def yX6_canBeginSum : MethodName := ⟨RX6, "canBeginSum", "()Z"⟩
abbrev cX6_readTest : ByteArray := prog_8_method_10_code
def yX6_readTest : MethodName := ⟨RX6, "readTest", "(I)V"⟩
abbrev cX6_readOne : ByteArray := prog_8_method_11_code
def yX6_readOne : MethodName := ⟨RX6, "readOne", "(I)V"⟩
abbrev cX6_comparesHere : ByteArray := prog_8_method_12_code
def yX6_comparesHere : MethodName := ⟨RX6, "comparesHere", "()I"⟩
abbrev cX6_readSum : ByteArray := prog_8_method_13_code
def yX6_readSum : MethodName := ⟨RX6, "readSum", "(I)V"⟩
abbrev cX6_readItem : ByteArray := prog_8_method_14_code
def yX6_readItem : MethodName := ⟨RX6, "readItem", "(I)V"⟩
abbrev cX6_timesHere : ByteArray := prog_8_method_15_code
def yX6_timesHere : MethodName := ⟨RX6, "timesHere", "()I"⟩
abbrev cX6_readAtom : ByteArray := prog_8_method_16_code
def yX6_readAtom : MethodName := ⟨RX6, "readAtom", "(I)V"⟩
abbrev cX6_isFew : ByteArray := prog_8_method_17_code
def yX6_isFew : MethodName := ⟨RX6, "isFew", "()Z"⟩
abbrev cX6_readFew : ByteArray := prog_8_method_18_code
def yX6_readFew : MethodName := ⟨RX6, "readFew", "(I)V"⟩
abbrev cX6_readWordAtom : ByteArray := prog_8_method_19_code
def yX6_readWordAtom : MethodName := ⟨RX6, "readWordAtom", "()V"⟩
abbrev cX6_emit : ByteArray := prog_8_method_20_code
def yX6_emit : MethodName := ⟨RX6, "emit", "(II)V"⟩
abbrev cX6_holds : ByteArray := prog_8_method_21_code
def yX6_holds : MethodName := ⟨RX6, "holds", "()Z"⟩
abbrev cX6_perform : ByteArray := prog_8_method_22_code
def yX6_perform : MethodName := ⟨RX6, "perform", "(II)V"⟩
abbrev cX6_lay : ByteArray := prog_8_method_23_code
def yX6_lay : MethodName := ⟨RX6, "lay", "(JZ)V"⟩
abbrev cX6_keepValue : ByteArray := prog_8_method_24_code
def yX6_keepValue : MethodName := ⟨RX6, "keepValue", "(I)V"⟩
abbrev cX6_choose : ByteArray := prog_8_method_25_code
def yX6_choose : MethodName := ⟨RX6, "choose", "()V"⟩
abbrev cX6_combine : ByteArray := prog_8_method_26_code
def yX6_combine : MethodName := ⟨RX6, "combine", "(IZ)V"⟩
abbrev cX6_compares : ByteArray := prog_8_method_27_code
def yX6_compares : MethodName := ⟨RX6, "compares", "(IJJ)Z"⟩
abbrev cX6_outcome : ByteArray := prog_8_method_28_code
def yX6_outcome : MethodName := ⟨RX6, "outcome", "(IJJ)J"⟩
def RX7 : String := "LeapNet$Run"
def TX7 : u_T := fun k => match k with
  | 0 => ("LeapNet$Run", "program", "LLeapNet$Program;", false)
  | 1 => ("LeapNet$Run", "clock", "LLeapNet$Clock;", false)
  | 2 => ("LeapNet$Run", "first", "I", false)
  | 3 => ("LeapNet$Run", "at", "I", false)
  | 4 => ("LeapNet$Run", "shown", "J", false)
  | 5 => ("LeapNet$Run", "outcome", "I", false)
  | 6 => ("LeapNet$Run", "late", "I", false)
  | 7 => ("LeapNet$Run", "keptInAll", "I", false)
  | 8 => ("LeapNet$Run", "keeps", "[J", true)
  | _ => ("LeapNet$Run", "timesLeft", "[I", true)
def tyX7 : Nat → FieldType := fun k => match k with
  | 0 => .object "LeapNet$Program"
  | 1 => .object "LeapNet$Clock"
  | 2 => .int
  | 3 => .int
  | 4 => .long
  | 5 => .int
  | 6 => .int
  | 7 => .int
  | 8 => .array .long
  | _ => .array .int
abbrev wsX70 : List Cond := u_ws RX7 TX7 10
theorem nmX7 : ∀ a, a < 10 → ∀ b, b < 10 → a ≠ b → (TX7 a).2.1 ≠ (TX7 b).2.1 := by decide +kernel
theorem tyX7_ok : ∀ k, k < 10 → parseFieldDescriptor (TX7 k).2.2.1 = some (tyX7 k) := by decide +kernel
abbrev cX7_init : ByteArray := prog_9_method_1_code
def yX7_init : MethodName := ⟨RX7, "<init>", "()V"⟩
abbrev cX7_hasKept : ByteArray := prog_9_method_2_code
def yX7_hasKept : MethodName := ⟨RX7, "hasKept", "(I)Z"⟩
abbrev cX7_perform : ByteArray := prog_9_method_3_code
def yX7_perform : MethodName := ⟨RX7, "perform", "(LLeapNet$Program;LLeapNet$Clock;I)I"⟩
abbrev cX7_performRow : ByteArray := prog_9_method_4_code
def yX7_performRow : MethodName := ⟨RX7, "performRow", "(I)I"⟩
abbrev cX7_rowBehindBack : ByteArray := prog_9_method_5_code
def yX7_rowBehindBack : MethodName := ⟨RX7, "rowBehindBack", "(I)I"⟩
abbrev cX7_waitFor : ByteArray := prog_9_method_6_code
def yX7_waitFor : MethodName := ⟨RX7, "waitFor", "(I)V"⟩
abbrev cX7_goOnUntil : ByteArray := prog_9_method_7_code
def yX7_goOnUntil : MethodName := ⟨RX7, "goOnUntil", "(J)V"⟩
abbrev cX7_goOn : ByteArray := prog_9_method_8_code
def yX7_goOn : MethodName := ⟨RX7, "goOn", "()V"⟩
abbrev cX7_parse : ByteArray := prog_9_method_9_code
def yX7_parse : MethodName := ⟨RX7, "parse", "(I)V"⟩
abbrev cX7_keep : ByteArray := prog_9_method_10_code
def yX7_keep : MethodName := ⟨RX7, "keep", "(J)V"⟩
def RX8 : String := "LeapNet$Stamp"
def TX8 : u_T := fun k => match k with
  | 0 => ("LeapNet$Stamp", "clock", "I", true)
  | 1 => ("LeapNet$Stamp", "count", "I", true)
  | _ => ("LeapNet$Stamp", "shown", "J", false)
def tyX8 : Nat → FieldType := fun k => match k with
  | 0 => .int
  | 1 => .int
  | _ => .long
abbrev wsX80 : List Cond := u_ws RX8 TX8 3
theorem nmX8 : ∀ a, a < 3 → ∀ b, b < 3 → a ≠ b → (TX8 a).2.1 ≠ (TX8 b).2.1 := by decide +kernel
theorem tyX8_ok : ∀ k, k < 3 → parseFieldDescriptor (TX8 k).2.2.1 = some (tyX8 k) := by decide +kernel
abbrev cX8_init : ByteArray := prog_10_method_1_code
def yX8_init : MethodName := ⟨RX8, "<init>", "(II)V"⟩
abbrev cX8_isWrongWith : ByteArray := prog_10_method_2_code
def yX8_isWrongWith : MethodName := ⟨RX8, "isWrongWith", "(LLeapNet$Stamp;)Z"⟩
def RX9 : String := "LeapNet$Table"
def TX9 : u_T := fun k => match k with
  | 0 => ("LeapNet$Table", "days", "[I", true)
  | 1 => ("LeapNet$Table", "kinds", "[I", true)
  | 2 => ("LeapNet$Table", "starts", "[J", true)
  | 3 => ("LeapNet$Table", "many", "I", false)
  | 4 => ("LeapNet$Table", "day", "I", false)
  | 5 => ("LeapNet$Table", "second", "I", false)
  | _ => ("LeapNet$Table", "kind", "I", false)
def tyX9 : Nat → FieldType := fun k => match k with
  | 0 => .array .int
  | 1 => .array .int
  | 2 => .array .long
  | 3 => .int
  | 4 => .int
  | 5 => .int
  | _ => .int
abbrev wsX90 : List Cond := u_ws RX9 TX9 7
theorem nmX9 : ∀ a, a < 7 → ∀ b, b < 7 → a ≠ b → (TX9 a).2.1 ≠ (TX9 b).2.1 := by decide +kernel
theorem tyX9_ok : ∀ k, k < 7 → parseFieldDescriptor (TX9 k).2.2.1 = some (tyX9 k) := by decide +kernel
abbrev cX9_init : ByteArray := prog_11_method_1_code
def yX9_init : MethodName := ⟨RX9, "<init>", "(I)V"⟩
abbrev cX9_clear : ByteArray := prog_11_method_2_code
def yX9_clear : MethodName := ⟨RX9, "clear", "()V"⟩
abbrev cX9_isFull : ByteArray := prog_11_method_3_code
def yX9_isFull : MethodName := ⟨RX9, "isFull", "()Z"⟩
abbrev cX9_kindOf : ByteArray := prog_11_method_4_code
def yX9_kindOf : MethodName := ⟨RX9, "kindOf", "(I)I"⟩
abbrev cX9_lengthOf : ByteArray := prog_11_method_5_code
def yX9_lengthOf : MethodName := ⟨RX9, "lengthOf", "(I)I"⟩
abbrev cX9_tell : ByteArray := prog_11_method_6_code
def yX9_tell : MethodName := ⟨RX9, "tell", "(II)V"⟩
abbrev cX9_startOf : ByteArray := prog_11_method_7_code
def yX9_startOf : MethodName := ⟨RX9, "startOf", "(I)J"⟩
abbrev cX9_nearestCount : ByteArray := prog_11_method_8_code
def yX9_nearestCount : MethodName := ⟨RX9, "nearestCount", "(II)J"⟩
abbrev cX9_turnTo : ByteArray := prog_11_method_9_code
def yX9_turnTo : MethodName := ⟨RX9, "turnTo", "(J)V"⟩
abbrev cX9_unlikeDays : ByteArray := prog_11_method_10_code
def yX9_unlikeDays : MethodName := ⟨RX9, "unlikeDays", "(LLeapNet$Table;)I"⟩
abbrev cX9_turnToPlainDay : ByteArray := prog_11_method_11_code
def yX9_turnToPlainDay : MethodName := ⟨RX9, "turnToPlainDay", "(IJ)V"⟩
abbrev cX9_placeOf : ByteArray := prog_11_method_12_code
def yX9_placeOf : MethodName := ⟨RX9, "placeOf", "(I)I"⟩
abbrev cX9_isAt : ByteArray := prog_11_method_13_code
def yX9_isAt : MethodName := ⟨RX9, "isAt", "(II)Z"⟩
abbrev cX9_insertAt : ByteArray := prog_11_method_14_code
def yX9_insertAt : MethodName := ⟨RX9, "insertAt", "(III)V"⟩
abbrev cX9_removeAt : ByteArray := prog_11_method_15_code
def yX9_removeAt : MethodName := ⟨RX9, "removeAt", "(I)V"⟩
abbrev cX9_reckonStarts : ByteArray := prog_11_method_16_code
def yX9_reckonStarts : MethodName := ⟨RX9, "reckonStarts", "()V"⟩
def RX10 : String := "LeapNet$Tray"
def TX10 : u_T := fun k => match k with
  | 0 => ("LeapNet$Tray", "sort", "I", true)
  | _ => ("LeapNet$Tray", "numbers", "[J", true)
def tyX10 : Nat → FieldType := fun k => match k with
  | 0 => .int
  | _ => .array .long
abbrev wsX100 : List Cond := u_ws RX10 TX10 2
theorem nmX10 : ∀ a, a < 2 → ∀ b, b < 2 → a ≠ b → (TX10 a).2.1 ≠ (TX10 b).2.1 := by decide +kernel
theorem tyX10_ok : ∀ k, k < 2 → parseFieldDescriptor (TX10 k).2.2.1 = some (tyX10 k) := by decide +kernel
abbrev cX10_init : ByteArray := prog_12_method_1_code
def yX10_init : MethodName := ⟨RX10, "<init>", "(II)V"⟩
abbrev cX10_size : ByteArray := prog_12_method_2_code
def yX10_size : MethodName := ⟨RX10, "size", "()I"⟩
abbrev cX10_hasRow : ByteArray := prog_12_method_3_code
def yX10_hasRow : MethodName := ⟨RX10, "hasRow", "(II)Z"⟩
abbrev cX10_at : ByteArray := prog_12_method_4_code
def yX10_at : MethodName := ⟨RX10, "at", "(I)J"⟩
abbrev cX10_put : ByteArray := prog_12_method_5_code
def yX10_put : MethodName := ⟨RX10, "put", "(IJ)V"⟩
def RX11 : String := "LeapNet"
def TX11 : u_T := fun k => match k with
  | 0 => ("LeapNet", "status", "I", false)
  | 1 => ("LeapNet", "trays", "[LLeapNet$Tray;", true)
  | 2 => ("LeapNet", "tape", "[B", true)
  | 3 => ("LeapNet", "taped", "I", false)
  | 4 => ("LeapNet", "faultKind", "I", false)
  | 5 => ("LeapNet", "faultPlace", "I", false)
  | 6 => ("LeapNet", "truth", "LLeapNet$Table;", true)
  | 7 => ("LeapNet", "clocks", "Ljava/util/ArrayList;", true)
  | 8 => ("LeapNet", "stepsTold", "I", false)
  | 9 => ("LeapNet", "strata", "Ljava/util/ArrayList;", true)
  | 10 => ("LeapNet", "notices", "Ljava/util/ArrayList;", true)
  | 11 => ("LeapNet", "texts", "Ljava/util/ArrayList;", true)
  | 12 => ("LeapNet", "stamps", "Ljava/util/ArrayList;", true)
  | 13 => ("LeapNet", "program", "LLeapNet$Program;", false)
  | 14 => ("LeapNet", "latestRun", "LLeapNet$Run;", true)
  | 15 => ("LeapNet", "latestAnswers", "LLeapNet$Answers;", false)
  | 16 => ("LeapNet", "foundWays", "I", false)
  | 17 => ("LeapNet", "lands", "[LLeapNet$Land;", true)
  | _ => ("LeapNet", "stale", "Z", false)
def tyX11 : Nat → FieldType := fun k => match k with
  | 0 => .int
  | 1 => .array (.object "LeapNet$Tray")
  | 2 => .array .byte
  | 3 => .int
  | 4 => .int
  | 5 => .int
  | 6 => .object "LeapNet$Table"
  | 7 => .object "java/util/ArrayList"
  | 8 => .int
  | 9 => .object "java/util/ArrayList"
  | 10 => .object "java/util/ArrayList"
  | 11 => .object "java/util/ArrayList"
  | 12 => .object "java/util/ArrayList"
  | 13 => .object "LeapNet$Program"
  | 14 => .object "LeapNet$Run"
  | 15 => .object "LeapNet$Answers"
  | 16 => .int
  | 17 => .array (.object "LeapNet$Land")
  | _ => .boolean
abbrev wsX110 : List Cond := u_ws RX11 TX11 19
theorem nmX11 : ∀ a, a < 19 → ∀ b, b < 19 → a ≠ b → (TX11 a).2.1 ≠ (TX11 b).2.1 := by decide +kernel
theorem tyX11_ok : ∀ k, k < 19 → parseFieldDescriptor (TX11 k).2.2.1 = some (tyX11 k) := by decide +kernel
abbrev cX11_init : ByteArray := prog_1_method_1_code
def yX11_init : MethodName := ⟨RX11, "<init>", "()V"⟩
abbrev cX11_status : ByteArray := prog_1_method_2_code
def yX11_status : MethodName := ⟨RX11, "status", "()I"⟩
abbrev cX11_tray : ByteArray := prog_1_method_3_code
def yX11_tray : MethodName := ⟨RX11, "tray", "(III)Z"⟩
abbrev cX11_write : ByteArray := prog_1_method_4_code
def yX11_write : MethodName := ⟨RX11, "write", "(IIJ)Z"⟩
abbrev cX11_read : ByteArray := prog_1_method_5_code
def yX11_read : MethodName := ⟨RX11, "read", "(II)J"⟩
abbrev cX11_pour : ByteArray := prog_1_method_6_code
def yX11_pour : MethodName := ⟨RX11, "pour", "(IIIII)Z"⟩
abbrev cX11_newTrayStatus : ByteArray := prog_1_method_7_code
def yX11_newTrayStatus : MethodName := ⟨RX11, "newTrayStatus", "(III)I"⟩
abbrev cX11_placeStatus : ByteArray := prog_1_method_8_code
def yX11_placeStatus : MethodName := ⟨RX11, "placeStatus", "(II)I"⟩
abbrev cX11_pourStatus : ByteArray := prog_1_method_9_code
def yX11_pourStatus : MethodName := ⟨RX11, "pourStatus", "(IIIII)I"⟩
abbrev cX11_isTray : ByteArray := prog_1_method_10_code
def yX11_isTray : MethodName := ⟨RX11, "isTray", "(I)Z"⟩
abbrev cX11_leap : ByteArray := prog_1_method_11_code
def yX11_leap : MethodName := ⟨RX11, "leap", "(II)Z"⟩
abbrev cX11_civil : ByteArray := prog_1_method_12_code
def yX11_civil : MethodName := ⟨RX11, "civil", "(II)I"⟩
abbrev cX11_count : ByteArray := prog_1_method_13_code
def yX11_count : MethodName := ⟨RX11, "count", "(II)I"⟩
abbrev cX11_leapStatus : ByteArray := prog_1_method_14_code
def yX11_leapStatus : MethodName := ⟨RX11, "leapStatus", "(II)I"⟩
abbrev cX11_countStatus : ByteArray := prog_1_method_15_code
def yX11_countStatus : MethodName := ⟨RX11, "countStatus", "(II)I"⟩
abbrev cX11_isWithin : ByteArray := prog_1_method_16_code
def yX11_isWithin : MethodName := ⟨RX11, "isWithin", "(III)Z"⟩
abbrev cX11_isCount : ByteArray := prog_1_method_17_code
def yX11_isCount : MethodName := ⟨RX11, "isCount", "(I)Z"⟩
abbrev cX11_isDay : ByteArray := prog_1_method_18_code
def yX11_isDay : MethodName := ⟨RX11, "isDay", "(I)Z"⟩
abbrev cX11_clock : ByteArray := prog_1_method_19_code
def yX11_clock : MethodName := ⟨RX11, "clock", "(I)I"⟩
abbrev cX11_step : ByteArray := prog_1_method_20_code
def yX11_step : MethodName := ⟨RX11, "step", "(II)Z"⟩
abbrev cX11_shows : ByteArray := prog_1_method_21_code
def yX11_shows : MethodName := ⟨RX11, "shows", "(II)J"⟩
abbrev cX11_ahead : ByteArray := prog_1_method_22_code
def yX11_ahead : MethodName := ⟨RX11, "ahead", "(II)I"⟩
abbrev cX11_off : ByteArray := prog_1_method_23_code
def yX11_off : MethodName := ⟨RX11, "off", "(III)J"⟩
abbrev cX11_worst : ByteArray := prog_1_method_24_code
def yX11_worst : MethodName := ⟨RX11, "worst", "(III)J"⟩
abbrev cX11_moreStatus : ByteArray := prog_1_method_25_code
def yX11_moreStatus : MethodName := ⟨RX11, "moreStatus", "(ZII)I"⟩
abbrev cX11_isClock : ByteArray := prog_1_method_26_code
def yX11_isClock : MethodName := ⟨RX11, "isClock", "(I)Z"⟩
abbrev cX11_clockCountStatus : ByteArray := prog_1_method_27_code
def yX11_clockCountStatus : MethodName := ⟨RX11, "clockCountStatus", "(II)I"⟩
abbrev cX11_worstStatus : ByteArray := prog_1_method_28_code
def yX11_worstStatus : MethodName := ⟨RX11, "worstStatus", "(III)I"⟩
abbrev cX11_spreadAt : ByteArray := prog_1_method_29_code
def yX11_spreadAt : MethodName := ⟨RX11, "spreadAt", "(I)J"⟩
abbrev cX11_thousandthsInAll : ByteArray := prog_1_method_30_code
def yX11_thousandthsInAll : MethodName := ⟨RX11, "thousandthsInAll", "(J)J"⟩
abbrev cX11_thousandthsShown : ByteArray := prog_1_method_31_code
def yX11_thousandthsShown : MethodName := ⟨RX11, "thousandthsShown", "(III)J"⟩
abbrev cX11_settle : ByteArray := prog_1_method_32_code
def yX11_settle : MethodName := ⟨RX11, "settle", "()V"⟩
abbrev cX11_feed : ByteArray := prog_1_method_33_code
def yX11_feed : MethodName := ⟨RX11, "feed", "(IIIII)I"⟩
abbrev cX11_rules : ByteArray := prog_1_method_34_code
def yX11_rules : MethodName := ⟨RX11, "rules", "(II)I"⟩
abbrev cX11_fault : ByteArray := prog_1_method_35_code
def yX11_fault : MethodName := ⟨RX11, "fault", "(I)I"⟩
abbrev cX11_server : ByteArray := prog_1_method_36_code
def yX11_server : MethodName := ⟨RX11, "server", "(I)I"⟩
abbrev cX11_notice : ByteArray := prog_1_method_37_code
def yX11_notice : MethodName := ⟨RX11, "notice", "(IIIII)I"⟩
abbrev cX11_told : ByteArray := prog_1_method_38_code
def yX11_told : MethodName := ⟨RX11, "told", "(II)I"⟩
abbrev cX11_table : ByteArray := prog_1_method_39_code
def yX11_table : MethodName := ⟨RX11, "table", "(II)I"⟩
abbrev cX11_misses : ByteArray := prog_1_method_40_code
def yX11_misses : MethodName := ⟨RX11, "misses", "(I)I"⟩
abbrev cX11_feedOne : ByteArray := prog_1_method_41_code
def yX11_feedOne : MethodName := ⟨RX11, "feedOne", "(I)V"⟩
abbrev cX11_endReading : ByteArray := prog_1_method_42_code
def yX11_endReading : MethodName := ⟨RX11, "endReading", "(LLeapNet$Reader;)V"⟩
abbrev cX11_noticeStatus : ByteArray := prog_1_method_43_code
def yX11_noticeStatus : MethodName := ⟨RX11, "noticeStatus", "(IIIII)I"⟩
abbrev cX11_toldStatus : ByteArray := prog_1_method_44_code
def yX11_toldStatus : MethodName := ⟨RX11, "toldStatus", "(II)I"⟩
abbrev cX11_isTold : ByteArray := prog_1_method_45_code
def yX11_isTold : MethodName := ⟨RX11, "isTold", "(II)Z"⟩
abbrev cX11_isLastToGovern : ByteArray := prog_1_method_46_code
def yX11_isLastToGovern : MethodName := ⟨RX11, "isLastToGovern", "(I)Z"⟩
abbrev cX11_isBelieved : ByteArray := prog_1_method_47_code
def yX11_isBelieved : MethodName := ⟨RX11, "isBelieved", "(I)Z"⟩
abbrev cX11_textInForce : ByteArray := prog_1_method_48_code
def yX11_textInForce : MethodName := ⟨RX11, "textInForce", "(I)LLeapNet$Rule;"⟩
abbrev cX11_fillVariables : ByteArray := prog_1_method_49_code
def yX11_fillVariables : MethodName := ⟨RX11, "fillVariables", "([JII)V"⟩
abbrev cX11_stamp : ByteArray := prog_1_method_50_code
def yX11_stamp : MethodName := ⟨RX11, "stamp", "(II)I"⟩
abbrev cX11_wrong : ByteArray := prog_1_method_51_code
def yX11_wrong : MethodName := ⟨RX11, "wrong", "()I"⟩
abbrev cX11_blamed : ByteArray := prog_1_method_52_code
def yX11_blamed : MethodName := ⟨RX11, "blamed", "(I)I"⟩
abbrev cX11_stampStatus : ByteArray := prog_1_method_53_code
def yX11_stampStatus : MethodName := ⟨RX11, "stampStatus", "(II)I"⟩
abbrev cX11_readStamps : ByteArray := prog_1_method_54_code
def yX11_readStamps : MethodName := ⟨RX11, "readStamps", "()V"⟩
abbrev cX11_quarrels : ByteArray := prog_1_method_55_code
def yX11_quarrels : MethodName := ⟨RX11, "quarrels", "()[I"⟩
abbrev cX11_isBlamable : ByteArray := prog_1_method_56_code
def yX11_isBlamable : MethodName := ⟨RX11, "isBlamable", "(I[I)Z"⟩
abbrev cX11_program : ByteArray := prog_1_method_57_code
def yX11_program : MethodName := ⟨RX11, "program", "(I)I"⟩
abbrev cX11_run : ByteArray := prog_1_method_58_code
def yX11_run : MethodName := ⟨RX11, "run", "(II)I"⟩
abbrev cX11_ran : ByteArray := prog_1_method_59_code
def yX11_ran : MethodName := ⟨RX11, "ran", "(I)I"⟩
abbrev cX11_kept : ByteArray := prog_1_method_60_code
def yX11_kept : MethodName := ⟨RX11, "kept", "(I)J"⟩
abbrev cX11_runStatus : ByteArray := prog_1_method_61_code
def yX11_runStatus : MethodName := ⟨RX11, "runStatus", "(II)I"⟩
abbrev cX11_answers : ByteArray := prog_1_method_62_code
def yX11_answers : MethodName := ⟨RX11, "answers", "(III)I"⟩
abbrev cX11_span : ByteArray := prog_1_method_63_code
def yX11_span : MethodName := ⟨RX11, "span", "(I)I"⟩
abbrev cX11_lies : ByteArray := prog_1_method_64_code
def yX11_lies : MethodName := ⟨RX11, "lies", "(I)I"⟩
abbrev cX11_find : ByteArray := prog_1_method_65_code
def yX11_find : MethodName := ⟨RX11, "find", "(III)I"⟩
abbrev cX11_ask : ByteArray := prog_1_method_66_code
def yX11_ask : MethodName := ⟨RX11, "ask", "()I"⟩
abbrev cX11_rowsStatus : ByteArray := prog_1_method_67_code
def yX11_rowsStatus : MethodName := ⟨RX11, "rowsStatus", "(IIII)I"⟩
abbrev cX11_areAnswers : ByteArray := prog_1_method_68_code
def yX11_areAnswers : MethodName := ⟨RX11, "areAnswers", "(LLeapNet$Tray;LLeapNet$Tray;I)Z"⟩
abbrev cX11_areSeen : ByteArray := prog_1_method_69_code
def yX11_areSeen : MethodName := ⟨RX11, "areSeen", "(LLeapNet$Tray;LLeapNet$Tray;I)Z"⟩
abbrev cX11_showsAll : ByteArray := prog_1_method_70_code
def yX11_showsAll : MethodName := ⟨RX11, "showsAll", "(ILLeapNet$Tray;LLeapNet$Tray;I)Z"⟩
abbrev cX11_unlikeShown : ByteArray := prog_1_method_71_code
def yX11_unlikeShown : MethodName := ⟨RX11, "unlikeShown", "(II)I"⟩
abbrev cX11_isShownByLower : ByteArray := prog_1_method_72_code
def yX11_isShownByLower : MethodName := ⟨RX11, "isShownByLower", "(III)Z"⟩
abbrev cX11_land : ByteArray := prog_1_method_73_code
def yX11_land : MethodName := ⟨RX11, "land", "(IIII)Z"⟩
abbrev cX11_local : ByteArray := prog_1_method_74_code
def yX11_local : MethodName := ⟨RX11, "local", "(II)I"⟩
abbrev cX11_oft : ByteArray := prog_1_method_75_code
def yX11_oft : MethodName := ⟨RX11, "oft", "(III)I"⟩
abbrev cX11_newLandStatus : ByteArray := prog_1_method_76_code
def yX11_newLandStatus : MethodName := ⟨RX11, "newLandStatus", "(IIII)I"⟩
abbrev cX11_isLand : ByteArray := prog_1_method_77_code
def yX11_isLand : MethodName := ⟨RX11, "isLand", "(I)Z"⟩
def RX12 : String := "LeapNetModel"
def TX12 : u_T := fun k => match k with
  | 0 => ("LeapNetModel", "status", "I", false)
  | 1 => ("LeapNetModel", "thrown", "I", false)
  | 2 => ("LeapNetModel", "traySort", "[I", true)
  | 3 => ("LeapNetModel", "trayMany", "[I", true)
  | 4 => ("LeapNetModel", "numbers", "[J", true)
  | 5 => ("LeapNetModel", "leaps", "I", false)
  | 6 => ("LeapNetModel", "handMany", "I", false)
  | 7 => ("LeapNetModel", "leapDay", "[I", true)
  | 8 => ("LeapNetModel", "leapKind", "[I", true)
  | 9 => ("LeapNetModel", "handDay", "[I", true)
  | 10 => ("LeapNetModel", "handKind", "[I", true)
  | 11 => ("LeapNetModel", "clocks", "I", false)
  | 12 => ("LeapNetModel", "steps", "I", false)
  | 13 => ("LeapNetModel", "way", "[I", true)
  | 14 => ("LeapNetModel", "stepClock", "[I", true)
  | 15 => ("LeapNetModel", "stepAt", "[I", true)
  | 16 => ("LeapNetModel", "tape", "[B", true)
  | 17 => ("LeapNetModel", "taped", "I", false)
  | 18 => ("LeapNetModel", "textEnd", "I", false)
  | 19 => ("LeapNetModel", "faultKind", "I", false)
  | 20 => ("LeapNetModel", "faultAt", "I", false)
  | 21 => ("LeapNetModel", "bad", "I", false)
  | 22 => ("LeapNetModel", "badAt", "I", false)
  | 23 => ("LeapNetModel", "isProgram", "Z", false)
  | 24 => ("LeapNetModel", "sort", "I", false)
  | 25 => ("LeapNetModel", "at", "I", false)
  | 26 => ("LeapNetModel", "behind", "I", false)
  | 27 => ("LeapNetModel", "number", "I", false)
  | 28 => ("LeapNetModel", "letters", "I", false)
  | 29 => ("LeapNetModel", "word", "J", false)
  | 30 => ("LeapNetModel", "texts", "I", false)
  | 31 => ("LeapNetModel", "newDefs", "I", false)
  | 32 => ("LeapNetModel", "newMarks", "I", false)
  | 33 => ("LeapNetModel", "textFrom", "[I", true)
  | 34 => ("LeapNetModel", "textDefs", "[I", true)
  | 35 => ("LeapNetModel", "begins", "[I", true)
  | 36 => ("LeapNetModel", "marks", "[I", true)
  | 37 => ("LeapNetModel", "newBegins", "[I", true)
  | 38 => ("LeapNetModel", "nextMarks", "[I", true)
  | 39 => ("LeapNetModel", "names", "[J", true)
  | 40 => ("LeapNetModel", "newNames", "[J", true)
  | 41 => ("LeapNetModel", "heap", "[J", true)
  | 42 => ("LeapNetModel", "values", "[J", true)
  | 43 => ("LeapNetModel", "defValue", "[J", true)
  | 44 => ("LeapNetModel", "lacks", "[Z", true)
  | 45 => ("LeapNetModel", "defLacks", "[Z", true)
  | 46 => ("LeapNetModel", "high", "I", false)
  | 47 => ("LeapNetModel", "servers", "I", false)
  | 48 => ("LeapNetModel", "notices", "I", false)
  | 49 => ("LeapNetModel", "latest", "I", false)
  | 50 => ("LeapNetModel", "stratum", "[I", true)
  | 51 => ("LeapNetModel", "fromServer", "[I", true)
  | 52 => ("LeapNetModel", "toClock", "[I", true)
  | 53 => ("LeapNetModel", "ofDay", "[I", true)
  | 54 => ("LeapNetModel", "ofKind", "[I", true)
  | 55 => ("LeapNetModel", "cameAt", "[I", true)
  | 56 => ("LeapNetModel", "stamps", "I", false)
  | 57 => ("LeapNetModel", "latestStamp", "I", false)
  | 58 => ("LeapNetModel", "stampClock", "[I", true)
  | 59 => ("LeapNetModel", "stampAt", "[I", true)
  | 60 => ("LeapNetModel", "stampShown", "[J", true)
  | 61 => ("LeapNetModel", "program", "I", false)
  | 62 => ("LeapNetModel", "newLines", "I", false)
  | 63 => ("LeapNetModel", "runClock", "I", false)
  | 64 => ("LeapNetModel", "runFirst", "I", false)
  | 65 => ("LeapNetModel", "now", "I", false)
  | 66 => ("LeapNetModel", "late", "I", false)
  | 67 => ("LeapNetModel", "keptMany", "I", false)
  | 68 => ("LeapNetModel", "outcome", "I", false)
  | 69 => ("LeapNetModel", "endedAt", "I", false)
  | 70 => ("LeapNetModel", "lateBy", "I", false)
  | 71 => ("LeapNetModel", "keptInAll", "I", false)
  | 72 => ("LeapNetModel", "kind", "[I", true)
  | 73 => ("LeapNetModel", "a", "[I", true)
  | 74 => ("LeapNetModel", "end", "[I", true)
  | 75 => ("LeapNetModel", "newKind", "[I", true)
  | 76 => ("LeapNetModel", "newA", "[I", true)
  | 77 => ("LeapNetModel", "newEnd", "[I", true)
  | 78 => ("LeapNetModel", "keeps", "[J", true)
  | 79 => ("LeapNetModel", "keptLast", "[J", true)
  | 80 => ("LeapNetModel", "low", "[I", true)
  | 81 => ("LeapNetModel", "top", "[I", true)
  | 82 => ("LeapNetModel", "second", "[I", true)
  | 83 => ("LeapNetModel", "shown1", "[I", true)
  | 84 => ("LeapNetModel", "offset", "[I", true)
  | 85 => ("LeapNetModel", "summerFrom", "[I", true)
  | 86 => ("LeapNetModel", "summerTo", "[I", true)
  | 87 => ("LeapNetModel", "answered", "I", false)
  | 88 => ("LeapNetModel", "spanLow", "I", false)
  | 89 => ("LeapNetModel", "spanTop", "I", false)
  | 90 => ("LeapNetModel", "agree", "I", false)
  | 91 => ("LeapNetModel", "foundWays", "I", false)
  | 92 => ("LeapNetModel", "civilDay", "I", false)
  | 93 => ("LeapNetModel", "civilSecond", "I", false)
  | 94 => ("LeapNetModel", "aheadFrom", "[I", true)
  | 95 => ("LeapNetModel", "aheadBy", "[I", true)
  | 96 => ("LeapNetModel", "aheadMany", "I", false)
  | 97 => ("LeapNetModel", "civilDays", "[I", true)
  | 98 => ("LeapNetModel", "civilSeconds", "[I", true)
  | 99 => ("LeapNetModel", "leastAt", "[J", true)
  | 100 => ("LeapNetModel", "mostAt", "[J", true)
  | 101 => ("LeapNetModel", "isNone", "Z", false)
  | 102 => ("LeapNetModel", "keepDay", "[I", true)
  | 103 => ("LeapNetModel", "keepKind", "[I", true)
  | 104 => ("LeapNetModel", "against", "[I", true)
  | _ => ("LeapNetModel", "state", "I", false)
def tyX12 : Nat → FieldType := fun k => match k with
  | 0 => .int
  | 1 => .int
  | 2 => .array .int
  | 3 => .array .int
  | 4 => .array .long
  | 5 => .int
  | 6 => .int
  | 7 => .array .int
  | 8 => .array .int
  | 9 => .array .int
  | 10 => .array .int
  | 11 => .int
  | 12 => .int
  | 13 => .array .int
  | 14 => .array .int
  | 15 => .array .int
  | 16 => .array .byte
  | 17 => .int
  | 18 => .int
  | 19 => .int
  | 20 => .int
  | 21 => .int
  | 22 => .int
  | 23 => .boolean
  | 24 => .int
  | 25 => .int
  | 26 => .int
  | 27 => .int
  | 28 => .int
  | 29 => .long
  | 30 => .int
  | 31 => .int
  | 32 => .int
  | 33 => .array .int
  | 34 => .array .int
  | 35 => .array .int
  | 36 => .array .int
  | 37 => .array .int
  | 38 => .array .int
  | 39 => .array .long
  | 40 => .array .long
  | 41 => .array .long
  | 42 => .array .long
  | 43 => .array .long
  | 44 => .array .boolean
  | 45 => .array .boolean
  | 46 => .int
  | 47 => .int
  | 48 => .int
  | 49 => .int
  | 50 => .array .int
  | 51 => .array .int
  | 52 => .array .int
  | 53 => .array .int
  | 54 => .array .int
  | 55 => .array .int
  | 56 => .int
  | 57 => .int
  | 58 => .array .int
  | 59 => .array .int
  | 60 => .array .long
  | 61 => .int
  | 62 => .int
  | 63 => .int
  | 64 => .int
  | 65 => .int
  | 66 => .int
  | 67 => .int
  | 68 => .int
  | 69 => .int
  | 70 => .int
  | 71 => .int
  | 72 => .array .int
  | 73 => .array .int
  | 74 => .array .int
  | 75 => .array .int
  | 76 => .array .int
  | 77 => .array .int
  | 78 => .array .long
  | 79 => .array .long
  | 80 => .array .int
  | 81 => .array .int
  | 82 => .array .int
  | 83 => .array .int
  | 84 => .array .int
  | 85 => .array .int
  | 86 => .array .int
  | 87 => .int
  | 88 => .int
  | 89 => .int
  | 90 => .int
  | 91 => .int
  | 92 => .int
  | 93 => .int
  | 94 => .array .int
  | 95 => .array .int
  | 96 => .int
  | 97 => .array .int
  | 98 => .array .int
  | 99 => .array .long
  | 100 => .array .long
  | 101 => .boolean
  | 102 => .array .int
  | 103 => .array .int
  | 104 => .array .int
  | _ => .int
abbrev wsX120 : List Cond := u_ws RX12 TX12 106
theorem nmX12 : ∀ a, a < 106 → ∀ b, b < 106 → a ≠ b → (TX12 a).2.1 ≠ (TX12 b).2.1 := by decide +kernel
theorem tyX12_ok : ∀ k, k < 106 → parseFieldDescriptor (TX12 k).2.2.1 = some (tyX12 k) := by decide +kernel
abbrev cX12_init : ByteArray := prog_14_method_1_code
def yX12_init : MethodName := ⟨RX12, "<init>", "()V"⟩
abbrev cX12_status : ByteArray := prog_14_method_3_code
def yX12_status : MethodName := ⟨RX12, "status", "()I"⟩
abbrev cX12_refuse : ByteArray := prog_14_method_4_code
def yX12_refuse : MethodName := ⟨RX12, "refuse", "(I)I"⟩
abbrev cX12_no : ByteArray := prog_14_method_5_code
def yX12_no : MethodName := ⟨RX12, "no", "(I)Z"⟩
abbrev cX12_isIn : ByteArray := prog_14_method_6_code
def yX12_isIn : MethodName := ⟨RX12, "isIn", "(JJJ)Z"⟩
abbrev cX12_isDay : ByteArray := prog_14_method_7_code
def yX12_isDay : MethodName := ⟨RX12, "isDay", "(I)Z"⟩
abbrev cX12_isCount : ByteArray := prog_14_method_8_code
def yX12_isCount : MethodName := ⟨RX12, "isCount", "(I)Z"⟩
abbrev cX12_cut : ByteArray := prog_14_method_9_code
def yX12_cut : MethodName := ⟨RX12, "cut", "(IJ)J"⟩
abbrev cX12_tray : ByteArray := prog_14_method_10_code
def yX12_tray : MethodName := ⟨RX12, "tray", "(III)Z"⟩
abbrev cX12_trayed : ByteArray := prog_14_method_11_code
def yX12_trayed : MethodName := ⟨RX12, "trayed", "(I)I"⟩
abbrev cX12_placed : ByteArray := prog_14_method_12_code
def yX12_placed : MethodName := ⟨RX12, "placed", "(II)I"⟩
abbrev cX12_write : ByteArray := prog_14_method_13_code
def yX12_write : MethodName := ⟨RX12, "write", "(IIJ)Z"⟩
abbrev cX12_read : ByteArray := prog_14_method_14_code
def yX12_read : MethodName := ⟨RX12, "read", "(II)J"⟩
abbrev cX12_pour : ByteArray := prog_14_method_15_code
def yX12_pour : MethodName := ⟨RX12, "pour", "(IIIII)Z"⟩
abbrev cX12_numberOf : ByteArray := prog_14_method_16_code
def yX12_numberOf : MethodName := ⟨RX12, "numberOf", "(II)J"⟩
abbrev cX12_trueKind : ByteArray := prog_14_method_17_code
def yX12_trueKind : MethodName := ⟨RX12, "trueKind", "(I)I"⟩
abbrev cX12_takeTrue : ByteArray := prog_14_method_18_code
def yX12_takeTrue : MethodName := ⟨RX12, "takeTrue", "()V"⟩
abbrev cX12_handKindOf : ByteArray := prog_14_method_19_code
def yX12_handKindOf : MethodName := ⟨RX12, "handKindOf", "(I)I"⟩
abbrev cX12_beginOf : ByteArray := prog_14_method_20_code
def yX12_beginOf : MethodName := ⟨RX12, "beginOf", "(I)J"⟩
abbrev cX12_findCivil : ByteArray := prog_14_method_21_code
def yX12_findCivil : MethodName := ⟨RX12, "findCivil", "(J)V"⟩
abbrev cX12_leap : ByteArray := prog_14_method_22_code
def yX12_leap : MethodName := ⟨RX12, "leap", "(II)Z"⟩
abbrev cX12_civil : ByteArray := prog_14_method_23_code
def yX12_civil : MethodName := ⟨RX12, "civil", "(II)I"⟩
abbrev cX12_count : ByteArray := prog_14_method_24_code
def yX12_count : MethodName := ⟨RX12, "count", "(II)I"⟩
abbrev cX12_isClock : ByteArray := prog_14_method_25_code
def yX12_isClock : MethodName := ⟨RX12, "isClock", "(I)Z"⟩
abbrev cX12_clock : ByteArray := prog_14_method_26_code
def yX12_clock : MethodName := ⟨RX12, "clock", "(I)I"⟩
abbrev cX12_step : ByteArray := prog_14_method_27_code
def yX12_step : MethodName := ⟨RX12, "step", "(II)Z"⟩
abbrev cX12_takeClock : ByteArray := prog_14_method_28_code
def yX12_takeClock : MethodName := ⟨RX12, "takeClock", "(I)V"⟩
abbrev cX12_findSteps : ByteArray := prog_14_method_29_code
def yX12_findSteps : MethodName := ⟨RX12, "findSteps", "(I)V"⟩
abbrev cX12_aheadAt : ByteArray := prog_14_method_30_code
def yX12_aheadAt : MethodName := ⟨RX12, "aheadAt", "(I)I"⟩
abbrev cX12_showsOf : ByteArray := prog_14_method_31_code
def yX12_showsOf : MethodName := ⟨RX12, "showsOf", "(II)J"⟩
abbrev cX12_thousandths : ByteArray := prog_14_method_32_code
def yX12_thousandths : MethodName := ⟨RX12, "thousandths", "(III)J"⟩
abbrev cX12_shows : ByteArray := prog_14_method_33_code
def yX12_shows : MethodName := ⟨RX12, "shows", "(II)J"⟩
abbrev cX12_ahead : ByteArray := prog_14_method_34_code
def yX12_ahead : MethodName := ⟨RX12, "ahead", "(II)I"⟩
abbrev cX12_plain : ByteArray := prog_14_method_35_code
def yX12_plain : MethodName := ⟨RX12, "plain", "(J)J"⟩
abbrev cX12_off : ByteArray := prog_14_method_36_code
def yX12_off : MethodName := ⟨RX12, "off", "(III)J"⟩
abbrev cX12_worst : ByteArray := prog_14_method_37_code
def yX12_worst : MethodName := ⟨RX12, "worst", "(III)J"⟩
abbrev cX12_look : ByteArray := prog_14_method_38_code
def yX12_look : MethodName := ⟨RX12, "look", "(I)I"⟩
abbrev cX12_isLetter : ByteArray := prog_14_method_39_code
def yX12_isLetter : MethodName := ⟨RX12, "isLetter", "(I)Z"⟩
abbrev cX12_isDigit : ByteArray := prog_14_method_40_code
def yX12_isDigit : MethodName := ⟨RX12, "isDigit", "(I)Z"⟩
abbrev cX12_next : ByteArray := prog_14_method_41_code
def yX12_next : MethodName := ⟨RX12, "next", "()V"⟩
abbrev cX12_spelled : ByteArray := prog_14_method_42_code
def yX12_spelled : MethodName := ⟨RX12, "spelled", "(IIIIII)J"⟩
abbrev cX12_isWord : ByteArray := prog_14_method_43_code
def yX12_isWord : MethodName := ⟨RX12, "isWord", "(J)Z"⟩
abbrev cX12_isSign : ByteArray := prog_14_method_44_code
def yX12_isSign : MethodName := ⟨RX12, "isSign", "(I)Z"⟩
abbrev cX12_fail : ByteArray := prog_14_method_45_code
def yX12_fail : MethodName := ⟨RX12, "fail", "(II)V"⟩
abbrev cX12_wrongToken : ByteArray := prog_14_method_46_code
def yX12_wrongToken : MethodName := ⟨RX12, "wrongToken", "()V"⟩
abbrev cX12_variable : ByteArray := prog_14_method_47_code
def yX12_variable : MethodName := ⟨RX12, "variable", "()I"⟩
abbrev cX12_isIf : ByteArray := prog_14_method_48_code
def yX12_isIf : MethodName := ⟨RX12, "isIf", "()Z"⟩
abbrev cX12_isThen : ByteArray := prog_14_method_49_code
def yX12_isThen : MethodName := ⟨RX12, "isThen", "()Z"⟩
abbrev cX12_isElse : ByteArray := prog_14_method_50_code
def yX12_isElse : MethodName := ⟨RX12, "isElse", "()Z"⟩
abbrev cX12_isAnd : ByteArray := prog_14_method_51_code
def yX12_isAnd : MethodName := ⟨RX12, "isAnd", "()Z"⟩
abbrev cX12_isOr : ByteArray := prog_14_method_52_code
def yX12_isOr : MethodName := ⟨RX12, "isOr", "()Z"⟩
abbrev cX12_isNot : ByteArray := prog_14_method_53_code
def yX12_isNot : MethodName := ⟨RX12, "isNot", "()Z"⟩
abbrev cX12_isLeast : ByteArray := prog_14_method_54_code
def yX12_isLeast : MethodName := ⟨RX12, "isLeast", "()Z"⟩
abbrev cX12_isMost : ByteArray := prog_14_method_55_code
def yX12_isMost : MethodName := ⟨RX12, "isMost", "()Z"⟩
abbrev cX12_isKept : ByteArray := prog_14_method_56_code
def yX12_isKept : MethodName := ⟨RX12, "isKept", "()Z"⟩
abbrev cX12_named : ByteArray := prog_14_method_57_code
def yX12_named : MethodName := ⟨RX12, "named", "()I"⟩
abbrev cX12_mark : ByteArray := prog_14_method_58_code
def yX12_mark : MethodName := ⟨RX12, "mark", "(II)V"⟩
abbrev cX12_canBegin : ByteArray := prog_14_method_59_code
def yX12_canBegin : MethodName := ⟨RX12, "canBegin", "()Z"⟩
abbrev cX12_canBeginSum : ByteArray := prog_14_method_60_code
def yX12_canBeginSum : MethodName := ⟨RX12, "canBeginSum", "()Z"⟩
abbrev cX12_readWhole : ByteArray := prog_14_method_61_code
def yX12_readWhole : MethodName := ⟨RX12, "readWhole", "(I)V"⟩
abbrev cX12_readTest : ByteArray := prog_14_method_62_code
def yX12_readTest : MethodName := ⟨RX12, "readTest", "(I)V"⟩
abbrev cX12_readOne : ByteArray := prog_14_method_63_code
def yX12_readOne : MethodName := ⟨RX12, "readOne", "(I)V"⟩
abbrev cX12_readSum : ByteArray := prog_14_method_64_code
def yX12_readSum : MethodName := ⟨RX12, "readSum", "(I)V"⟩
abbrev cX12_readItem : ByteArray := prog_14_method_65_code
def yX12_readItem : MethodName := ⟨RX12, "readItem", "(I)V"⟩
abbrev cX12_readAtom : ByteArray := prog_14_method_66_code
def yX12_readAtom : MethodName := ⟨RX12, "readAtom", "(I)V"⟩
abbrev cX12_readFew : ByteArray := prog_14_method_67_code
def yX12_readFew : MethodName := ⟨RX12, "readFew", "(II)V"⟩
abbrev cX12_readDeeper : ByteArray := prog_14_method_68_code
def yX12_readDeeper : MethodName := ⟨RX12, "readDeeper", "(I)V"⟩
abbrev cX12_readDef : ByteArray := prog_14_method_69_code
def yX12_readDef : MethodName := ⟨RX12, "readDef", "()V"⟩
abbrev cX12_feed : ByteArray := prog_14_method_70_code
def yX12_feed : MethodName := ⟨RX12, "feed", "(IIIII)I"⟩
abbrev cX12_lay : ByteArray := prog_14_method_71_code
def yX12_lay : MethodName := ⟨RX12, "lay", "(I)V"⟩
abbrev cX12_rules : ByteArray := prog_14_method_72_code
def yX12_rules : MethodName := ⟨RX12, "rules", "(II)I"⟩
abbrev cX12_fault : ByteArray := prog_14_method_73_code
def yX12_fault : MethodName := ⟨RX12, "fault", "(I)I"⟩
abbrev cX12_force : ByteArray := prog_14_method_74_code
def yX12_force : MethodName := ⟨RX12, "force", "(I)I"⟩
abbrev cX12_letNothing : ByteArray := prog_14_method_75_code
def yX12_letNothing : MethodName := ⟨RX12, "letNothing", "()V"⟩
abbrev cX12_told : ByteArray := prog_14_method_76_code
def yX12_told : MethodName := ⟨RX12, "told", "(JIJ)J"⟩
abbrev cX12_work : ByteArray := prog_14_method_77_code
def yX12_work : MethodName := ⟨RX12, "work", "(II)V"⟩
abbrev cX12_push : ByteArray := prog_14_method_78_code
def yX12_push : MethodName := ⟨RX12, "push", "(JZ)V"⟩
abbrev cX12_does : ByteArray := prog_14_method_79_code
def yX12_does : MethodName := ⟨RX12, "does", "(II)I"⟩
abbrev cX12_both : ByteArray := prog_14_method_80_code
def yX12_both : MethodName := ⟨RX12, "both", "(II)V"⟩
abbrev cX12_server : ByteArray := prog_14_method_81_code
def yX12_server : MethodName := ⟨RX12, "server", "(I)I"⟩
abbrev cX12_notice : ByteArray := prog_14_method_82_code
def yX12_notice : MethodName := ⟨RX12, "notice", "(IIIII)I"⟩
abbrev cX12_isInTime : ByteArray := prog_14_method_83_code
def yX12_isInTime : MethodName := ⟨RX12, "isInTime", "(I)Z"⟩
abbrev cX12_isBelieved : ByteArray := prog_14_method_84_code
def yX12_isBelieved : MethodName := ⟨RX12, "isBelieved", "(I)Z"⟩
abbrev cX12_counts : ByteArray := prog_14_method_85_code
def yX12_counts : MethodName := ⟨RX12, "counts", "(I)Z"⟩
abbrev cX12_noticeOf : ByteArray := prog_14_method_86_code
def yX12_noticeOf : MethodName := ⟨RX12, "noticeOf", "(II)I"⟩
abbrev cX12_told_ : ByteArray := prog_14_method_87_code
def yX12_told_ : MethodName := ⟨RX12, "told", "(II)I"⟩
abbrev cX12_table : ByteArray := prog_14_method_88_code
def yX12_table : MethodName := ⟨RX12, "table", "(II)I"⟩
abbrev cX12_misses : ByteArray := prog_14_method_89_code
def yX12_misses : MethodName := ⟨RX12, "misses", "(I)I"⟩
abbrev cX12_stamp : ByteArray := prog_14_method_90_code
def yX12_stamp : MethodName := ⟨RX12, "stamp", "(II)I"⟩
abbrev cX12_findStamps : ByteArray := prog_14_method_91_code
def yX12_findStamps : MethodName := ⟨RX12, "findStamps", "()V"⟩
abbrev cX12_areWrong : ByteArray := prog_14_method_92_code
def yX12_areWrong : MethodName := ⟨RX12, "areWrong", "(II)Z"⟩
abbrev cX12_wrong : ByteArray := prog_14_method_93_code
def yX12_wrong : MethodName := ⟨RX12, "wrong", "()I"⟩
abbrev cX12_blamed : ByteArray := prog_14_method_94_code
def yX12_blamed : MethodName := ⟨RX12, "blamed", "(I)I"⟩
abbrev cX12_readNumber : ByteArray := prog_14_method_95_code
def yX12_readNumber : MethodName := ⟨RX12, "readNumber", "(II)I"⟩
abbrev cX12_readSign : ByteArray := prog_14_method_96_code
def yX12_readSign : MethodName := ⟨RX12, "readSign", "(I)V"⟩
abbrev cX12_readLine : ByteArray := prog_14_method_97_code
def yX12_readLine : MethodName := ⟨RX12, "readLine", "(I)V"⟩
abbrev cX12_readTime : ByteArray := prog_14_method_98_code
def yX12_readTime : MethodName := ⟨RX12, "readTime", "(I)V"⟩
abbrev cX12_readHow : ByteArray := prog_14_method_99_code
def yX12_readHow : MethodName := ⟨RX12, "readHow", "(I)V"⟩
abbrev cX12_program : ByteArray := prog_14_method_100_code
def yX12_program : MethodName := ⟨RX12, "program", "(I)I"⟩
abbrev cX12_keep : ByteArray := prog_14_method_101_code
def yX12_keep : MethodName := ⟨RX12, "keep", "(J)V"⟩
abbrev cX12_runLines : ByteArray := prog_14_method_102_code
def yX12_runLines : MethodName := ⟨RX12, "runLines", "(II)V"⟩
abbrev cX12_runLine : ByteArray := prog_14_method_103_code
def yX12_runLine : MethodName := ⟨RX12, "runLine", "(I)V"⟩
abbrev cX12_goesOn : ByteArray := prog_14_method_104_code
def yX12_goesOn : MethodName := ⟨RX12, "goesOn", "()V"⟩
abbrev cX12_run : ByteArray := prog_14_method_105_code
def yX12_run : MethodName := ⟨RX12, "run", "(II)I"⟩
abbrev cX12_ran : ByteArray := prog_14_method_106_code
def yX12_ran : MethodName := ⟨RX12, "ran", "(I)I"⟩
abbrev cX12_kept : ByteArray := prog_14_method_107_code
def yX12_kept : MethodName := ⟨RX12, "kept", "(I)J"⟩
abbrev cX12_having : ByteArray := prog_14_method_108_code
def yX12_having : MethodName := ⟨RX12, "having", "(I)I"⟩
abbrev cX12_answers : ByteArray := prog_14_method_109_code
def yX12_answers : MethodName := ⟨RX12, "answers", "(III)I"⟩
abbrev cX12_span : ByteArray := prog_14_method_110_code
def yX12_span : MethodName := ⟨RX12, "span", "(I)I"⟩
abbrev cX12_lies : ByteArray := prog_14_method_111_code
def yX12_lies : MethodName := ⟨RX12, "lies", "(I)I"⟩
abbrev cX12_showsSo : ByteArray := prog_14_method_112_code
def yX12_showsSo : MethodName := ⟨RX12, "showsSo", "(II)J"⟩
abbrev cX12_find : ByteArray := prog_14_method_113_code
def yX12_find : MethodName := ⟨RX12, "find", "(III)I"⟩
abbrev cX12_unlike : ByteArray := prog_14_method_114_code
def yX12_unlike : MethodName := ⟨RX12, "unlike", "(I)I"⟩
abbrev cX12_ask : ByteArray := prog_14_method_115_code
def yX12_ask : MethodName := ⟨RX12, "ask", "()I"⟩
abbrev cX12_isLand : ByteArray := prog_14_method_116_code
def yX12_isLand : MethodName := ⟨RX12, "isLand", "(I)Z"⟩
abbrev cX12_land : ByteArray := prog_14_method_117_code
def yX12_land : MethodName := ⟨RX12, "land", "(IIII)Z"⟩
abbrev cX12_localOf : ByteArray := prog_14_method_118_code
def yX12_localOf : MethodName := ⟨RX12, "localOf", "(II)I"⟩
abbrev cX12_local : ByteArray := prog_14_method_119_code
def yX12_local : MethodName := ⟨RX12, "local", "(II)I"⟩
abbrev cX12_oft : ByteArray := prog_14_method_120_code
def yX12_oft : MethodName := ⟨RX12, "oft", "(III)I"⟩
def RJx145de : String := "java/io/Serializable"
def TJx145de : u_T := fun k => match k with
  | _ => ("", "", "", false)
def tyJx145de : Nat → FieldType := fun k => match k with
  | _ => .int
abbrev wsJx145de0 : List Cond := u_ws RJx145de TJx145de 0
theorem nmJx145de : ∀ a, a < 0 → ∀ b, b < 0 → a ≠ b → (TJx145de a).2.1 ≠ (TJx145de b).2.1 := by decide +kernel
theorem tyJx145de_ok : ∀ k, k < 0 → parseFieldDescriptor (TJx145de k).2.2.1 = some (tyJx145de k) := by decide +kernel
def RJ11 : String := "java/lang/Character"
def TJ11 : u_T := fun k => match k with
  | _ => ("", "", "", false)
def tyJ11 : Nat → FieldType := fun k => match k with
  | _ => .int
abbrev wsJ110 : List Cond := u_ws RJ11 TJ11 0
theorem nmJ11 : ∀ a, a < 0 → ∀ b, b < 0 → a ≠ b → (TJ11 a).2.1 ≠ (TJ11 b).2.1 := by decide +kernel
theorem tyJ11_ok : ∀ k, k < 0 → parseFieldDescriptor (TJ11 k).2.2.1 = some (tyJ11 k) := by decide +kernel
abbrev cJ11_isValidCodePoint_9a6ad : ByteArray := prog_16_method_11_code
def yJ11_isValidCodePoint_9a6ad : MethodName := ⟨RJ11, "isValidCodePoint", "(I)Z"⟩
abbrev cJ11_highSurrogate_5068e : ByteArray := prog_16_method_28_code
def yJ11_highSurrogate_5068e : MethodName := ⟨RJ11, "highSurrogate", "(I)C"⟩
abbrev cJ11_lowSurrogate_5068e : ByteArray := prog_16_method_29_code
def yJ11_lowSurrogate_5068e : MethodName := ⟨RJ11, "lowSurrogate", "(I)C"⟩
def RJx8e188 : String := "java/lang/Cloneable"
def TJx8e188 : u_T := fun k => match k with
  | _ => ("", "", "", false)
def tyJx8e188 : Nat → FieldType := fun k => match k with
  | _ => .int
abbrev wsJx8e1880 : List Cond := u_ws RJx8e188 TJx8e188 0
theorem nmJx8e188 : ∀ a, a < 0 → ∀ b, b < 0 → a ≠ b → (TJx8e188 a).2.1 ≠ (TJx8e188 b).2.1 := by decide +kernel
theorem tyJx8e188_ok : ∀ k, k < 0 → parseFieldDescriptor (TJx8e188 k).2.2.1 = some (tyJx8e188 k) := by decide +kernel
def RJxabbfe : String := "java/lang/Integer$IntegerCache"
def TJxabbfe : u_T := fun k => match k with
  | _ => ("", "", "", false)
def tyJxabbfe : Nat → FieldType := fun k => match k with
  | _ => .int
abbrev wsJxabbfe0 : List Cond := u_ws RJxabbfe TJxabbfe 0
theorem nmJxabbfe : ∀ a, a < 0 → ∀ b, b < 0 → a ≠ b → (TJxabbfe a).2.1 ≠ (TJxabbfe b).2.1 := by decide +kernel
theorem tyJxabbfe_ok : ∀ k, k < 0 → parseFieldDescriptor (TJxabbfe k).2.2.1 = some (tyJxabbfe k) := by decide +kernel
def RJ6 : String := "java/lang/Integer"
def TJ6 : u_T := fun k => match k with
  | _ => ("java/lang/Integer", "value", "I", true)
def tyJ6 : Nat → FieldType := fun k => match k with
  | _ => .int
abbrev wsJ60 : List Cond := u_ws RJ6 TJ6 1
theorem nmJ6 : ∀ a, a < 1 → ∀ b, b < 1 → a ≠ b → (TJ6 a).2.1 ≠ (TJ6 b).2.1 := by decide +kernel
theorem tyJ6_ok : ∀ k, k < 1 → parseFieldDescriptor (TJ6 k).2.2.1 = some (tyJ6 k) := by decide +kernel
abbrev cJ6_valueOf_2dffe : ByteArray := prog_18_method_22_code
def yJ6_valueOf_2dffe : MethodName := ⟨RJ6, "valueOf", "(I)Ljava/lang/Integer;"⟩
abbrev cJ6_init_d00df : ByteArray := prog_18_method_23_code
def yJ6_init_d00df : MethodName := ⟨RJ6, "<init>", "(I)V"⟩
abbrev cJ6_intValue_8abf5 : ByteArray := prog_18_method_27_code
def yJ6_intValue_8abf5 : MethodName := ⟨RJ6, "intValue", "()I"⟩
abbrev cJ6_bitCount_0f7a4 : ByteArray := prog_18_method_49_code
def yJ6_bitCount_0f7a4 : MethodName := ⟨RJ6, "bitCount", "(I)I"⟩
def RJxab1ab : String := "java/lang/Iterable"
def TJxab1ab : u_T := fun k => match k with
  | _ => ("", "", "", false)
def tyJxab1ab : Nat → FieldType := fun k => match k with
  | _ => .int
abbrev wsJxab1ab0 : List Cond := u_ws RJxab1ab TJxab1ab 0
theorem nmJxab1ab : ∀ a, a < 0 → ∀ b, b < 0 → a ≠ b → (TJxab1ab a).2.1 ≠ (TJxab1ab b).2.1 := by decide +kernel
theorem tyJxab1ab_ok : ∀ k, k < 0 → parseFieldDescriptor (TJxab1ab k).2.2.1 = some (tyJxab1ab k) := by decide +kernel
def RJ9 : String := "java/lang/Math"
def TJ9 : u_T := fun k => match k with
  | _ => ("", "", "", false)
def tyJ9 : Nat → FieldType := fun k => match k with
  | _ => .int
abbrev wsJ90 : List Cond := u_ws RJ9 TJ9 0
theorem nmJ9 : ∀ a, a < 0 → ∀ b, b < 0 → a ≠ b → (TJ9 a).2.1 ≠ (TJ9 b).2.1 := by decide +kernel
theorem tyJ9_ok : ∀ k, k < 0 → parseFieldDescriptor (TJ9 k).2.2.1 = some (tyJ9 k) := by decide +kernel
abbrev cJ9_floorDiv_7cf53 : ByteArray := prog_21_method_47_code
def yJ9_floorDiv_7cf53 : MethodName := ⟨RJ9, "floorDiv", "(II)I"⟩
abbrev cJ9_floorMod_7cf53 : ByteArray := prog_21_method_50_code
def yJ9_floorMod_7cf53 : MethodName := ⟨RJ9, "floorMod", "(II)I"⟩
abbrev cJ9_max_7cf53 : ByteArray := prog_21_method_65_code
def yJ9_max_7cf53 : MethodName := ⟨RJ9, "max", "(II)I"⟩
abbrev cJ9_max_f86c9 : ByteArray := prog_21_method_66_code
def yJ9_max_f86c9 : MethodName := ⟨RJ9, "max", "(JJ)J"⟩
abbrev cJ9_min_7cf53 : ByteArray := prog_21_method_69_code
def yJ9_min_7cf53 : MethodName := ⟨RJ9, "min", "(II)I"⟩
abbrev cJ9_min_f86c9 : ByteArray := prog_21_method_70_code
def yJ9_min_f86c9 : MethodName := ⟨RJ9, "min", "(JJ)J"⟩
def RJxd2413 : String := "java/lang/Number"
def TJxd2413 : u_T := fun k => match k with
  | _ => ("", "", "", false)
def tyJxd2413 : Nat → FieldType := fun k => match k with
  | _ => .int
abbrev wsJxd24130 : List Cond := u_ws RJxd2413 TJxd2413 0
theorem nmJxd2413 : ∀ a, a < 0 → ∀ b, b < 0 → a ≠ b → (TJxd2413 a).2.1 ≠ (TJxd2413 b).2.1 := by decide +kernel
theorem tyJxd2413_ok : ∀ k, k < 0 → parseFieldDescriptor (TJxd2413 k).2.2.1 = some (tyJxd2413 k) := by decide +kernel
abbrev cJxd2413_init_da8c8 : ByteArray := prog_22_method_1_code
def yJxd2413_init_da8c8 : MethodName := ⟨RJxd2413, "<init>", "()V"⟩
def RJ0 : String := "java/lang/String"
def TJ0 : u_T := fun k => match k with
  | _ => ("", "", "", false)
def tyJ0 : Nat → FieldType := fun k => match k with
  | _ => .int
abbrev wsJ00 : List Cond := u_ws RJ0 TJ0 0
theorem nmJ0 : ∀ a, a < 0 → ∀ b, b < 0 → a ≠ b → (TJ0 a).2.1 ≠ (TJ0 b).2.1 := by decide +kernel
theorem tyJ0_ok : ∀ k, k < 0 → parseFieldDescriptor (TJ0 k).2.2.1 = some (tyJ0 k) := by decide +kernel
abbrev cJ0_length_8abf5 : ByteArray := prog_23_method_54_code
def yJ0_length_8abf5 : MethodName := ⟨RJ0, "length", "()I"⟩
abbrev cJ0_charAt_5068e : ByteArray := prog_23_method_56_code
def yJ0_charAt_5068e : MethodName := ⟨RJ0, "charAt", "(I)C"⟩
abbrev cJ0_indexOf_0f7a4 : ByteArray := prog_23_method_79_code
def yJ0_indexOf_0f7a4 : MethodName := ⟨RJ0, "indexOf", "(I)I"⟩
abbrev cJ0_indexOf_7cf53 : ByteArray := prog_23_method_80_code
def yJ0_indexOf_7cf53 : MethodName := ⟨RJ0, "indexOf", "(II)I"⟩
abbrev cJ0_coder_7d493 : ByteArray := prog_23_method_152_code
def yJ0_coder_7d493 : MethodName := ⟨RJ0, "coder", "()B"⟩
abbrev cJ0_isLatin1_aae02 : ByteArray := prog_23_method_154_code
def yJ0_isLatin1_aae02 : MethodName := ⟨RJ0, "isLatin1", "()Z"⟩
abbrev cJ0_checkIndex_df160 : ByteArray := prog_23_method_155_code
def yJ0_checkIndex_df160 : MethodName := ⟨RJ0, "checkIndex", "(II)V"⟩
abbrev cJ0_checkBoundsBeginEnd_23922 : ByteArray := prog_23_method_158_code
def yJ0_checkBoundsBeginEnd_23922 : MethodName := ⟨RJ0, "checkBoundsBeginEnd", "(III)V"⟩
def RJ1 : String := "java/lang/StringLatin1"
def TJ1 : u_T := fun k => match k with
  | _ => ("", "", "", false)
def tyJ1 : Nat → FieldType := fun k => match k with
  | _ => .int
abbrev wsJ10 : List Cond := u_ws RJ1 TJ1 0
theorem nmJ1 : ∀ a, a < 0 → ∀ b, b < 0 → a ≠ b → (TJ1 a).2.1 ≠ (TJ1 b).2.1 := by decide +kernel
theorem tyJ1_ok : ∀ k, k < 0 → parseFieldDescriptor (TJ1 k).2.2.1 = some (tyJ1 k) := by decide +kernel
abbrev cJ1_charAt_3b067 : ByteArray := prog_24_method_2_code
def yJ1_charAt_3b067 : MethodName := ⟨RJ1, "charAt", "([BI)C"⟩
abbrev cJ1_canEncode_9a6ad : ByteArray := prog_24_method_4_code
def yJ1_canEncode_9a6ad : MethodName := ⟨RJ1, "canEncode", "(I)Z"⟩
abbrev cJ1_indexOf_4cfef : ByteArray := prog_24_method_22_code
def yJ1_indexOf_4cfef : MethodName := ⟨RJ1, "indexOf", "([BIII)I"⟩
abbrev cJ1_indexOfChar_4cfef : ByteArray := prog_24_method_23_code
def yJ1_indexOfChar_4cfef : MethodName := ⟨RJ1, "indexOfChar", "([BIII)I"⟩
def RJ2 : String := "java/lang/StringUTF16"
def TJ2 : u_T := fun k => match k with
  | _ => ("", "", "", false)
def tyJ2 : Nat → FieldType := fun k => match k with
  | _ => .int
abbrev wsJ20 : List Cond := u_ws RJ2 TJ2 0
theorem nmJ2 : ∀ a, a < 0 → ∀ b, b < 0 → a ≠ b → (TJ2 a).2.1 ≠ (TJ2 b).2.1 := by decide +kernel
theorem tyJ2_ok : ∀ k, k < 0 → parseFieldDescriptor (TJ2 k).2.2.1 = some (tyJ2 k) := by decide +kernel
abbrev cJ2_getChar_3b067 : ByteArray := prog_25_method_5_code
def yJ2_getChar_3b067 : MethodName := ⟨RJ2, "getChar", "([BI)C"⟩
abbrev cJ2_length_9d52b : ByteArray := prog_25_method_6_code
def yJ2_length_9d52b : MethodName := ⟨RJ2, "length", "([B)I"⟩
abbrev cJ2_indexOf_4cfef : ByteArray := prog_25_method_40_code
def yJ2_indexOf_4cfef : MethodName := ⟨RJ2, "indexOf", "([BIII)I"⟩
abbrev cJ2_indexOfChar_4cfef : ByteArray := prog_25_method_47_code
def yJ2_indexOfChar_4cfef : MethodName := ⟨RJ2, "indexOfChar", "([BIII)I"⟩
abbrev cJ2_indexOfCharUnsafe_4cfef : ByteArray := prog_25_method_48_code
def yJ2_indexOfCharUnsafe_4cfef : MethodName := ⟨RJ2, "indexOfCharUnsafe", "([BIII)I"⟩
abbrev cJ2_indexOfSupplementary_4cfef : ByteArray := prog_25_method_49_code
def yJ2_indexOfSupplementary_4cfef : MethodName := ⟨RJ2, "indexOfSupplementary", "([BIII)I"⟩
abbrev cJ2_charAt_3b067 : ByteArray := prog_25_method_83_code
def yJ2_charAt_3b067 : MethodName := ⟨RJ2, "charAt", "([BI)C"⟩
abbrev cJ2_checkIndex_2214a : ByteArray := prog_25_method_91_code
def yJ2_checkIndex_2214a : MethodName := ⟨RJ2, "checkIndex", "(I[B)V"⟩
abbrev cJ2_checkBoundsBeginEnd_d044e : ByteArray := prog_25_method_93_code
def yJ2_checkBoundsBeginEnd_d044e : MethodName := ⟨RJ2, "checkBoundsBeginEnd", "(II[B)V"⟩
def RJ10 : String := "java/lang/System"
def TJ10 : u_T := fun k => match k with
  | _ => ("", "", "", false)
def tyJ10 : Nat → FieldType := fun k => match k with
  | _ => .int
abbrev wsJ100 : List Cond := u_ws RJ10 TJ10 0
theorem nmJ10 : ∀ a, a < 0 → ∀ b, b < 0 → a ≠ b → (TJ10 a).2.1 ≠ (TJ10 b).2.1 := by decide +kernel
theorem tyJ10_ok : ∀ k, k < 0 → parseFieldDescriptor (TJ10 k).2.2.1 = some (tyJ10 k) := by decide +kernel
def RJxa1e45 : String := "java/util/AbstractCollection"
def TJxa1e45 : u_T := fun k => match k with
  | _ => ("", "", "", false)
def tyJxa1e45 : Nat → FieldType := fun k => match k with
  | _ => .int
abbrev wsJxa1e450 : List Cond := u_ws RJxa1e45 TJxa1e45 0
theorem nmJxa1e45 : ∀ a, a < 0 → ∀ b, b < 0 → a ≠ b → (TJxa1e45 a).2.1 ≠ (TJxa1e45 b).2.1 := by decide +kernel
theorem tyJxa1e45_ok : ∀ k, k < 0 → parseFieldDescriptor (TJxa1e45 k).2.2.1 = some (tyJxa1e45 k) := by decide +kernel
abbrev cJxa1e45_init_da8c8 : ByteArray := prog_27_method_1_code
def yJxa1e45_init_da8c8 : MethodName := ⟨RJxa1e45, "<init>", "()V"⟩
def RJxc12de : String := "java/util/AbstractList"
def TJxc12de : u_T := fun k => match k with
  | _ => ("", "", "", false)
def tyJxc12de : Nat → FieldType := fun k => match k with
  | _ => .int
abbrev wsJxc12de0 : List Cond := u_ws RJxc12de TJxc12de 0
theorem nmJxc12de : ∀ a, a < 0 → ∀ b, b < 0 → a ≠ b → (TJxc12de a).2.1 ≠ (TJxc12de b).2.1 := by decide +kernel
theorem tyJxc12de_ok : ∀ k, k < 0 → parseFieldDescriptor (TJxc12de k).2.2.1 = some (tyJxc12de k) := by decide +kernel
abbrev cJxc12de_init_da8c8 : ByteArray := prog_28_method_1_code
def yJxc12de_init_da8c8 : MethodName := ⟨RJxc12de, "<init>", "()V"⟩
def RJx4a65c : String := "java/util/ArrayList"
def TJx4a65c : u_T := fun k => match k with
  | 0 => ("java/util/AbstractList", "modCount", "I", false)
  | 1 => ("java/util/ArrayList", "elementData", "[Ljava/lang/Object;", false)
  | _ => ("java/util/ArrayList", "size", "I", false)
def tyJx4a65c : Nat → FieldType := fun k => match k with
  | 0 => .int
  | 1 => .array (.object "java/lang/Object")
  | _ => .int
abbrev wsJx4a65c0 : List Cond := u_ws RJx4a65c TJx4a65c 3
theorem nmJx4a65c : ∀ a, a < 3 → ∀ b, b < 3 → a ≠ b → (TJx4a65c a).2.1 ≠ (TJx4a65c b).2.1 := by decide +kernel
theorem tyJx4a65c_ok : ∀ k, k < 3 → parseFieldDescriptor (TJx4a65c k).2.2.1 = some (tyJx4a65c k) := by decide +kernel
abbrev cJx4a65c_init_da8c8 : ByteArray := prog_29_method_2_code
def yJx4a65c_init_da8c8 : MethodName := ⟨RJx4a65c, "<init>", "()V"⟩
abbrev cJx4a65c_grow_92f84 : ByteArray := prog_29_method_6_code
def yJx4a65c_grow_92f84 : MethodName := ⟨RJx4a65c, "grow", "(I)[Ljava/lang/Object;"⟩
abbrev cJx4a65c_grow_d5877 : ByteArray := prog_29_method_7_code
def yJx4a65c_grow_d5877 : MethodName := ⟨RJx4a65c, "grow", "()[Ljava/lang/Object;"⟩
abbrev cJx4a65c_size_8abf5 : ByteArray := prog_29_method_8_code
def yJx4a65c_size_8abf5 : MethodName := ⟨RJx4a65c, "size", "()I"⟩
abbrev cJx4a65c_elementData_915e3 : ByteArray := prog_29_method_18_code
def yJx4a65c_elementData_915e3 : MethodName := ⟨RJx4a65c, "elementData", "(I)Ljava/lang/Object;"⟩
abbrev cJx4a65c_get_915e3 : ByteArray := prog_29_method_20_code
def yJx4a65c_get_915e3 : MethodName := ⟨RJx4a65c, "get", "(I)Ljava/lang/Object;"⟩
abbrev cJx4a65c_add_72be8 : ByteArray := prog_29_method_24_code
def yJx4a65c_add_72be8 : MethodName := ⟨RJx4a65c, "add", "(Ljava/lang/Object;[Ljava/lang/Object;I)V"⟩
abbrev cJx4a65c_add_9ea2d : ByteArray := prog_29_method_25_code
def yJx4a65c_add_9ea2d : MethodName := ⟨RJx4a65c, "add", "(Ljava/lang/Object;)Z"⟩
def RJ7 : String := "java/util/Arrays"
def TJ7 : u_T := fun k => match k with
  | _ => ("", "", "", false)
def tyJ7 : Nat → FieldType := fun k => match k with
  | _ => .int
abbrev wsJ70 : List Cond := u_ws RJ7 TJ7 0
theorem nmJ7 : ∀ a, a < 0 → ∀ b, b < 0 → a ≠ b → (TJ7 a).2.1 ≠ (TJ7 b).2.1 := by decide +kernel
theorem tyJ7_ok : ∀ k, k < 0 → parseFieldDescriptor (TJ7 k).2.2.1 = some (tyJ7 k) := by decide +kernel
abbrev cJ7_copyOf_1904c : ByteArray := prog_30_method_119_code
def yJ7_copyOf_1904c : MethodName := ⟨RJ7, "copyOf", "([Ljava/lang/Object;I)[Ljava/lang/Object;"⟩
abbrev cJ7_copyOf_6403c : ByteArray := prog_30_method_120_code
def yJ7_copyOf_6403c : MethodName := ⟨RJ7, "copyOf", "([Ljava/lang/Object;ILjava/lang/Class;)[Ljava/lang/Object;"⟩
def RJx5ef63 : String := "java/util/Collection"
def TJx5ef63 : u_T := fun k => match k with
  | _ => ("", "", "", false)
def tyJx5ef63 : Nat → FieldType := fun k => match k with
  | _ => .int
abbrev wsJx5ef630 : List Cond := u_ws RJx5ef63 TJx5ef63 0
theorem nmJx5ef63 : ∀ a, a < 0 → ∀ b, b < 0 → a ≠ b → (TJx5ef63 a).2.1 ≠ (TJx5ef63 b).2.1 := by decide +kernel
theorem tyJx5ef63_ok : ∀ k, k < 0 → parseFieldDescriptor (TJx5ef63 k).2.2.1 = some (tyJx5ef63 k) := by decide +kernel
def RJxbd725 : String := "java/util/List"
def TJxbd725 : u_T := fun k => match k with
  | _ => ("", "", "", false)
def tyJxbd725 : Nat → FieldType := fun k => match k with
  | _ => .int
abbrev wsJxbd7250 : List Cond := u_ws RJxbd725 TJxbd725 0
theorem nmJxbd725 : ∀ a, a < 0 → ∀ b, b < 0 → a ≠ b → (TJxbd725 a).2.1 ≠ (TJxbd725 b).2.1 := by decide +kernel
theorem tyJxbd725_ok : ∀ k, k < 0 → parseFieldDescriptor (TJxbd725 k).2.2.1 = some (tyJxbd725 k) := by decide +kernel
def RJ15 : String := "java/util/Objects"
def TJ15 : u_T := fun k => match k with
  | _ => ("", "", "", false)
def tyJ15 : Nat → FieldType := fun k => match k with
  | _ => .int
abbrev wsJ150 : List Cond := u_ws RJ15 TJ15 0
theorem nmJ15 : ∀ a, a < 0 → ∀ b, b < 0 → a ≠ b → (TJ15 a).2.1 ≠ (TJ15 b).2.1 := by decide +kernel
theorem tyJ15_ok : ∀ k, k < 0 → parseFieldDescriptor (TJ15 k).2.2.1 = some (tyJ15 k) := by decide +kernel
abbrev cJ15_checkIndex_7cf53 : ByteArray := prog_33_method_17_code
def yJ15_checkIndex_7cf53 : MethodName := ⟨RJ15, "checkIndex", "(II)I"⟩
def RJxf0a74 : String := "java/util/RandomAccess"
def TJxf0a74 : u_T := fun k => match k with
  | _ => ("", "", "", false)
def tyJxf0a74 : Nat → FieldType := fun k => match k with
  | _ => .int
abbrev wsJxf0a740 : List Cond := u_ws RJxf0a74 TJxf0a74 0
theorem nmJxf0a74 : ∀ a, a < 0 → ∀ b, b < 0 → a ≠ b → (TJxf0a74 a).2.1 ≠ (TJxf0a74 b).2.1 := by decide +kernel
theorem tyJxf0a74_ok : ∀ k, k < 0 → parseFieldDescriptor (TJxf0a74 k).2.2.1 = some (tyJxf0a74 k) := by decide +kernel
def RJxa66e6 : String := "java/util/SequencedCollection"
def TJxa66e6 : u_T := fun k => match k with
  | _ => ("", "", "", false)
def tyJxa66e6 : Nat → FieldType := fun k => match k with
  | _ => .int
abbrev wsJxa66e60 : List Cond := u_ws RJxa66e6 TJxa66e6 0
theorem nmJxa66e6 : ∀ a, a < 0 → ∀ b, b < 0 → a ≠ b → (TJxa66e6 a).2.1 ≠ (TJxa66e6 b).2.1 := by decide +kernel
theorem tyJxa66e6_ok : ∀ k, k < 0 → parseFieldDescriptor (TJxa66e6 k).2.2.1 = some (tyJxa66e6 k) := by decide +kernel
def RJ8 : String := "jdk/internal/util/ArraysSupport"
def TJ8 : u_T := fun k => match k with
  | _ => ("", "", "", false)
def tyJ8 : Nat → FieldType := fun k => match k with
  | _ => .int
abbrev wsJ80 : List Cond := u_ws RJ8 TJ8 0
theorem nmJ8 : ∀ a, a < 0 → ∀ b, b < 0 → a ≠ b → (TJ8 a).2.1 ≠ (TJ8 b).2.1 := by decide +kernel
theorem tyJ8_ok : ∀ k, k < 0 → parseFieldDescriptor (TJ8 k).2.2.1 = some (tyJ8 k) := by decide +kernel
abbrev cJ8_newLength_cabcc : ByteArray := prog_36_method_27_code
def yJ8_newLength_cabcc : MethodName := ⟨RJ8, "newLength", "(III)I"⟩
abbrev cJ8_hugeLength_7cf53 : ByteArray := prog_36_method_28_code
def yJ8_hugeLength_7cf53 : MethodName := ⟨RJ8, "hugeLength", "(II)I"⟩
def RJ3 : String := "jdk/internal/util/Preconditions"
def TJ3 : u_T := fun k => match k with
  | _ => ("", "", "", false)
def tyJ3 : Nat → FieldType := fun k => match k with
  | _ => .int
abbrev wsJ30 : List Cond := u_ws RJ3 TJ3 0
theorem nmJ3 : ∀ a, a < 0 → ∀ b, b < 0 → a ≠ b → (TJ3 a).2.1 ≠ (TJ3 b).2.1 := by decide +kernel
theorem tyJ3_ok : ∀ k, k < 0 → parseFieldDescriptor (TJ3 k).2.2.1 = some (tyJ3 k) := by decide +kernel
abbrev cJ3_checkIndex_8e157 : ByteArray := prog_37_method_11_code
def yJ3_checkIndex_8e157 : MethodName := ⟨RJ3, "checkIndex", "(IILjava/util/function/BiFunction;)I"⟩
abbrev cJ3_checkFromToIndex_8c36e : ByteArray := prog_37_method_12_code
def yJ3_checkFromToIndex_8c36e : MethodName := ⟨RJ3, "checkFromToIndex", "(IIILjava/util/function/BiFunction;)I"⟩
def RL : String := "LeapNetLaw"
abbrev cL_law : ByteArray := code
def yL_law : MethodName := ⟨RL, "law", "([I)Z"⟩
abbrev vwCl : List vw_C := [(RJ6, TJ6, 1), (RJx4a65c, TJx4a65c, 3), (RX0, TX0, 6), (RX1, TX1, 5), (RX2, TX2, 3), (RX3, TX3, 7), (RX4, TX4, 6), (RX5, TX5, 11), (RX6, TX6, 14), (RX7, TX7, 10), (RX8, TX8, 3), (RX9, TX9, 7), (RX10, TX10, 2), (RX11, TX11, 19), (RX12, TX12, 106)]
