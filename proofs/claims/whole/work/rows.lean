section
-- ===== PART A: goes FIRST, ahead of the names: the tables' words, and 'selects' of the private methods out of them =====
/-- a private method of a class that the tables say can be made, by its rows of tables_1 -/
def lw_okq (q : MethodName × Nat) : Prop := (q.1.cls ≠ "java/lang/invoke/MethodHandle" ∧ q.1.cls ≠ "java/lang/invoke/VarHandle") ∧ Cond.instantiable q.1.cls q.2 ∈ tables_1 ∧ Cond.privateMethod q.1 ∈ tables_1 ∧ Cond.instanceMethod q.1 ∈ tables_1
theorem lw_p0 : lw_okq (⟨"java/lang/Throwable", "fillInStackTrace", "(I)Ljava/lang/Throwable;"⟩, 6) := ⟨⟨by decide +kernel, by decide +kernel⟩, List.mem_of_getElem? (i := 181) (by decide +kernel), List.mem_of_getElem? (i := 179) (by decide +kernel), List.mem_of_getElem? (i := 180) (by decide +kernel)⟩
theorem lw_p1 : lw_okq (⟨"Delaypouch", "makeRoom", "(II)Z"⟩, 7) := ⟨⟨by decide +kernel, by decide +kernel⟩, List.mem_of_getElem? (i := 28) (by decide +kernel), List.mem_of_getElem? (i := 243) (by decide +kernel), List.mem_of_getElem? (i := 244) (by decide +kernel)⟩
theorem lw_p2 : lw_okq (⟨"Delaypouch", "countAt", "(I)I"⟩, 7) := ⟨⟨by decide +kernel, by decide +kernel⟩, List.mem_of_getElem? (i := 28) (by decide +kernel), List.mem_of_getElem? (i := 247) (by decide +kernel), List.mem_of_getElem? (i := 248) (by decide +kernel)⟩
theorem lw_p3 : lw_okq (⟨"Delaypouch", "lastWithoutCustody", "(I)LDelaypouch$Bundle;"⟩, 7) := ⟨⟨by decide +kernel, by decide +kernel⟩, List.mem_of_getElem? (i := 28) (by decide +kernel), List.mem_of_getElem? (i := 270) (by decide +kernel), List.mem_of_getElem? (i := 271) (by decide +kernel)⟩
theorem lw_p4 : lw_okq (⟨"Delaypouch", "placeInOrder", "(LDelaypouch$Bundle;)I"⟩, 7) := ⟨⟨by decide +kernel, by decide +kernel⟩, List.mem_of_getElem? (i := 28) (by decide +kernel), List.mem_of_getElem? (i := 333) (by decide +kernel), List.mem_of_getElem? (i := 334) (by decide +kernel)⟩
theorem lw_p5 : lw_okq (⟨"java/util/ArrayList", "rangeCheckForAdd", "(I)V"⟩, 3) := ⟨⟨by decide +kernel, by decide +kernel⟩, List.mem_of_getElem? (i := 36) (by decide +kernel), List.mem_of_getElem? (i := 345) (by decide +kernel), List.mem_of_getElem? (i := 346) (by decide +kernel)⟩
theorem lw_p6 : lw_okq (⟨"java/util/ArrayList", "outOfBoundsMsg", "(I)Ljava/lang/String;"⟩, 3) := ⟨⟨by decide +kernel, by decide +kernel⟩, List.mem_of_getElem? (i := 36) (by decide +kernel), List.mem_of_getElem? (i := 350) (by decide +kernel), List.mem_of_getElem? (i := 351) (by decide +kernel)⟩
theorem lw_p7 : lw_okq (⟨"java/util/ArrayList", "grow", "()[Ljava/lang/Object;"⟩, 3) := ⟨⟨by decide +kernel, by decide +kernel⟩, List.mem_of_getElem? (i := 36) (by decide +kernel), List.mem_of_getElem? (i := 601) (by decide +kernel), List.mem_of_getElem? (i := 602) (by decide +kernel)⟩
theorem lw_p8 : lw_okq (⟨"java/util/ArrayList", "grow", "(I)[Ljava/lang/Object;"⟩, 3) := ⟨⟨by decide +kernel, by decide +kernel⟩, List.mem_of_getElem? (i := 36) (by decide +kernel), List.mem_of_getElem? (i := 605) (by decide +kernel), List.mem_of_getElem? (i := 606) (by decide +kernel)⟩
theorem lw_p9 : lw_okq (⟨"java/util/ArrayList", "add", "(Ljava/lang/Object;[Ljava/lang/Object;I)V"⟩, 3) := ⟨⟨by decide +kernel, by decide +kernel⟩, List.mem_of_getElem? (i := 36) (by decide +kernel), List.mem_of_getElem? (i := 640) (by decide +kernel), List.mem_of_getElem? (i := 641) (by decide +kernel)⟩
theorem lw_p10 : lw_okq (⟨"Delaypouch", "exchangeReceipts", "(II)V"⟩, 7) := ⟨⟨by decide +kernel, by decide +kernel⟩, List.mem_of_getElem? (i := 28) (by decide +kernel), List.mem_of_getElem? (i := 652) (by decide +kernel), List.mem_of_getElem? (i := 653) (by decide +kernel)⟩
theorem lw_p11 : lw_okq (⟨"Delaypouch", "findSprays", "(II)V"⟩, 7) := ⟨⟨by decide +kernel, by decide +kernel⟩, List.mem_of_getElem? (i := 28) (by decide +kernel), List.mem_of_getElem? (i := 661) (by decide +kernel), List.mem_of_getElem? (i := 662) (by decide +kernel)⟩
theorem lw_p12 : lw_okq (⟨"Delaypouch", "deliverSome", "(III)I"⟩, 7) := ⟨⟨by decide +kernel, by decide +kernel⟩, List.mem_of_getElem? (i := 28) (by decide +kernel), List.mem_of_getElem? (i := 670) (by decide +kernel), List.mem_of_getElem? (i := 671) (by decide +kernel)⟩
theorem lw_p13 : lw_okq (⟨"Delaypouch", "spraySome", "(III)I"⟩, 7) := ⟨⟨by decide +kernel, by decide +kernel⟩, List.mem_of_getElem? (i := 28) (by decide +kernel), List.mem_of_getElem? (i := 683) (by decide +kernel), List.mem_of_getElem? (i := 684) (by decide +kernel)⟩
theorem lw_p14 : lw_okq (⟨"Delaypouch", "spray", "(LDelaypouch$Bundle;II)Z"⟩, 7) := ⟨⟨by decide +kernel, by decide +kernel⟩, List.mem_of_getElem? (i := 28) (by decide +kernel), List.mem_of_getElem? (i := 687) (by decide +kernel), List.mem_of_getElem? (i := 688) (by decide +kernel)⟩
theorem lw_p15 : lw_okq (⟨"Delaypouch", "moveCustody", "(II)V"⟩, 7) := ⟨⟨by decide +kernel, by decide +kernel⟩, List.mem_of_getElem? (i := 28) (by decide +kernel), List.mem_of_getElem? (i := 695) (by decide +kernel), List.mem_of_getElem? (i := 696) (by decide +kernel)⟩
def lw_privs_1 : List (MethodName × Nat) := [(⟨"java/lang/Throwable", "fillInStackTrace", "(I)Ljava/lang/Throwable;"⟩, 6), (⟨"Delaypouch", "makeRoom", "(II)Z"⟩, 7), (⟨"Delaypouch", "countAt", "(I)I"⟩, 7), (⟨"Delaypouch", "lastWithoutCustody", "(I)LDelaypouch$Bundle;"⟩, 7), (⟨"Delaypouch", "placeInOrder", "(LDelaypouch$Bundle;)I"⟩, 7), (⟨"java/util/ArrayList", "rangeCheckForAdd", "(I)V"⟩, 3), (⟨"java/util/ArrayList", "outOfBoundsMsg", "(I)Ljava/lang/String;"⟩, 3), (⟨"java/util/ArrayList", "grow", "()[Ljava/lang/Object;"⟩, 3), (⟨"java/util/ArrayList", "grow", "(I)[Ljava/lang/Object;"⟩, 3), (⟨"java/util/ArrayList", "add", "(Ljava/lang/Object;[Ljava/lang/Object;I)V"⟩, 3), (⟨"Delaypouch", "exchangeReceipts", "(II)V"⟩, 7), (⟨"Delaypouch", "findSprays", "(II)V"⟩, 7), (⟨"Delaypouch", "deliverSome", "(III)I"⟩, 7), (⟨"Delaypouch", "spraySome", "(III)I"⟩, 7), (⟨"Delaypouch", "spray", "(LDelaypouch$Bundle;II)Z"⟩, 7), (⟨"Delaypouch", "moveCustody", "(II)V"⟩, 7)]
theorem lw_r1 : ∀ q ∈ lw_privs_1, lw_okq q := List.forall_mem_cons.mpr ⟨lw_p0, List.forall_mem_cons.mpr ⟨lw_p1, List.forall_mem_cons.mpr ⟨lw_p2, List.forall_mem_cons.mpr ⟨lw_p3, List.forall_mem_cons.mpr ⟨lw_p4, List.forall_mem_cons.mpr ⟨lw_p5, List.forall_mem_cons.mpr ⟨lw_p6, List.forall_mem_cons.mpr ⟨lw_p7, List.forall_mem_cons.mpr ⟨lw_p8, List.forall_mem_cons.mpr ⟨lw_p9, List.forall_mem_cons.mpr ⟨lw_p10, List.forall_mem_cons.mpr ⟨lw_p11, List.forall_mem_cons.mpr ⟨lw_p12, List.forall_mem_cons.mpr ⟨lw_p13, List.forall_mem_cons.mpr ⟨lw_p14, List.forall_mem_cons.mpr ⟨lw_p15, fun _ h => absurd h List.not_mem_nil⟩⟩⟩⟩⟩⟩⟩⟩⟩⟩⟩⟩⟩⟩⟩⟩
theorem lw_p16 : lw_okq (⟨"Delaypouch", "moveCustodyIfNearer", "(LDelaypouch$Bundle;II)V"⟩, 7) := ⟨⟨by decide +kernel, by decide +kernel⟩, List.mem_of_getElem? (i := 28) (by decide +kernel), List.mem_of_getElem? (i := 699) (by decide +kernel), List.mem_of_getElem? (i := 700) (by decide +kernel)⟩
theorem lw_p17 : lw_okq (⟨"Delaypouch$Plan", "start", "(II)V"⟩, 7) := ⟨⟨by decide +kernel, by decide +kernel⟩, List.mem_of_getElem? (i := 63) (by decide +kernel), List.mem_of_getElem? (i := 707) (by decide +kernel), List.mem_of_getElem? (i := 708) (by decide +kernel)⟩
theorem lw_p18 : lw_okq (⟨"Delaypouch$Plan", "nearestUnsettled", "()I"⟩, 7) := ⟨⟨by decide +kernel, by decide +kernel⟩, List.mem_of_getElem? (i := 63) (by decide +kernel), List.mem_of_getElem? (i := 712) (by decide +kernel), List.mem_of_getElem? (i := 713) (by decide +kernel)⟩
theorem lw_p19 : lw_okq (⟨"Delaypouch$Plan", "spread", "(I)V"⟩, 7) := ⟨⟨by decide +kernel, by decide +kernel⟩, List.mem_of_getElem? (i := 63) (by decide +kernel), List.mem_of_getElem? (i := 716) (by decide +kernel), List.mem_of_getElem? (i := 717) (by decide +kernel)⟩
theorem lw_p20 : lw_okq (⟨"Delaypouch$Plan", "carry", "(III)Z"⟩, 7) := ⟨⟨by decide +kernel, by decide +kernel⟩, List.mem_of_getElem? (i := 63) (by decide +kernel), List.mem_of_getElem? (i := 720) (by decide +kernel), List.mem_of_getElem? (i := 721) (by decide +kernel)⟩
theorem lw_p21 : lw_okq (⟨"Delaypouch", "numbered", "(I)LDelaypouch$Bundle;"⟩, 7) := ⟨⟨by decide +kernel, by decide +kernel⟩, List.mem_of_getElem? (i := 28) (by decide +kernel), List.mem_of_getElem? (i := 767) (by decide +kernel), List.mem_of_getElem? (i := 768) (by decide +kernel)⟩
theorem lw_p22 : lw_okq (⟨"DelaypouchModel", "between", "(III)Z"⟩, 21) := ⟨⟨by decide +kernel, by decide +kernel⟩, List.mem_of_getElem? (i := 876) (by decide +kernel), List.mem_of_getElem? (i := 954) (by decide +kernel), List.mem_of_getElem? (i := 955) (by decide +kernel)⟩
theorem lw_p23 : lw_okq (⟨"DelaypouchModel", "isNode", "(I)Z"⟩, 21) := ⟨⟨by decide +kernel, by decide +kernel⟩, List.mem_of_getElem? (i := 876) (by decide +kernel), List.mem_of_getElem? (i := 958) (by decide +kernel), List.mem_of_getElem? (i := 959) (by decide +kernel)⟩
theorem lw_p24 : lw_okq (⟨"DelaypouchModel", "holds", "(I)Z"⟩, 21) := ⟨⟨by decide +kernel, by decide +kernel⟩, List.mem_of_getElem? (i := 876) (by decide +kernel), List.mem_of_getElem? (i := 962) (by decide +kernel), List.mem_of_getElem? (i := 963) (by decide +kernel)⟩
theorem lw_p25 : lw_okq (⟨"DelaypouchModel", "hasRoom", "(II)Z"⟩, 21) := ⟨⟨by decide +kernel, by decide +kernel⟩, List.mem_of_getElem? (i := 876) (by decide +kernel), List.mem_of_getElem? (i := 966) (by decide +kernel), List.mem_of_getElem? (i := 967) (by decide +kernel)⟩
theorem lw_p26 : lw_okq (⟨"DelaypouchModel", "load", "(I)I"⟩, 21) := ⟨⟨by decide +kernel, by decide +kernel⟩, List.mem_of_getElem? (i := 876) (by decide +kernel), List.mem_of_getElem? (i := 970) (by decide +kernel), List.mem_of_getElem? (i := 971) (by decide +kernel)⟩
theorem lw_p27 : lw_okq (⟨"DelaypouchModel", "last", "(I)I"⟩, 21) := ⟨⟨by decide +kernel, by decide +kernel⟩, List.mem_of_getElem? (i := 876) (by decide +kernel), List.mem_of_getElem? (i := 974) (by decide +kernel), List.mem_of_getElem? (i := 975) (by decide +kernel)⟩
theorem lw_p28 : lw_okq (⟨"DelaypouchModel", "precedes", "(II)Z"⟩, 21) := ⟨⟨by decide +kernel, by decide +kernel⟩, List.mem_of_getElem? (i := 876) (by decide +kernel), List.mem_of_getElem? (i := 978) (by decide +kernel), List.mem_of_getElem? (i := 979) (by decide +kernel)⟩
theorem lw_p29 : lw_okq (⟨"DelaypouchModel", "talk", "(II)V"⟩, 21) := ⟨⟨by decide +kernel, by decide +kernel⟩, List.mem_of_getElem? (i := 876) (by decide +kernel), List.mem_of_getElem? (i := 986) (by decide +kernel), List.mem_of_getElem? (i := 987) (by decide +kernel)⟩
theorem lw_p30 : lw_okq (⟨"DelaypouchModel", "learn", "(II)V"⟩, 21) := ⟨⟨by decide +kernel, by decide +kernel⟩, List.mem_of_getElem? (i := 876) (by decide +kernel), List.mem_of_getElem? (i := 990) (by decide +kernel), List.mem_of_getElem? (i := 991) (by decide +kernel)⟩
theorem lw_p31 : lw_okq (⟨"DelaypouchModel", "gather", "(IIZI)I"⟩, 21) := ⟨⟨by decide +kernel, by decide +kernel⟩, List.mem_of_getElem? (i := 876) (by decide +kernel), List.mem_of_getElem? (i := 994) (by decide +kernel), List.mem_of_getElem? (i := 995) (by decide +kernel)⟩
def lw_privs_2 : List (MethodName × Nat) := [(⟨"Delaypouch", "moveCustodyIfNearer", "(LDelaypouch$Bundle;II)V"⟩, 7), (⟨"Delaypouch$Plan", "start", "(II)V"⟩, 7), (⟨"Delaypouch$Plan", "nearestUnsettled", "()I"⟩, 7), (⟨"Delaypouch$Plan", "spread", "(I)V"⟩, 7), (⟨"Delaypouch$Plan", "carry", "(III)Z"⟩, 7), (⟨"Delaypouch", "numbered", "(I)LDelaypouch$Bundle;"⟩, 7), (⟨"DelaypouchModel", "between", "(III)Z"⟩, 21), (⟨"DelaypouchModel", "isNode", "(I)Z"⟩, 21), (⟨"DelaypouchModel", "holds", "(I)Z"⟩, 21), (⟨"DelaypouchModel", "hasRoom", "(II)Z"⟩, 21), (⟨"DelaypouchModel", "load", "(I)I"⟩, 21), (⟨"DelaypouchModel", "last", "(I)I"⟩, 21), (⟨"DelaypouchModel", "precedes", "(II)Z"⟩, 21), (⟨"DelaypouchModel", "talk", "(II)V"⟩, 21), (⟨"DelaypouchModel", "learn", "(II)V"⟩, 21), (⟨"DelaypouchModel", "gather", "(IIZI)I"⟩, 21)]
theorem lw_r2 : ∀ q ∈ lw_privs_2, lw_okq q := List.forall_mem_cons.mpr ⟨lw_p16, List.forall_mem_cons.mpr ⟨lw_p17, List.forall_mem_cons.mpr ⟨lw_p18, List.forall_mem_cons.mpr ⟨lw_p19, List.forall_mem_cons.mpr ⟨lw_p20, List.forall_mem_cons.mpr ⟨lw_p21, List.forall_mem_cons.mpr ⟨lw_p22, List.forall_mem_cons.mpr ⟨lw_p23, List.forall_mem_cons.mpr ⟨lw_p24, List.forall_mem_cons.mpr ⟨lw_p25, List.forall_mem_cons.mpr ⟨lw_p26, List.forall_mem_cons.mpr ⟨lw_p27, List.forall_mem_cons.mpr ⟨lw_p28, List.forall_mem_cons.mpr ⟨lw_p29, List.forall_mem_cons.mpr ⟨lw_p30, List.forall_mem_cons.mpr ⟨lw_p31, fun _ h => absurd h List.not_mem_nil⟩⟩⟩⟩⟩⟩⟩⟩⟩⟩⟩⟩⟩⟩⟩⟩
theorem lw_p32 : lw_okq (⟨"DelaypouchModel", "wants", "(IIIZ)Z"⟩, 21) := ⟨⟨by decide +kernel, by decide +kernel⟩, List.mem_of_getElem? (i := 876) (by decide +kernel), List.mem_of_getElem? (i := 998) (by decide +kernel), List.mem_of_getElem? (i := 999) (by decide +kernel)⟩
theorem lw_p33 : lw_okq (⟨"DelaypouchModel", "deliver", "(III)I"⟩, 21) := ⟨⟨by decide +kernel, by decide +kernel⟩, List.mem_of_getElem? (i := 876) (by decide +kernel), List.mem_of_getElem? (i := 1002) (by decide +kernel), List.mem_of_getElem? (i := 1003) (by decide +kernel)⟩
theorem lw_p34 : lw_okq (⟨"DelaypouchModel", "spray", "(III)I"⟩, 21) := ⟨⟨by decide +kernel, by decide +kernel⟩, List.mem_of_getElem? (i := 876) (by decide +kernel), List.mem_of_getElem? (i := 1006) (by decide +kernel), List.mem_of_getElem? (i := 1007) (by decide +kernel)⟩
theorem lw_p35 : lw_okq (⟨"DelaypouchModel", "entrust", "(II)V"⟩, 21) := ⟨⟨by decide +kernel, by decide +kernel⟩, List.mem_of_getElem? (i := 876) (by decide +kernel), List.mem_of_getElem? (i := 1010) (by decide +kernel), List.mem_of_getElem? (i := 1011) (by decide +kernel)⟩
theorem lw_p36 : lw_okq (⟨"DelaypouchModel", "reach", "(II)I"⟩, 21) := ⟨⟨by decide +kernel, by decide +kernel⟩, List.mem_of_getElem? (i := 876) (by decide +kernel), List.mem_of_getElem? (i := 1014) (by decide +kernel), List.mem_of_getElem? (i := 1015) (by decide +kernel)⟩
theorem lw_p37 : lw_okq (⟨"DelaypouchModel", "begin", "(I)V"⟩, 21) := ⟨⟨by decide +kernel, by decide +kernel⟩, List.mem_of_getElem? (i := 876) (by decide +kernel), List.mem_of_getElem? (i := 1018) (by decide +kernel), List.mem_of_getElem? (i := 1019) (by decide +kernel)⟩
theorem lw_p38 : lw_okq (⟨"DelaypouchModel", "nearest", "()I"⟩, 21) := ⟨⟨by decide +kernel, by decide +kernel⟩, List.mem_of_getElem? (i := 876) (by decide +kernel), List.mem_of_getElem? (i := 1022) (by decide +kernel), List.mem_of_getElem? (i := 1023) (by decide +kernel)⟩
theorem lw_p39 : lw_okq (⟨"DelaypouchModel", "use", "(II)I"⟩, 21) := ⟨⟨by decide +kernel, by decide +kernel⟩, List.mem_of_getElem? (i := 876) (by decide +kernel), List.mem_of_getElem? (i := 1026) (by decide +kernel), List.mem_of_getElem? (i := 1027) (by decide +kernel)⟩
theorem lw_p40 : lw_okq (⟨"DelaypouchModel", "improve", "(II)V"⟩, 21) := ⟨⟨by decide +kernel, by decide +kernel⟩, List.mem_of_getElem? (i := 876) (by decide +kernel), List.mem_of_getElem? (i := 1030) (by decide +kernel), List.mem_of_getElem? (i := 1031) (by decide +kernel)⟩
theorem lw_p41 : lw_okq (⟨"DelaypouchModel", "plain", "(I)I"⟩, 21) := ⟨⟨by decide +kernel, by decide +kernel⟩, List.mem_of_getElem? (i := 876) (by decide +kernel), List.mem_of_getElem? (i := 1051) (by decide +kernel), List.mem_of_getElem? (i := 1052) (by decide +kernel)⟩
theorem lw_p42 : lw_okq (⟨"DelaypouchModel", "isBundle", "(I)Z"⟩, 21) := ⟨⟨by decide +kernel, by decide +kernel⟩, List.mem_of_getElem? (i := 876) (by decide +kernel), List.mem_of_getElem? (i := 1063) (by decide +kernel), List.mem_of_getElem? (i := 1064) (by decide +kernel)⟩
def lw_privs_3 : List (MethodName × Nat) := [(⟨"DelaypouchModel", "wants", "(IIIZ)Z"⟩, 21), (⟨"DelaypouchModel", "deliver", "(III)I"⟩, 21), (⟨"DelaypouchModel", "spray", "(III)I"⟩, 21), (⟨"DelaypouchModel", "entrust", "(II)V"⟩, 21), (⟨"DelaypouchModel", "reach", "(II)I"⟩, 21), (⟨"DelaypouchModel", "begin", "(I)V"⟩, 21), (⟨"DelaypouchModel", "nearest", "()I"⟩, 21), (⟨"DelaypouchModel", "use", "(II)I"⟩, 21), (⟨"DelaypouchModel", "improve", "(II)V"⟩, 21), (⟨"DelaypouchModel", "plain", "(I)I"⟩, 21), (⟨"DelaypouchModel", "isBundle", "(I)Z"⟩, 21)]
theorem lw_r3 : ∀ q ∈ lw_privs_3, lw_okq q := List.forall_mem_cons.mpr ⟨lw_p32, List.forall_mem_cons.mpr ⟨lw_p33, List.forall_mem_cons.mpr ⟨lw_p34, List.forall_mem_cons.mpr ⟨lw_p35, List.forall_mem_cons.mpr ⟨lw_p36, List.forall_mem_cons.mpr ⟨lw_p37, List.forall_mem_cons.mpr ⟨lw_p38, List.forall_mem_cons.mpr ⟨lw_p39, List.forall_mem_cons.mpr ⟨lw_p40, List.forall_mem_cons.mpr ⟨lw_p41, List.forall_mem_cons.mpr ⟨lw_p42, fun _ h => absurd h List.not_mem_nil⟩⟩⟩⟩⟩⟩⟩⟩⟩⟩⟩
def lw_privs : List (MethodName × Nat) := lw_privs_1 ++ (lw_privs_2 ++ (lw_privs_3))
def lw_tbl : List Cond := k2_sels lw_privs ++ tables_1
theorem lw_privs_ok : ∀ q ∈ lw_privs, lw_okq q := by
  show ∀ q ∈ lw_privs_1 ++ (lw_privs_2 ++ (lw_privs_3)), lw_okq q
  exact List.forall_mem_append.mpr ⟨lw_r1, List.forall_mem_append.mpr ⟨lw_r2, lw_r3⟩⟩
end
section
/-! ===== BEGIN words of one list among another's, by their places ===== -/
theorem goodIn_r {big : List Cond} (ws : List Cond) (ps : List Nat) (hp : ws = ps.filterMap (fun i => big[i]?)) (h : ws.all goodWord = true) : GoodIn big ws := by
  intro w hw
  have h1 := List.all_eq_true.mp h w hw
  rw [hp] at hw
  obtain ⟨i, -, hi⟩ := List.mem_filterMap.mp hw
  have hm : w ∈ big := by first | exact List.mem_of_getElem? hi | exact List.getElem?_mem hi
  exact ⟨hm, good_of_word h1⟩
theorem goodIn_app {big a b : List Cond} (ha : GoodIn big a) (hb : GoodIn big b) : GoodIn big (a ++ b) := fun w h => (List.mem_append.mp h).elim (ha w) (hb w)
theorem goodIn_ca {big a b : List Cond} {c : Cond} (ha : GoodIn big (c :: a)) (hb : GoodIn big b) : GoodIn big (c :: (a ++ b)) := fun w h => (List.mem_cons.mp h).elim (fun e => ha w (List.mem_cons.mpr (Or.inl e))) (fun h => (List.mem_append.mp h).elim (fun h => ha w (List.mem_cons.mpr (Or.inr h))) (hb w))
theorem goodIn_sub {big ws : List Cond} (hm : ∀ w ∈ ws, w ∈ big) (h : ws.all goodWord = true) : GoodIn big ws := fun w hw => ⟨hm w hw, good_of_word (List.all_eq_true.mp h w hw)⟩
/-! ===== END ===== -/

/-! ===== BEGIN exceptions that leave a method, and their catching by the caller (launches without stack traces) ===== -/
section VXA
/-! The laws vx_back, vx_callV, vx_callS, vx_callSW, vx_throw0, vx_throwS follow proofs of the library, with one case more: JvmDerived/Free/Laws.lean (Back.of_free), Shelf42/LK1.lean (callV, callS), Shelf/KitTraced.lean (throwNew0V, throwNewS). -/
/-- where a method has thrown q: the class by its name, the cell, what was written, the world -/
def vx_T (XC : String → State → State → Prop) (st : State) (q : Addr) (t : State) (mc ms : Nat) (free : Addr → Prop) : Prop :=
  ∃ (E : String) (ce : Cell) (L : List Loc), XC E st t ∧ t.heap[q]? = some ce ∧ ce.vm = .none ∧ st.vm.findClass E = some ce.cls ∧ st.WarmedH t.vm ∧ st.sameButNew ({ t with vm := st.vm } : State) L mc ms ∧ ∀ z ∈ L, free z.base
def vx_Q (Qc : Array Value → State → Outcome → State → Prop) (XC : String → State → State → Prop) (mc ms : Nat) (free : Addr → Prop) : Array Value → State → Outcome → State → Prop := fun a st o t =>
  (Qc a st o t ∧ ∃ L, FrameEnd st o t L mc ms ∧ ∀ q ∈ L, free q.base) ∨ ∃ q, o = .threw q ∧ vx_T XC st q t mc ms free
/-- a callee that returns or throws -/
def vx_Met (l : Launch) (y : MethodName) (ws : List Cond) (rm : Room) (Pc : Array Value → State → Prop) (Qc : Array Value → State → Outcome → State → Prop) (XC : String → State → State → Prop) (mc ms : Nat) (free : Addr → Prop) : Prop :=
  MetFree l y (headSpec ws rm) Pc (fun _ _ _ _ _ => True) (vx_Q Qc XC mc ms free)
def vx_Post (XC : String → State → State → Prop) (mc ms : Nat) (free : Addr → Prop) : Pt → Array Value → Addr → Pt → Prop := fun A a q B =>
  ∃ (g : JFrame) (mk : MethodId) (t : State) (L : List Loc) (E : String) (ce : Cell), B.U.heap = t.heap ∧ B.U.vm = t.vm ∧ XC E (A.U.calling g mk a) t ∧ t.heap[q]? = some ce ∧ ce.vm = .none ∧ A.U.vm.findClass E = some ce.cls ∧ B.locs = A.locs ++ L ∧ (∀ z ∈ L, free z.base) ∧ B.cells = A.cells + mc ∧ B.slots = A.slots + ms
def vx_Back (l : Launch) (R : Room) (p : Program) (e : Env) (below : List Frame) (s : State) (sargs : Array Value) (y : MethodName) (len W9 : Nat)
    (Pre : Pt → Array Value → Prop) (Post : Pt → Array Value → Option Value → Pt → Prop) (PostX : Pt → Array Value → Addr → Pt → Prop) : Prop :=
  ∀ (m : MethodId) (meth : Method) (c : Code) (A : Pt) (g : JFrame) (ig : Instr) (mk : MethodId) (a : Array Value),
    Stand p l e R s m sargs below meth c A.U A.locs A.cells A.slots → g.method = m → g.locals.size = c.maxLocals → decode c.code g.pc = .ok (ig, len) →
    2 * g.monitorRoom + (g.stack.map fun v => v.category).sum ≤ W9 → A.U.methodNamed? y = some mk → Pre A a →
    (∃ (v : Option Value) (B : Pt), Stand p l e R s m sargs below meth c B.U B.locs B.cells B.slots ∧ Post A a v B ∧
      Steps p.tables e below (doInvoke e (A.U.setTop g) [] mk a).1 (B.U.setTop { g with pc := g.pc + len, stack := v.toList ++ g.stack })) ∨
    (∃ (q : Addr) (B : Pt), Stand p l e R s m sargs below meth c B.U B.locs B.cells B.slots ∧ PostX A a q B ∧
      Steps p.tables e below (doInvoke e (A.U.setTop g) [] mk a).1 ((B.U.setTop g).pushFrame (.throwing q)))
section Payer
variable {l : Launch} {R : Room} {p : Program} {e : Env} {below : List Frame} {s : State} {sargs : Array Value} {y : MethodName} {len W9 : Nat}
theorem vx_back {ws : List Cond} {rm : Room} {Pc : Array Value → State → Prop} {Qc : Array Value → State → Outcome → State → Prop} {XC : String → State → State → Prop} {mc ms : Nat} {free : Addr → Prop} {bytes : ByteArray} {maxL : Nat} {ret : Option FieldType}
    (hM : vx_Met l y ws rm Pc Qc XC mc ms free) (hblind : FrameBlind Pc) (hrc : rm.cells = mc) (hrs : rm.slots = ms)
    (hframes : rm.frames + 1 ≤ R.frames) (hlocals : W9 + (maxL + 11) + rm.locals ≤ R.locals)
    (hws : ∀ w ∈ ws, ∀ a' U, s.WarmedH U.vm → w.before a' U = true) (hcode : Cond.code y bytes maxL ret ∈ ws) (hinit : ∀ a' U, s.WarmedH U.vm → (Cond.initialized y.cls).before a' U = true) :
    vx_Back l R p e below s sargs y len W9 (PreOf R mc ms Pc) (PostOf Qc mc ms free) (vx_Post XC mc ms free) := by
  intro m meth c A g ig mk a X hg hsize hdg hW hn hp
  have h1 : (headSpec ws rm).pre.before a A.U = true := atoms_intro fun w hw => hws w hw _ _ X.warmed
  have h2 : (Cond.code y bytes maxL ret).before a A.U = true := hws _ hcode _ _ X.warmed
  have h3 : (Cond.initialized y.cls).before a A.U = true := hinit _ _ X.warmed
  have h4 : A.cells + (headSpec ws rm).room.cells ≤ R.cells := by rw [show (headSpec ws rm).room.cells = mc from hrc]; exact hp.1
  have h5 : A.slots + (headSpec ws rm).room.slots ≤ R.slots := by rw [show (headSpec ws rm).room.slots = ms from hrs]; exact hp.2.1
  have hPc : Pc a (A.U.calling g mk a) := hblind _ _ _ _ hp.2.2
  obtain ⟨U, Ls, c0, s0⟩ := A
  dsimp only [Pt.U, Pt.locs, Pt.cells, Pt.slots] at h1 h2 h3 h4 h5 X hn hPc ⊢
  obtain ⟨methY, cY, hmY, hcY, -, hlY, -, -, -, -⟩ := Cond.code_spec hn h2
  obtain ⟨kY, hkY, -⟩ := className_of_methodNamed hn
  have hinitY : kY.init = .initialized := Cond.initialized_spec (findClass_of_methodNamed hn) hkY h3
  have h : At U g.method c below := by rw [hg]; exact X.here
  have hlocals9 : W9 + (maxL + 11) + (headSpec ws rm).room.locals ≤ R.locals := hlocals
  have happ : (headSpec ws rm).appliesLoose y e.platform (U.calling g mk a) = true :=
    Spec.appliesLoose_calling (g := g) h hdg hn hkY hinitY
      (X.room_calling (g := g) (R' := (headSpec ws rm).room) hsize hmY hcY hframes (by rw [hlY]; omega) h4 h5) h1
  obtain ⟨mid, hmid⟩ := h.above
  have hfr : (U.setTop g).frames = (.java g :: mid) ++ below := by rw [State.frames_setTop' g h.top, hmid]; rfl
  obtain ⟨o, s₂, hsteps, -, hend, hq⟩ := Steps.callFree hM p X.admits X.cas X.clock (acts := []) hfr happ hPc trivial
  have hq' : vx_Q Qc XC mc ms free a (U.calling g mk a) o s₂ := hq
  rw [State.frames_setTop' g h.top] at hend
  obtain ⟨g₀, hg0⟩ := Option.isSome_iff_exists.mp h.top
  obtain ⟨r, hr⟩ := State.topJava?_eq_some.mp hg0
  have hr' : (({ U with heap := s₂.heap, slotsUsed := s₂.slotsUsed } : State).setVm s₂.vm).frames = .java g₀ :: r := hr
  rcases hq' with ⟨hqc, L, hfe, hL⟩ | ⟨q, rfl, E, ce, L, hx, hce, hcv, hcl, hW₂, hsm, hL⟩
  · obtain ⟨⟨v, rfl⟩, hW₂, e2, q2, q3, q4, q5, q6⟩ := id hfe
    have e3 : s₂ = ({ (U.calling g mk a).setFrames s₂.frames with heap := s₂.heap, slotsUsed := s₂.slotsUsed } : State).setVm s₂.vm := by
      have : s₂ = ({ s₂ with vm := (U.calling g mk a).vm } : State).setVm s₂.vm := rfl
      rw [e2] at this
      exact this
    obtain ⟨c₂, i₂, len₂, hc₂, hd₂, hf₂⟩ := hend
    have hW' : U.WarmedH s₂.vm := hW₂
    have hcc : c₂ = c := by
      have h1 : s₂.code? g.method = U.code? g.method := by
        rw [State.code?_eq, State.code?_eq, hW'.alike.method?]
      exact Option.some.inj (hc₂.symm.trans (h1.trans h.code))
    subst hcc
    have hlen : len₂ = len := by rw [hdg] at hd₂; cases hd₂; rfl
    subst hlen
    have hs₂ : s₂ = (({ U with heap := s₂.heap, slotsUsed := s₂.slotsUsed } : State).setVm s₂.vm).setTop { g with pc := g.pc + len₂, stack := v.toList ++ g.stack } := by
      refine e3.trans ?_
      rw [hf₂, State.calling_eq h.top, State.setFrames_setFrames, State.setTop_of_frames _ hr', hr]
      rfl
    have hsame : U.sameButNew ({ U with heap := s₂.heap, slotsUsed := s₂.slotsUsed } : State) L mc ms := by
      refine ⟨?_, q2, q3, q4, q5, q6⟩
      obtain ⟨t, ht, -⟩ := State.frames_cons hr
      show ({ U with heap := s₂.heap, slotsUsed := s₂.slotsUsed } : State) = { U.setFrames U.frames with heap := s₂.heap, slotsUsed := s₂.slotsUsed }
      rw [State.setFrames_self ht]
    subst hg
    refine Or.inl ⟨v, ⟨(({ U with heap := s₂.heap, slotsUsed := s₂.slotsUsed } : State).setVm s₂.vm), Ls ++ L, c0 + mc, s0 + ms⟩,
      ⟨X.admits, X.cas, X.clock, X.frames, X.room, X.hears, X.method, X.code, (X.here.setHeapUsed s₂.heap s₂.slotsUsed).setVm hW'.alike, X.tail, State.WarmedH.trans X.warmed hW', X.limits, X.bytes, X.same.trans (hsame.setVm s.vm)⟩,
      ⟨g, mk, s₂, L, rfl, rfl, hqc, rfl, hL, rfl, rfl⟩, ?_⟩
    show Steps p.tables e below _ ((({ U with heap := s₂.heap, slotsUsed := s₂.slotsUsed } : State).setVm s₂.vm).setTop { g with pc := g.pc + len₂, stack := v.toList ++ g.stack })
    rw [← hs₂]
    exact hsteps
  · obtain ⟨e2, q2, q3, q4, q5, q6⟩ := id hsm
    have e3 : s₂ = ({ (U.calling g mk a).setFrames s₂.frames with heap := s₂.heap, slotsUsed := s₂.slotsUsed } : State).setVm s₂.vm := by
      have : s₂ = ({ s₂ with vm := (U.calling g mk a).vm } : State).setVm s₂.vm := rfl
      rw [e2] at this
      exact this
    have hf₂ : s₂.frames = .throwing q :: .java g :: U.frames.tail := hend
    have hW' : U.WarmedH s₂.vm := hW₂
    have hs₂ : s₂ = ((({ U with heap := s₂.heap, slotsUsed := s₂.slotsUsed } : State).setVm s₂.vm).setTop g).pushFrame (.throwing q) := by
      refine e3.trans ?_
      rw [hf₂, State.calling_eq h.top, State.setFrames_setFrames, State.pushFrame, State.frames_setTop _ hr', State.setTop_of_frames _ hr', State.setFrames_setFrames, hr]
      rfl
    have hsame : U.sameButNew ({ U with heap := s₂.heap, slotsUsed := s₂.slotsUsed } : State) L mc ms := by
      refine ⟨?_, q2, q3, q4, q5, q6⟩
      obtain ⟨t, ht, -⟩ := State.frames_cons hr
      show ({ U with heap := s₂.heap, slotsUsed := s₂.slotsUsed } : State) = { U.setFrames U.frames with heap := s₂.heap, slotsUsed := s₂.slotsUsed }
      rw [State.setFrames_self ht]
    subst hg
    refine Or.inr ⟨q, ⟨(({ U with heap := s₂.heap, slotsUsed := s₂.slotsUsed } : State).setVm s₂.vm), Ls ++ L, c0 + mc, s0 + ms⟩,
      ⟨X.admits, X.cas, X.clock, X.frames, X.room, X.hears, X.method, X.code, (X.here.setHeapUsed s₂.heap s₂.slotsUsed).setVm hW'.alike, X.tail, State.WarmedH.trans X.warmed hW', X.limits, X.bytes, X.same.trans (hsame.setVm s.vm)⟩,
      ⟨g, mk, s₂, L, E, ce, rfl, rfl, hx, hce, hcv, hcl, rfl, hL, rfl, rfl⟩, ?_⟩
    show Steps p.tables e below _ (((({ U with heap := s₂.heap, slotsUsed := s₂.slotsUsed } : State).setVm s₂.vm).setTop g).pushFrame (.throwing q))
    rw [← hs₂]
    exact hsteps
end Payer
section Calls
variable {p : Program} {l : Launch} {e : Env} {R : Room} {s : State} {m : MethodId} {args : Array Value} {below : List Frame} {meth : Method} {c : Code} {T : State} {locs : List Loc} {cells slots : Nat}
theorem vx_callV (X : Stand p l e R s m args below meth c T locs cells slots) (hexec : p.tables.exec = Jvm.exec) {own C : String} {index : Nat} {y : MethodName} {bytes : ByteArray} {maxL : Nat} {ret : Option FieldType}
    (hown : s.vm.findClass own = some m.cls) (hlink : (Cond.methodLink own index y).before args s = true) (hinst : (Cond.instanceMethod y).before args s = true) (hsel : (Cond.selects C y y).before args s = true)
    (hcode : (Cond.code y bytes maxL ret).before args s = true) (hy : y.cls ≠ "java/lang/invoke/MethodHandle" ∧ y.cls ≠ "java/lang/invoke/VarHandle")
    {W9 : Nat} {Pre : Pt → Array Value → Prop} {Post : Pt → Array Value → Option Value → Pt → Prop} {PostX : Pt → Array Value → Addr → Pt → Prop} (hK : vx_Back l R p e below s args y 3 W9 Pre Post PostX)
    {b : Addr} {cellB : Cell} (hcell : T.heap[b]? = some cellB) (hobj : cellB.vm.isStatics = false) (hcls : s.vm.findClass C = some cellB.cls)
    {g : JFrame} (hg : g.method = m) (hsize : g.locals.size = c.maxLocals) {argsL rest : List Value} (hlen : ∀ sig, parseMethodDescriptor y.desc = some sig → argsL.length = sig.parameters.length)
    (hstack : g.stack = argsL.reverse ++ .ref b :: rest) (hW : 2 * g.monitorRoom + (rest.map fun v => v.category).sum ≤ W9) (hdg : decode c.code g.pc = .ok (.invokevirtual index, 3))
    (hpre : ∀ vm₁, s.WarmedH vm₁ → Pre ⟨T.setVm vm₁, locs, cells, slots⟩ (Value.ref b :: argsL).toArray) :
    (∃ (v : Option Value) (vm₁ : Vm) (B : Pt), s.WarmedH vm₁ ∧ Stand p l e R s m args below meth c B.U B.locs B.cells B.slots ∧ Post ⟨T.setVm vm₁, locs, cells, slots⟩ (Value.ref b :: argsL).toArray v B ∧
      ∀ target, Steps p.tables e below (B.U.setTop { g with pc := g.pc + 3, stack := v.toList ++ rest }) target → Steps p.tables e below (T.setTop g) target) ∨
    (∃ (q : Addr) (vm₁ : Vm) (B : Pt), s.WarmedH vm₁ ∧ Stand p l e R s m args below meth c B.U B.locs B.cells B.slots ∧ PostX ⟨T.setVm vm₁, locs, cells, slots⟩ (Value.ref b :: argsL).toArray q B ∧
      Steps p.tables e below (T.setTop g) ((B.U.setTop { g with stack := rest }).pushFrame (.throwing q))) := by
  obtain ⟨mk, methM, hnamed, hmethM, hstM, habM⟩ := Cond.instanceMethod_spec hinst
  obtain ⟨methM', cM, hmethM', -, -, -, -, -, -, hsigM⟩ := Cond.code_spec hnamed hcode
  cases hmethM.symm.trans hmethM'
  obtain ⟨c2, r2, m2, q1, q2, q3, q4, kP, hkP, hkPi⟩ := Cond.selects_spec hsel
  cases hcls.symm.trans q1
  cases (State.methodFound?_of_named hnamed hy).symm.trans q2
  cases hnamed.symm.trans q3
  have hselP : selectMethod e.platform s.vm cellB.cls mk = .method mk := by rw [Launch.admits_selectMethod X.admits]; exact q4
  obtain ⟨vm₁, X₁, hstep₁⟩ := X.invokevirtual hexec hown hlink hnamed hmethM hstM hkP hkPi hy (a := b) (cell := cellB) hcell
    (fun z h => by rw [h] at hobj; cases hobj) hselP hmethM habM hkP hkPi (g := g) hg (argsL := argsL) (rest := rest) (hlen _ hsigM) hstack hdg
  rcases hK m meth c ⟨T.setVm vm₁, locs, cells, slots⟩ { g with stack := rest } (.invokevirtual index) mk (Value.ref b :: argsL).toArray X₁ hg hsize hdg hW (X₁.named hnamed) (hpre vm₁ X₁.warmed) with ⟨v, B, X', hpost, hsteps⟩ | ⟨q, B, X', hpost, hsteps⟩
  · exact Or.inl ⟨v, vm₁, B, X₁.warmed, X', hpost, fun target h => hstep₁ _ fun acts => by rw [doInvoke_state]; exact hsteps.trans h⟩
  · exact Or.inr ⟨q, vm₁, B, X₁.warmed, X', hpost, hstep₁ _ fun acts => by rw [doInvoke_state]; exact hsteps⟩
theorem vx_callS (X : Stand p l e R s m args below meth c T locs cells slots) (hexec : p.tables.exec = Jvm.exec) {own : String} {index : Nat} {y : MethodName} {bytes : ByteArray} {maxL : Nat} {ret : Option FieldType}
    (hown : s.vm.findClass own = some m.cls) (hlink : (Cond.methodLink own index y).before args s = true) (hstat : (Cond.static y).before args s = true) (hinit : (Cond.initialized y.cls).before args s = true)
    (hcode : (Cond.code y bytes maxL ret).before args s = true) (hy : y.cls ≠ "java/lang/invoke/MethodHandle" ∧ y.cls ≠ "java/lang/invoke/VarHandle")
    {W9 : Nat} {Pre : Pt → Array Value → Prop} {Post : Pt → Array Value → Option Value → Pt → Prop} {PostX : Pt → Array Value → Addr → Pt → Prop} (hK : vx_Back l R p e below s args y 3 W9 Pre Post PostX)
    {g : JFrame} (hg : g.method = m) (hsize : g.locals.size = c.maxLocals) {argsL rest : List Value} (hlen : ∀ sig, parseMethodDescriptor y.desc = some sig → argsL.length = sig.parameters.length)
    (hstack : g.stack = argsL.reverse ++ rest) (hW : 2 * g.monitorRoom + (rest.map fun v => v.category).sum ≤ W9) (hdg : decode c.code g.pc = .ok (.invokestatic index, 3))
    (hpre : ∀ vm₁, s.WarmedH vm₁ → Pre ⟨T.setVm vm₁, locs, cells, slots⟩ argsL.toArray) :
    (∃ (v : Option Value) (vm₁ : Vm) (B : Pt), s.WarmedH vm₁ ∧ Stand p l e R s m args below meth c B.U B.locs B.cells B.slots ∧ Post ⟨T.setVm vm₁, locs, cells, slots⟩ argsL.toArray v B ∧
      ∀ target, Steps p.tables e below (B.U.setTop { g with pc := g.pc + 3, stack := v.toList ++ rest }) target → Steps p.tables e below (T.setTop g) target) ∨
    (∃ (q : Addr) (vm₁ : Vm) (B : Pt), s.WarmedH vm₁ ∧ Stand p l e R s m args below meth c B.U B.locs B.cells B.slots ∧ PostX ⟨T.setVm vm₁, locs, cells, slots⟩ argsL.toArray q B ∧
      Steps p.tables e below (T.setTop g) ((B.U.setTop { g with stack := rest }).pushFrame (.throwing q))) := by
  obtain ⟨mk, hnamed⟩ := Cond.code_named hcode
  obtain ⟨methM, cM, hmethM, -, -, -, -, -, -, hsigM⟩ := Cond.code_spec hnamed hcode
  have hstatic : methM.isStatic = true := Cond.static_spec hnamed hmethM hstat
  obtain ⟨kP, hkP, -⟩ := className_of_methodNamed hnamed
  have hinitP : kP.init = .initialized := Cond.initialized_spec (findClass_of_methodNamed hnamed) hkP hinit
  obtain ⟨vm₁, X₁, hstep₁⟩ := X.invokestatic hexec hown hlink hnamed hmethM hstatic hkP hinitP hy (g := g) hg (argsL := argsL) (rest := rest) (hlen _ hsigM) hstack hdg
  rcases hK m meth c ⟨T.setVm vm₁, locs, cells, slots⟩ { g with stack := rest } (.invokestatic index) mk argsL.toArray X₁ hg hsize hdg hW (X₁.named hnamed) (hpre vm₁ X₁.warmed) with ⟨v, B, X', hpost, hsteps⟩ | ⟨q, B, X', hpost, hsteps⟩
  · exact Or.inl ⟨v, vm₁, B, X₁.warmed, X', hpost, fun target h => hstep₁ _ fun acts => by rw [doInvoke_state]; exact hsteps.trans h⟩
  · exact Or.inr ⟨q, vm₁, B, X₁.warmed, X', hpost, hstep₁ _ fun acts => by rw [doInvoke_state]; exact hsteps⟩
end Calls
theorem vx_cls {s : State} {T : State} {vm₁ : Vm} {E : String} {k : ClassId} (hW : s.WarmedH vm₁) (h : (T.setVm vm₁).vm.findClass E = some k) : s.vm.findClass E = some k := by
  have h1 : vm₁.findClass E = some k := h
  rw [hW.alike.findClass] at h1
  exact h1
/-- the method's frame g, with q thrown over it -/
def vx_W (p : Program) (l : Launch) (e : Env) (R : Room) (s : State) (m : MethodId) (args : Array Value) (below : List Frame) (meth : Method) (c : Code) (H : Heap) (locs : List Loc) (cells slots : Nat) (Q : State → Prop) (g : JFrame) (q : Addr) : Prop :=
  ∀ T : State, T.heap = H → Stand p l e R s m args below meth c T locs cells slots → ∃ t, Steps p.tables e below ((T.setTop g).pushFrame (.throwing q)) t ∧ Q t
def vx_Run (p : Program) (l : Launch) (e : Env) (R : Room) (s : State) (m : MethodId) (args : Array Value) (below : List Frame) (meth : Method) (c : Code) (H : Heap) (locs : List Loc) (cells slots mc ms : Nat) (g : JFrame) (rest : List Value) (Qa : State → Outcome → State → Prop) (XC : String → State → State → Prop) (free : Addr → Prop) : Prop :=
  ∀ T : State, T.heap = H → Stand p l e R s m args below meth c T locs cells slots →
    (∃ (v : Option Value) (st₀ t T' : State) (L : List Loc), st₀.heap = H ∧ Stand p l e R s m args below meth c T' (locs ++ L) (cells + mc) (slots + ms) ∧ (∀ q ∈ L, free q.base) ∧ T'.heap = t.heap ∧ T'.vm = t.vm ∧ Qa st₀ (.returned v) t ∧
      Goes p e below T g T' { g with pc := g.pc + 3, stack := v.toList ++ rest }) ∨
    (∃ (q : Addr) (st₀ t T' : State) (L : List Loc) (E : String) (ce : Cell), st₀.heap = H ∧ Stand p l e R s m args below meth c T' (locs ++ L) (cells + mc) (slots + ms) ∧ (∀ z ∈ L, free z.base) ∧ T'.heap = t.heap ∧ T'.vm = t.vm ∧ XC E st₀ t ∧ t.heap[q]? = some ce ∧ ce.vm = .none ∧ s.vm.findClass E = some ce.cls ∧
      Steps p.tables e below (T.setTop g) ((T'.setTop { g with stack := rest }).pushFrame (.throwing q)))
def vx_X {S : Type} (px : S → Prop) (B : String → S → State → Prop) (A : Nat → Prop) : String → State → State → Prop := fun E st t => ∃ u : S, px u ∧ B E u t ∧ va_F A st t
section Runs
variable {p : Program} {l : Launch} {e : Env} {R : Room} {s : State} {m : MethodId} {args : Array Value} {below : List Frame} {meth : Method} {c : Code} {H : Heap} {locs : List Loc} {cells slots : Nat}
variable {y : MethodName} {bytes cc : ByteArray} {maxL nL mc ms n index : Nat} {ret : Option FieldType} {ws : List Cond} {rm : Room} {Pc : Array Value → State → Prop} {Qc : Array Value → State → Outcome → State → Prop} {XC : String → State → State → Prop} {free : Addr → Prop} {Ts : List Cond} {own C : String} {b : Addr} {As rest : List Value} {g : JFrame}
theorem vx_callBack (cb : CallB R s args own index y bytes maxL ret ws rm mc ms n) (hM : vx_Met l y ws rm Pc Qc XC mc ms free) (hbl : FrameBlind Pc) : vx_Back l R p e below s args y 3 8 (PreOf R mc ms Pc) (PostOf Qc mc ms free) (vx_Post XC mc ms free) := by
  obtain ⟨hrc, hrs, hfr, hlo, hws, hcw, -, hini, -⟩ := cb
  exact vx_back (bytes := bytes) (maxL := maxL) (ret := ret) hM hbl hrc hrs hfr hlo hws hcw (fun a' U hW => word_at hW (Or.inl (by first | rfl | simp [Cond.onTables, Cond.keeps, Cond.steady])) hini)
theorem vx_runV (S : CallFix p m c cc nL s args Ts own) (hM : vx_Met l y ws rm Pc Qc XC mc ms free) (cw : CallW R s args own C index y bytes maxL ret ws rm mc ms n) (hp : PreV s H C b Pc As)
    (hg : g.method = m) (hn : As.length = n) (hsize : g.locals.size = nL) (hstack : g.stack = As.reverse ++ .ref b :: rest) (hW : 2 * g.monitorRoom + (rest.map fun v => v.category).sum ≤ 8) (hdg : decode cc g.pc = .ok (.invokevirtual index, 3)) (hf : cells + mc ≤ R.cells ∧ slots + ms ≤ R.slots) :
    vx_Run p l e R s m args below meth c H locs cells slots mc ms g rest (Qc (Value.ref b :: As).toArray) XC free := by
  have hK : vx_Back l R p e below s args y 3 8 (PreOf R mc ms Pc) (PostOf Qc mc ms free) (vx_Post XC mc ms free) := vx_callBack cw.1 hM hp.1
  obtain ⟨⟨-, -, -, -, -, -, hcode, -, hy, hlen, hl⟩, hin, hse⟩ := cw
  obtain ⟨hx, hb, hml, ho, -⟩ := S
  obtain ⟨-, ⟨cellB, hcB, hoB, hclB⟩, hPc⟩ := hp
  intro T hT X
  rcases vx_callV X hx (C := C) (bytes := bytes) (maxL := maxL) (ret := ret) ho hl hin hse hcode hy hK (by rw [hT]; exact hcB) hoB hclB hg (hsize.trans hml.symm) (argsL := As) (rest := rest) (fun sig h => hn.trans (hlen sig h)) hstack hW (by rw [hb]; exact hdg)
    (fun vm₁ hW₁ => ⟨hf.1, hf.2, hPc (T.setVm vm₁) hT hW₁⟩) with ⟨v, vm₁, ⟨U', l2, c2, s2⟩, hW₁, X', ⟨g', mk, t, L, e1, e2, hq, h1, hL, h2, h3⟩, st⟩ | ⟨q, vm₁, ⟨U', l2, c2, s2⟩, hW₁, X', ⟨g', mk, t, L, E, ce, e1, e2, hq, hce, hcv, hcl, h1, hL, h2, h3⟩, st⟩
  · dsimp only [Pt.U, Pt.locs, Pt.cells, Pt.slots] at X' e1 e2 h1 h2 h3 st
    subst h1; subst h2; subst h3
    exact Or.inl ⟨v, (T.setVm vm₁).calling g' mk (Value.ref b :: As).toArray, t, U', L, hT, X', hL, e1, e2, hq, st⟩
  · dsimp only [Pt.U, Pt.locs, Pt.cells, Pt.slots] at X' e1 e2 h1 h2 h3 st hcl
    subst h1; subst h2; subst h3
    exact Or.inr ⟨q, (T.setVm vm₁).calling g' mk (Value.ref b :: As).toArray, t, U', L, E, ce, hT, X', hL, e1, e2, hq, hce, hcv, vx_cls hW₁ hcl, st⟩
theorem vx_runS (S : CallFix p m c cc nL s args Ts own) (hM : vx_Met l y ws rm Pc Qc XC mc ms free) (cw : CallB R s args own index y bytes maxL ret ws rm mc ms n ∧ (Cond.static y).before args s = true) (hp : PreS s H Pc As)
    (hg : g.method = m) (hn : As.length = n) (hsize : g.locals.size = nL) (hstack : g.stack = As.reverse ++ rest) (hW : 2 * g.monitorRoom + (rest.map fun v => v.category).sum ≤ 8) (hdg : decode cc g.pc = .ok (.invokestatic index, 3)) (hf : cells + mc ≤ R.cells ∧ slots + ms ≤ R.slots) :
    vx_Run p l e R s m args below meth c H locs cells slots mc ms g rest (Qc As.toArray) XC free := by
  have hK : vx_Back l R p e below s args y 3 8 (PreOf R mc ms Pc) (PostOf Qc mc ms free) (vx_Post XC mc ms free) := vx_callBack cw.1 hM hp.1
  obtain ⟨⟨-, -, -, -, -, -, hcode, hini, hy, hlen, hl⟩, hstt⟩ := cw
  obtain ⟨hx, hb, hml, ho, -⟩ := S
  intro T hT X
  rcases vx_callS X hx (bytes := bytes) (maxL := maxL) (ret := ret) ho hl hstt hini hcode hy hK hg (hsize.trans hml.symm) (argsL := As) (rest := rest) (fun sig h => hn.trans (hlen sig h)) hstack hW (by rw [hb]; exact hdg)
    (fun vm₁ hW₁ => ⟨hf.1, hf.2, hp.2 (T.setVm vm₁) hT hW₁⟩) with ⟨v, vm₁, ⟨U', l2, c2, s2⟩, hW₁, X', ⟨g', mk, t, L, e1, e2, hq, h1, hL, h2, h3⟩, st⟩ | ⟨q, vm₁, ⟨U', l2, c2, s2⟩, hW₁, X', ⟨g', mk, t, L, E, ce, e1, e2, hq, hce, hcv, hcl, h1, hL, h2, h3⟩, st⟩
  · dsimp only [Pt.U, Pt.locs, Pt.cells, Pt.slots] at X' e1 e2 h1 h2 h3 st
    subst h1; subst h2; subst h3
    exact Or.inl ⟨v, (T.setVm vm₁).calling g' mk As.toArray, t, U', L, hT, X', hL, e1, e2, hq, st⟩
  · dsimp only [Pt.U, Pt.locs, Pt.cells, Pt.slots] at X' e1 e2 h1 h2 h3 st hcl
    subst h1; subst h2; subst h3
    exact Or.inr ⟨q, (T.setVm vm₁).calling g' mk As.toArray, t, U', L, E, ce, hT, X', hL, e1, e2, hq, hce, hcv, vx_cls hW₁ hcl, st⟩
end Runs
section Rows
variable {p : Program} {l : Launch} {e : Env} {R : Room} {s : State} {m : MethodId} {args : Array Value} {below : List Frame} {meth : Method} {c : Code} {H : Heap} {locs : List Loc} {cells slots : Nat} {Q : State → Prop}
variable {mc ms : Nat} {free : Addr → Prop} {A0 A1 : Nat → Prop} {H0 : Heap} {a : Array Value} {pc : Nat} {ls : Array Slot} {st0 rest : List Value}
theorem vx_keep {st₀ t T' : State} {L : List Loc} (h0 : st₀.heap = H) (e1 : T'.heap = t.heap) (hS : va_S A0 H0 H locs) (hA : ∀ q, q < H.size → A1 q → A0 q) (hf : ∀ q, free q → A0 q) (hL : ∀ q ∈ L, free q.base) (hF : va_F A1 st₀ t) :
    H.size ≤ T'.heap.size ∧ (∀ q : Nat, q < H.size → ¬ A1 q → T'.heap[q]? = H[q]?) ∧ va_S A0 H0 T'.heap (locs ++ L) := by
  obtain ⟨hz, hk⟩ := hF
  rw [h0] at hz hk
  exact ⟨by rw [e1]; exact hz, fun q h1 h2 => by rw [e1]; exact hk q h1 h2,
    ⟨Nat.le_trans hS.1 (by rw [e1]; exact hz), fun q h1 h2 => by rw [e1, hk q (Nat.lt_of_lt_of_le h1 hS.1) (fun z => h2 (hA q (Nat.lt_of_lt_of_le h1 hS.1) z))]; exact hS.2.1 q h1 h2, fun q hq => by
      rcases List.mem_append.mp hq with h | h
      · exact hS.2.2 q h
      · exact hf _ (hL q h)⟩⟩
theorem vx_calli {S SX : Type} {post : Int32 → S → Prop} {px : SX → Prop} {B : S → State → Prop} {BX : String → SX → State → Prop} {AX : Nat → Prop} (hr : vx_Run p l e R s m args below meth c H locs cells slots mc ms (F0 m pc ls st0) rest (va_Qi post B A1 a) (vx_X px BX AX) free) (hS : va_S A0 H0 H locs) (hA : ∀ q, q < H.size → A1 q → A0 q) (hf : ∀ q, free q → A0 q) (hAX : ∀ q, q < H.size → AX q → A0 q)
    (kx : ∀ (E : String) (ce : Cell) (q9 : Addr) (u : SX) (t : State) (H1 : Heap) (locs1 : List Loc), t.heap = H1 → s.vm.Alike t.vm → px u → BX E u t → H.size ≤ H1.size → (∀ q : Nat, q < H.size → ¬ AX q → H1[q]? = H[q]?) → va_S A0 H0 H1 locs1 → H1[q9]? = some ce → ce.vm = .none → s.vm.findClass E = some ce.cls → vx_W p l e R s m args below meth c H1 locs1 (cells + mc) (slots + ms) Q (F0 m pc ls rest) q9)
    (kk : ∀ (r : Int32) (u : S) (t : State) (H1 : Heap) (locs1 : List Loc), t.heap = H1 → s.vm.Alike t.vm → post r u → B u t → H.size ≤ H1.size → (∀ q : Nat, q < H.size → ¬ A1 q → H1[q]? = H[q]?) → va_S A0 H0 H1 locs1 → W p l e R s m args below meth c H1 locs1 (cells + mc) (slots + ms) Q (F0 m (pc + 3) ls (.int r :: rest))) : W p l e R s m args below meth c H locs cells slots Q (F0 m pc ls st0) := by
  intro T hT X
  rcases hr T hT X with ⟨v, st₀, t, T', L, h0, X', hL, e1, e2, ⟨⟨r, u, hv, hp, hb⟩, hF⟩, st⟩ | ⟨q, st₀, t, T', L, E, ce, h0, X', hL, e1, e2, ⟨u, hp, hb, hF⟩, hce, hcv, hcl, st⟩
  · cases hv
    obtain ⟨k1, k2, k3⟩ := vx_keep h0 e1 hS hA hf hL hF
    obtain ⟨t2, a1, b1⟩ := kk r u t T'.heap (locs ++ L) e1.symm (by rw [← e2]; exact X'.warmed.alike) hp hb k1 k2 k3 T' rfl X'
    exact ⟨t2, st t2 a1, b1⟩
  · obtain ⟨k1, k2, k3⟩ := vx_keep h0 e1 hS hAX hf hL hF
    obtain ⟨t2, a1, b1⟩ := kx E ce q u t T'.heap (locs ++ L) e1.symm (by rw [← e2]; exact X'.warmed.alike) hp hb k1 k2 k3 (by rw [e1]; exact hce) hcv hcl T' rfl X'
    exact ⟨t2, st.trans a1, b1⟩
theorem vx_calll {S SX : Type} {post : Int64 → S → Prop} {px : SX → Prop} {B : S → State → Prop} {BX : String → SX → State → Prop} {AX : Nat → Prop} (hr : vx_Run p l e R s m args below meth c H locs cells slots mc ms (F0 m pc ls st0) rest (va_Ql post B A1 a) (vx_X px BX AX) free) (hS : va_S A0 H0 H locs) (hA : ∀ q, q < H.size → A1 q → A0 q) (hf : ∀ q, free q → A0 q) (hAX : ∀ q, q < H.size → AX q → A0 q)
    (kx : ∀ (E : String) (ce : Cell) (q9 : Addr) (u : SX) (t : State) (H1 : Heap) (locs1 : List Loc), t.heap = H1 → s.vm.Alike t.vm → px u → BX E u t → H.size ≤ H1.size → (∀ q : Nat, q < H.size → ¬ AX q → H1[q]? = H[q]?) → va_S A0 H0 H1 locs1 → H1[q9]? = some ce → ce.vm = .none → s.vm.findClass E = some ce.cls → vx_W p l e R s m args below meth c H1 locs1 (cells + mc) (slots + ms) Q (F0 m pc ls rest) q9)
    (kk : ∀ (r : Int64) (u : S) (t : State) (H1 : Heap) (locs1 : List Loc), t.heap = H1 → s.vm.Alike t.vm → post r u → B u t → H.size ≤ H1.size → (∀ q : Nat, q < H.size → ¬ A1 q → H1[q]? = H[q]?) → va_S A0 H0 H1 locs1 → W p l e R s m args below meth c H1 locs1 (cells + mc) (slots + ms) Q (F0 m (pc + 3) ls (.long r :: rest))) : W p l e R s m args below meth c H locs cells slots Q (F0 m pc ls st0) := by
  intro T hT X
  rcases hr T hT X with ⟨v, st₀, t, T', L, h0, X', hL, e1, e2, ⟨⟨r, u, hv, hp, hb⟩, hF⟩, st⟩ | ⟨q, st₀, t, T', L, E, ce, h0, X', hL, e1, e2, ⟨u, hp, hb, hF⟩, hce, hcv, hcl, st⟩
  · cases hv
    obtain ⟨k1, k2, k3⟩ := vx_keep h0 e1 hS hA hf hL hF
    obtain ⟨t2, a1, b1⟩ := kk r u t T'.heap (locs ++ L) e1.symm (by rw [← e2]; exact X'.warmed.alike) hp hb k1 k2 k3 T' rfl X'
    exact ⟨t2, st t2 a1, b1⟩
  · obtain ⟨k1, k2, k3⟩ := vx_keep h0 e1 hS hAX hf hL hF
    obtain ⟨t2, a1, b1⟩ := kx E ce q u t T'.heap (locs ++ L) e1.symm (by rw [← e2]; exact X'.warmed.alike) hp hb k1 k2 k3 (by rw [e1]; exact hce) hcv hcl T' rfl X'
    exact ⟨t2, st.trans a1, b1⟩
theorem vx_callf {S SX : Type} {post : UInt32 → S → Prop} {px : SX → Prop} {B : S → State → Prop} {BX : String → SX → State → Prop} {AX : Nat → Prop} (hr : vx_Run p l e R s m args below meth c H locs cells slots mc ms (F0 m pc ls st0) rest (va_Qf post B A1 a) (vx_X px BX AX) free) (hS : va_S A0 H0 H locs) (hA : ∀ q, q < H.size → A1 q → A0 q) (hf : ∀ q, free q → A0 q) (hAX : ∀ q, q < H.size → AX q → A0 q)
    (kx : ∀ (E : String) (ce : Cell) (q9 : Addr) (u : SX) (t : State) (H1 : Heap) (locs1 : List Loc), t.heap = H1 → s.vm.Alike t.vm → px u → BX E u t → H.size ≤ H1.size → (∀ q : Nat, q < H.size → ¬ AX q → H1[q]? = H[q]?) → va_S A0 H0 H1 locs1 → H1[q9]? = some ce → ce.vm = .none → s.vm.findClass E = some ce.cls → vx_W p l e R s m args below meth c H1 locs1 (cells + mc) (slots + ms) Q (F0 m pc ls rest) q9)
    (kk : ∀ (r : UInt32) (u : S) (t : State) (H1 : Heap) (locs1 : List Loc), t.heap = H1 → s.vm.Alike t.vm → post r u → B u t → H.size ≤ H1.size → (∀ q : Nat, q < H.size → ¬ A1 q → H1[q]? = H[q]?) → va_S A0 H0 H1 locs1 → W p l e R s m args below meth c H1 locs1 (cells + mc) (slots + ms) Q (F0 m (pc + 3) ls (.float r :: rest))) : W p l e R s m args below meth c H locs cells slots Q (F0 m pc ls st0) := by
  intro T hT X
  rcases hr T hT X with ⟨v, st₀, t, T', L, h0, X', hL, e1, e2, ⟨⟨r, u, hv, hp, hb⟩, hF⟩, st⟩ | ⟨q, st₀, t, T', L, E, ce, h0, X', hL, e1, e2, ⟨u, hp, hb, hF⟩, hce, hcv, hcl, st⟩
  · cases hv
    obtain ⟨k1, k2, k3⟩ := vx_keep h0 e1 hS hA hf hL hF
    obtain ⟨t2, a1, b1⟩ := kk r u t T'.heap (locs ++ L) e1.symm (by rw [← e2]; exact X'.warmed.alike) hp hb k1 k2 k3 T' rfl X'
    exact ⟨t2, st t2 a1, b1⟩
  · obtain ⟨k1, k2, k3⟩ := vx_keep h0 e1 hS hAX hf hL hF
    obtain ⟨t2, a1, b1⟩ := kx E ce q u t T'.heap (locs ++ L) e1.symm (by rw [← e2]; exact X'.warmed.alike) hp hb k1 k2 k3 (by rw [e1]; exact hce) hcv hcl T' rfl X'
    exact ⟨t2, st.trans a1, b1⟩
theorem vx_calld {S SX : Type} {post : UInt64 → S → Prop} {px : SX → Prop} {B : S → State → Prop} {BX : String → SX → State → Prop} {AX : Nat → Prop} (hr : vx_Run p l e R s m args below meth c H locs cells slots mc ms (F0 m pc ls st0) rest (va_Qd post B A1 a) (vx_X px BX AX) free) (hS : va_S A0 H0 H locs) (hA : ∀ q, q < H.size → A1 q → A0 q) (hf : ∀ q, free q → A0 q) (hAX : ∀ q, q < H.size → AX q → A0 q)
    (kx : ∀ (E : String) (ce : Cell) (q9 : Addr) (u : SX) (t : State) (H1 : Heap) (locs1 : List Loc), t.heap = H1 → s.vm.Alike t.vm → px u → BX E u t → H.size ≤ H1.size → (∀ q : Nat, q < H.size → ¬ AX q → H1[q]? = H[q]?) → va_S A0 H0 H1 locs1 → H1[q9]? = some ce → ce.vm = .none → s.vm.findClass E = some ce.cls → vx_W p l e R s m args below meth c H1 locs1 (cells + mc) (slots + ms) Q (F0 m pc ls rest) q9)
    (kk : ∀ (r : UInt64) (u : S) (t : State) (H1 : Heap) (locs1 : List Loc), t.heap = H1 → s.vm.Alike t.vm → post r u → B u t → H.size ≤ H1.size → (∀ q : Nat, q < H.size → ¬ A1 q → H1[q]? = H[q]?) → va_S A0 H0 H1 locs1 → W p l e R s m args below meth c H1 locs1 (cells + mc) (slots + ms) Q (F0 m (pc + 3) ls (.double r :: rest))) : W p l e R s m args below meth c H locs cells slots Q (F0 m pc ls st0) := by
  intro T hT X
  rcases hr T hT X with ⟨v, st₀, t, T', L, h0, X', hL, e1, e2, ⟨⟨r, u, hv, hp, hb⟩, hF⟩, st⟩ | ⟨q, st₀, t, T', L, E, ce, h0, X', hL, e1, e2, ⟨u, hp, hb, hF⟩, hce, hcv, hcl, st⟩
  · cases hv
    obtain ⟨k1, k2, k3⟩ := vx_keep h0 e1 hS hA hf hL hF
    obtain ⟨t2, a1, b1⟩ := kk r u t T'.heap (locs ++ L) e1.symm (by rw [← e2]; exact X'.warmed.alike) hp hb k1 k2 k3 T' rfl X'
    exact ⟨t2, st t2 a1, b1⟩
  · obtain ⟨k1, k2, k3⟩ := vx_keep h0 e1 hS hAX hf hL hF
    obtain ⟨t2, a1, b1⟩ := kx E ce q u t T'.heap (locs ++ L) e1.symm (by rw [← e2]; exact X'.warmed.alike) hp hb k1 k2 k3 (by rw [e1]; exact hce) hcv hcl T' rfl X'
    exact ⟨t2, st.trans a1, b1⟩
theorem vx_callv {S SX : Type} {post : S → Prop} {px : SX → Prop} {B : S → State → Prop} {BX : String → SX → State → Prop} {AX : Nat → Prop} (hr : vx_Run p l e R s m args below meth c H locs cells slots mc ms (F0 m pc ls st0) rest (va_Qv post B A1 a) (vx_X px BX AX) free) (hS : va_S A0 H0 H locs) (hA : ∀ q, q < H.size → A1 q → A0 q) (hf : ∀ q, free q → A0 q) (hAX : ∀ q, q < H.size → AX q → A0 q)
    (kx : ∀ (E : String) (ce : Cell) (q9 : Addr) (u : SX) (t : State) (H1 : Heap) (locs1 : List Loc), t.heap = H1 → s.vm.Alike t.vm → px u → BX E u t → H.size ≤ H1.size → (∀ q : Nat, q < H.size → ¬ AX q → H1[q]? = H[q]?) → va_S A0 H0 H1 locs1 → H1[q9]? = some ce → ce.vm = .none → s.vm.findClass E = some ce.cls → vx_W p l e R s m args below meth c H1 locs1 (cells + mc) (slots + ms) Q (F0 m pc ls rest) q9)
    (kk : ∀ (u : S) (t : State) (H1 : Heap) (locs1 : List Loc), t.heap = H1 → s.vm.Alike t.vm → post u → B u t → H.size ≤ H1.size → (∀ q : Nat, q < H.size → ¬ A1 q → H1[q]? = H[q]?) → va_S A0 H0 H1 locs1 → W p l e R s m args below meth c H1 locs1 (cells + mc) (slots + ms) Q (F0 m (pc + 3) ls (rest))) : W p l e R s m args below meth c H locs cells slots Q (F0 m pc ls st0) := by
  intro T hT X
  rcases hr T hT X with ⟨v, st₀, t, T', L, h0, X', hL, e1, e2, ⟨⟨u, hv, hp, hb⟩, hF⟩, st⟩ | ⟨q, st₀, t, T', L, E, ce, h0, X', hL, e1, e2, ⟨u, hp, hb, hF⟩, hce, hcv, hcl, st⟩
  · cases hv
    obtain ⟨k1, k2, k3⟩ := vx_keep h0 e1 hS hA hf hL hF
    obtain ⟨t2, a1, b1⟩ := kk u t T'.heap (locs ++ L) e1.symm (by rw [← e2]; exact X'.warmed.alike) hp hb k1 k2 k3 T' rfl X'
    exact ⟨t2, st t2 a1, b1⟩
  · obtain ⟨k1, k2, k3⟩ := vx_keep h0 e1 hS hAX hf hL hF
    obtain ⟨t2, a1, b1⟩ := kx E ce q u t T'.heap (locs ++ L) e1.symm (by rw [← e2]; exact X'.warmed.alike) hp hb k1 k2 k3 (by rw [e1]; exact hce) hcv hcl T' rfl X'
    exact ⟨t2, st.trans a1, b1⟩
/-- caught by the row x of this method's table; the rows ahead don't take it -/
theorem vx_catch {own name : String} {E : String} {ce : Cell} {q : Addr} (hown : s.vm.findClass own = some m.cls) (pre : List ExceptionTableEntry) (x : ExceptionTableEntry) (suf : List ExceptionTableEntry) (hsplit : c.exceptionTable.toList = pre ++ x :: suf)
    (hpass : ∀ z ∈ pre, covers z pc = false ∨ (z.catchType ≠ 0 ∧ ∃ nm : String, (Cond.classLink own z.catchType nm).before args s = true ∧ va_Nc E nm s)) (hx : covers x pc = true) (h0 : x.catchType ≠ 0)
    (hlink : (Cond.classLink own x.catchType name).before args s = true) (hcast : (Cond.castable E name).before args s = true) (hcell : H[q]? = some ce) (hv : ce.vm = .none) (hcl : s.vm.findClass E = some ce.cls)
    (kk : W p l e R s m args below meth c H locs cells slots Q (F0 m x.handlerPc ls [.ref q])) : vx_W p l e R s m args below meth c H locs cells slots Q (F0 m pc ls rest) q := by
  intro T hT X
  have hpl : e.platform.magicAccessors = ({} : Platform).magicAccessors := by rw [X.admits.platform]
  obtain ⟨c3, c4, hc3, hc4, hasg⟩ := Cond.castable_spec hcast
  cases Option.some.inj (hc3.symm.trans hcl)
  obtain ⟨c5, hc5, hcl5⟩ := Cond.classLink_spec hown hlink e.platform hpl
  cases Option.some.inj (hc4.symm.trans hc5)
  obtain ⟨vm', X', st⟩ := X.thenCaughtThrough q (g := F0 m pc ls rest) rfl (Steps.refl _) (by rw [hT]; exact hcell) (by rw [hv]; rfl) (by obtain ⟨k9, h9, -⟩ := Vm.findClass_spec hcl; exact ⟨k9, h9⟩) pre x suf hsplit
    (fun z hz => by
      rcases hpass z hz with h | ⟨hz0, nm, hl1, hn1⟩
      · exact Or.inl h
      · obtain ⟨c6, hc6, hcl6⟩ := Cond.classLink_spec hown hl1 e.platform hpl
        obtain ⟨a8, b8, h1, h2, h3⟩ := hn1
        cases Option.some.inj (h1.symm.trans hcl)
        cases Option.some.inj (h2.symm.trans hc6)
        exact Or.inr ⟨hz0, _, hcl6, h3⟩) hx (Or.inr ⟨h0, c4, hcl5, hasg⟩)
  obtain ⟨t, a1, b1⟩ := kk (T.setVm vm') hT X'
  exact ⟨t, st.trans a1, b1⟩
end Rows
section Ends
variable {p : Program} {l : Launch} {e : Env} {R : Room} {s : State} {m : MethodId} {args : Array Value} {below : List Frame} {meth : Method} {c : Code} {H : Heap} {locs : List Loc} {cells slots : Nat} {Q : State → Prop}
variable {mc ms : Nat} {free : Addr → Prop} {A0 A1 : Nat → Prop} {H0 : Heap} {a : Array Value} {ls : Array Slot} {st0 rest : List Value}
variable {Qc : Array Value → State → Outcome → State → Prop} {XC : String → State → State → Prop}
/-- what a body that may throw owes at its end -/
def vx_MQ (below : List Frame) (Qc : Array Value → State → Outcome → State → Prop) (XC : String → State → State → Prop) (a : Array Value) (s : State) (mc ms : Nat) (free : Addr → Prop) : State → Prop := fun t =>
  ∃ o, t.status = .running ∧ Ended t below o ∧ vx_Q Qc XC mc ms free a s o t
theorem vx_ret {g : JFrame} {mc ms : Nat} (k : W p l e R s m args below meth c H locs cells slots (MQ below Qc args s mc ms free) g) : W p l e R s m args below meth c H locs cells slots (vx_MQ below Qc XC args s mc ms free) g := by
  intro T hT X
  obtain ⟨t, a1, o, b1, b2, b3, b4⟩ := k T hT X
  exact ⟨t, a1, o, b1, b2, Or.inl ⟨b3, b4⟩⟩
/-- not caught here: it goes on to the caller -/
theorem vx_widen {g : JFrame} {q : Addr} {k n : Nat} (h1 : cells ≤ k) (h2 : slots ≤ n) (kk : vx_W p l e R s m args below meth c H locs k n Q g q) : vx_W p l e R s m args below meth c H locs cells slots Q g q := fun T hT X => kk T hT (stand_widen X h1 h2)
theorem vx_out {pc : Nat} {E : String} {ce : Cell} {q : Addr} {mc ms : Nat} (hout : ∀ x ∈ c.exceptionTable.toList, covers x pc = false) (hlocks : meth.locks = false) (hcell : H[q]? = some ce) (hv : ce.vm = .none) (hcl : s.vm.findClass E = some ce.cls)
    (hx : ∀ t : State, t.heap = H → s.vm.Alike t.vm → XC E s t) (hf : ∀ z ∈ locs, free z.base) (hc : cells ≤ mc) (hs : slots ≤ ms) :
    vx_W p l e R s m args below meth c H locs cells slots (vx_MQ below Qc XC args s mc ms free) (F0 m pc ls rest) q := by
  intro T hT X
  obtain ⟨st1, hrun, hend, hW, hsm⟩ := X.leaveThrown q (g := F0 m pc ls rest) rfl rfl rfl hout hlocks
  have hcell9 : (T.setFrames (.throwing q :: below)).heap[q]? = some ce := by
    show T.heap[q]? = some ce
    rw [hT]; exact hcell
  exact ⟨_, st1, .threw q, hrun, hend, Or.inr ⟨q, rfl, E, ce, locs, hx _ hT hW.alike, hcell9, hv, hcl, hW, hsm.mono hc hs, hf⟩⟩
theorem vx_frame {U : State} {k n : Nat} (h : s.sameButNew ({ U with vm := s.vm } : State) locs k n) : s.heap.size ≤ U.heap.size ∧ ∀ q : Nat, q < s.heap.size → (∀ z ∈ locs, z.base ≠ q) → U.heap[q]? = s.heap[q]? := by
  obtain ⟨-, h2, -, -, -, h6⟩ := h
  refine ⟨h2, fun q hq hz => ?_⟩
  obtain ⟨c9, e1, e2, e3, e4⟩ := h6 q _ (Array.getElem?_eq_getElem hq)
  have hs : c9.slots = (s.heap[q]).slots := Array.ext_getElem? fun i => e4 i fun hm => hz _ hm rfl
  have h9 : c9 = s.heap[q] := by
    rw [hs] at e2
    exact e2
  have e5 : U.heap[q]? = some c9 := e1
  rw [e5, h9, Array.getElem?_eq_getElem hq]
/-- the words of a throw but the four that speak of the heap -/
def vx_no (w : Cond) : Bool := decide (w ≠ .isRef (.static Bundle.tN "UNASSIGNED_STACK" Bundle.steD)) && decide (w ≠ .isRef (.static Bundle.tN "SUPPRESSED_SENTINEL" Bundle.listD)) && decide (w ≠ .laysStatic Bundle.tN "UNASSIGNED_STACK" Bundle.steD) && decide (w ≠ .laysStatic Bundle.tN "SUPPRESSED_SENTINEL" Bundle.listD)
def vx_at0 (own : String) (ic : Nat) (X : String) (names : List String) : List Cond := (Bundle.ownAtoms0 own ic X names).filter vx_no
def vx_atS (own : String) (ic : Nat) (X : String) (names : List String) : List Cond := (Bundle.ownAtoms own ic X names).filter vx_no
/-- a word that the tables alone decide, or a good one -/
def vx_ot (w : Cond) : Bool := w.onTables || goodWord w
theorem vx_ot_at {args a' : Array Value} {s U : State} {w : Cond} (hW : s.WarmedH U.vm) (hvm : s.vm = U.vm) (hg : vx_ot w = true) (h : w.before args s = true) : w.before a' U = true := by
  simp only [vx_ot, Bool.or_eq_true] at hg
  rcases hg with hg | hg
  · exact va_tabs hg hvm h
  · exact word_at hW (good_of_word hg) h
/-- a list's words: the good ones out of the method's own list, the others by premises of their own -/
theorem vx_hat {args : Array Value} {s : State} {L B : List Cond} (h1 : ∀ w ∈ L.filter goodWord, w.before args s = true) (h2 : ∀ w ∈ L.filter (fun w => !goodWord w), w ∈ B) (h3 : ∀ w ∈ B, w.before args s = true) : ∀ w ∈ L, w.before args s = true := by
  intro w hw
  by_cases g : goodWord w = true
  · exact h1 w (List.mem_filter.mpr ⟨hw, g⟩)
  · refine h3 w (h2 w (List.mem_filter.mpr ⟨hw, ?_⟩))
    show (!goodWord w) = true
    cases hgw : goodWord w
    · rfl
    · exact absurd hgw g
theorem vx_c {args : Array Value} {s : State} {w : Cond} {B : List Cond} (h : w.before args s = true) (t : ∀ w ∈ B, w.before args s = true) : ∀ w' ∈ w :: B, w'.before args s = true := fun w' h' => (List.mem_cons.mp h').elim (fun e => by rw [e]; exact h) (t w')
theorem vx_n {args : Array Value} {s : State} : ∀ w ∈ ([] : List Cond), w.before args s = true := fun _ h => nomatch h
theorem vx_own {args : Array Value} {s : State} {L : List Cond} (h1 : ∀ w ∈ L.filter vx_no, w.before args s = true)
    (hU : (Cond.isRef (.static Bundle.tN "UNASSIGNED_STACK" Bundle.steD)).before args s = true) (hN : (Cond.isRef (.static Bundle.tN "SUPPRESSED_SENTINEL" Bundle.listD)).before args s = true)
    (lU : (Cond.laysStatic Bundle.tN "UNASSIGNED_STACK" Bundle.steD).before args s = true) (lN : (Cond.laysStatic Bundle.tN "SUPPRESSED_SENTINEL" Bundle.listD).before args s = true) : ∀ w ∈ L, w.before args s = true := by
  intro w hw
  by_cases e1 : w = .isRef (.static Bundle.tN "UNASSIGNED_STACK" Bundle.steD)
  · rw [e1]; exact hU
  · by_cases e2 : w = .isRef (.static Bundle.tN "SUPPRESSED_SENTINEL" Bundle.listD)
    · rw [e2]; exact hN
    · by_cases e3 : w = .laysStatic Bundle.tN "UNASSIGNED_STACK" Bundle.steD
      · rw [e3]; exact lU
      · by_cases e4 : w = .laysStatic Bundle.tN "SUPPRESSED_SENTINEL" Bundle.listD
        · rw [e4]; exact lN
        · exact h1 w (List.mem_filter.mpr ⟨hw, by unfold vx_no; rw [decide_eq_true e1, decide_eq_true e2, decide_eq_true e3, decide_eq_true e4]; rfl⟩)
/-- where a static field lies, its class's statics cell in H -/
def vx_L (C n d : String) (A : Nat → Prop) (U : State) (H : Heap) : Prop := ∃ (c : ClassId) (k : Class) (i : Nat) (f : Field) (a : Nat) (cell : Cell), U.vm.findClass C = some c ∧ U.fieldFound? C n d = some (c, k, i, f) ∧ f.isStatic = true ∧ k.statics = some a ∧ H[a]? = some cell ∧ cell.vm.isStatics = true ∧ cell.cls = c ∧ f.slot < cell.slots.size ∧ k.staticTypes[f.slot]? = some f.type ∧ ¬ A a
theorem vx_L.moved {C n d : String} {A : Nat → Prop} {u U : State} {H : Heap} (hvm : u.vm.Alike U.vm) (h : vx_L C n d A u H) : vx_L C n d A U H := by
  obtain ⟨c, k, i, f, a, cell, h1, h2, h3, h4, h5, h6, h7, h8, h9, h10⟩ := h
  obtain ⟨k', hi', he⟩ := State.fieldFound?_setVm hvm h2
  exact ⟨c, k', i, f, a, cell, by rw [hvm.findClass]; exact h1, hi', h3, by rw [he]; exact h4, h5, h6, h7, h8, by rw [he]; exact h9, h10⟩
theorem vx_L.kept {C n d : String} {A : Nat → Prop} {U : State} {H H1 : Heap} (h : vx_L C n d A U H) (hq : ∀ a : Nat, a < H.size → ¬ A a → H1[a]? = H[a]?) : vx_L C n d A U H1 := by
  obtain ⟨c, k, i, f, a, cell, h1, h2, h3, h4, h5, h6, h7, h8, h9, h10⟩ := h
  exact ⟨c, k, i, f, a, cell, h1, h2, h3, h4, by rw [hq a (Array.getElem?_eq_some_iff.mp h5).1 h10]; exact h5, h6, h7, h8, h9, h10⟩
theorem vx_L.narrow {C n d : String} {A B : Nat → Prop} {U : State} {H : Heap} (h : vx_L C n d A U H) (hAB : ∀ q, B q → A q) : vx_L C n d B U H := by
  obtain ⟨c, k, i, f, a, cell, h1, h2, h3, h4, h5, h6, h7, h8, h9, h10⟩ := h
  exact ⟨c, k, i, f, a, cell, h1, h2, h3, h4, h5, h6, h7, h8, h9, fun z => h10 (hAB _ z)⟩
theorem vx_L.word {C n d : String} {A : Nat → Prop} {s : State} {args : Array Value} (h : vx_L C n d A s s.heap) : (Cond.laysStatic C n d).before args s = true := by
  obtain ⟨c, k, i, f, a, cell, h1, h2, h3, h4, h5, h6, h7, h8, h9, -⟩ := h
  show (Cond.laysStatic C n d).holds args s none s [] = true
  exact Cond.laysStatic_of h1 h2 h3 h4 h5 h6 h7 h8 h9
/-- .. and what it holds: null or some reference -/
def vx_Zq (C n d : String) (A : Nat → Prop) (U : State) (H : Heap) : Prop := va_Zq C n d A U H ∧ vx_L C n d A U H
theorem vx_Zq.moved {C n d : String} {A : Nat → Prop} {u U : State} {H : Heap} (hvm : u.vm.Alike U.vm) (h : vx_Zq C n d A u H) : vx_Zq C n d A U H := ⟨va_Zq.moved hvm h.1, vx_L.moved hvm h.2⟩
theorem vx_Zq.kept {C n d : String} {A : Nat → Prop} {U : State} {H H1 : Heap} (h : vx_Zq C n d A U H) (hq : ∀ a : Nat, a < H.size → ¬ A a → H1[a]? = H[a]?) : vx_Zq C n d A U H1 := ⟨va_Zq.kept h.1 hq, vx_L.kept h.2 hq⟩
theorem vx_Zq.narrow {C n d : String} {A B : Nat → Prop} {U : State} {H : Heap} (h : vx_Zq C n d A U H) (hAB : ∀ q, B q → A q) : vx_Zq C n d B U H := ⟨va_Zq.narrow h.1 hAB, vx_L.narrow h.2 hAB⟩
theorem vx_Zqof {args : Array Value} {s : State} {C n d : String} {A : Nat → Prop} (hl : (Cond.laysStatic C n d).before args s = true) (hini : (Cond.initialized C).before args s = true) (h : (Cond.isRef (.static C n d)).before args s = true) (hA : ∀ a : Nat, a < s.heap.size → ¬ A a) : vx_Zq C n d A s s.heap := by
  refine ⟨va_Zqof hl hini h hA, ?_⟩
  obtain ⟨c, k, i, f, a, cell, h1, h2, h3, h4, h5, h6, h7, h8, h9⟩ := Cond.laysStatic_spec hl
  exact ⟨c, k, i, f, a, cell, h1, h2, h3, h4, h5, h6, h7, h8, h9, hA a (Array.getElem?_eq_some_iff.mp h5).1⟩
theorem vx_isRef {C n d : String} {v : Value} {A : Nat → Prop} {s : State} {args : Array Value} (h : va_Z C n d v A s s.heap) (hv : v.isRef = true) : (Cond.isRef (.static C n d)).before args s = true := by
  obtain ⟨cf, kf, fi, f, a, cell, h1, h2, h3, h4, h5, h6, h7, -⟩ := h
  have he : (Term.static C n d).eval args s none [] s = some v := by
    simp [Term.eval, State.fieldNamed?, h1, h2, h4, h5, h6, h7]
  simp only [Cond.before, Cond.holds, Cond.value, he]
  cases v <;> simp_all [Value.isRef]
theorem vx_isRefq {C n d : String} {A : Nat → Prop} {s : State} {args : Array Value} (h : va_Zq C n d A s s.heap) : (Cond.isRef (.static C n d)).before args s = true := by
  rcases h with h | ⟨t, h⟩
  · exact vx_isRef h rfl
  · exact vx_isRef h rfl
/-- the same frame, seen from here: as if the method were called anew in this heap -/
theorem vx_rebase {T : State} (X : Stand p l e R s m args below meth c T locs cells slots) {R' : Room} (hf : R'.frames ≤ R.frames) (hl : R'.locals ≤ R.locals) (hc : cells + R'.cells ≤ R.cells) (hs : slots + R'.slots ≤ R.slots) :
    Stand p l e R' ((T.setVm s.vm).setFrames (.invoking m args :: below)) m args below meth c T [] 0 0 := by
  have htop : (T.setVm s.vm).topJava?.isSome := X.here.top
  have hF : ((T.setVm s.vm).setFrames (.invoking m args :: below)).frames = .invoking m args :: below := State.frames_setFrames _ (State.cur_lt_of_top htop)
  obtain ⟨g₀, hg0⟩ := Option.isSome_iff_exists.mp htop
  obtain ⟨r, hr⟩ := State.topJava?_eq_some.mp hg0
  have hl9 : e.platform.stackLimits (T.setVm s.vm).me = e.platform.stackLimits s.me := X.limits
  have hb9 : (T.setVm s.vm).me.stackBytes = s.me.stackBytes := X.bytes
  refine ⟨X.admits, X.cas, X.clock, hF, ?_, X.hears, X.method, X.code, X.here, X.tail, X.warmed, ?_, ?_, ?_⟩
  · have h := X.room
    have hU : ((T.setVm s.vm).setFrames (.invoking m args :: below)).localsInUse = s.localsInUse := by
      rw [State.localsInUse_invoking hF (meth := meth) (c := c) X.method X.code, State.localsInUse_invoking X.frames X.method X.code]
    simp only [State.hasRoom, Bool.and_eq_true, decide_eq_true_eq] at h ⊢
    obtain ⟨⟨⟨⟨h1, h2, h3, h4, h5, h6⟩, h7⟩, h8⟩, h9⟩ := h
    rw [X.frames, List.length_cons] at h2 h3
    have q1 := X.heapSize
    have q2 := X.used
    simp only [hF, hU, List.length_cons, State.stackLimits_setFrames, State.stackBytes_setFrames, hl9, hb9]
    refine ⟨⟨⟨⟨by omega, by omega, by omega, by omega, by omega, h6⟩, ?_⟩, ?_⟩, X.book⟩
    · show T.heap.size + R'.cells ≤ e.platform.maxCells
      omega
    · show T.slotsUsed + R'.slots ≤ e.platform.maxSlots
      omega
  · rw [State.stackLimits_setFrames]; rfl
  · rw [State.stackBytes_setFrames]; rfl
  · refine ⟨?_, Nat.le_refl _, Nat.le_refl _, ?_, ?_, fun a c9 h9 => ⟨c9, h9, rfl, rfl, fun _ _ => rfl⟩⟩
    · obtain ⟨t, ht, -⟩ := State.frames_cons hr
      show T.setVm s.vm = { ((T.setVm s.vm).setFrames (.invoking m args :: below)).setFrames (T.setVm s.vm).frames with heap := T.heap, slotsUsed := T.slotsUsed }
      rw [State.setFrames_setFrames, State.setFrames_self ht]
      rfl
    · show T.slotsUsed = T.slotsUsed + ((T.heap.toList.drop T.heap.size).map (·.slots.size)).sum
      rw [List.drop_eq_nil_of_le (Nat.le_of_eq Array.length_toList)]
      rfl
    · show ((T.heap.toList.drop T.heap.size).map (·.slots.size)).sum ≤ 0
      rw [List.drop_eq_nil_of_le (Nat.le_of_eq Array.length_toList)]
      exact Nat.le_refl _
/-- 'throw new E()': new; dup; invokespecial; athrow -/
theorem vx_throw0 {cc : ByteArray} {pc : Nat} (hexec : p.tables.exec = Jvm.exec) (hb : c.code = cc) (hl : l.stackTraces = false) {own cls : String} {names : List String} {ik ic mc ms : Nat} {A : Nat → Prop}
    (hown : s.vm.findClass own = some m.cls) (hcls : Bundle.fit cls = true) (hnames : ∀ n ∈ names, Bundle.fit n = true)
    (hk : (Cond.classLink own ik cls).before args s = true) (hini : (Cond.initialized cls).before args s = true) (hat : ∀ w ∈ vx_at0 own ic cls names, w.before args s = true)
    (hgood : ∀ w ∈ Cond.classLink own ik cls :: Cond.initialized cls :: vx_at0 own ic cls names, vx_ot w = true)
    (hU : vx_Zq Bundle.tN "UNASSIGNED_STACK" Bundle.steD A s s.heap) (hN : vx_Zq Bundle.tN "SUPPRESSED_SENTINEL" Bundle.listD A s s.heap) (hS : va_S A s.heap H locs) (hsize : ls.size = c.maxLocals)
    (d0 : decode cc pc = .ok (.new ik, 3)) (d3 : decode cc (pc + 3) = .ok (.dup, 1)) (d4 : decode cc (pc + 4) = .ok (.invokespecial ic, 3)) (d7 : decode cc (pc + 7) = .ok (.athrow, 1))
    (hout : ∀ x ∈ c.exceptionTable.toList, covers x (pc + 7) = false)
    (hRframes : names.length + 3 < R.frames) (hRlocals : (rest.map fun v => v.category).sum + (13 * (names.length + 1) + 42) ≤ R.locals) (hRcells : cells + 1 ≤ R.cells) (hRslots : slots + 6 ≤ R.slots) (hlocks : meth.locks = false)
    (hx : ∀ t : State, s.vm.Alike t.vm → H.size ≤ t.heap.size → (∀ q : Nat, q < H.size → t.heap[q]? = H[q]?) → XC cls s t)
    (hf : ∀ z ∈ locs, free z.base) (hc : cells + 1 ≤ mc) (hs : slots + 6 ≤ ms) :
    W p l e R s m args below meth c H locs cells slots (vx_MQ below Qc XC args s mc ms free) (F0 m pc ls rest) := by
  intro T hT X
  have htr : e.platform.stackTraces = false := (show e.platform.stackTraces = l.stackTraces by rw [X.admits.platform]).trans hl
  have Y := vx_rebase X (R' := { frames := R.frames, locals := R.locals, cells := 1, slots := 6 }) (Nat.le_refl _) (Nat.le_refl _) hRcells hRslots
  obtain ⟨s', hA⟩ : ∃ z, z = (T.setVm s.vm).setFrames (.invoking m args :: below) := ⟨_, rfl⟩
  rw [← hA] at Y
  have hvm : s'.vm = s.vm := by rw [hA]; rfl
  have hhp : s'.heap = H := by rw [hA]; exact hT
  have hW0 : s.WarmedH s'.vm := by rw [hvm]; exact State.WarmedH.refl s
  have hat' : ∀ w ∈ vx_at0 own ic cls names, w.before args s' = true := fun w hw => vx_ot_at hW0 hvm.symm (hgood w (List.mem_cons_of_mem _ (List.mem_cons_of_mem _ hw))) (hat w hw)
  have hk' : (Cond.classLink own ik cls).before args s' = true := vx_ot_at hW0 hvm.symm (hgood _ List.mem_cons_self) hk
  have hini' : (Cond.initialized cls).before args s' = true := vx_ot_at hW0 hvm.symm (hgood _ (List.mem_cons_of_mem _ List.mem_cons_self)) hini
  have hU' : vx_Zq Bundle.tN "UNASSIGNED_STACK" Bundle.steD A s' s'.heap := by rw [hhp]; exact vx_Zq.moved hW0.alike (hU.kept hS.2.1)
  have hN' : vx_Zq Bundle.tN "SUPPRESSED_SENTINEL" Bundle.listD A s' s'.heap := by rw [hhp]; exact vx_Zq.moved hW0.alike (hN.kept hS.2.1)
  have h : ∀ w ∈ Bundle.ownAtoms0 own ic cls names, w.before args s' = true := vx_own hat' (vx_isRefq hU'.1) (vx_isRefq hN'.1) hU'.2.word hN'.2.word
  have hown' : s'.vm.findClass own = some m.cls := by rw [hvm]; exact hown
  have hins : (Cond.instantiable cls 6).before args s' = true := h _ (by simp [Bundle.ownAtoms0])
  obtain ⟨vm₁, cX, kX, hfX, hkX, -, -, X₁, st1⟩ := Y.newCold hexec (own := own) (C := cls) (index := ik) (n := 6) hown' hk' hins hini'
    (g := F0 m pc ls rest) rfl (by rw [hb]; exact d0) (Nat.le_refl _) (Nat.le_refl _)
  generalize hT1 : (T.setVm vm₁).pushCell { cls := cX, slots := kX.instanceTypes.map defaultValue, vm := .none } = T1 at X₁ st1
  have hcat : (Value.ref T.heap.size).category = 1 := rfl
  have hcellA : T1.heap[T.heap.size]? = some (freshCell cX kX) := by rw [← hT1]; exact State.heap_pushCell_size _ _
  have d3' : decode c.code (pc + 3) = .ok (.dup, 1) := by rw [hb]; exact d3
  obtain ⟨U, hsteps, hrun, hend, hW, hsame, ce, hce, hO⟩ := X₁.ctorThrow0 hexec htr (own := own) (cls := cls) (names := names) (ic := ic) hown' hcls hnames h (fun x hx => nomatch hx) hfX hkX hcellA (by rw [hhp, hT]; exact Nat.le_refl _)
    (g := { method := m, pc := pc + 4, locals := ls, stack := .ref T.heap.size :: .ref T.heap.size :: rest, locked := none }) rfl hsize rfl rfl (rest := rest) rfl
    (by rw [hb]; exact d4) (by rw [hb]; exact d7) hout hRframes (by simp only [List.map_cons, List.sum_cons, hcat]; omega) hlocks
  obtain ⟨f1, f2⟩ := vx_frame hsame
  rw [hhp] at f1 f2
  have hWs : s.WarmedH U.vm := State.WarmedH.trans hW0 hW
  have hcl : s.vm.findClass cls = some ce.cls := by
    have h9 := hO.cls
    rw [hvm] at h9
    exact h9
  have hall : s.sameButNew ({ U with vm := s.vm } : State) locs mc ms := by
    subst hA
    obtain ⟨e1, e2⟩ := hsame
    rw [State.setFrames_setFrames] at e1
    have h2 : (T.setVm s.vm).sameButNew ({ U with vm := s.vm } : State) [] (0 + 1) (0 + 6) := ⟨e1, e2⟩
    have h3 := X.same.trans h2
    rw [List.append_nil] at h3
    exact h3.mono hc hs
  refine ⟨U, ?_, .threw T.heap.size, hrun, hend, Or.inr ⟨T.heap.size, rfl, cls, ce, locs, hx U hWs.alike f1 (fun q hq => f2 q hq (fun z hz => nomatch hz)), hce, hO.vm, hcl, hWs, hall, hf⟩⟩
  refine st1 _ ?_
  show Steps p.tables e below (T1.setTop { method := m, pc := pc + 3, locals := ls, stack := .ref T.heap.size :: rest, locked := none }) _
  jvm_step X₁.here [X₁.here.top, hexec, d3', Value.category]
  exact hsteps
/-- 'throw new E("text")': new; dup; ldc; invokespecial; athrow -/
theorem vx_throwS {cc : ByteArray} {pc : Nat} (hexec : p.tables.exec = Jvm.exec) (hb : c.code = cc) (hl : l.stackTraces = false) {own cls text : String} {names : List String} {ik is ic mc ms sa : Nat} {A : Nat → Prop}
    (hown : s.vm.findClass own = some m.cls) (hcls : Bundle.fit cls = true) (hnames : ∀ n ∈ names, Bundle.fit n = true)
    (hk : (Cond.classLink own ik cls).before args s = true) (hini : (Cond.initialized cls).before args s = true) (hstr : vk_R own is text sa s) (hat : ∀ w ∈ vx_atS own ic cls names, w.before args s = true)
    (hgood : ∀ w ∈ Cond.classLink own ik cls :: Cond.initialized cls :: vx_atS own ic cls names, vx_ot w = true)
    (hU : vx_Zq Bundle.tN "UNASSIGNED_STACK" Bundle.steD A s s.heap) (hN : vx_Zq Bundle.tN "SUPPRESSED_SENTINEL" Bundle.listD A s s.heap) (hS : va_S A s.heap H locs) (hsize : ls.size = c.maxLocals)
    (d0 : decode cc pc = .ok (.new ik, 3)) (d3 : decode cc (pc + 3) = .ok (.dup, 1)) (d4 : decode cc (pc + 4) = .ok (.ldc is, 2)) (d6 : decode cc (pc + 6) = .ok (.invokespecial ic, 3)) (d9 : decode cc (pc + 9) = .ok (.athrow, 1))
    (hout : ∀ x ∈ c.exceptionTable.toList, covers x (pc + 9) = false)
    (hRframes : names.length + 3 < R.frames) (hRlocals : (rest.map fun v => v.category).sum + (13 * (names.length + 1) + 43) ≤ R.locals) (hRcells : cells + 1 ≤ R.cells) (hRslots : slots + 6 ≤ R.slots) (hlocks : meth.locks = false)
    (hx : ∀ t : State, s.vm.Alike t.vm → H.size ≤ t.heap.size → (∀ q : Nat, q < H.size → t.heap[q]? = H[q]?) → XC cls s t)
    (hf : ∀ z ∈ locs, free z.base) (hc : cells + 1 ≤ mc) (hs : slots + 6 ≤ ms) :
    W p l e R s m args below meth c H locs cells slots (vx_MQ below Qc XC args s mc ms free) (F0 m pc ls rest) := by
  intro T hT X
  have htr : e.platform.stackTraces = false := (show e.platform.stackTraces = l.stackTraces by rw [X.admits.platform]).trans hl
  have Y := vx_rebase X (R' := { frames := R.frames, locals := R.locals, cells := 1, slots := 6 }) (Nat.le_refl _) (Nat.le_refl _) hRcells hRslots
  obtain ⟨s', hA⟩ : ∃ z, z = (T.setVm s.vm).setFrames (.invoking m args :: below) := ⟨_, rfl⟩
  rw [← hA] at Y
  have hvm : s'.vm = s.vm := by rw [hA]; rfl
  have hhp : s'.heap = H := by rw [hA]; exact hT
  have hW0 : s.WarmedH s'.vm := by rw [hvm]; exact State.WarmedH.refl s
  have hat' : ∀ w ∈ vx_atS own ic cls names, w.before args s' = true := fun w hw => vx_ot_at hW0 hvm.symm (hgood w (List.mem_cons_of_mem _ (List.mem_cons_of_mem _ hw))) (hat w hw)
  have hk' : (Cond.classLink own ik cls).before args s' = true := vx_ot_at hW0 hvm.symm (hgood _ List.mem_cons_self) hk
  have hini' : (Cond.initialized cls).before args s' = true := vx_ot_at hW0 hvm.symm (hgood _ (List.mem_cons_of_mem _ List.mem_cons_self)) hini
  have hU' : vx_Zq Bundle.tN "UNASSIGNED_STACK" Bundle.steD A s' s'.heap := by rw [hhp]; exact vx_Zq.moved hW0.alike (hU.kept hS.2.1)
  have hN' : vx_Zq Bundle.tN "SUPPRESSED_SENTINEL" Bundle.listD A s' s'.heap := by rw [hhp]; exact vx_Zq.moved hW0.alike (hN.kept hS.2.1)
  have h : ∀ w ∈ Bundle.ownAtoms own ic cls names, w.before args s' = true := vx_own hat' (vx_isRefq hU'.1) (vx_isRefq hN'.1) hU'.2.word hN'.2.word
  have hown' : s'.vm.findClass own = some m.cls := by rw [hvm]; exact hown
  have hins : (Cond.instantiable cls 6).before args s' = true := h _ (by simp [Bundle.ownAtoms])
  obtain ⟨vm₁, cX, kX, hfX, hkX, -, -, X₁, st1⟩ := Y.newCold hexec (own := own) (C := cls) (index := ik) (n := 6) hown' hk' hins hini'
    (g := F0 m pc ls rest) rfl (by rw [hb]; exact d0) (Nat.le_refl _) (Nat.le_refl _)
  generalize hT1 : (T.setVm vm₁).pushCell { cls := cX, slots := kX.instanceTypes.map defaultValue, vm := .none } = T1 at X₁ st1
  have hcat : (Value.ref T.heap.size).category = 1 := rfl
  have hcellA : T1.heap[T.heap.size]? = some (freshCell cX kX) := by rw [← hT1]; exact State.heap_pushCell_size _ _
  have d3' : decode c.code (pc + 3) = .ok (.dup, 1) := by rw [hb]; exact d3
  have d4' : decode c.code (pc + 4) = .ok (.ldc is, 2) := by rw [hb]; exact d4
  have hstr' : vk_R own is text sa s' := vk_R.warm hW0 hstr
  obtain ⟨U, hsteps, hrun, hend, hW, hsame, ce, hce, hO⟩ := X₁.ctorThrowS hexec htr (own := own) (cls := cls) (names := names) (ic := ic) hown' hcls hnames h (fun x hx => nomatch hx) hfX hkX hcellA (by rw [hhp, hT]; exact Nat.le_refl _) (msg := .ref sa) rfl
    (g := { method := m, pc := pc + 6, locals := ls, stack := .ref sa :: .ref T.heap.size :: .ref T.heap.size :: rest, locked := none }) rfl hsize rfl rfl (rest := rest) rfl
    (by rw [hb]; exact d6) (by rw [hb]; exact d9) hout hRframes (by simp only [List.map_cons, List.sum_cons, hcat]; omega) hlocks
  obtain ⟨f1, f2⟩ := vx_frame hsame
  rw [hhp] at f1 f2
  have hWs : s.WarmedH U.vm := State.WarmedH.trans hW0 hW
  have hcl : s.vm.findClass cls = some ce.cls := by
    have h9 := hO.cls
    rw [hvm] at h9
    exact h9
  have hall : s.sameButNew ({ U with vm := s.vm } : State) locs mc ms := by
    subst hA
    obtain ⟨e1, e2⟩ := hsame
    rw [State.setFrames_setFrames] at e1
    have h2 : (T.setVm s.vm).sameButNew ({ U with vm := s.vm } : State) [] (0 + 1) (0 + 6) := ⟨e1, e2⟩
    have h3 := X.same.trans h2
    rw [List.append_nil] at h3
    exact h3.mono hc hs
  refine ⟨U, ?_, .threw T.heap.size, hrun, hend, Or.inr ⟨T.heap.size, rfl, cls, ce, locs, hx U hWs.alike f1 (fun q hq => f2 q hq (fun z hz => nomatch hz)), hce, hO.vm, hcl, hWs, hall, hf⟩⟩
  refine st1 _ ?_
  show Steps p.tables e below (T1.setTop { method := m, pc := pc + 3, locals := ls, stack := .ref T.heap.size :: rest, locked := none }) _
  jvm_step X₁.here [X₁.here.top, hexec, d3', Value.category]
  exact X₁.ldcString hexec (own := own) (text := text) (index := is) (a := sa) hown' hstr'.1 hstr'.2
    (g := { method := m, pc := pc + 4, locals := ls, stack := .ref T.heap.size :: .ref T.heap.size :: rest, locked := none }) rfl d4' _ hsteps
/-- 'throw new E("text")', the text by a wide index -/
theorem vx_throwSW {cc : ByteArray} {pc : Nat} (hexec : p.tables.exec = Jvm.exec) (hb : c.code = cc) (hl : l.stackTraces = false) {own cls text : String} {names : List String} {ik is ic mc ms sa : Nat} {A : Nat → Prop}
    (hown : s.vm.findClass own = some m.cls) (hcls : Bundle.fit cls = true) (hnames : ∀ n ∈ names, Bundle.fit n = true)
    (hk : (Cond.classLink own ik cls).before args s = true) (hini : (Cond.initialized cls).before args s = true) (hstr : vk_R own is text sa s) (hat : ∀ w ∈ vx_atS own ic cls names, w.before args s = true)
    (hgood : ∀ w ∈ Cond.classLink own ik cls :: Cond.initialized cls :: vx_atS own ic cls names, vx_ot w = true)
    (hU : vx_Zq Bundle.tN "UNASSIGNED_STACK" Bundle.steD A s s.heap) (hN : vx_Zq Bundle.tN "SUPPRESSED_SENTINEL" Bundle.listD A s s.heap) (hS : va_S A s.heap H locs) (hsize : ls.size = c.maxLocals)
    (d0 : decode cc pc = .ok (.new ik, 3)) (d3 : decode cc (pc + 3) = .ok (.dup, 1)) (d4 : decode cc (pc + 4) = .ok (.ldc_w is, 3)) (d7 : decode cc (pc + 7) = .ok (.invokespecial ic, 3)) (d10 : decode cc (pc + 10) = .ok (.athrow, 1))
    (hout : ∀ x ∈ c.exceptionTable.toList, covers x (pc + 10) = false)
    (hRframes : names.length + 3 < R.frames) (hRlocals : (rest.map fun v => v.category).sum + (13 * (names.length + 1) + 43) ≤ R.locals) (hRcells : cells + 1 ≤ R.cells) (hRslots : slots + 6 ≤ R.slots) (hlocks : meth.locks = false)
    (hx : ∀ t : State, s.vm.Alike t.vm → H.size ≤ t.heap.size → (∀ q : Nat, q < H.size → t.heap[q]? = H[q]?) → XC cls s t)
    (hf : ∀ z ∈ locs, free z.base) (hc : cells + 1 ≤ mc) (hs : slots + 6 ≤ ms) :
    W p l e R s m args below meth c H locs cells slots (vx_MQ below Qc XC args s mc ms free) (F0 m pc ls rest) := by
  intro T hT X
  have htr : e.platform.stackTraces = false := (show e.platform.stackTraces = l.stackTraces by rw [X.admits.platform]).trans hl
  have Y := vx_rebase X (R' := { frames := R.frames, locals := R.locals, cells := 1, slots := 6 }) (Nat.le_refl _) (Nat.le_refl _) hRcells hRslots
  obtain ⟨s', hA⟩ : ∃ z, z = (T.setVm s.vm).setFrames (.invoking m args :: below) := ⟨_, rfl⟩
  rw [← hA] at Y
  have hvm : s'.vm = s.vm := by rw [hA]; rfl
  have hhp : s'.heap = H := by rw [hA]; exact hT
  have hW0 : s.WarmedH s'.vm := by rw [hvm]; exact State.WarmedH.refl s
  have hat' : ∀ w ∈ vx_atS own ic cls names, w.before args s' = true := fun w hw => vx_ot_at hW0 hvm.symm (hgood w (List.mem_cons_of_mem _ (List.mem_cons_of_mem _ hw))) (hat w hw)
  have hk' : (Cond.classLink own ik cls).before args s' = true := vx_ot_at hW0 hvm.symm (hgood _ List.mem_cons_self) hk
  have hini' : (Cond.initialized cls).before args s' = true := vx_ot_at hW0 hvm.symm (hgood _ (List.mem_cons_of_mem _ List.mem_cons_self)) hini
  have hU' : vx_Zq Bundle.tN "UNASSIGNED_STACK" Bundle.steD A s' s'.heap := by rw [hhp]; exact vx_Zq.moved hW0.alike (hU.kept hS.2.1)
  have hN' : vx_Zq Bundle.tN "SUPPRESSED_SENTINEL" Bundle.listD A s' s'.heap := by rw [hhp]; exact vx_Zq.moved hW0.alike (hN.kept hS.2.1)
  have h : ∀ w ∈ Bundle.ownAtoms own ic cls names, w.before args s' = true := vx_own hat' (vx_isRefq hU'.1) (vx_isRefq hN'.1) hU'.2.word hN'.2.word
  have hown' : s'.vm.findClass own = some m.cls := by rw [hvm]; exact hown
  have hins : (Cond.instantiable cls 6).before args s' = true := h _ (by simp [Bundle.ownAtoms])
  obtain ⟨vm₁, cX, kX, hfX, hkX, -, -, X₁, st1⟩ := Y.newCold hexec (own := own) (C := cls) (index := ik) (n := 6) hown' hk' hins hini'
    (g := F0 m pc ls rest) rfl (by rw [hb]; exact d0) (Nat.le_refl _) (Nat.le_refl _)
  generalize hT1 : (T.setVm vm₁).pushCell { cls := cX, slots := kX.instanceTypes.map defaultValue, vm := .none } = T1 at X₁ st1
  have hcat : (Value.ref T.heap.size).category = 1 := rfl
  have hcellA : T1.heap[T.heap.size]? = some (freshCell cX kX) := by rw [← hT1]; exact State.heap_pushCell_size _ _
  have d3' : decode c.code (pc + 3) = .ok (.dup, 1) := by rw [hb]; exact d3
  have d4' : decode c.code (pc + 4) = .ok (.ldc_w is, 3) := by rw [hb]; exact d4
  have hstr' : vk_R own is text sa s' := vk_R.warm hW0 hstr
  obtain ⟨U, hsteps, hrun, hend, hW, hsame, ce, hce, hO⟩ := X₁.ctorThrowS hexec htr (own := own) (cls := cls) (names := names) (ic := ic) hown' hcls hnames h (fun x hx => nomatch hx) hfX hkX hcellA (by rw [hhp, hT]; exact Nat.le_refl _) (msg := .ref sa) rfl
    (g := { method := m, pc := pc + 7, locals := ls, stack := .ref sa :: .ref T.heap.size :: .ref T.heap.size :: rest, locked := none }) rfl hsize rfl rfl (rest := rest) rfl
    (by rw [hb]; exact d7) (by rw [hb]; exact d10) hout hRframes (by simp only [List.map_cons, List.sum_cons, hcat]; omega) hlocks
  obtain ⟨f1, f2⟩ := vx_frame hsame
  rw [hhp] at f1 f2
  have hWs : s.WarmedH U.vm := State.WarmedH.trans hW0 hW
  have hcl : s.vm.findClass cls = some ce.cls := by
    have h9 := hO.cls
    rw [hvm] at h9
    exact h9
  have hall : s.sameButNew ({ U with vm := s.vm } : State) locs mc ms := by
    subst hA
    obtain ⟨e1, e2⟩ := hsame
    rw [State.setFrames_setFrames] at e1
    have h2 : (T.setVm s.vm).sameButNew ({ U with vm := s.vm } : State) [] (0 + 1) (0 + 6) := ⟨e1, e2⟩
    have h3 := X.same.trans h2
    rw [List.append_nil] at h3
    exact h3.mono hc hs
  refine ⟨U, ?_, .threw T.heap.size, hrun, hend, Or.inr ⟨T.heap.size, rfl, cls, ce, locs, hx U hWs.alike f1 (fun q hq => f2 q hq (fun z hz => nomatch hz)), hce, hO.vm, hcl, hWs, hall, hf⟩⟩
  refine st1 _ ?_
  show Steps p.tables e below (T1.setTop { method := m, pc := pc + 3, locals := ls, stack := .ref T.heap.size :: rest, locked := none }) _
  jvm_step X₁.here [X₁.here.top, hexec, d3', Value.category]
  exact X₁.ldcStringW hexec (own := own) (text := text) (index := is) (a := sa) hown' hstr'.1 hstr'.2
    (g := { method := m, pc := pc + 4, locals := ls, stack := .ref T.heap.size :: .ref T.heap.size :: rest, locked := none }) rfl d4' _ hsteps
end Ends
section Bodies
variable {l : Launch}
theorem vx_ofW {y : MethodName} {ws ws' : List Cond} {rm : Room} {Pc : Array Value → State → Prop} {Qc : Array Value → State → Outcome → State → Prop} {XC : String → State → State → Prop} {mc ms : Nat} {free : Addr → Prop} {cc : ByteArray} {maxL : Nat} {ret : Option FieldType}
    (hy : plainName y.cls = true) (hw : ws = Cond.code y cc maxL ret :: ws')
    (body : ∀ p e s m args below meth c s₁, BodyLoose p l y (headSpec ws rm) cc maxL ret e s m args below meth c s₁ → c.maxLocals = maxL → (∀ x ∈ c.exceptionTable.toList, False) → Pc args s →
      W p l e (headSpec ws rm).room s m args below meth c s.heap [] 0 0 (vx_MQ below Qc XC args s mc ms free) (entryFrame m args maxL)) : vx_Met l y ws rm Pc Qc XC mc ms free := by
  refine MetFree.of_bodyS (code := cc) (maxLocals := maxL) (ret := ret) hy ?_ ?_
  · intro args s m h hn
    obtain ⟨meth, c, h1, h2, h3, h4, h5, h6, -, -⟩ := Cond.code_spec hn (atoms_spec (ws := ws) h _ (by rw [hw]; exact List.mem_cons_self))
    exact ⟨meth, c, h1, h2, h3, h4, h5, h6⟩
  · intro p e s m args below meth c s₁ B hml hP _
    have hh0 : s₁.heap = s.heap := by rw [B.state]; rfl
    have ht : ∀ x ∈ c.exceptionTable.toList, False := by
      obtain ⟨meth9, c9, h1, h2, -, -, -, -, h7, -⟩ := Cond.code_spec B.named (atoms_spec (ws := ws) B.pre _ (by rw [hw]; exact List.mem_cons_self))
      cases Option.some.inj (h1.symm.trans B.method)
      cases Option.some.inj (h2.symm.trans (Stand.of_body B).code)
      intro x hx
      rw [Array.isEmpty_iff.mp h7] at hx
      cases hx
    obtain ⟨t, a1, o, b1, b2, b3⟩ := body p e s m args below meth c s₁ B hml ht hP s₁ hh0 (Stand.of_body B)
    exact ⟨t, o, a1, b1, b2, b3⟩
/-- the table of a body with handlers -/
theorem vx_table {p : Program} {x y : MethodName} {S : Spec} {cc bytes : ByteArray} {maxL maxL' : Nat} {ret ret' : Option FieldType} {e : Env} {s s₁ : State} {m : MethodId} {args : Array Value} {below : List Frame} {meth : Method} {c : Code} {hh : List (Nat × Nat × Nat × Nat)}
    (B : BodyLoose p l y S cc maxL ret e s m args below meth c s₁) (h : (Cond.codeWith y bytes maxL' ret' hh).before args s = true) : c.exceptionTable.toList = tableOf hh := by
  obtain ⟨m9, meth9, c9, hn9, h1, h2, -, -, h6, -⟩ := Cond.codeWith_spec h
  cases Option.some.inj (hn9.symm.trans B.named)
  cases Option.some.inj (h1.symm.trans B.method)
  cases Option.some.inj (h2.symm.trans (Stand.of_body B).code)
  rw [← h6, table_eq]
end Bodies
end VXA
/-! ===== END ===== -/
/-! ===== BEGIN a static call of a method with an exception table ===== -/
section VXS
variable {p : Program} {l : Launch} {e : Env} {R : Room} {s : State} {m : MethodId} {args : Array Value} {below : List Frame} {meth : Method} {c : Code} {T : State} {H : Heap} {locs : List Loc} {cells slots : Nat}
abbrev vx_CSW (R : Room) (s : State) (args : Array Value) (own : String) (index : Nat) (y : MethodName) (bytes : ByteArray) (maxL : Nat) (ret : Option FieldType) (hh : List (Nat × Nat × Nat × Nat)) (ws : List Cond) (rm : Room) (mc ms n : Nat) : Prop :=
  (rm.cells = mc ∧ rm.slots = ms ∧ rm.frames + 1 ≤ R.frames ∧ 8 + (maxL + 11) + rm.locals ≤ R.locals ∧ (∀ w ∈ ws, ∀ (a' : Array Value) (U : State), s.WarmedH U.vm → w.before a' U = true) ∧ Cond.codeWith y bytes maxL ret hh ∈ ws) ∧
  (Cond.codeWith y bytes maxL ret hh).before args s = true ∧ (Cond.initialized y.cls).before args s = true ∧ (y.cls ≠ "java/lang/invoke/MethodHandle" ∧ y.cls ≠ "java/lang/invoke/VarHandle") ∧
  (∀ sig, parseMethodDescriptor y.desc = some sig → n = sig.parameters.length) ∧ (Cond.methodLink own index y).before args s = true ∧ (Cond.static y).before args s = true
theorem vx_cwSW {own : String} {index maxL mc ms : Nat} {y : MethodName} {bytes : ByteArray} {ret : Option FieldType} {hh : List (Nat × Nat × Nat × Nat)} {Ts ws ws' : List Cond} {rm : Room} (n : Nat) (ht : ∀ w ∈ Ts, w.before args s = true) (hT : GoodIn Ts (va_wsS own index y ws)) (hw : ws = Cond.codeWith y bytes maxL ret hh :: ws') (hrc : rm.cells = mc) (hrs : rm.slots = ms)
    (hd : y.cls ≠ "java/lang/invoke/MethodHandle" ∧ y.cls ≠ "java/lang/invoke/VarHandle" ∧ (parseMethodDescriptor y.desc).map (fun d => d.parameters.length) = some n) (hR : rm.frames + 1 ≤ R.frames ∧ 8 + (maxL + 11) + rm.locals ≤ R.locals) :
    vx_CSW R s args own index y bytes maxL ret hh ws rm mc ms n := by
  have ok : ∀ w ∈ va_wsS own index y ws, w.before args s = true := fun w h => ht w (hT w h).1
  have hG : GoodIn Ts ws := fun w h => hT w (by unfold va_wsS; exact List.mem_append_right _ h)
  have hc : Cond.codeWith y bytes maxL ret hh ∈ ws := by rw [hw]; exact List.mem_cons_self
  refine ⟨⟨hrc, hrs, hR.1, hR.2, pay_in ht hG, hc⟩, ht _ (hG _ hc).1, ok _ (by simp [va_wsS]), ⟨hd.1, hd.2.1⟩, fun sig h => ?_, ok _ (by simp [va_wsS]), ok _ (by simp [va_wsS])⟩
  have h2 := hd.2.2
  rw [h] at h2
  exact (Option.some.inj h2).symm
theorem vx_callSW (X : Stand p l e R s m args below meth c T locs cells slots) (hexec : p.tables.exec = Jvm.exec) {own : String} {index : Nat} {y : MethodName} {bytes : ByteArray} {maxL : Nat} {ret : Option FieldType} {hh : List (Nat × Nat × Nat × Nat)}
    (hown : s.vm.findClass own = some m.cls) (hlink : (Cond.methodLink own index y).before args s = true) (hstat : (Cond.static y).before args s = true) (hinit : (Cond.initialized y.cls).before args s = true)
    (hcode : (Cond.codeWith y bytes maxL ret hh).before args s = true) (hy : y.cls ≠ "java/lang/invoke/MethodHandle" ∧ y.cls ≠ "java/lang/invoke/VarHandle")
    {W9 : Nat} {Pre : Pt → Array Value → Prop} {Post : Pt → Array Value → Option Value → Pt → Prop} (hK : Back l R p e below s args y 3 W9 Pre Post)
    {g : JFrame} (hg : g.method = m) (hsize : g.locals.size = c.maxLocals) {argsL rest : List Value} (hlen : ∀ sig, parseMethodDescriptor y.desc = some sig → argsL.length = sig.parameters.length)
    (hstack : g.stack = argsL.reverse ++ rest) (hW : 2 * g.monitorRoom + (rest.map fun v => v.category).sum ≤ W9) (hdg : decode c.code g.pc = .ok (.invokestatic index, 3))
    (hpre : ∀ vm₁, s.WarmedH vm₁ → Pre ⟨T.setVm vm₁, locs, cells, slots⟩ argsL.toArray) :
    ∃ (v : Option Value) (vm₁ : Vm) (B : Pt), s.WarmedH vm₁ ∧ Stand p l e R s m args below meth c B.U B.locs B.cells B.slots ∧ Post ⟨T.setVm vm₁, locs, cells, slots⟩ argsL.toArray v B ∧
      ∀ target, Steps p.tables e below (B.U.setTop { g with pc := g.pc + 3, stack := v.toList ++ rest }) target → Steps p.tables e below (T.setTop g) target := by
  obtain ⟨mk, methM, cM, hnamed, hmethM, -, -, -, -, -, -, hsigM⟩ := Cond.codeWith_spec hcode
  have hstatic : methM.isStatic = true := Cond.static_spec hnamed hmethM hstat
  obtain ⟨kP, hkP, -⟩ := className_of_methodNamed hnamed
  have hinitP : kP.init = .initialized := Cond.initialized_spec (findClass_of_methodNamed hnamed) hkP hinit
  obtain ⟨vm₁, X₁, hstep₁⟩ := X.invokestatic hexec hown hlink hnamed hmethM hstatic hkP hinitP hy (g := g) hg (argsL := argsL) (rest := rest) (hlen _ hsigM) hstack hdg
  obtain ⟨v, B, X', hpost, hsteps⟩ := hK m meth c ⟨T.setVm vm₁, locs, cells, slots⟩ { g with stack := rest } (.invokestatic index) mk argsL.toArray X₁ hg hsize hdg hW (X₁.named hnamed) (hpre vm₁ X₁.warmed)
  exact ⟨v, vm₁, B, X₁.warmed, X', hpost, fun target h => hstep₁ _ fun acts => by rw [doInvoke_state]; exact hsteps.trans h⟩
theorem vx_runSW {y : MethodName} {bytes cc : ByteArray} {maxL nL mc ms n index : Nat} {ret : Option FieldType} {hh : List (Nat × Nat × Nat × Nat)} {ws : List Cond} {rm : Room} {Pc : Array Value → State → Prop} {Qc : Array Value → State → Outcome → State → Prop} {free : Addr → Prop} {Ts : List Cond} {own : String} {As rest : List Value} {g : JFrame}
    (S : CallFix p m c cc nL s args Ts own) (hM : Met l y ws rm Pc Qc mc ms free) (cw : vx_CSW R s args own index y bytes maxL ret hh ws rm mc ms n) (hp : PreS s H Pc As)
    (hg : g.method = m) (hn : As.length = n) (hsize : g.locals.size = nL) (hstack : g.stack = As.reverse ++ rest) (hW : 2 * g.monitorRoom + (rest.map fun v => v.category).sum ≤ 8) (hdg : decode cc g.pc = .ok (.invokestatic index, 3)) (hf : cells + mc ≤ R.cells ∧ slots + ms ≤ R.slots) :
    va_Run p l e R s m args below meth c H locs cells slots mc ms g rest (Qc As.toArray) (free) := by
  obtain ⟨⟨hrc, hrs, hfr, hlo, hws, hcw⟩, hcode, hini, hy, hlen, hl, hstt⟩ := cw
  have hK : Back l R p e below s args y 3 8 (PreOf R mc ms Pc) (PostOf Qc mc ms free) := va_backW (hh := hh) (bytes := bytes) (maxL := maxL) (ret := ret) hM hp.1 hrc hrs hfr hlo hws hcw (fun a' U hW => word_at hW (Or.inl (by first | rfl | simp [Cond.onTables, Cond.keeps, Cond.steady])) hini)
  obtain ⟨hx, hb, hml, ho, -⟩ := S
  intro T hT X
  obtain ⟨v, vm₁, ⟨U', l2, c2, s2⟩, hW₁, X', ⟨g', mk, t, L, e1, e2, hq, h1, hL, h2, h3⟩, st⟩ := vx_callSW X hx (hh := hh) (bytes := bytes) (maxL := maxL) (ret := ret) ho hl hstt hini hcode hy hK hg (hsize.trans hml.symm) (argsL := As) (rest := rest) (fun sig h => hn.trans (hlen sig h)) hstack hW (by rw [hb]; exact hdg)
    (fun vm₁ hW₁ => ⟨hf.1, hf.2, hp.2 (T.setVm vm₁) hT hW₁⟩)
  dsimp only [Pt.U, Pt.locs, Pt.cells, Pt.slots] at X' e1 e2 h1 h2 h3 st
  subst h1; subst h2; subst h3
  exact ⟨v, (T.setVm vm₁).calling g' mk As.toArray, t, U', L, hT, X', hL, e1, e2, hq, st⟩
/-- not caught here, past rows that name other classes: it goes on to the caller -/
theorem vx_outP {p : Program} {l : Launch} {e : Env} {R : Room} {s : State} {m : MethodId} {args : Array Value} {below : List Frame} {meth : Method} {c : Code} {H : Heap} {locs : List Loc} {cells slots : Nat} {free : Addr → Prop} {ls : Array Slot} {rest : List Value} {Qc : Array Value → State → Outcome → State → Prop} {XC : String → State → State → Prop}
    {pc : Nat} {own E : String} {ce : Cell} {q : Addr} {mc ms : Nat} (hown : s.vm.findClass own = some m.cls) (hlocks : meth.locks = false)
    (hpass : ∀ z ∈ c.exceptionTable.toList, covers z pc = false ∨ (z.catchType ≠ 0 ∧ ∃ nm : String, (Cond.classLink own z.catchType nm).before args s = true ∧ va_Nc E nm s)) (hcell : H[q]? = some ce) (hv : ce.vm = .none) (hcl : s.vm.findClass E = some ce.cls)
    (hx : ∀ t : State, t.heap = H → s.vm.Alike t.vm → XC E s t) (hf : ∀ z ∈ locs, free z.base) (hc : cells ≤ mc) (hs : slots ≤ ms) :
    vx_W p l e R s m args below meth c H locs cells slots (vx_MQ below Qc XC args s mc ms free) (F0 m pc ls rest) q := by
  intro T hT X
  have hpl : e.platform.magicAccessors = ({} : Platform).magicAccessors := by rw [X.admits.platform]
  obtain ⟨vm', hW', X', st⟩ := X.outThrough hlocks q (g := F0 m pc ls rest) rfl rfl rfl (cell := ce) (by rw [hT]; exact hcell) (by rw [hv]; rfl)
    (by obtain ⟨k9, h9, -⟩ := Vm.findClass_spec hcl; exact ⟨k9, h9⟩) (fun z hz => by
      rcases hpass z hz with h | ⟨hz0, nm, hl1, hn1⟩
      · exact Or.inl h
      · obtain ⟨c6, hc6, hcl6⟩ := Cond.classLink_spec hown hl1 e.platform hpl
        obtain ⟨a8, b8, h1, h2, h3⟩ := hn1
        cases Option.some.inj (h1.symm.trans hcl)
        cases Option.some.inj (h2.symm.trans hc6)
        exact Or.inr ⟨hz0, _, hcl6, h3⟩)
  obtain ⟨g₀, hfr⟩ := X'.frames_eq
  have hcell9 : ((T.setVm vm').setFrames (.throwing q :: below)).heap[q]? = some ce := by
    show T.heap[q]? = some ce
    rw [hT]; exact hcell
  have hend : Ended ((T.setVm vm').setFrames (.throwing q :: below)) below (.threw q) := State.frames_setFrames _ (State.cur_lt_of_frames hfr)
  refine ⟨(T.setVm vm').setFrames (.throwing q :: below), ?_, .threw q, X'.here.running, hend, Or.inr ⟨q, rfl, E, ce, locs, hx _ hT (X'.ends _).1.alike, hcell9, hv, hcl, (X'.ends _).1, (X'.ends _).2.mono hc hs, hf⟩⟩
  rw [X.pushThrowing_eq]
  exact st
/-- a thing of a world lies in the heap -/
theorem vx_lt {D : va_G} {cl : List vw_C} {ws : va_W} {H1 : Heap} (h : va_P D cl ws H1) {k : Nat} {q : Nat × va_E} (hk : ws[k]? = some q) : q.1 < H1.size := (h k q hk).lt
end VXS
/-! ===== END ===== -/
/-! ===== BEGIN methods with a table of their own: called by a name, returning or throwing ===== -/
section VXH
/-! vx_backW, vx_callVX, vx_callSX, vx_callVW, vx_runVW, vx_runVX, vx_runSX, vx_ofWH follow the same proofs as their sisters above (Free/Laws.lean, Shelf42/LK1.lean); vx_outP calls Shelf42/NT130.lean (outThrough). -/
section
variable {l : Launch} {R : Room} {p : Program} {e : Env} {below : List Frame} {s : State} {sargs : Array Value} {y : MethodName} {len W9 : Nat}
theorem vx_backW {ws : List Cond} {rm : Room} {Pc : Array Value → State → Prop} {Qc : Array Value → State → Outcome → State → Prop} {XC : String → State → State → Prop} {mc ms : Nat} {free : Addr → Prop} {bytes : ByteArray} {maxL : Nat} {ret : Option FieldType} {hh : List (Nat × Nat × Nat × Nat)}
    (hM : vx_Met l y ws rm Pc Qc XC mc ms free) (hblind : FrameBlind Pc) (hrc : rm.cells = mc) (hrs : rm.slots = ms)
    (hframes : rm.frames + 1 ≤ R.frames) (hlocals : W9 + (maxL + 11) + rm.locals ≤ R.locals)
    (hws : ∀ w ∈ ws, ∀ a' U, s.WarmedH U.vm → w.before a' U = true) (hcode : Cond.codeWith y bytes maxL ret hh ∈ ws) (hinit : ∀ a' U, s.WarmedH U.vm → (Cond.initialized y.cls).before a' U = true) :
    vx_Back l R p e below s sargs y len W9 (PreOf R mc ms Pc) (PostOf Qc mc ms free) (vx_Post XC mc ms free) := by
  intro m meth c A g ig mk a X hg hsize hdg hW hn hp
  have h1 : (headSpec ws rm).pre.before a A.U = true := atoms_intro fun w hw => hws w hw _ _ X.warmed
  have h2 : (Cond.codeWith y bytes maxL ret hh).before a A.U = true := hws _ hcode _ _ X.warmed
  have h3 : (Cond.initialized y.cls).before a A.U = true := hinit _ _ X.warmed
  have h4 : A.cells + (headSpec ws rm).room.cells ≤ R.cells := by rw [show (headSpec ws rm).room.cells = mc from hrc]; exact hp.1
  have h5 : A.slots + (headSpec ws rm).room.slots ≤ R.slots := by rw [show (headSpec ws rm).room.slots = ms from hrs]; exact hp.2.1
  have hPc : Pc a (A.U.calling g mk a) := hblind _ _ _ _ hp.2.2
  obtain ⟨U, Ls, c0, s0⟩ := A
  dsimp only [Pt.U, Pt.locs, Pt.cells, Pt.slots] at h1 h2 h3 h4 h5 X hn hPc ⊢
  obtain ⟨m9, methY, cY, hn9, hmY, hcY, -, hlY, -⟩ := Cond.codeWith_spec h2
  cases Option.some.inj (hn9.symm.trans hn)
  obtain ⟨kY, hkY, -⟩ := className_of_methodNamed hn
  have hinitY : kY.init = .initialized := Cond.initialized_spec (findClass_of_methodNamed hn) hkY h3
  have h : At U g.method c below := by rw [hg]; exact X.here
  have hlocals9 : W9 + (maxL + 11) + (headSpec ws rm).room.locals ≤ R.locals := hlocals
  have happ : (headSpec ws rm).appliesLoose y e.platform (U.calling g mk a) = true :=
    Spec.appliesLoose_calling (g := g) h hdg hn hkY hinitY
      (X.room_calling (g := g) (R' := (headSpec ws rm).room) hsize hmY hcY hframes (by rw [hlY]; omega) h4 h5) h1
  obtain ⟨mid, hmid⟩ := h.above
  have hfr : (U.setTop g).frames = (.java g :: mid) ++ below := by rw [State.frames_setTop' g h.top, hmid]; rfl
  obtain ⟨o, s₂, hsteps, -, hend, hq⟩ := Steps.callFree hM p X.admits X.cas X.clock (acts := []) hfr happ hPc trivial
  have hq' : vx_Q Qc XC mc ms free a (U.calling g mk a) o s₂ := hq
  rw [State.frames_setTop' g h.top] at hend
  obtain ⟨g₀, hg0⟩ := Option.isSome_iff_exists.mp h.top
  obtain ⟨r, hr⟩ := State.topJava?_eq_some.mp hg0
  have hr' : (({ U with heap := s₂.heap, slotsUsed := s₂.slotsUsed } : State).setVm s₂.vm).frames = .java g₀ :: r := hr
  rcases hq' with ⟨hqc, L, hfe, hL⟩ | ⟨q, rfl, E, ce, L, hx, hce, hcv, hcl, hW₂, hsm, hL⟩
  · obtain ⟨⟨v, rfl⟩, hW₂, e2, q2, q3, q4, q5, q6⟩ := id hfe
    have e3 : s₂ = ({ (U.calling g mk a).setFrames s₂.frames with heap := s₂.heap, slotsUsed := s₂.slotsUsed } : State).setVm s₂.vm := by
      have : s₂ = ({ s₂ with vm := (U.calling g mk a).vm } : State).setVm s₂.vm := rfl
      rw [e2] at this
      exact this
    obtain ⟨c₂, i₂, len₂, hc₂, hd₂, hf₂⟩ := hend
    have hW' : U.WarmedH s₂.vm := hW₂
    have hcc : c₂ = c := by
      have h1 : s₂.code? g.method = U.code? g.method := by
        rw [State.code?_eq, State.code?_eq, hW'.alike.method?]
      exact Option.some.inj (hc₂.symm.trans (h1.trans h.code))
    subst hcc
    have hlen : len₂ = len := by rw [hdg] at hd₂; cases hd₂; rfl
    subst hlen
    have hs₂ : s₂ = (({ U with heap := s₂.heap, slotsUsed := s₂.slotsUsed } : State).setVm s₂.vm).setTop { g with pc := g.pc + len₂, stack := v.toList ++ g.stack } := by
      refine e3.trans ?_
      rw [hf₂, State.calling_eq h.top, State.setFrames_setFrames, State.setTop_of_frames _ hr', hr]
      rfl
    have hsame : U.sameButNew ({ U with heap := s₂.heap, slotsUsed := s₂.slotsUsed } : State) L mc ms := by
      refine ⟨?_, q2, q3, q4, q5, q6⟩
      obtain ⟨t, ht, -⟩ := State.frames_cons hr
      show ({ U with heap := s₂.heap, slotsUsed := s₂.slotsUsed } : State) = { U.setFrames U.frames with heap := s₂.heap, slotsUsed := s₂.slotsUsed }
      rw [State.setFrames_self ht]
    subst hg
    refine Or.inl ⟨v, ⟨(({ U with heap := s₂.heap, slotsUsed := s₂.slotsUsed } : State).setVm s₂.vm), Ls ++ L, c0 + mc, s0 + ms⟩,
      ⟨X.admits, X.cas, X.clock, X.frames, X.room, X.hears, X.method, X.code, (X.here.setHeapUsed s₂.heap s₂.slotsUsed).setVm hW'.alike, X.tail, State.WarmedH.trans X.warmed hW', X.limits, X.bytes, X.same.trans (hsame.setVm s.vm)⟩,
      ⟨g, mk, s₂, L, rfl, rfl, hqc, rfl, hL, rfl, rfl⟩, ?_⟩
    show Steps p.tables e below _ ((({ U with heap := s₂.heap, slotsUsed := s₂.slotsUsed } : State).setVm s₂.vm).setTop { g with pc := g.pc + len₂, stack := v.toList ++ g.stack })
    rw [← hs₂]
    exact hsteps
  · obtain ⟨e2, q2, q3, q4, q5, q6⟩ := id hsm
    have e3 : s₂ = ({ (U.calling g mk a).setFrames s₂.frames with heap := s₂.heap, slotsUsed := s₂.slotsUsed } : State).setVm s₂.vm := by
      have : s₂ = ({ s₂ with vm := (U.calling g mk a).vm } : State).setVm s₂.vm := rfl
      rw [e2] at this
      exact this
    have hf₂ : s₂.frames = .throwing q :: .java g :: U.frames.tail := hend
    have hW' : U.WarmedH s₂.vm := hW₂
    have hs₂ : s₂ = ((({ U with heap := s₂.heap, slotsUsed := s₂.slotsUsed } : State).setVm s₂.vm).setTop g).pushFrame (.throwing q) := by
      refine e3.trans ?_
      rw [hf₂, State.calling_eq h.top, State.setFrames_setFrames, State.pushFrame, State.frames_setTop _ hr', State.setTop_of_frames _ hr', State.setFrames_setFrames, hr]
      rfl
    have hsame : U.sameButNew ({ U with heap := s₂.heap, slotsUsed := s₂.slotsUsed } : State) L mc ms := by
      refine ⟨?_, q2, q3, q4, q5, q6⟩
      obtain ⟨t, ht, -⟩ := State.frames_cons hr
      show ({ U with heap := s₂.heap, slotsUsed := s₂.slotsUsed } : State) = { U.setFrames U.frames with heap := s₂.heap, slotsUsed := s₂.slotsUsed }
      rw [State.setFrames_self ht]
    subst hg
    refine Or.inr ⟨q, ⟨(({ U with heap := s₂.heap, slotsUsed := s₂.slotsUsed } : State).setVm s₂.vm), Ls ++ L, c0 + mc, s0 + ms⟩,
      ⟨X.admits, X.cas, X.clock, X.frames, X.room, X.hears, X.method, X.code, (X.here.setHeapUsed s₂.heap s₂.slotsUsed).setVm hW'.alike, X.tail, State.WarmedH.trans X.warmed hW', X.limits, X.bytes, X.same.trans (hsame.setVm s.vm)⟩,
      ⟨g, mk, s₂, L, E, ce, rfl, rfl, hx, hce, hcv, hcl, rfl, hL, rfl, rfl⟩, ?_⟩
    show Steps p.tables e below _ (((({ U with heap := s₂.heap, slotsUsed := s₂.slotsUsed } : State).setVm s₂.vm).setTop g).pushFrame (.throwing q))
    rw [← hs₂]
    exact hsteps
end
variable {p : Program} {l : Launch} {e : Env} {R : Room} {s : State} {m : MethodId} {args : Array Value} {below : List Frame} {meth : Method} {c : Code} {T : State} {H : Heap} {locs : List Loc} {cells slots : Nat}
theorem vx_callVX (X : Stand p l e R s m args below meth c T locs cells slots) (hexec : p.tables.exec = Jvm.exec) {own C : String} {index : Nat} {y : MethodName} {bytes : ByteArray} {maxL : Nat} {ret : Option FieldType} {hh : List (Nat × Nat × Nat × Nat)}
    (hown : s.vm.findClass own = some m.cls) (hlink : (Cond.methodLink own index y).before args s = true) (hinst : (Cond.instanceMethod y).before args s = true) (hsel : (Cond.selects C y y).before args s = true)
    (hcode : (Cond.codeWith y bytes maxL ret hh).before args s = true) (hy : y.cls ≠ "java/lang/invoke/MethodHandle" ∧ y.cls ≠ "java/lang/invoke/VarHandle")
    {W9 : Nat} {Pre : Pt → Array Value → Prop} {Post : Pt → Array Value → Option Value → Pt → Prop} {PostX : Pt → Array Value → Addr → Pt → Prop} (hK : vx_Back l R p e below s args y 3 W9 Pre Post PostX)
    {b : Addr} {cellB : Cell} (hcell : T.heap[b]? = some cellB) (hobj : cellB.vm.isStatics = false) (hcls : s.vm.findClass C = some cellB.cls)
    {g : JFrame} (hg : g.method = m) (hsize : g.locals.size = c.maxLocals) {argsL rest : List Value} (hlen : ∀ sig, parseMethodDescriptor y.desc = some sig → argsL.length = sig.parameters.length)
    (hstack : g.stack = argsL.reverse ++ .ref b :: rest) (hW : 2 * g.monitorRoom + (rest.map fun v => v.category).sum ≤ W9) (hdg : decode c.code g.pc = .ok (.invokevirtual index, 3))
    (hpre : ∀ vm₁, s.WarmedH vm₁ → Pre ⟨T.setVm vm₁, locs, cells, slots⟩ (Value.ref b :: argsL).toArray) :
    (∃ (v : Option Value) (vm₁ : Vm) (B : Pt), s.WarmedH vm₁ ∧ Stand p l e R s m args below meth c B.U B.locs B.cells B.slots ∧ Post ⟨T.setVm vm₁, locs, cells, slots⟩ (Value.ref b :: argsL).toArray v B ∧
      ∀ target, Steps p.tables e below (B.U.setTop { g with pc := g.pc + 3, stack := v.toList ++ rest }) target → Steps p.tables e below (T.setTop g) target) ∨
    (∃ (q : Addr) (vm₁ : Vm) (B : Pt), s.WarmedH vm₁ ∧ Stand p l e R s m args below meth c B.U B.locs B.cells B.slots ∧ PostX ⟨T.setVm vm₁, locs, cells, slots⟩ (Value.ref b :: argsL).toArray q B ∧
      Steps p.tables e below (T.setTop g) ((B.U.setTop { g with stack := rest }).pushFrame (.throwing q))) := by
  obtain ⟨mk, methM, hnamed, hmethM, hstM, habM⟩ := Cond.instanceMethod_spec hinst
  obtain ⟨m8, methM', cM, hn8, hmethM', -, -, -, -, -, -, hsigM⟩ := Cond.codeWith_spec hcode
  cases Option.some.inj (hn8.symm.trans hnamed)
  cases hmethM.symm.trans hmethM'
  obtain ⟨c2, r2, m2, q1, q2, q3, q4, kP, hkP, hkPi⟩ := Cond.selects_spec hsel
  cases hcls.symm.trans q1
  cases (State.methodFound?_of_named hnamed hy).symm.trans q2
  cases hnamed.symm.trans q3
  have hselP : selectMethod e.platform s.vm cellB.cls mk = .method mk := by rw [Launch.admits_selectMethod X.admits]; exact q4
  obtain ⟨vm₁, X₁, hstep₁⟩ := X.invokevirtual hexec hown hlink hnamed hmethM hstM hkP hkPi hy (a := b) (cell := cellB) hcell
    (fun z h => by rw [h] at hobj; cases hobj) hselP hmethM habM hkP hkPi (g := g) hg (argsL := argsL) (rest := rest) (hlen _ hsigM) hstack hdg
  rcases hK m meth c ⟨T.setVm vm₁, locs, cells, slots⟩ { g with stack := rest } (.invokevirtual index) mk (Value.ref b :: argsL).toArray X₁ hg hsize hdg hW (X₁.named hnamed) (hpre vm₁ X₁.warmed) with ⟨v, B, X', hpost, hsteps⟩ | ⟨q, B, X', hpost, hsteps⟩
  · exact Or.inl ⟨v, vm₁, B, X₁.warmed, X', hpost, fun target h => hstep₁ _ fun acts => by rw [doInvoke_state]; exact hsteps.trans h⟩
  · exact Or.inr ⟨q, vm₁, B, X₁.warmed, X', hpost, hstep₁ _ fun acts => by rw [doInvoke_state]; exact hsteps⟩
theorem vx_callSX (X : Stand p l e R s m args below meth c T locs cells slots) (hexec : p.tables.exec = Jvm.exec) {own : String} {index : Nat} {y : MethodName} {bytes : ByteArray} {maxL : Nat} {ret : Option FieldType} {hh : List (Nat × Nat × Nat × Nat)}
    (hown : s.vm.findClass own = some m.cls) (hlink : (Cond.methodLink own index y).before args s = true) (hstat : (Cond.static y).before args s = true) (hinit : (Cond.initialized y.cls).before args s = true)
    (hcode : (Cond.codeWith y bytes maxL ret hh).before args s = true) (hy : y.cls ≠ "java/lang/invoke/MethodHandle" ∧ y.cls ≠ "java/lang/invoke/VarHandle")
    {W9 : Nat} {Pre : Pt → Array Value → Prop} {Post : Pt → Array Value → Option Value → Pt → Prop} {PostX : Pt → Array Value → Addr → Pt → Prop} (hK : vx_Back l R p e below s args y 3 W9 Pre Post PostX)
    {g : JFrame} (hg : g.method = m) (hsize : g.locals.size = c.maxLocals) {argsL rest : List Value} (hlen : ∀ sig, parseMethodDescriptor y.desc = some sig → argsL.length = sig.parameters.length)
    (hstack : g.stack = argsL.reverse ++ rest) (hW : 2 * g.monitorRoom + (rest.map fun v => v.category).sum ≤ W9) (hdg : decode c.code g.pc = .ok (.invokestatic index, 3))
    (hpre : ∀ vm₁, s.WarmedH vm₁ → Pre ⟨T.setVm vm₁, locs, cells, slots⟩ argsL.toArray) :
    (∃ (v : Option Value) (vm₁ : Vm) (B : Pt), s.WarmedH vm₁ ∧ Stand p l e R s m args below meth c B.U B.locs B.cells B.slots ∧ Post ⟨T.setVm vm₁, locs, cells, slots⟩ argsL.toArray v B ∧
      ∀ target, Steps p.tables e below (B.U.setTop { g with pc := g.pc + 3, stack := v.toList ++ rest }) target → Steps p.tables e below (T.setTop g) target) ∨
    (∃ (q : Addr) (vm₁ : Vm) (B : Pt), s.WarmedH vm₁ ∧ Stand p l e R s m args below meth c B.U B.locs B.cells B.slots ∧ PostX ⟨T.setVm vm₁, locs, cells, slots⟩ argsL.toArray q B ∧
      Steps p.tables e below (T.setTop g) ((B.U.setTop { g with stack := rest }).pushFrame (.throwing q))) := by
  obtain ⟨mk, methM, cM, hnamed, hmethM, -, -, -, -, -, -, hsigM⟩ := Cond.codeWith_spec hcode
  have hstatic : methM.isStatic = true := Cond.static_spec hnamed hmethM hstat
  obtain ⟨kP, hkP, -⟩ := className_of_methodNamed hnamed
  have hinitP : kP.init = .initialized := Cond.initialized_spec (findClass_of_methodNamed hnamed) hkP hinit
  obtain ⟨vm₁, X₁, hstep₁⟩ := X.invokestatic hexec hown hlink hnamed hmethM hstatic hkP hinitP hy (g := g) hg (argsL := argsL) (rest := rest) (hlen _ hsigM) hstack hdg
  rcases hK m meth c ⟨T.setVm vm₁, locs, cells, slots⟩ { g with stack := rest } (.invokestatic index) mk argsL.toArray X₁ hg hsize hdg hW (X₁.named hnamed) (hpre vm₁ X₁.warmed) with ⟨v, B, X', hpost, hsteps⟩ | ⟨q, B, X', hpost, hsteps⟩
  · exact Or.inl ⟨v, vm₁, B, X₁.warmed, X', hpost, fun target h => hstep₁ _ fun acts => by rw [doInvoke_state]; exact hsteps.trans h⟩
  · exact Or.inr ⟨q, vm₁, B, X₁.warmed, X', hpost, hstep₁ _ fun acts => by rw [doInvoke_state]; exact hsteps⟩
theorem vx_callVW (X : Stand p l e R s m args below meth c T locs cells slots) (hexec : p.tables.exec = Jvm.exec) {own C : String} {index : Nat} {y : MethodName} {bytes : ByteArray} {maxL : Nat} {ret : Option FieldType} {hh : List (Nat × Nat × Nat × Nat)}
    (hown : s.vm.findClass own = some m.cls) (hlink : (Cond.methodLink own index y).before args s = true) (hinst : (Cond.instanceMethod y).before args s = true) (hsel : (Cond.selects C y y).before args s = true)
    (hcode : (Cond.codeWith y bytes maxL ret hh).before args s = true) (hy : y.cls ≠ "java/lang/invoke/MethodHandle" ∧ y.cls ≠ "java/lang/invoke/VarHandle")
    {W9 : Nat} {Pre : Pt → Array Value → Prop} {Post : Pt → Array Value → Option Value → Pt → Prop} (hK : Back l R p e below s args y 3 W9 Pre Post)
    {b : Addr} {cellB : Cell} (hcell : T.heap[b]? = some cellB) (hobj : cellB.vm.isStatics = false) (hcls : s.vm.findClass C = some cellB.cls)
    {g : JFrame} (hg : g.method = m) (hsize : g.locals.size = c.maxLocals) {argsL rest : List Value} (hlen : ∀ sig, parseMethodDescriptor y.desc = some sig → argsL.length = sig.parameters.length)
    (hstack : g.stack = argsL.reverse ++ .ref b :: rest) (hW : 2 * g.monitorRoom + (rest.map fun v => v.category).sum ≤ W9) (hdg : decode c.code g.pc = .ok (.invokevirtual index, 3))
    (hpre : ∀ vm₁, s.WarmedH vm₁ → Pre ⟨T.setVm vm₁, locs, cells, slots⟩ (Value.ref b :: argsL).toArray) :
    ∃ (v : Option Value) (vm₁ : Vm) (B : Pt), s.WarmedH vm₁ ∧ Stand p l e R s m args below meth c B.U B.locs B.cells B.slots ∧ Post ⟨T.setVm vm₁, locs, cells, slots⟩ (Value.ref b :: argsL).toArray v B ∧
      ∀ target, Steps p.tables e below (B.U.setTop { g with pc := g.pc + 3, stack := v.toList ++ rest }) target → Steps p.tables e below (T.setTop g) target := by
  obtain ⟨mk, methM, hnamed, hmethM, hstM, habM⟩ := Cond.instanceMethod_spec hinst
  obtain ⟨m8, methM', cM, hn8, hmethM', -, -, -, -, -, -, hsigM⟩ := Cond.codeWith_spec hcode
  cases Option.some.inj (hn8.symm.trans hnamed)
  cases hmethM.symm.trans hmethM'
  obtain ⟨c2, r2, m2, q1, q2, q3, q4, kP, hkP, hkPi⟩ := Cond.selects_spec hsel
  cases hcls.symm.trans q1
  cases (State.methodFound?_of_named hnamed hy).symm.trans q2
  cases hnamed.symm.trans q3
  have hselP : selectMethod e.platform s.vm cellB.cls mk = .method mk := by rw [Launch.admits_selectMethod X.admits]; exact q4
  obtain ⟨vm₁, X₁, hstep₁⟩ := X.invokevirtual hexec hown hlink hnamed hmethM hstM hkP hkPi hy (a := b) (cell := cellB) hcell
    (fun z h => by rw [h] at hobj; cases hobj) hselP hmethM habM hkP hkPi (g := g) hg (argsL := argsL) (rest := rest) (hlen _ hsigM) hstack hdg
  obtain ⟨v, B, X', hpost, hsteps⟩ := hK m meth c ⟨T.setVm vm₁, locs, cells, slots⟩ { g with stack := rest } (.invokevirtual index) mk (Value.ref b :: argsL).toArray X₁ hg hsize hdg hW (X₁.named hnamed) (hpre vm₁ X₁.warmed)
  exact ⟨v, vm₁, B, X₁.warmed, X', hpost, fun target h => hstep₁ _ fun acts => by rw [doInvoke_state]; exact hsteps.trans h⟩
abbrev vx_CVW (R : Room) (s : State) (args : Array Value) (own C : String) (index : Nat) (y : MethodName) (bytes : ByteArray) (maxL : Nat) (ret : Option FieldType) (hh : List (Nat × Nat × Nat × Nat)) (ws : List Cond) (rm : Room) (mc ms n : Nat) : Prop :=
  (rm.cells = mc ∧ rm.slots = ms ∧ rm.frames + 1 ≤ R.frames ∧ 8 + (maxL + 11) + rm.locals ≤ R.locals ∧ (∀ w ∈ ws, ∀ (a' : Array Value) (U : State), s.WarmedH U.vm → w.before a' U = true) ∧ Cond.codeWith y bytes maxL ret hh ∈ ws) ∧
  (Cond.codeWith y bytes maxL ret hh).before args s = true ∧ (Cond.initialized y.cls).before args s = true ∧ (y.cls ≠ "java/lang/invoke/MethodHandle" ∧ y.cls ≠ "java/lang/invoke/VarHandle") ∧
  (∀ sig, parseMethodDescriptor y.desc = some sig → n = sig.parameters.length) ∧ (Cond.methodLink own index y).before args s = true ∧ (Cond.instanceMethod y).before args s = true ∧ (Cond.selects C y y).before args s = true
theorem vx_cwVW {own C : String} {index maxL mc ms : Nat} {y : MethodName} {bytes : ByteArray} {ret : Option FieldType} {hh : List (Nat × Nat × Nat × Nat)} {Ts ws ws' : List Cond} {rm : Room} (n : Nat) (ht : ∀ w ∈ Ts, w.before args s = true) (hT : GoodIn Ts (wsV own index C y ws)) (hw : ws = Cond.codeWith y bytes maxL ret hh :: ws') (hrc : rm.cells = mc) (hrs : rm.slots = ms)
    (hd : y.cls = C ∧ y.cls ≠ "java/lang/invoke/MethodHandle" ∧ y.cls ≠ "java/lang/invoke/VarHandle" ∧ (parseMethodDescriptor y.desc).map (fun d => d.parameters.length) = some n) (hR : rm.frames + 1 ≤ R.frames ∧ 8 + (maxL + 11) + rm.locals ≤ R.locals) :
    vx_CVW R s args own C index y bytes maxL ret hh ws rm mc ms n := by
  obtain ⟨hC, hd⟩ := hd
  subst hC
  have ok : ∀ w ∈ wsV own index y.cls y ws, w.before args s = true := fun w h => ht w (hT w h).1
  have hG : GoodIn Ts ws := fun w h => hT w (by unfold wsV; exact List.mem_append_right _ h)
  have hc : Cond.codeWith y bytes maxL ret hh ∈ ws := by rw [hw]; exact List.mem_cons_self
  refine ⟨⟨hrc, hrs, hR.1, hR.2, pay_in ht hG, hc⟩, ht _ (hG _ hc).1, ok _ (by simp [wsV]), ⟨hd.1, hd.2.1⟩, fun sig h => ?_, ok _ (by simp [wsV]), ok _ (by simp [wsV]), ok _ (by simp [wsV])⟩
  have h2 := hd.2.2
  rw [h] at h2
  exact (Option.some.inj h2).symm
theorem vx_runVW {y : MethodName} {bytes cc : ByteArray} {maxL nL mc ms n index : Nat} {ret : Option FieldType} {hh : List (Nat × Nat × Nat × Nat)} {ws : List Cond} {rm : Room} {Pc : Array Value → State → Prop} {Qc : Array Value → State → Outcome → State → Prop} {free : Addr → Prop} {Ts : List Cond} {own C : String} {b : Addr} {As rest : List Value} {g : JFrame}
    (S : CallFix p m c cc nL s args Ts own) (hM : Met l y ws rm Pc Qc mc ms free) (cw : vx_CVW R s args own C index y bytes maxL ret hh ws rm mc ms n) (hp : PreV s H C b Pc As)
    (hg : g.method = m) (hn : As.length = n) (hsize : g.locals.size = nL) (hstack : g.stack = As.reverse ++ .ref b :: rest) (hW : 2 * g.monitorRoom + (rest.map fun v => v.category).sum ≤ 8) (hdg : decode cc g.pc = .ok (.invokevirtual index, 3)) (hf : cells + mc ≤ R.cells ∧ slots + ms ≤ R.slots) :
    va_Run p l e R s m args below meth c H locs cells slots mc ms g rest (Qc (Value.ref b :: As).toArray) free := by
  obtain ⟨⟨hrc, hrs, hfr, hlo, hws, hcw⟩, hcode, hini, hy, hlen, hl, hin, hse⟩ := cw
  have hK : Back l R p e below s args y 3 8 (PreOf R mc ms Pc) (PostOf Qc mc ms free) := va_backW (hh := hh) (bytes := bytes) (maxL := maxL) (ret := ret) hM hp.1 hrc hrs hfr hlo hws hcw (fun a' U hW => word_at hW (Or.inl (by first | rfl | simp [Cond.onTables, Cond.keeps, Cond.steady])) hini)
  obtain ⟨hx, hb, hml, ho, -⟩ := S
  obtain ⟨-, ⟨cellB, hcB, hoB, hclB⟩, hPc⟩ := hp
  intro T hT X
  obtain ⟨v, vm₁, ⟨U', l2, c2, s2⟩, hW₁, X', ⟨g', mk, t, L, e1, e2, hq, h1, hL, h2, h3⟩, st⟩ := vx_callVW X hx (C := C) (hh := hh) (bytes := bytes) (maxL := maxL) (ret := ret) ho hl hin hse hcode hy hK (by rw [hT]; exact hcB) hoB hclB hg (hsize.trans hml.symm) (argsL := As) (rest := rest) (fun sig h => hn.trans (hlen sig h)) hstack hW (by rw [hb]; exact hdg)
    (fun vm₁ hW₁ => ⟨hf.1, hf.2, hPc (T.setVm vm₁) hT hW₁⟩)
  dsimp only [Pt.U, Pt.locs, Pt.cells, Pt.slots] at X' e1 e2 h1 h2 h3 st
  subst h1; subst h2; subst h3
  exact ⟨v, (T.setVm vm₁).calling g' mk (Value.ref b :: As).toArray, t, U', L, hT, X', hL, e1, e2, hq, st⟩
section
variable {y : MethodName} {bytes cc : ByteArray} {maxL nL mc ms n index : Nat} {ret : Option FieldType} {ws : List Cond} {rm : Room} {Pc : Array Value → State → Prop} {Qc : Array Value → State → Outcome → State → Prop} {XC : String → State → State → Prop} {free : Addr → Prop} {Ts : List Cond} {own C : String} {b : Addr} {As rest : List Value} {g : JFrame}
theorem vx_runVX {hh : List (Nat × Nat × Nat × Nat)} (S : CallFix p m c cc nL s args Ts own) (hM : vx_Met l y ws rm Pc Qc XC mc ms free) (cw : vx_CVW R s args own C index y bytes maxL ret hh ws rm mc ms n) (hp : PreV s H C b Pc As)
    (hg : g.method = m) (hn : As.length = n) (hsize : g.locals.size = nL) (hstack : g.stack = As.reverse ++ .ref b :: rest) (hW : 2 * g.monitorRoom + (rest.map fun v => v.category).sum ≤ 8) (hdg : decode cc g.pc = .ok (.invokevirtual index, 3)) (hf : cells + mc ≤ R.cells ∧ slots + ms ≤ R.slots) :
    vx_Run p l e R s m args below meth c H locs cells slots mc ms g rest (Qc (Value.ref b :: As).toArray) XC free := by
  obtain ⟨⟨hrc, hrs, hfr, hlo, hws, hcw⟩, hcode, hini, hy, hlen, hl, hin, hse⟩ := cw
  have hK : vx_Back l R p e below s args y 3 8 (PreOf R mc ms Pc) (PostOf Qc mc ms free) (vx_Post XC mc ms free) := vx_backW (hh := hh) (bytes := bytes) (maxL := maxL) (ret := ret) hM hp.1 hrc hrs hfr hlo hws hcw (fun a' U hW => word_at hW (Or.inl (by first | rfl | simp [Cond.onTables, Cond.keeps, Cond.steady])) hini)
  obtain ⟨hx, hb, hml, ho, -⟩ := S
  obtain ⟨-, ⟨cellB, hcB, hoB, hclB⟩, hPc⟩ := hp
  intro T hT X
  rcases vx_callVX X hx (C := C) (hh := hh) (bytes := bytes) (maxL := maxL) (ret := ret) ho hl hin hse hcode hy hK (by rw [hT]; exact hcB) hoB hclB hg (hsize.trans hml.symm) (argsL := As) (rest := rest) (fun sig h => hn.trans (hlen sig h)) hstack hW (by rw [hb]; exact hdg)
    (fun vm₁ hW₁ => ⟨hf.1, hf.2, hPc (T.setVm vm₁) hT hW₁⟩) with ⟨v, vm₁, ⟨U', l2, c2, s2⟩, hW₁, X', ⟨g', mk, t, L, e1, e2, hq, h1, hL, h2, h3⟩, st⟩ | ⟨q, vm₁, ⟨U', l2, c2, s2⟩, hW₁, X', ⟨g', mk, t, L, E, ce, e1, e2, hq, hce, hcv, hcl, h1, hL, h2, h3⟩, st⟩
  · dsimp only [Pt.U, Pt.locs, Pt.cells, Pt.slots] at X' e1 e2 h1 h2 h3 st
    subst h1; subst h2; subst h3
    exact Or.inl ⟨v, (T.setVm vm₁).calling g' mk (Value.ref b :: As).toArray, t, U', L, hT, X', hL, e1, e2, hq, st⟩
  · dsimp only [Pt.U, Pt.locs, Pt.cells, Pt.slots] at X' e1 e2 h1 h2 h3 st hcl
    subst h1; subst h2; subst h3
    exact Or.inr ⟨q, (T.setVm vm₁).calling g' mk (Value.ref b :: As).toArray, t, U', L, E, ce, hT, X', hL, e1, e2, hq, hce, hcv, vx_cls hW₁ hcl, st⟩
theorem vx_runSX {hh : List (Nat × Nat × Nat × Nat)} (S : CallFix p m c cc nL s args Ts own) (hM : vx_Met l y ws rm Pc Qc XC mc ms free) (cw : vx_CSW R s args own index y bytes maxL ret hh ws rm mc ms n) (hp : PreS s H Pc As)
    (hg : g.method = m) (hn : As.length = n) (hsize : g.locals.size = nL) (hstack : g.stack = As.reverse ++ rest) (hW : 2 * g.monitorRoom + (rest.map fun v => v.category).sum ≤ 8) (hdg : decode cc g.pc = .ok (.invokestatic index, 3)) (hf : cells + mc ≤ R.cells ∧ slots + ms ≤ R.slots) :
    vx_Run p l e R s m args below meth c H locs cells slots mc ms g rest (Qc As.toArray) XC free := by
  obtain ⟨⟨hrc, hrs, hfr, hlo, hws, hcw⟩, hcode, hini, hy, hlen, hl, hstt⟩ := cw
  have hK : vx_Back l R p e below s args y 3 8 (PreOf R mc ms Pc) (PostOf Qc mc ms free) (vx_Post XC mc ms free) := vx_backW (hh := hh) (bytes := bytes) (maxL := maxL) (ret := ret) hM hp.1 hrc hrs hfr hlo hws hcw (fun a' U hW => word_at hW (Or.inl (by first | rfl | simp [Cond.onTables, Cond.keeps, Cond.steady])) hini)
  obtain ⟨hx, hb, hml, ho, -⟩ := S
  intro T hT X
  rcases vx_callSX X hx (hh := hh) (bytes := bytes) (maxL := maxL) (ret := ret) ho hl hstt hini hcode hy hK hg (hsize.trans hml.symm) (argsL := As) (rest := rest) (fun sig h => hn.trans (hlen sig h)) hstack hW (by rw [hb]; exact hdg)
    (fun vm₁ hW₁ => ⟨hf.1, hf.2, hp.2 (T.setVm vm₁) hT hW₁⟩) with ⟨v, vm₁, ⟨U', l2, c2, s2⟩, hW₁, X', ⟨g', mk, t, L, e1, e2, hq, h1, hL, h2, h3⟩, st⟩ | ⟨q, vm₁, ⟨U', l2, c2, s2⟩, hW₁, X', ⟨g', mk, t, L, E, ce, e1, e2, hq, hce, hcv, hcl, h1, hL, h2, h3⟩, st⟩
  · dsimp only [Pt.U, Pt.locs, Pt.cells, Pt.slots] at X' e1 e2 h1 h2 h3 st
    subst h1; subst h2; subst h3
    exact Or.inl ⟨v, (T.setVm vm₁).calling g' mk As.toArray, t, U', L, hT, X', hL, e1, e2, hq, st⟩
  · dsimp only [Pt.U, Pt.locs, Pt.cells, Pt.slots] at X' e1 e2 h1 h2 h3 st hcl
    subst h1; subst h2; subst h3
    exact Or.inr ⟨q, (T.setVm vm₁).calling g' mk As.toArray, t, U', L, E, ce, hT, X', hL, e1, e2, hq, hce, hcv, vx_cls hW₁ hcl, st⟩
end
end VXH
theorem vx_ofWH {l : Launch} {y : MethodName} {ws ws' : List Cond} {rm : Room} {Pc : Array Value → State → Prop} {Qc : Array Value → State → Outcome → State → Prop} {XC : String → State → State → Prop} {mc ms : Nat} {free : Addr → Prop} {cc : ByteArray} {maxL : Nat} {ret : Option FieldType} {hh : List (Nat × Nat × Nat × Nat)}
    (hy : plainName y.cls = true) (hw : ws = Cond.codeWith y cc maxL ret hh :: ws')
    (body : ∀ p e s m args below meth c s₁, BodyLoose p l y (headSpec ws rm) cc maxL ret e s m args below meth c s₁ → c.maxLocals = maxL → Pc args s →
      W p l e (headSpec ws rm).room s m args below meth c s.heap [] 0 0 (vx_MQ below Qc XC args s mc ms free) (entryFrame m args maxL)) : vx_Met l y ws rm Pc Qc XC mc ms free := by
  refine MetFree.of_bodyS (code := cc) (maxLocals := maxL) (ret := ret) hy ?_ ?_
  · intro args s m h hn
    obtain ⟨m9, meth, c, hn9, h1, h2, h3, h4, -, h5, h6, -⟩ := Cond.codeWith_spec (atoms_spec (ws := ws) h _ (by rw [hw]; exact List.mem_cons_self))
    cases hn.symm.trans hn9
    exact ⟨meth, c, h1, h2, h3, h4, h5, h6⟩
  · intro p e s m args below meth c s₁ B hml hP _
    have hh0 : s₁.heap = s.heap := by rw [B.state]; rfl
    obtain ⟨t, a1, o, b1, b2, b3⟩ := body p e s m args below meth c s₁ B hml hP s₁ hh0 (Stand.of_body B)
    exact ⟨t, o, a1, b1, b2, b3⟩
/-! ===== END ===== -/
end
section
/-! ===== BEGIN printed: names, fields, word lists, decode rows ===== -/
def RX0 : String := "Delaypouch$Bundle"
def TX0 : u_T := fun k => match k with
  | 0 => ("Delaypouch$Bundle", "number", "I", true)
  | 1 => ("Delaypouch$Bundle", "destination", "I", true)
  | 2 => ("Delaypouch$Bundle", "priority", "I", true)
  | 3 => ("Delaypouch$Bundle", "end", "I", true)
  | 4 => ("Delaypouch$Bundle", "copiesAt", "[I", true)
  | 5 => ("Delaypouch$Bundle", "hopsAt", "[I", true)
  | 6 => ("Delaypouch$Bundle", "knownAt", "[Z", true)
  | 7 => ("Delaypouch$Bundle", "custodian", "I", false)
  | 8 => ("Delaypouch$Bundle", "deliverySecond", "I", false)
  | 9 => ("Delaypouch$Bundle", "deliveryHops", "I", false)
  | _ => ("Delaypouch$Bundle", "giver", "I", false)
def tyX0 : Nat → FieldType := fun k => match k with
  | 0 => .int
  | 1 => .int
  | 2 => .int
  | 3 => .int
  | 4 => .array .int
  | 5 => .array .int
  | 6 => .array .boolean
  | 7 => .int
  | 8 => .int
  | 9 => .int
  | _ => .int
abbrev wsX00 : List Cond := u_ws RX0 TX0 11
theorem nmX0 : ∀ a, a < 11 → ∀ b, b < 11 → a ≠ b → (TX0 a).2.1 ≠ (TX0 b).2.1 := by decide +kernel
theorem tyX0_ok : ∀ k, k < 11 → parseFieldDescriptor (TX0 k).2.2.1 = some (tyX0 k) := by decide +kernel
abbrev cX0_init : ByteArray := prog_2_method_1_code
def yX0_init : MethodName := ⟨RX0, "<init>", "(IIII)V"⟩
abbrev cX0_isBefore : ByteArray := prog_2_method_2_code
def yX0_isBefore : MethodName := ⟨RX0, "isBefore", "(LDelaypouch$Bundle;)Z"⟩
abbrev cX0_isAt : ByteArray := prog_2_method_3_code
def yX0_isAt : MethodName := ⟨RX0, "isAt", "(I)Z"⟩
abbrev cX0_canDeliver : ByteArray := prog_2_method_4_code
def yX0_canDeliver : MethodName := ⟨RX0, "canDeliver", "(II)Z"⟩
abbrev cX0_canSpray : ByteArray := prog_2_method_5_code
def yX0_canSpray : MethodName := ⟨RX0, "canSpray", "(II)Z"⟩
abbrev cX0_put : ByteArray := prog_2_method_6_code
def yX0_put : MethodName := ⟨RX0, "put", "(III)V"⟩
abbrev cX0_leave : ByteArray := prog_2_method_7_code
def yX0_leave : MethodName := ⟨RX0, "leave", "(I)V"⟩
abbrev cX0_halve : ByteArray := prog_2_method_8_code
def yX0_halve : MethodName := ⟨RX0, "halve", "(II)V"⟩
abbrev cX0_deliver : ByteArray := prog_2_method_9_code
def yX0_deliver : MethodName := ⟨RX0, "deliver", "(II)V"⟩
abbrev cX0_learn : ByteArray := prog_2_method_10_code
def yX0_learn : MethodName := ⟨RX0, "learn", "(I)V"⟩
abbrev cX0_vanish : ByteArray := prog_2_method_11_code
def yX0_vanish : MethodName := ⟨RX0, "vanish", "()V"⟩
def RX1 : String := "Delaypouch$Plan"
def TX1 : u_T := fun k => match k with
  | 0 => ("Delaypouch$Plan", "nodes", "[I", true)
  | 1 => ("Delaypouch$Plan", "others", "[I", true)
  | 2 => ("Delaypouch$Plan", "firsts", "[I", true)
  | 3 => ("Delaypouch$Plan", "lasts", "[I", true)
  | 4 => ("Delaypouch$Plan", "reached", "[I", true)
  | 5 => ("Delaypouch$Plan", "settled", "[Z", true)
  | _ => ("Delaypouch$Plan", "size", "I", false)
def tyX1 : Nat → FieldType := fun k => match k with
  | 0 => .array .int
  | 1 => .array .int
  | 2 => .array .int
  | 3 => .array .int
  | 4 => .array .int
  | 5 => .array .boolean
  | _ => .int
abbrev wsX10 : List Cond := u_ws RX1 TX1 7
theorem nmX1 : ∀ a, a < 7 → ∀ b, b < 7 → a ≠ b → (TX1 a).2.1 ≠ (TX1 b).2.1 := by decide +kernel
theorem tyX1_ok : ∀ k, k < 7 → parseFieldDescriptor (TX1 k).2.2.1 = some (tyX1 k) := by decide +kernel
abbrev cX1_init : ByteArray := prog_3_method_1_code
def yX1_init : MethodName := ⟨RX1, "<init>", "()V"⟩
abbrev cX1_add : ByteArray := prog_3_method_2_code
def yX1_add : MethodName := ⟨RX1, "add", "(IIII)Z"⟩
abbrev cX1_arrivalByNodes : ByteArray := prog_3_method_3_code
def yX1_arrivalByNodes : MethodName := ⟨RX1, "arrivalByNodes", "(III)I"⟩
abbrev cX1_arrivalByContacts : ByteArray := prog_3_method_4_code
def yX1_arrivalByContacts : MethodName := ⟨RX1, "arrivalByContacts", "(III)I"⟩
abbrev cX1_start : ByteArray := prog_3_method_5_code
def yX1_start : MethodName := ⟨RX1, "start", "(II)V"⟩
abbrev cX1_nearestUnsettled : ByteArray := prog_3_method_6_code
def yX1_nearestUnsettled : MethodName := ⟨RX1, "nearestUnsettled", "()I"⟩
abbrev cX1_spread : ByteArray := prog_3_method_7_code
def yX1_spread : MethodName := ⟨RX1, "spread", "(I)V"⟩
abbrev cX1_carry : ByteArray := prog_3_method_8_code
def yX1_carry : MethodName := ⟨RX1, "carry", "(III)Z"⟩
def RX2 : String := "Delaypouch"
def TX2 : u_T := fun k => match k with
  | 0 => ("Delaypouch", "now", "I", false)
  | 1 => ("Delaypouch", "places", "[I", true)
  | 2 => ("Delaypouch", "drops", "[I", true)
  | 3 => ("Delaypouch", "refusals", "[I", true)
  | 4 => ("Delaypouch", "sent", "Ljava/util/ArrayList;", true)
  | 5 => ("Delaypouch", "ordered", "Ljava/util/ArrayList;", true)
  | _ => ("Delaypouch", "plan", "LDelaypouch$Plan;", true)
def tyX2 : Nat → FieldType := fun k => match k with
  | 0 => .int
  | 1 => .array .int
  | 2 => .array .int
  | 3 => .array .int
  | 4 => .object "java/util/ArrayList"
  | 5 => .object "java/util/ArrayList"
  | _ => .object "Delaypouch$Plan"
abbrev wsX20 : List Cond := u_ws RX2 TX2 7
theorem nmX2 : ∀ a, a < 7 → ∀ b, b < 7 → a ≠ b → (TX2 a).2.1 ≠ (TX2 b).2.1 := by decide +kernel
theorem tyX2_ok : ∀ k, k < 7 → parseFieldDescriptor (TX2 k).2.2.1 = some (tyX2 k) := by decide +kernel
abbrev cX2_init : ByteArray := prog_1_method_1_code
def yX2_init : MethodName := ⟨RX2, "<init>", "()V"⟩
abbrev cX2_send : ByteArray := prog_1_method_2_code
def yX2_send : MethodName := ⟨RX2, "send", "(IIIII)I"⟩
abbrev cX2_meet : ByteArray := prog_1_method_3_code
def yX2_meet : MethodName := ⟨RX2, "meet", "(III)I"⟩
abbrev cX2_pass : ByteArray := prog_1_method_4_code
def yX2_pass : MethodName := ⟨RX2, "pass", "(I)I"⟩
abbrev cX2_setBuffer : ByteArray := prog_1_method_5_code
def yX2_setBuffer : MethodName := ⟨RX2, "setBuffer", "(II)I"⟩
abbrev cX2_addContact : ByteArray := prog_1_method_6_code
def yX2_addContact : MethodName := ⟨RX2, "addContact", "(IIII)I"⟩
abbrev cX2_clock : ByteArray := prog_1_method_7_code
def yX2_clock : MethodName := ⟨RX2, "clock", "()I"⟩
abbrev cX2_bundles : ByteArray := prog_1_method_8_code
def yX2_bundles : MethodName := ⟨RX2, "bundles", "()I"⟩
abbrev cX2_endOf : ByteArray := prog_1_method_9_code
def yX2_endOf : MethodName := ⟨RX2, "endOf", "(I)I"⟩
abbrev cX2_deliveredAt : ByteArray := prog_1_method_10_code
def yX2_deliveredAt : MethodName := ⟨RX2, "deliveredAt", "(I)I"⟩
abbrev cX2_hops : ByteArray := prog_1_method_11_code
def yX2_hops : MethodName := ⟨RX2, "hops", "(I)I"⟩
abbrev cX2_custodian : ByteArray := prog_1_method_12_code
def yX2_custodian : MethodName := ⟨RX2, "custodian", "(I)I"⟩
abbrev cX2_holders : ByteArray := prog_1_method_13_code
def yX2_holders : MethodName := ⟨RX2, "holders", "(I)I"⟩
abbrev cX2_copies : ByteArray := prog_1_method_14_code
def yX2_copies : MethodName := ⟨RX2, "copies", "(II)I"⟩
abbrev cX2_knows : ByteArray := prog_1_method_15_code
def yX2_knows : MethodName := ⟨RX2, "knows", "(II)Z"⟩
abbrev cX2_held : ByteArray := prog_1_method_16_code
def yX2_held : MethodName := ⟨RX2, "held", "(I)I"⟩
abbrev cX2_heldAt : ByteArray := prog_1_method_17_code
def yX2_heldAt : MethodName := ⟨RX2, "heldAt", "(II)I"⟩
abbrev cX2_dropped : ByteArray := prog_1_method_18_code
def yX2_dropped : MethodName := ⟨RX2, "dropped", "(I)I"⟩
abbrev cX2_refused : ByteArray := prog_1_method_19_code
def yX2_refused : MethodName := ⟨RX2, "refused", "(I)I"⟩
abbrev cX2_arrival : ByteArray := prog_1_method_20_code
def yX2_arrival : MethodName := ⟨RX2, "arrival", "(II)I"⟩
abbrev cX2_arrivalByRounds : ByteArray := prog_1_method_21_code
def yX2_arrivalByRounds : MethodName := ⟨RX2, "arrivalByRounds", "(II)I"⟩
abbrev cX2_promised : ByteArray := prog_1_method_22_code
def yX2_promised : MethodName := ⟨RX2, "promised", "(I)I"⟩
abbrev cX2_isWithin : ByteArray := prog_1_method_23_code
def yX2_isWithin : MethodName := ⟨RX2, "isWithin", "(III)Z"⟩
abbrev cX2_isNode : ByteArray := prog_1_method_24_code
def yX2_isNode : MethodName := ⟨RX2, "isNode", "(I)Z"⟩
abbrev cX2_checkNode : ByteArray := prog_1_method_25_code
def yX2_checkNode : MethodName := ⟨RX2, "checkNode", "(I)V"⟩
abbrev cX2_numbered : ByteArray := prog_1_method_26_code
def yX2_numbered : MethodName := ⟨RX2, "numbered", "(I)LDelaypouch$Bundle;"⟩
abbrev cX2_secondOrNone : ByteArray := prog_1_method_27_code
def yX2_secondOrNone : MethodName := ⟨RX2, "secondOrNone", "(I)I"⟩
abbrev cX2_placeInOrder : ByteArray := prog_1_method_28_code
def yX2_placeInOrder : MethodName := ⟨RX2, "placeInOrder", "(LDelaypouch$Bundle;)I"⟩
abbrev cX2_countAt : ByteArray := prog_1_method_29_code
def yX2_countAt : MethodName := ⟨RX2, "countAt", "(I)I"⟩
abbrev cX2_makeRoom : ByteArray := prog_1_method_30_code
def yX2_makeRoom : MethodName := ⟨RX2, "makeRoom", "(II)Z"⟩
abbrev cX2_lastWithoutCustody : ByteArray := prog_1_method_31_code
def yX2_lastWithoutCustody : MethodName := ⟨RX2, "lastWithoutCustody", "(I)LDelaypouch$Bundle;"⟩
abbrev cX2_exchangeReceipts : ByteArray := prog_1_method_32_code
def yX2_exchangeReceipts : MethodName := ⟨RX2, "exchangeReceipts", "(II)V"⟩
abbrev cX2_findSprays : ByteArray := prog_1_method_33_code
def yX2_findSprays : MethodName := ⟨RX2, "findSprays", "(II)V"⟩
abbrev cX2_deliverSome : ByteArray := prog_1_method_34_code
def yX2_deliverSome : MethodName := ⟨RX2, "deliverSome", "(III)I"⟩
abbrev cX2_spraySome : ByteArray := prog_1_method_35_code
def yX2_spraySome : MethodName := ⟨RX2, "spraySome", "(III)I"⟩
abbrev cX2_spray : ByteArray := prog_1_method_36_code
def yX2_spray : MethodName := ⟨RX2, "spray", "(LDelaypouch$Bundle;II)Z"⟩
abbrev cX2_moveCustody : ByteArray := prog_1_method_37_code
def yX2_moveCustody : MethodName := ⟨RX2, "moveCustody", "(II)V"⟩
abbrev cX2_moveCustodyIfNearer : ByteArray := prog_1_method_38_code
def yX2_moveCustodyIfNearer : MethodName := ⟨RX2, "moveCustodyIfNearer", "(LDelaypouch$Bundle;II)V"⟩
def RX3 : String := "DelaypouchModel"
def TX3 : u_T := fun k => match k with
  | 0 => ("DelaypouchModel", "goal", "[I", true)
  | 1 => ("DelaypouchModel", "rank", "[I", true)
  | 2 => ("DelaypouchModel", "end", "[I", true)
  | 3 => ("DelaypouchModel", "keeper", "[I", true)
  | 4 => ("DelaypouchModel", "came", "[I", true)
  | 5 => ("DelaypouchModel", "way", "[I", true)
  | 6 => ("DelaypouchModel", "has", "[I", true)
  | 7 => ("DelaypouchModel", "steps", "[I", true)
  | 8 => ("DelaypouchModel", "told", "[I", true)
  | 9 => ("DelaypouchModel", "places", "[I", true)
  | 10 => ("DelaypouchModel", "lost", "[I", true)
  | 11 => ("DelaypouchModel", "spurned", "[I", true)
  | 12 => ("DelaypouchModel", "plan", "[I", true)
  | 13 => ("DelaypouchModel", "job", "[I", true)
  | 14 => ("DelaypouchModel", "giver", "[I", true)
  | 15 => ("DelaypouchModel", "best", "[I", true)
  | 16 => ("DelaypouchModel", "fixed", "[I", true)
  | 17 => ("DelaypouchModel", "count", "I", false)
  | 18 => ("DelaypouchModel", "contacts", "I", false)
  | 19 => ("DelaypouchModel", "time", "I", false)
  | _ => ("DelaypouchModel", "thrown", "I", false)
def tyX3 : Nat → FieldType := fun k => match k with
  | 0 => .array .int
  | 1 => .array .int
  | 2 => .array .int
  | 3 => .array .int
  | 4 => .array .int
  | 5 => .array .int
  | 6 => .array .int
  | 7 => .array .int
  | 8 => .array .int
  | 9 => .array .int
  | 10 => .array .int
  | 11 => .array .int
  | 12 => .array .int
  | 13 => .array .int
  | 14 => .array .int
  | 15 => .array .int
  | 16 => .array .int
  | 17 => .int
  | 18 => .int
  | 19 => .int
  | _ => .int
abbrev wsX30 : List Cond := u_ws RX3 TX3 21
theorem nmX3 : ∀ a, a < 21 → ∀ b, b < 21 → a ≠ b → (TX3 a).2.1 ≠ (TX3 b).2.1 := by decide +kernel
theorem tyX3_ok : ∀ k, k < 21 → parseFieldDescriptor (TX3 k).2.2.1 = some (tyX3 k) := by decide +kernel
abbrev cX3_init : ByteArray := prog_5_method_1_code
def yX3_init : MethodName := ⟨RX3, "<init>", "()V"⟩
abbrev cX3_thrown : ByteArray := prog_5_method_2_code
def yX3_thrown : MethodName := ⟨RX3, "thrown", "()I"⟩
abbrev cX3_holds : ByteArray := prog_5_method_3_code
def yX3_holds : MethodName := ⟨RX3, "holds", "(I)Z"⟩
abbrev cX3_plain : ByteArray := prog_5_method_4_code
def yX3_plain : MethodName := ⟨RX3, "plain", "(I)I"⟩
abbrev cX3_between : ByteArray := prog_5_method_5_code
def yX3_between : MethodName := ⟨RX3, "between", "(III)Z"⟩
abbrev cX3_isNode : ByteArray := prog_5_method_6_code
def yX3_isNode : MethodName := ⟨RX3, "isNode", "(I)Z"⟩
abbrev cX3_isBundle : ByteArray := prog_5_method_7_code
def yX3_isBundle : MethodName := ⟨RX3, "isBundle", "(I)Z"⟩
abbrev cX3_precedes : ByteArray := prog_5_method_8_code
def yX3_precedes : MethodName := ⟨RX3, "precedes", "(II)Z"⟩
abbrev cX3_load : ByteArray := prog_5_method_9_code
def yX3_load : MethodName := ⟨RX3, "load", "(I)I"⟩
abbrev cX3_last : ByteArray := prog_5_method_10_code
def yX3_last : MethodName := ⟨RX3, "last", "(I)I"⟩
abbrev cX3_hasRoom : ByteArray := prog_5_method_11_code
def yX3_hasRoom : MethodName := ⟨RX3, "hasRoom", "(II)Z"⟩
abbrev cX3_learn : ByteArray := prog_5_method_12_code
def yX3_learn : MethodName := ⟨RX3, "learn", "(II)V"⟩
abbrev cX3_send : ByteArray := prog_5_method_13_code
def yX3_send : MethodName := ⟨RX3, "send", "(IIIII)I"⟩
abbrev cX3_talk : ByteArray := prog_5_method_14_code
def yX3_talk : MethodName := ⟨RX3, "talk", "(II)V"⟩
abbrev cX3_wants : ByteArray := prog_5_method_15_code
def yX3_wants : MethodName := ⟨RX3, "wants", "(IIIZ)Z"⟩
abbrev cX3_gather : ByteArray := prog_5_method_16_code
def yX3_gather : MethodName := ⟨RX3, "gather", "(IIZI)I"⟩
abbrev cX3_deliver : ByteArray := prog_5_method_17_code
def yX3_deliver : MethodName := ⟨RX3, "deliver", "(III)I"⟩
abbrev cX3_spray : ByteArray := prog_5_method_18_code
def yX3_spray : MethodName := ⟨RX3, "spray", "(III)I"⟩
abbrev cX3_entrust : ByteArray := prog_5_method_19_code
def yX3_entrust : MethodName := ⟨RX3, "entrust", "(II)V"⟩
abbrev cX3_meet : ByteArray := prog_5_method_20_code
def yX3_meet : MethodName := ⟨RX3, "meet", "(III)I"⟩
abbrev cX3_pass : ByteArray := prog_5_method_21_code
def yX3_pass : MethodName := ⟨RX3, "pass", "(I)I"⟩
abbrev cX3_setBuffer : ByteArray := prog_5_method_22_code
def yX3_setBuffer : MethodName := ⟨RX3, "setBuffer", "(II)I"⟩
abbrev cX3_addContact : ByteArray := prog_5_method_23_code
def yX3_addContact : MethodName := ⟨RX3, "addContact", "(IIII)I"⟩
abbrev cX3_clock : ByteArray := prog_5_method_24_code
def yX3_clock : MethodName := ⟨RX3, "clock", "()I"⟩
abbrev cX3_bundles : ByteArray := prog_5_method_25_code
def yX3_bundles : MethodName := ⟨RX3, "bundles", "()I"⟩
abbrev cX3_endOf : ByteArray := prog_5_method_26_code
def yX3_endOf : MethodName := ⟨RX3, "endOf", "(I)I"⟩
abbrev cX3_deliveredAt : ByteArray := prog_5_method_27_code
def yX3_deliveredAt : MethodName := ⟨RX3, "deliveredAt", "(I)I"⟩
abbrev cX3_hops : ByteArray := prog_5_method_28_code
def yX3_hops : MethodName := ⟨RX3, "hops", "(I)I"⟩
abbrev cX3_custodian : ByteArray := prog_5_method_29_code
def yX3_custodian : MethodName := ⟨RX3, "custodian", "(I)I"⟩
abbrev cX3_holders : ByteArray := prog_5_method_30_code
def yX3_holders : MethodName := ⟨RX3, "holders", "(I)I"⟩
abbrev cX3_copies : ByteArray := prog_5_method_31_code
def yX3_copies : MethodName := ⟨RX3, "copies", "(II)I"⟩
abbrev cX3_knows : ByteArray := prog_5_method_32_code
def yX3_knows : MethodName := ⟨RX3, "knows", "(II)Z"⟩
abbrev cX3_held : ByteArray := prog_5_method_33_code
def yX3_held : MethodName := ⟨RX3, "held", "(I)I"⟩
abbrev cX3_heldAt : ByteArray := prog_5_method_34_code
def yX3_heldAt : MethodName := ⟨RX3, "heldAt", "(II)I"⟩
abbrev cX3_dropped : ByteArray := prog_5_method_35_code
def yX3_dropped : MethodName := ⟨RX3, "dropped", "(I)I"⟩
abbrev cX3_refused : ByteArray := prog_5_method_36_code
def yX3_refused : MethodName := ⟨RX3, "refused", "(I)I"⟩
abbrev cX3_use : ByteArray := prog_5_method_37_code
def yX3_use : MethodName := ⟨RX3, "use", "(II)I"⟩
abbrev cX3_begin : ByteArray := prog_5_method_38_code
def yX3_begin : MethodName := ⟨RX3, "begin", "(I)V"⟩
abbrev cX3_improve : ByteArray := prog_5_method_39_code
def yX3_improve : MethodName := ⟨RX3, "improve", "(II)V"⟩
abbrev cX3_nearest : ByteArray := prog_5_method_40_code
def yX3_nearest : MethodName := ⟨RX3, "nearest", "()I"⟩
abbrev cX3_reach : ByteArray := prog_5_method_41_code
def yX3_reach : MethodName := ⟨RX3, "reach", "(II)I"⟩
abbrev cX3_arrival : ByteArray := prog_5_method_42_code
def yX3_arrival : MethodName := ⟨RX3, "arrival", "(II)I"⟩
abbrev cX3_arrivalByRounds : ByteArray := prog_5_method_43_code
def yX3_arrivalByRounds : MethodName := ⟨RX3, "arrivalByRounds", "(II)I"⟩
abbrev cX3_promised : ByteArray := prog_5_method_44_code
def yX3_promised : MethodName := ⟨RX3, "promised", "(I)I"⟩
def RJx145de : String := "java/io/Serializable"
def TJx145de : u_T := fun k => match k with
  | _ => ("", "", "", false)
def tyJx145de : Nat → FieldType := fun k => match k with
  | _ => .int
abbrev wsJx145de0 : List Cond := u_ws RJx145de TJx145de 0
theorem nmJx145de : ∀ a, a < 0 → ∀ b, b < 0 → a ≠ b → (TJx145de a).2.1 ≠ (TJx145de b).2.1 := by decide +kernel
theorem tyJx145de_ok : ∀ k, k < 0 → parseFieldDescriptor (TJx145de k).2.2.1 = some (tyJx145de k) := by decide +kernel
def RJ5 : String := "java/lang/AbstractStringBuilder"
def TJ5 : u_T := fun k => match k with
  | _ => ("", "", "", false)
def tyJ5 : Nat → FieldType := fun k => match k with
  | _ => .int
abbrev wsJ50 : List Cond := u_ws RJ5 TJ5 0
theorem nmJ5 : ∀ a, a < 0 → ∀ b, b < 0 → a ≠ b → (TJ5 a).2.1 ≠ (TJ5 b).2.1 := by decide +kernel
theorem tyJ5_ok : ∀ k, k < 0 → parseFieldDescriptor (TJ5 k).2.2.1 = some (tyJ5 k) := by decide +kernel
abbrev cJ5_init_d00df : ByteArray := prog_7_method_2_code
def yJ5_init_d00df : MethodName := ⟨RJ5, "<init>", "(I)V"⟩
abbrev cJ5_length_8abf5 : ByteArray := prog_7_method_6_code
def yJ5_length_8abf5 : MethodName := ⟨RJ5, "length", "()I"⟩
abbrev cJ5_ensureCapacityInternal_d00df : ByteArray := prog_7_method_9_code
def yJ5_ensureCapacityInternal_d00df : MethodName := ⟨RJ5, "ensureCapacityInternal", "(I)V"⟩
abbrev cJ5_newCapacity_0f7a4 : ByteArray := prog_7_method_10_code
def yJ5_newCapacity_0f7a4 : MethodName := ⟨RJ5, "newCapacity", "(I)I"⟩
abbrev cJ5_inflate_da8c8 : ByteArray := prog_7_method_11_code
def yJ5_inflate_da8c8 : MethodName := ⟨RJ5, "inflate", "()V"⟩
abbrev cJ5_append_cf1ce : ByteArray := prog_7_method_22_code
def yJ5_append_cf1ce : MethodName := ⟨RJ5, "append", "(Ljava/lang/String;)Ljava/lang/AbstractStringBuilder;"⟩
abbrev cJ5_appendNull_278bc : ByteArray := prog_7_method_26_code
def yJ5_appendNull_278bc : MethodName := ⟨RJ5, "appendNull", "()Ljava/lang/AbstractStringBuilder;"⟩
abbrev cJ5_append_c97b9 : ByteArray := prog_7_method_32_code
def yJ5_append_c97b9 : MethodName := ⟨RJ5, "append", "(I)Ljava/lang/AbstractStringBuilder;"⟩
abbrev cJ5_getValue_6d5f1 : ByteArray := prog_7_method_64_code
def yJ5_getValue_6d5f1 : MethodName := ⟨RJ5, "getValue", "()[B"⟩
abbrev cJ5_isLatin1_aae02 : ByteArray := prog_7_method_68_code
def yJ5_isLatin1_aae02 : MethodName := ⟨RJ5, "isLatin1", "()Z"⟩
abbrev cJ5_inflateIfNeededFor_a7421 : ByteArray := prog_7_method_71_code
def yJ5_inflateIfNeededFor_a7421 : MethodName := ⟨RJ5, "inflateIfNeededFor", "(Ljava/lang/String;)V"⟩
abbrev cJ5_putStringAt_47b60 : ByteArray := prog_7_method_73_code
def yJ5_putStringAt_47b60 : MethodName := ⟨RJ5, "putStringAt", "(ILjava/lang/String;)V"⟩
def RJx2cfe8 : String := "java/lang/Appendable"
def TJx2cfe8 : u_T := fun k => match k with
  | _ => ("", "", "", false)
def tyJx2cfe8 : Nat → FieldType := fun k => match k with
  | _ => .int
abbrev wsJx2cfe80 : List Cond := u_ws RJx2cfe8 TJx2cfe8 0
theorem nmJx2cfe8 : ∀ a, a < 0 → ∀ b, b < 0 → a ≠ b → (TJx2cfe8 a).2.1 ≠ (TJx2cfe8 b).2.1 := by decide +kernel
theorem tyJx2cfe8_ok : ∀ k, k < 0 → parseFieldDescriptor (TJx2cfe8 k).2.2.1 = some (tyJx2cfe8 k) := by decide +kernel
def RJx9f9b0 : String := "java/lang/CharSequence"
def TJx9f9b0 : u_T := fun k => match k with
  | _ => ("", "", "", false)
def tyJx9f9b0 : Nat → FieldType := fun k => match k with
  | _ => .int
abbrev wsJx9f9b00 : List Cond := u_ws RJx9f9b0 TJx9f9b0 0
theorem nmJx9f9b0 : ∀ a, a < 0 → ∀ b, b < 0 → a ≠ b → (TJx9f9b0 a).2.1 ≠ (TJx9f9b0 b).2.1 := by decide +kernel
theorem tyJx9f9b0_ok : ∀ k, k < 0 → parseFieldDescriptor (TJx9f9b0 k).2.2.1 = some (tyJx9f9b0 k) := by decide +kernel
def RJx8e188 : String := "java/lang/Cloneable"
def TJx8e188 : u_T := fun k => match k with
  | _ => ("", "", "", false)
def tyJx8e188 : Nat → FieldType := fun k => match k with
  | _ => .int
abbrev wsJx8e1880 : List Cond := u_ws RJx8e188 TJx8e188 0
theorem nmJx8e188 : ∀ a, a < 0 → ∀ b, b < 0 → a ≠ b → (TJx8e188 a).2.1 ≠ (TJx8e188 b).2.1 := by decide +kernel
theorem tyJx8e188_ok : ∀ k, k < 0 → parseFieldDescriptor (TJx8e188 k).2.2.1 = some (tyJx8e188 k) := by decide +kernel
def RJxb160c : String := "java/lang/Comparable"
def TJxb160c : u_T := fun k => match k with
  | _ => ("", "", "", false)
def tyJxb160c : Nat → FieldType := fun k => match k with
  | _ => .int
abbrev wsJxb160c0 : List Cond := u_ws RJxb160c TJxb160c 0
theorem nmJxb160c : ∀ a, a < 0 → ∀ b, b < 0 → a ≠ b → (TJxb160c a).2.1 ≠ (TJxb160c b).2.1 := by decide +kernel
theorem tyJxb160c_ok : ∀ k, k < 0 → parseFieldDescriptor (TJxb160c k).2.2.1 = some (tyJxb160c k) := by decide +kernel
def RJ6 : String := "java/lang/Integer"
def TJ6 : u_T := fun k => match k with
  | _ => ("", "", "", false)
def tyJ6 : Nat → FieldType := fun k => match k with
  | _ => .int
abbrev wsJ60 : List Cond := u_ws RJ6 TJ6 0
theorem nmJ6 : ∀ a, a < 0 → ∀ b, b < 0 → a ≠ b → (TJ6 a).2.1 ≠ (TJ6 b).2.1 := by decide +kernel
theorem tyJ6_ok : ∀ k, k < 0 → parseFieldDescriptor (TJ6 k).2.2.1 = some (tyJ6 k) := by decide +kernel
abbrev cJ6_getChars_ba4f3 : ByteArray := prog_16_method_12_code
def yJ6_getChars_ba4f3 : MethodName := ⟨RJ6, "getChars", "(II[B)I"⟩
abbrev cJ6_stringSize_0f7a4 : ByteArray := prog_16_method_13_code
def yJ6_stringSize_0f7a4 : MethodName := ⟨RJ6, "stringSize", "(I)I"⟩
def RJxab1ab : String := "java/lang/Iterable"
def TJxab1ab : u_T := fun k => match k with
  | _ => ("", "", "", false)
def tyJxab1ab : Nat → FieldType := fun k => match k with
  | _ => .int
abbrev wsJxab1ab0 : List Cond := u_ws RJxab1ab TJxab1ab 0
theorem nmJxab1ab : ∀ a, a < 0 → ∀ b, b < 0 → a ≠ b → (TJxab1ab a).2.1 ≠ (TJxab1ab b).2.1 := by decide +kernel
theorem tyJxab1ab_ok : ∀ k, k < 0 → parseFieldDescriptor (TJxab1ab k).2.2.1 = some (tyJxab1ab k) := by decide +kernel
def RJ9 : String := "java/lang/Math"
def TJ9 : u_T := fun k => match k with
  | _ => ("", "", "", false)
def tyJ9 : Nat → FieldType := fun k => match k with
  | _ => .int
abbrev wsJ90 : List Cond := u_ws RJ9 TJ9 0
theorem nmJ9 : ∀ a, a < 0 → ∀ b, b < 0 → a ≠ b → (TJ9 a).2.1 ≠ (TJ9 b).2.1 := by decide +kernel
theorem tyJ9_ok : ∀ k, k < 0 → parseFieldDescriptor (TJ9 k).2.2.1 = some (tyJ9 k) := by decide +kernel
abbrev cJ9_max_7cf53 : ByteArray := prog_18_method_65_code
def yJ9_max_7cf53 : MethodName := ⟨RJ9, "max", "(II)I"⟩
abbrev cJ9_min_7cf53 : ByteArray := prog_18_method_69_code
def yJ9_min_7cf53 : MethodName := ⟨RJ9, "min", "(II)I"⟩
def RJxd2413 : String := "java/lang/Number"
def TJxd2413 : u_T := fun k => match k with
  | _ => ("", "", "", false)
def tyJxd2413 : Nat → FieldType := fun k => match k with
  | _ => .int
abbrev wsJxd24130 : List Cond := u_ws RJxd2413 TJxd2413 0
theorem nmJxd2413 : ∀ a, a < 0 → ∀ b, b < 0 → a ≠ b → (TJxd2413 a).2.1 ≠ (TJxd2413 b).2.1 := by decide +kernel
theorem tyJxd2413_ok : ∀ k, k < 0 → parseFieldDescriptor (TJxd2413 k).2.2.1 = some (tyJxd2413 k) := by decide +kernel
def RJ0 : String := "java/lang/String"
def TJ0 : u_T := fun k => match k with
  | 0 => ("java/lang/String", "value", "[B", true)
  | 1 => ("java/lang/String", "coder", "B", true)
  | 2 => ("java/lang/String", "hash", "I", false)
  | _ => ("java/lang/String", "hashIsZero", "Z", false)
def tyJ0 : Nat → FieldType := fun k => match k with
  | 0 => .array .byte
  | 1 => .byte
  | 2 => .int
  | _ => .boolean
abbrev wsJ00 : List Cond := u_ws RJ0 TJ0 4
theorem nmJ0 : ∀ a, a < 4 → ∀ b, b < 4 → a ≠ b → (TJ0 a).2.1 ≠ (TJ0 b).2.1 := by decide +kernel
theorem tyJ0_ok : ∀ k, k < 4 → parseFieldDescriptor (TJ0 k).2.2.1 = some (tyJ0 k) := by decide +kernel
abbrev cJ0_init_81219 : ByteArray := prog_21_method_53_code
def yJ0_init_81219 : MethodName := ⟨RJ0, "<init>", "(Ljava/lang/StringBuilder;)V"⟩
abbrev cJ0_length_8abf5 : ByteArray := prog_21_method_54_code
def yJ0_length_8abf5 : MethodName := ⟨RJ0, "length", "()I"⟩
abbrev cJ0_getBytes_840e7 : ByteArray := prog_21_method_147_code
def yJ0_getBytes_840e7 : MethodName := ⟨RJ0, "getBytes", "([BIB)V"⟩
abbrev cJ0_init_db425 : ByteArray := prog_21_method_150_code
def yJ0_init_db425 : MethodName := ⟨RJ0, "<init>", "(Ljava/lang/AbstractStringBuilder;Ljava/lang/Void;)V"⟩
abbrev cJ0_coder_7d493 : ByteArray := prog_21_method_152_code
def yJ0_coder_7d493 : MethodName := ⟨RJ0, "coder", "()B"⟩
abbrev cJ0_checkBoundsOffCount_cabcc : ByteArray := prog_21_method_157_code
def yJ0_checkBoundsOffCount_cabcc : MethodName := ⟨RJ0, "checkBoundsOffCount", "(III)I"⟩
abbrev cJ0_checkBoundsBeginEnd_23922 : ByteArray := prog_21_method_158_code
def yJ0_checkBoundsBeginEnd_23922 : MethodName := ⟨RJ0, "checkBoundsBeginEnd", "(III)V"⟩
def RJ4 : String := "java/lang/StringBuilder"
def TJ4 : u_T := fun k => match k with
  | 0 => ("java/lang/AbstractStringBuilder", "value", "[B", false)
  | 1 => ("java/lang/AbstractStringBuilder", "coder", "B", false)
  | 2 => ("java/lang/AbstractStringBuilder", "maybeLatin1", "Z", false)
  | _ => ("java/lang/AbstractStringBuilder", "count", "I", false)
def tyJ4 : Nat → FieldType := fun k => match k with
  | 0 => .array .byte
  | 1 => .byte
  | 2 => .boolean
  | _ => .int
abbrev wsJ40 : List Cond := u_ws RJ4 TJ4 4
theorem nmJ4 : ∀ a, a < 4 → ∀ b, b < 4 → a ≠ b → (TJ4 a).2.1 ≠ (TJ4 b).2.1 := by decide +kernel
theorem tyJ4_ok : ∀ k, k < 4 → parseFieldDescriptor (TJ4 k).2.2.1 = some (tyJ4 k) := by decide +kernel
abbrev cJ4_init_da8c8 : ByteArray := prog_22_method_1_code
def yJ4_init_da8c8 : MethodName := ⟨RJ4, "<init>", "()V"⟩
abbrev cJ4_append_15ec4 : ByteArray := prog_22_method_7_code
def yJ4_append_15ec4 : MethodName := ⟨RJ4, "append", "(Ljava/lang/String;)Ljava/lang/StringBuilder;"⟩
abbrev cJ4_append_bf812 : ByteArray := prog_22_method_15_code
def yJ4_append_bf812 : MethodName := ⟨RJ4, "append", "(I)Ljava/lang/StringBuilder;"⟩
abbrev cJ4_toString_0e30d : ByteArray := prog_22_method_42_code
def yJ4_toString_0e30d : MethodName := ⟨RJ4, "toString", "()Ljava/lang/String;"⟩
abbrev cJ4_length_8abf5 : ByteArray := prog_22_method_93_code
def yJ4_length_8abf5 : MethodName := ⟨RJ4, "length", "()I"⟩
def RJ1 : String := "java/lang/StringLatin1"
def TJ1 : u_T := fun k => match k with
  | _ => ("", "", "", false)
def tyJ1 : Nat → FieldType := fun k => match k with
  | _ => .int
abbrev wsJ10 : List Cond := u_ws RJ1 TJ1 0
theorem nmJ1 : ∀ a, a < 0 → ∀ b, b < 0 → a ≠ b → (TJ1 a).2.1 ≠ (TJ1 b).2.1 := by decide +kernel
theorem tyJ1_ok : ∀ k, k < 0 → parseFieldDescriptor (TJ1 k).2.2.1 = some (tyJ1 k) := by decide +kernel
abbrev cJ1_inflate_0e8fd : ByteArray := prog_23_method_50_code
def yJ1_inflate_0e8fd : MethodName := ⟨RJ1, "inflate", "([BI[BII)V"⟩
def RJ2 : String := "java/lang/StringUTF16"
def TJ2 : u_T := fun k => match k with
  | _ => ("", "", "", false)
def tyJ2 : Nat → FieldType := fun k => match k with
  | _ => .int
abbrev wsJ20 : List Cond := u_ws RJ2 TJ2 0
theorem nmJ2 : ∀ a, a < 0 → ∀ b, b < 0 → a ≠ b → (TJ2 a).2.1 ≠ (TJ2 b).2.1 := by decide +kernel
theorem tyJ2_ok : ∀ k, k < 0 → parseFieldDescriptor (TJ2 k).2.2.1 = some (tyJ2 k) := by decide +kernel
abbrev cJ2_newBytesFor_77867 : ByteArray := prog_24_method_2_code
def yJ2_newBytesFor_77867 : MethodName := ⟨RJ2, "newBytesFor", "(I)[B"⟩
abbrev cJ2_newBytesLength_0f7a4 : ByteArray := prog_24_method_3_code
def yJ2_newBytesLength_0f7a4 : MethodName := ⟨RJ2, "newBytesLength", "(I)I"⟩
abbrev cJ2_putChar_b72d1 : ByteArray := prog_24_method_4_code
def yJ2_putChar_b72d1 : MethodName := ⟨RJ2, "putChar", "([BII)V"⟩
abbrev cJ2_getChar_3b067 : ByteArray := prog_24_method_5_code
def yJ2_getChar_3b067 : MethodName := ⟨RJ2, "getChar", "([BI)C"⟩
abbrev cJ2_length_9d52b : ByteArray := prog_24_method_6_code
def yJ2_length_9d52b : MethodName := ⟨RJ2, "length", "([B)I"⟩
abbrev cJ2_coderFromArrayLen_85cad : ByteArray := prog_24_method_15_code
def yJ2_coderFromArrayLen_85cad : MethodName := ⟨RJ2, "coderFromArrayLen", "([BI)B"⟩
abbrev cJ2_compress_39247 : ByteArray := prog_24_method_17_code
def yJ2_compress_39247 : MethodName := ⟨RJ2, "compress", "([BII)[B"⟩
abbrev cJ2_compress_5af95 : ByteArray := prog_24_method_22_code
def yJ2_compress_5af95 : MethodName := ⟨RJ2, "compress", "([BI[BII)I"⟩
abbrev cJ2_getChars_46870 : ByteArray := prog_24_method_77_code
def yJ2_getChars_46870 : MethodName := ⟨RJ2, "getChars", "(III[B)I"⟩
abbrev cJ2_putCharsAt_cd4e5 : ByteArray := prog_24_method_81_code
def yJ2_putCharsAt_cd4e5 : MethodName := ⟨RJ2, "putCharsAt", "([BICCCC)I"⟩
abbrev cJ2_inflate_0e8fd : ByteArray := prog_24_method_86_code
def yJ2_inflate_0e8fd : MethodName := ⟨RJ2, "inflate", "([BI[BII)V"⟩
abbrev cJ2_getChars_ba4f3 : ByteArray := prog_24_method_89_code
def yJ2_getChars_ba4f3 : MethodName := ⟨RJ2, "getChars", "(II[B)I"⟩
abbrev cJ2_checkBoundsBeginEnd_d044e : ByteArray := prog_24_method_93_code
def yJ2_checkBoundsBeginEnd_d044e : MethodName := ⟨RJ2, "checkBoundsBeginEnd", "(II[B)V"⟩
abbrev cJ2_checkBoundsOffCount_d044e : ByteArray := prog_24_method_94_code
def yJ2_checkBoundsOffCount_d044e : MethodName := ⟨RJ2, "checkBoundsOffCount", "(II[B)V"⟩
def RJ10 : String := "java/lang/System"
def TJ10 : u_T := fun k => match k with
  | _ => ("", "", "", false)
def tyJ10 : Nat → FieldType := fun k => match k with
  | _ => .int
abbrev wsJ100 : List Cond := u_ws RJ10 TJ10 0
theorem nmJ10 : ∀ a, a < 0 → ∀ b, b < 0 → a ≠ b → (TJ10 a).2.1 ≠ (TJ10 b).2.1 := by decide +kernel
theorem tyJ10_ok : ∀ k, k < 0 → parseFieldDescriptor (TJ10 k).2.2.1 = some (tyJ10 k) := by decide +kernel
def RJxfd54e : String := "java/lang/constant/Constable"
def TJxfd54e : u_T := fun k => match k with
  | _ => ("", "", "", false)
def tyJxfd54e : Nat → FieldType := fun k => match k with
  | _ => .int
abbrev wsJxfd54e0 : List Cond := u_ws RJxfd54e TJxfd54e 0
theorem nmJxfd54e : ∀ a, a < 0 → ∀ b, b < 0 → a ≠ b → (TJxfd54e a).2.1 ≠ (TJxfd54e b).2.1 := by decide +kernel
theorem tyJxfd54e_ok : ∀ k, k < 0 → parseFieldDescriptor (TJxfd54e k).2.2.1 = some (tyJxfd54e k) := by decide +kernel
def RJx3cf43 : String := "java/lang/constant/ConstantDesc"
def TJx3cf43 : u_T := fun k => match k with
  | _ => ("", "", "", false)
def tyJx3cf43 : Nat → FieldType := fun k => match k with
  | _ => .int
abbrev wsJx3cf430 : List Cond := u_ws RJx3cf43 TJx3cf43 0
theorem nmJx3cf43 : ∀ a, a < 0 → ∀ b, b < 0 → a ≠ b → (TJx3cf43 a).2.1 ≠ (TJx3cf43 b).2.1 := by decide +kernel
theorem tyJx3cf43_ok : ∀ k, k < 0 → parseFieldDescriptor (TJx3cf43 k).2.2.1 = some (tyJx3cf43 k) := by decide +kernel
def RJxa1e45 : String := "java/util/AbstractCollection"
def TJxa1e45 : u_T := fun k => match k with
  | _ => ("", "", "", false)
def tyJxa1e45 : Nat → FieldType := fun k => match k with
  | _ => .int
abbrev wsJxa1e450 : List Cond := u_ws RJxa1e45 TJxa1e45 0
theorem nmJxa1e45 : ∀ a, a < 0 → ∀ b, b < 0 → a ≠ b → (TJxa1e45 a).2.1 ≠ (TJxa1e45 b).2.1 := by decide +kernel
theorem tyJxa1e45_ok : ∀ k, k < 0 → parseFieldDescriptor (TJxa1e45 k).2.2.1 = some (tyJxa1e45 k) := by decide +kernel
abbrev cJxa1e45_init_da8c8 : ByteArray := prog_29_method_1_code
def yJxa1e45_init_da8c8 : MethodName := ⟨RJxa1e45, "<init>", "()V"⟩
def RJxc12de : String := "java/util/AbstractList"
def TJxc12de : u_T := fun k => match k with
  | _ => ("", "", "", false)
def tyJxc12de : Nat → FieldType := fun k => match k with
  | _ => .int
abbrev wsJxc12de0 : List Cond := u_ws RJxc12de TJxc12de 0
theorem nmJxc12de : ∀ a, a < 0 → ∀ b, b < 0 → a ≠ b → (TJxc12de a).2.1 ≠ (TJxc12de b).2.1 := by decide +kernel
theorem tyJxc12de_ok : ∀ k, k < 0 → parseFieldDescriptor (TJxc12de k).2.2.1 = some (tyJxc12de k) := by decide +kernel
abbrev cJxc12de_init_da8c8 : ByteArray := prog_30_method_1_code
def yJxc12de_init_da8c8 : MethodName := ⟨RJxc12de, "<init>", "()V"⟩
def RJx4a65c : String := "java/util/ArrayList"
def TJx4a65c : u_T := fun k => match k with
  | 0 => ("java/util/AbstractList", "modCount", "I", false)
  | 1 => ("java/util/ArrayList", "elementData", "[Ljava/lang/Object;", false)
  | _ => ("java/util/ArrayList", "size", "I", false)
def tyJx4a65c : Nat → FieldType := fun k => match k with
  | 0 => .int
  | 1 => .array (.object "java/lang/Object")
  | _ => .int
abbrev wsJx4a65c0 : List Cond := u_ws RJx4a65c TJx4a65c 3
theorem nmJx4a65c : ∀ a, a < 3 → ∀ b, b < 3 → a ≠ b → (TJx4a65c a).2.1 ≠ (TJx4a65c b).2.1 := by decide +kernel
theorem tyJx4a65c_ok : ∀ k, k < 3 → parseFieldDescriptor (TJx4a65c k).2.2.1 = some (tyJx4a65c k) := by decide +kernel
abbrev cJx4a65c_init_da8c8 : ByteArray := prog_31_method_2_code
def yJx4a65c_init_da8c8 : MethodName := ⟨RJx4a65c, "<init>", "()V"⟩
abbrev cJx4a65c_grow_92f84 : ByteArray := prog_31_method_6_code
def yJx4a65c_grow_92f84 : MethodName := ⟨RJx4a65c, "grow", "(I)[Ljava/lang/Object;"⟩
abbrev cJx4a65c_grow_d5877 : ByteArray := prog_31_method_7_code
def yJx4a65c_grow_d5877 : MethodName := ⟨RJx4a65c, "grow", "()[Ljava/lang/Object;"⟩
abbrev cJx4a65c_size_8abf5 : ByteArray := prog_31_method_8_code
def yJx4a65c_size_8abf5 : MethodName := ⟨RJx4a65c, "size", "()I"⟩
abbrev cJx4a65c_elementData_915e3 : ByteArray := prog_31_method_18_code
def yJx4a65c_elementData_915e3 : MethodName := ⟨RJx4a65c, "elementData", "(I)Ljava/lang/Object;"⟩
abbrev cJx4a65c_get_915e3 : ByteArray := prog_31_method_20_code
def yJx4a65c_get_915e3 : MethodName := ⟨RJx4a65c, "get", "(I)Ljava/lang/Object;"⟩
abbrev cJx4a65c_add_72be8 : ByteArray := prog_31_method_24_code
def yJx4a65c_add_72be8 : MethodName := ⟨RJx4a65c, "add", "(Ljava/lang/Object;[Ljava/lang/Object;I)V"⟩
abbrev cJx4a65c_add_9ea2d : ByteArray := prog_31_method_25_code
def yJx4a65c_add_9ea2d : MethodName := ⟨RJx4a65c, "add", "(Ljava/lang/Object;)Z"⟩
abbrev cJx4a65c_add_7a177 : ByteArray := prog_31_method_26_code
def yJx4a65c_add_7a177 : MethodName := ⟨RJx4a65c, "add", "(ILjava/lang/Object;)V"⟩
abbrev cJx4a65c_rangeCheckForAdd_d00df : ByteArray := prog_31_method_45_code
def yJx4a65c_rangeCheckForAdd_d00df : MethodName := ⟨RJx4a65c, "rangeCheckForAdd", "(I)V"⟩
abbrev cJx4a65c_outOfBoundsMsg_b52d3 : ByteArray := prog_31_method_46_code
def yJx4a65c_outOfBoundsMsg_b52d3 : MethodName := ⟨RJx4a65c, "outOfBoundsMsg", "(I)Ljava/lang/String;"⟩
def RJ7 : String := "java/util/Arrays"
def TJ7 : u_T := fun k => match k with
  | _ => ("", "", "", false)
def tyJ7 : Nat → FieldType := fun k => match k with
  | _ => .int
abbrev wsJ70 : List Cond := u_ws RJ7 TJ7 0
theorem nmJ7 : ∀ a, a < 0 → ∀ b, b < 0 → a ≠ b → (TJ7 a).2.1 ≠ (TJ7 b).2.1 := by decide +kernel
theorem tyJ7_ok : ∀ k, k < 0 → parseFieldDescriptor (TJ7 k).2.2.1 = some (tyJ7 k) := by decide +kernel
abbrev cJ7_copyOf_1904c : ByteArray := prog_32_method_119_code
def yJ7_copyOf_1904c : MethodName := ⟨RJ7, "copyOf", "([Ljava/lang/Object;I)[Ljava/lang/Object;"⟩
abbrev cJ7_copyOf_6403c : ByteArray := prog_32_method_120_code
def yJ7_copyOf_6403c : MethodName := ⟨RJ7, "copyOf", "([Ljava/lang/Object;ILjava/lang/Class;)[Ljava/lang/Object;"⟩
abbrev cJ7_copyOf_9075b : ByteArray := prog_32_method_121_code
def yJ7_copyOf_9075b : MethodName := ⟨RJ7, "copyOf", "([BI)[B"⟩
abbrev cJ7_checkLength_df160 : ByteArray := prog_32_method_131_code
def yJ7_checkLength_df160 : MethodName := ⟨RJ7, "checkLength", "(II)V"⟩
abbrev cJ7_copyOfRange_39247 : ByteArray := prog_32_method_132_code
def yJ7_copyOfRange_39247 : MethodName := ⟨RJ7, "copyOfRange", "([BII)[B"⟩
abbrev cJ7_copyOfRangeByte_39247 : ByteArray := prog_32_method_133_code
def yJ7_copyOfRangeByte_39247 : MethodName := ⟨RJ7, "copyOfRangeByte", "([BII)[B"⟩
def RJx5ef63 : String := "java/util/Collection"
def TJx5ef63 : u_T := fun k => match k with
  | _ => ("", "", "", false)
def tyJx5ef63 : Nat → FieldType := fun k => match k with
  | _ => .int
abbrev wsJx5ef630 : List Cond := u_ws RJx5ef63 TJx5ef63 0
theorem nmJx5ef63 : ∀ a, a < 0 → ∀ b, b < 0 → a ≠ b → (TJx5ef63 a).2.1 ≠ (TJx5ef63 b).2.1 := by decide +kernel
theorem tyJx5ef63_ok : ∀ k, k < 0 → parseFieldDescriptor (TJx5ef63 k).2.2.1 = some (tyJx5ef63 k) := by decide +kernel
def RJxbd725 : String := "java/util/List"
def TJxbd725 : u_T := fun k => match k with
  | _ => ("", "", "", false)
def tyJxbd725 : Nat → FieldType := fun k => match k with
  | _ => .int
abbrev wsJxbd7250 : List Cond := u_ws RJxbd725 TJxbd725 0
theorem nmJxbd725 : ∀ a, a < 0 → ∀ b, b < 0 → a ≠ b → (TJxbd725 a).2.1 ≠ (TJxbd725 b).2.1 := by decide +kernel
theorem tyJxbd725_ok : ∀ k, k < 0 → parseFieldDescriptor (TJxbd725 k).2.2.1 = some (tyJxbd725 k) := by decide +kernel
def RJ15 : String := "java/util/Objects"
def TJ15 : u_T := fun k => match k with
  | _ => ("", "", "", false)
def tyJ15 : Nat → FieldType := fun k => match k with
  | _ => .int
abbrev wsJ150 : List Cond := u_ws RJ15 TJ15 0
theorem nmJ15 : ∀ a, a < 0 → ∀ b, b < 0 → a ≠ b → (TJ15 a).2.1 ≠ (TJ15 b).2.1 := by decide +kernel
theorem tyJ15_ok : ∀ k, k < 0 → parseFieldDescriptor (TJ15 k).2.2.1 = some (tyJ15 k) := by decide +kernel
abbrev cJ15_checkIndex_7cf53 : ByteArray := prog_35_method_17_code
def yJ15_checkIndex_7cf53 : MethodName := ⟨RJ15, "checkIndex", "(II)I"⟩
def RJxf0a74 : String := "java/util/RandomAccess"
def TJxf0a74 : u_T := fun k => match k with
  | _ => ("", "", "", false)
def tyJxf0a74 : Nat → FieldType := fun k => match k with
  | _ => .int
abbrev wsJxf0a740 : List Cond := u_ws RJxf0a74 TJxf0a74 0
theorem nmJxf0a74 : ∀ a, a < 0 → ∀ b, b < 0 → a ≠ b → (TJxf0a74 a).2.1 ≠ (TJxf0a74 b).2.1 := by decide +kernel
theorem tyJxf0a74_ok : ∀ k, k < 0 → parseFieldDescriptor (TJxf0a74 k).2.2.1 = some (tyJxf0a74 k) := by decide +kernel
def RJxa66e6 : String := "java/util/SequencedCollection"
def TJxa66e6 : u_T := fun k => match k with
  | _ => ("", "", "", false)
def tyJxa66e6 : Nat → FieldType := fun k => match k with
  | _ => .int
abbrev wsJxa66e60 : List Cond := u_ws RJxa66e6 TJxa66e6 0
theorem nmJxa66e6 : ∀ a, a < 0 → ∀ b, b < 0 → a ≠ b → (TJxa66e6 a).2.1 ≠ (TJxa66e6 b).2.1 := by decide +kernel
theorem tyJxa66e6_ok : ∀ k, k < 0 → parseFieldDescriptor (TJxa66e6 k).2.2.1 = some (tyJxa66e6 k) := by decide +kernel
def RJ8 : String := "jdk/internal/util/ArraysSupport"
def TJ8 : u_T := fun k => match k with
  | _ => ("", "", "", false)
def tyJ8 : Nat → FieldType := fun k => match k with
  | _ => .int
abbrev wsJ80 : List Cond := u_ws RJ8 TJ8 0
theorem nmJ8 : ∀ a, a < 0 → ∀ b, b < 0 → a ≠ b → (TJ8 a).2.1 ≠ (TJ8 b).2.1 := by decide +kernel
theorem tyJ8_ok : ∀ k, k < 0 → parseFieldDescriptor (TJ8 k).2.2.1 = some (tyJ8 k) := by decide +kernel
abbrev cJ8_newLength_cabcc : ByteArray := prog_38_method_27_code
def yJ8_newLength_cabcc : MethodName := ⟨RJ8, "newLength", "(III)I"⟩
abbrev cJ8_hugeLength_7cf53 : ByteArray := prog_38_method_28_code
def yJ8_hugeLength_7cf53 : MethodName := ⟨RJ8, "hugeLength", "(II)I"⟩
def RJ3 : String := "jdk/internal/util/Preconditions"
def TJ3 : u_T := fun k => match k with
  | _ => ("", "", "", false)
def tyJ3 : Nat → FieldType := fun k => match k with
  | _ => .int
abbrev wsJ30 : List Cond := u_ws RJ3 TJ3 0
theorem nmJ3 : ∀ a, a < 0 → ∀ b, b < 0 → a ≠ b → (TJ3 a).2.1 ≠ (TJ3 b).2.1 := by decide +kernel
theorem tyJ3_ok : ∀ k, k < 0 → parseFieldDescriptor (TJ3 k).2.2.1 = some (tyJ3 k) := by decide +kernel
abbrev cJ3_checkIndex_8e157 : ByteArray := prog_39_method_11_code
def yJ3_checkIndex_8e157 : MethodName := ⟨RJ3, "checkIndex", "(IILjava/util/function/BiFunction;)I"⟩
abbrev cJ3_checkFromToIndex_8c36e : ByteArray := prog_39_method_12_code
def yJ3_checkFromToIndex_8c36e : MethodName := ⟨RJ3, "checkFromToIndex", "(IIILjava/util/function/BiFunction;)I"⟩
abbrev cJ3_checkFromIndexSize_8c36e : ByteArray := prog_39_method_13_code
def yJ3_checkFromIndexSize_8c36e : MethodName := ⟨RJ3, "checkFromIndexSize", "(IIILjava/util/function/BiFunction;)I"⟩
def RL : String := "DelaypouchLaw"
abbrev cL_send : ByteArray := method_3_code
def yL_send : MethodName := ⟨RL, "send", "(LDelaypouch;IIIII[J)I"⟩
abbrev cL_meet : ByteArray := method_4_code
def yL_meet : MethodName := ⟨RL, "meet", "(LDelaypouch;III[J)I"⟩
abbrev cL_pass : ByteArray := method_5_code
def yL_pass : MethodName := ⟨RL, "pass", "(LDelaypouch;I[J)I"⟩
abbrev cL_setBuffer : ByteArray := method_6_code
def yL_setBuffer : MethodName := ⟨RL, "setBuffer", "(LDelaypouch;II[J)I"⟩
abbrev cL_addContact : ByteArray := method_7_code
def yL_addContact : MethodName := ⟨RL, "addContact", "(LDelaypouch;IIII[J)I"⟩
abbrev cL_endOf : ByteArray := method_8_code
def yL_endOf : MethodName := ⟨RL, "endOf", "(LDelaypouch;I[J)I"⟩
abbrev cL_deliveredAt : ByteArray := method_9_code
def yL_deliveredAt : MethodName := ⟨RL, "deliveredAt", "(LDelaypouch;I[J)I"⟩
abbrev cL_hops : ByteArray := method_10_code
def yL_hops : MethodName := ⟨RL, "hops", "(LDelaypouch;I[J)I"⟩
abbrev cL_custodian : ByteArray := method_11_code
def yL_custodian : MethodName := ⟨RL, "custodian", "(LDelaypouch;I[J)I"⟩
abbrev cL_holders : ByteArray := method_12_code
def yL_holders : MethodName := ⟨RL, "holders", "(LDelaypouch;I[J)I"⟩
abbrev cL_copies : ByteArray := method_13_code
def yL_copies : MethodName := ⟨RL, "copies", "(LDelaypouch;II[J)I"⟩
abbrev cL_knows : ByteArray := method_14_code
def yL_knows : MethodName := ⟨RL, "knows", "(LDelaypouch;II[J)I"⟩
abbrev cL_held : ByteArray := method_15_code
def yL_held : MethodName := ⟨RL, "held", "(LDelaypouch;I[J)I"⟩
abbrev cL_heldAt : ByteArray := method_16_code
def yL_heldAt : MethodName := ⟨RL, "heldAt", "(LDelaypouch;II[J)I"⟩
abbrev cL_dropped : ByteArray := method_17_code
def yL_dropped : MethodName := ⟨RL, "dropped", "(LDelaypouch;I[J)I"⟩
abbrev cL_refused : ByteArray := method_18_code
def yL_refused : MethodName := ⟨RL, "refused", "(LDelaypouch;I[J)I"⟩
abbrev cL_arrival : ByteArray := method_19_code
def yL_arrival : MethodName := ⟨RL, "arrival", "(LDelaypouch;II[J)I"⟩
abbrev cL_arrivalByRounds : ByteArray := method_20_code
def yL_arrivalByRounds : MethodName := ⟨RL, "arrivalByRounds", "(LDelaypouch;II[J)I"⟩
abbrev cL_promised : ByteArray := method_21_code
def yL_promised : MethodName := ⟨RL, "promised", "(LDelaypouch;I[J)I"⟩
abbrev cL_law : ByteArray := code
def yL_law : MethodName := ⟨RL, "law", "([I)Z"⟩
def wsX0_init : List Cond := .code yX0_init cX0_init 5 none :: ([.methodLink RX0 3 objectInit, .instanceMethod objectInit, .code objectInit ⟨#[0xb1]⟩ 1 none, .fieldLink RX0 9 "Delaypouch$Bundle" "number" "I", .fieldLink RX0 15 "Delaypouch$Bundle" "destination" "I", .fieldLink RX0 18 "Delaypouch$Bundle" "priority" "I", .fieldLink RX0 21 "Delaypouch$Bundle" "end" "I", .arrayClass .int, .fieldLink RX0 24 "Delaypouch$Bundle" "copiesAt" "[I", .fieldLink RX0 28 "Delaypouch$Bundle" "hopsAt" "[I", .arrayClass .boolean, .fieldLink RX0 31 "Delaypouch$Bundle" "knownAt" "[Z", .fieldLink RX0 35 "Delaypouch$Bundle" "custodian" "I", .fieldLink RX0 38 "Delaypouch$Bundle" "deliverySecond" "I", .fieldLink RX0 41 "Delaypouch$Bundle" "deliveryHops" "I", .fieldLink RX0 44 "Delaypouch$Bundle" "giver" "I"] ++ wsX00)
def wsX0_isBefore : List Cond := .code yX0_isBefore cX0_isBefore 2 (some .boolean) :: ([.fieldLink RX0 18 "Delaypouch$Bundle" "priority" "I", .fieldLink RX0 21 "Delaypouch$Bundle" "end" "I", .fieldLink RX0 9 "Delaypouch$Bundle" "number" "I"] ++ wsX00)
def wsX0_isAt : List Cond := .code yX0_isAt cX0_isAt 2 (some .boolean) :: ([.fieldLink RX0 24 "Delaypouch$Bundle" "copiesAt" "[I"] ++ wsX00)
def wsX0_canDeliver : List Cond := .code yX0_canDeliver cX0_canDeliver 3 (some .boolean) :: ([.fieldLink RX0 15 "Delaypouch$Bundle" "destination" "I", .methodLink RX0 47 yX0_isAt, .instanceMethod yX0_isAt, .selects RX0 yX0_isAt yX0_isAt, .initialized RX0, .code yX0_isAt cX0_isAt 2 (some .boolean), .fieldLink RX0 24 "Delaypouch$Bundle" "copiesAt" "[I"] ++ wsX00)
def wsX0_canSpray : List Cond := .code yX0_canSpray cX0_canSpray 3 (some .boolean) :: ([.fieldLink RX0 15 "Delaypouch$Bundle" "destination" "I", .fieldLink RX0 24 "Delaypouch$Bundle" "copiesAt" "[I", .methodLink RX0 47 yX0_isAt, .instanceMethod yX0_isAt, .selects RX0 yX0_isAt yX0_isAt, .initialized RX0, .code yX0_isAt cX0_isAt 2 (some .boolean)] ++ wsX00)
def wsX0_put : List Cond := .code yX0_put cX0_put 4 none :: ([.fieldLink RX0 24 "Delaypouch$Bundle" "copiesAt" "[I", .fieldLink RX0 28 "Delaypouch$Bundle" "hopsAt" "[I"] ++ wsX00)
def wsX0_leave : List Cond := .code yX0_leave cX0_leave 2 none :: ([.methodLink RX0 51 yX0_put, .instanceMethod yX0_put, .selects RX0 yX0_put yX0_put, .initialized RX0, .code yX0_put cX0_put 4 none, .fieldLink RX0 24 "Delaypouch$Bundle" "copiesAt" "[I", .fieldLink RX0 28 "Delaypouch$Bundle" "hopsAt" "[I"] ++ wsX00)
def wsX0_halve : List Cond := .code yX0_halve cX0_halve 4 none :: ([.fieldLink RX0 24 "Delaypouch$Bundle" "copiesAt" "[I", .fieldLink RX0 28 "Delaypouch$Bundle" "hopsAt" "[I", .methodLink RX0 51 yX0_put, .instanceMethod yX0_put, .selects RX0 yX0_put yX0_put, .initialized RX0, .code yX0_put cX0_put 4 none] ++ wsX00)
def wsX0_learn : List Cond := .code yX0_learn cX0_learn 2 none :: ([.fieldLink RX0 31 "Delaypouch$Bundle" "knownAt" "[Z", .fieldLink RX0 35 "Delaypouch$Bundle" "custodian" "I", .methodLink RX0 59 yX0_leave, .instanceMethod yX0_leave, .selects RX0 yX0_leave yX0_leave, .initialized RX0, .code yX0_leave cX0_leave 2 none, .methodLink RX0 51 yX0_put, .instanceMethod yX0_put, .selects RX0 yX0_put yX0_put, .code yX0_put cX0_put 4 none, .fieldLink RX0 24 "Delaypouch$Bundle" "copiesAt" "[I", .fieldLink RX0 28 "Delaypouch$Bundle" "hopsAt" "[I"] ++ wsX00)
def wsX0_deliver : List Cond := .code yX0_deliver cX0_deliver 3 none :: ([.fieldLink RX0 38 "Delaypouch$Bundle" "deliverySecond" "I", .fieldLink RX0 28 "Delaypouch$Bundle" "hopsAt" "[I", .fieldLink RX0 41 "Delaypouch$Bundle" "deliveryHops" "I", .fieldLink RX0 15 "Delaypouch$Bundle" "destination" "I", .methodLink RX0 55 yX0_learn, .instanceMethod yX0_learn, .selects RX0 yX0_learn yX0_learn, .initialized RX0, .code yX0_learn cX0_learn 2 none, .fieldLink RX0 31 "Delaypouch$Bundle" "knownAt" "[Z", .fieldLink RX0 35 "Delaypouch$Bundle" "custodian" "I", .methodLink RX0 59 yX0_leave, .instanceMethod yX0_leave, .selects RX0 yX0_leave yX0_leave, .code yX0_leave cX0_leave 2 none, .methodLink RX0 51 yX0_put, .instanceMethod yX0_put, .selects RX0 yX0_put yX0_put, .code yX0_put cX0_put 4 none, .fieldLink RX0 24 "Delaypouch$Bundle" "copiesAt" "[I"] ++ wsX00)
def wsX0_vanish : List Cond := .code yX0_vanish cX0_vanish 2 none :: ([.fieldLink RX0 35 "Delaypouch$Bundle" "custodian" "I", .methodLink RX0 59 yX0_leave, .instanceMethod yX0_leave, .selects RX0 yX0_leave yX0_leave, .initialized RX0, .code yX0_leave cX0_leave 2 none, .methodLink RX0 51 yX0_put, .instanceMethod yX0_put, .selects RX0 yX0_put yX0_put, .code yX0_put cX0_put 4 none, .fieldLink RX0 24 "Delaypouch$Bundle" "copiesAt" "[I", .fieldLink RX0 28 "Delaypouch$Bundle" "hopsAt" "[I"] ++ wsX00)
def wsX1_init : List Cond := .code yX1_init cX1_init 1 none :: ([.methodLink RX1 3 objectInit, .instanceMethod objectInit, .code objectInit ⟨#[0xb1]⟩ 1 none, .arrayClass .int, .fieldLink RX1 9 "Delaypouch$Plan" "nodes" "[I", .fieldLink RX1 15 "Delaypouch$Plan" "others" "[I", .fieldLink RX1 18 "Delaypouch$Plan" "firsts" "[I", .fieldLink RX1 21 "Delaypouch$Plan" "lasts" "[I", .fieldLink RX1 24 "Delaypouch$Plan" "reached" "[I", .arrayClass .boolean, .fieldLink RX1 27 "Delaypouch$Plan" "settled" "[Z", .fieldLink RX1 31 "Delaypouch$Plan" "size" "I"] ++ wsX10)
def wsX1_add : List Cond := .code yX1_add cX1_add 5 (some .boolean) :: ([.fieldLink RX1 31 "Delaypouch$Plan" "size" "I", .fieldLink RX1 9 "Delaypouch$Plan" "nodes" "[I", .fieldLink RX1 15 "Delaypouch$Plan" "others" "[I", .fieldLink RX1 18 "Delaypouch$Plan" "firsts" "[I", .fieldLink RX1 21 "Delaypouch$Plan" "lasts" "[I"] ++ wsX10)
def wsX1_start : List Cond := .code yX1_start cX1_start 4 none :: ([.fieldLink RX1 24 "Delaypouch$Plan" "reached" "[I", .constant RX1 51 (2147483647), .fieldLink RX1 27 "Delaypouch$Plan" "settled" "[Z"] ++ wsX10)
def wsX1_nearestUnsettled : List Cond := .code yX1_nearestUnsettled cX1_nearestUnsettled 4 (some .int) :: ([.constant RX1 51 (2147483647), .fieldLink RX1 27 "Delaypouch$Plan" "settled" "[Z", .fieldLink RX1 24 "Delaypouch$Plan" "reached" "[I"] ++ wsX10)
def wsX1_carry : List Cond := .code yX1_carry cX1_carry 5 (some .boolean) :: ([.fieldLink RX1 24 "Delaypouch$Plan" "reached" "[I", .fieldLink RX1 21 "Delaypouch$Plan" "lasts" "[I", .fieldLink RX1 18 "Delaypouch$Plan" "firsts" "[I", .methodLink RX1 52 Lib.Math.max.name, .static Lib.Math.max.name, .initialized "java/lang/Math", .code Lib.Math.max.name Lib.Math.max.code 2 (some .int)] ++ wsX10)
def wsX1_spread : List Cond := .code yX1_spread cX1_spread 3 none :: ([.fieldLink RX1 31 "Delaypouch$Plan" "size" "I", .fieldLink RX1 9 "Delaypouch$Plan" "nodes" "[I", .fieldLink RX1 15 "Delaypouch$Plan" "others" "[I", .methodLink RX1 47 yX1_carry, .instanceMethod yX1_carry, .selects RX1 yX1_carry yX1_carry, .initialized RX1, .code yX1_carry cX1_carry 5 (some .boolean), .fieldLink RX1 24 "Delaypouch$Plan" "reached" "[I", .fieldLink RX1 21 "Delaypouch$Plan" "lasts" "[I", .fieldLink RX1 18 "Delaypouch$Plan" "firsts" "[I", .methodLink RX1 52 Lib.Math.max.name, .static Lib.Math.max.name, .initialized "java/lang/Math", .code Lib.Math.max.name Lib.Math.max.code 2 (some .int)] ++ wsX10)
def wsX1_arrivalByNodes_r1 : List Cond := [Cond.fieldLink RX1 27 "Delaypouch$Plan" "settled" "[Z", Cond.fieldLink RX1 24 "Delaypouch$Plan" "reached" "[I", Cond.methodLink RX1 35 yX1_start, Cond.instanceMethod yX1_start, Cond.selects RX1 yX1_start yX1_start, Cond.initialized RX1, Cond.code yX1_start cX1_start 4 none, Cond.constant RX1 51 (2147483647), Cond.methodLink RX1 39 yX1_nearestUnsettled, Cond.instanceMethod yX1_nearestUnsettled, Cond.selects RX1 yX1_nearestUnsettled yX1_nearestUnsettled, Cond.code yX1_nearestUnsettled cX1_nearestUnsettled 4 (some .int), Cond.methodLink RX1 43 yX1_spread, Cond.instanceMethod yX1_spread, Cond.selects RX1 yX1_spread yX1_spread, Cond.code yX1_spread cX1_spread 3 none, Cond.fieldLink RX1 31 "Delaypouch$Plan" "size" "I", Cond.fieldLink RX1 9 "Delaypouch$Plan" "nodes" "[I", Cond.fieldLink RX1 15 "Delaypouch$Plan" "others" "[I", Cond.methodLink RX1 47 yX1_carry, Cond.instanceMethod yX1_carry, Cond.selects RX1 yX1_carry yX1_carry, Cond.code yX1_carry cX1_carry 5 (some .boolean), Cond.fieldLink RX1 21 "Delaypouch$Plan" "lasts" "[I"]
def wsX1_arrivalByNodes_r2 : List Cond := [Cond.fieldLink RX1 18 "Delaypouch$Plan" "firsts" "[I", Cond.methodLink RX1 52 Lib.Math.max.name, Cond.static Lib.Math.max.name, Cond.initialized "java/lang/Math", Cond.code Lib.Math.max.name Lib.Math.max.code 2 (some .int)]
def wsX1_arrivalByNodes : List Cond := .code yX1_arrivalByNodes cX1_arrivalByNodes 6 (some .int) :: ((wsX1_arrivalByNodes_r1 ++ wsX1_arrivalByNodes_r2) ++ wsX10)
def wsX1_arrivalByContacts : List Cond := .code yX1_arrivalByContacts cX1_arrivalByContacts 7 (some .int) :: ([.fieldLink RX1 31 "Delaypouch$Plan" "size" "I", .fieldLink RX1 9 "Delaypouch$Plan" "nodes" "[I", .fieldLink RX1 15 "Delaypouch$Plan" "others" "[I", .fieldLink RX1 24 "Delaypouch$Plan" "reached" "[I", .methodLink RX1 35 yX1_start, .instanceMethod yX1_start, .selects RX1 yX1_start yX1_start, .initialized RX1, .code yX1_start cX1_start 4 none, .constant RX1 51 (2147483647), .fieldLink RX1 27 "Delaypouch$Plan" "settled" "[Z", .methodLink RX1 47 yX1_carry, .instanceMethod yX1_carry, .selects RX1 yX1_carry yX1_carry, .code yX1_carry cX1_carry 5 (some .boolean), .fieldLink RX1 21 "Delaypouch$Plan" "lasts" "[I", .fieldLink RX1 18 "Delaypouch$Plan" "firsts" "[I", .methodLink RX1 52 Lib.Math.max.name, .static Lib.Math.max.name, .initialized "java/lang/Math", .code Lib.Math.max.name Lib.Math.max.code 2 (some .int)] ++ wsX10)
def wsJxa1e45_init_da8c8 : List Cond := .code yJxa1e45_init_da8c8 cJxa1e45_init_da8c8 1 none :: ([.methodLink RJxa1e45 1 objectInit, .instanceMethod objectInit, .code objectInit ⟨#[0xb1]⟩ 1 none])
def wsJxc12de_init_da8c8 : List Cond := .code yJxc12de_init_da8c8 cJxc12de_init_da8c8 1 none :: ([.fieldLink RJxc12de 7 "java/util/AbstractList" "modCount" "I", .methodLink RJxc12de 1 yJxa1e45_init_da8c8, .instanceMethod yJxa1e45_init_da8c8, .initialized RJxa1e45, .code yJxa1e45_init_da8c8 cJxa1e45_init_da8c8 1 none, .methodLink RJxa1e45 1 objectInit, .instanceMethod objectInit, .code objectInit ⟨#[0xb1]⟩ 1 none] ++ wsJx4a65c0)
def wsJx4a65c_init_da8c8 : List Cond := .code yJx4a65c_init_da8c8 cJx4a65c_init_da8c8 1 none :: ([.fieldLink RJx4a65c 39 "java/util/ArrayList" "DEFAULTCAPACITY_EMPTY_ELEMENTDATA" "[Ljava/lang/Object;", .fieldLink RJx4a65c 9 "java/util/ArrayList" "elementData" "[Ljava/lang/Object;", .methodLink RJx4a65c 1 yJxc12de_init_da8c8, .instanceMethod yJxc12de_init_da8c8, .initialized RJxc12de, .code yJxc12de_init_da8c8 cJxc12de_init_da8c8 1 none, .fieldLink RJxc12de 7 "java/util/AbstractList" "modCount" "I", .methodLink RJxc12de 1 yJxa1e45_init_da8c8, .instanceMethod yJxa1e45_init_da8c8, .initialized RJxa1e45, .code yJxa1e45_init_da8c8 cJxa1e45_init_da8c8 1 none, .methodLink RJxa1e45 1 objectInit, .instanceMethod objectInit, .code objectInit ⟨#[0xb1]⟩ 1 none] ++ wsJx4a65c0)
def wsX2_init_r1 : List Cond := [Cond.methodLink RX2 1 objectInit, Cond.instanceMethod objectInit, Cond.code objectInit ⟨#[0xb1]⟩ 1 none, Cond.fieldLink RX2 7 "Delaypouch" "now" "I", Cond.arrayClass .int, Cond.fieldLink RX2 13 "Delaypouch" "places" "[I", Cond.fieldLink RX2 17 "Delaypouch" "drops" "[I", Cond.fieldLink RX2 20 "Delaypouch" "refusals" "[I", Cond.classLink RX2 23 RJx4a65c, Cond.instantiable RJx4a65c 3, Cond.initialized RJx4a65c, Cond.fieldLink RX2 26 "Delaypouch" "sent" "Ljava/util/ArrayList;", Cond.fieldLink RX2 30 "Delaypouch" "ordered" "Ljava/util/ArrayList;", Cond.classLink RX2 33 RX1, Cond.instantiable RX1 7, Cond.initialized RX1, Cond.fieldLink RX2 36 "Delaypouch" "plan" "LDelaypouch$Plan;", Cond.methodLink RX2 25 yJx4a65c_init_da8c8, Cond.instanceMethod yJx4a65c_init_da8c8, Cond.code yJx4a65c_init_da8c8 cJx4a65c_init_da8c8 1 none, Cond.fieldLink RJx4a65c 39 "java/util/ArrayList" "DEFAULTCAPACITY_EMPTY_ELEMENTDATA" "[Ljava/lang/Object;", Cond.fieldLink RJx4a65c 9 "java/util/ArrayList" "elementData" "[Ljava/lang/Object;", Cond.methodLink RJx4a65c 1 yJxc12de_init_da8c8, Cond.instanceMethod yJxc12de_init_da8c8]
def wsX2_init_r2 : List Cond := [Cond.initialized RJxc12de, Cond.code yJxc12de_init_da8c8 cJxc12de_init_da8c8 1 none, Cond.fieldLink RJxc12de 7 "java/util/AbstractList" "modCount" "I", Cond.methodLink RJxc12de 1 yJxa1e45_init_da8c8, Cond.instanceMethod yJxa1e45_init_da8c8, Cond.initialized RJxa1e45, Cond.code yJxa1e45_init_da8c8 cJxa1e45_init_da8c8 1 none, Cond.methodLink RJxa1e45 1 objectInit, Cond.methodLink RX2 35 yX1_init, Cond.instanceMethod yX1_init, Cond.code yX1_init cX1_init 1 none, Cond.methodLink RX1 3 objectInit, Cond.fieldLink RX1 9 "Delaypouch$Plan" "nodes" "[I", Cond.fieldLink RX1 15 "Delaypouch$Plan" "others" "[I", Cond.fieldLink RX1 18 "Delaypouch$Plan" "firsts" "[I", Cond.fieldLink RX1 21 "Delaypouch$Plan" "lasts" "[I", Cond.fieldLink RX1 24 "Delaypouch$Plan" "reached" "[I", Cond.arrayClass .boolean, Cond.fieldLink RX1 27 "Delaypouch$Plan" "settled" "[Z", Cond.fieldLink RX1 31 "Delaypouch$Plan" "size" "I"]
def wsX2_init : List Cond := .code yX2_init cX2_init 2 none :: ((wsX2_init_r1 ++ wsX2_init_r2) ++ wsX20 ++ wsJx4a65c0 ++ wsX10)
def wsX2_isWithin : List Cond := .code yX2_isWithin cX2_isWithin 3 (some .boolean) :: ([])
def wsX2_isNode : List Cond := .code yX2_isNode cX2_isNode 1 (some .boolean) :: ([.methodLink RX2 51 yX2_isWithin, .static yX2_isWithin, .initialized RX2, .code yX2_isWithin cX2_isWithin 3 (some .boolean)])
def wsJx4a65c_size_8abf5 : List Cond := .code yJx4a65c_size_8abf5 cJx4a65c_size_8abf5 1 (some .int) :: ([.fieldLink RJx4a65c 48 "java/util/ArrayList" "size" "I"] ++ wsJx4a65c0)
def wsJ3_checkIndex_8e157 : List Cond := .code yJ3_checkIndex_8e157 cJ3_checkIndex_8e157 3 (some .int) :: ([])
def wsJ15_checkIndex_7cf53 : List Cond := .code yJ15_checkIndex_7cf53 cJ15_checkIndex_7cf53 2 (some .int) :: ([.methodLink RJ15 105 yJ3_checkIndex_8e157, .static yJ3_checkIndex_8e157, .initialized RJ3, .code yJ3_checkIndex_8e157 cJ3_checkIndex_8e157 3 (some .int)])
def wsJx4a65c_elementData_915e3 : List Cond := .code yJx4a65c_elementData_915e3 cJx4a65c_elementData_915e3 2 (some (.object "java/lang/Object")) :: ([.fieldLink RJx4a65c 9 "java/util/ArrayList" "elementData" "[Ljava/lang/Object;"] ++ wsJx4a65c0)
def wsJx4a65c_get_915e3 : List Cond := .code yJx4a65c_get_915e3 cJx4a65c_get_915e3 2 (some (.object "java/lang/Object")) :: ([.fieldLink RJx4a65c 48 "java/util/ArrayList" "size" "I", .methodLink RJx4a65c 118 yJ15_checkIndex_7cf53, .static yJ15_checkIndex_7cf53, .initialized RJ15, .code yJ15_checkIndex_7cf53 cJ15_checkIndex_7cf53 2 (some .int), .methodLink RJ15 105 yJ3_checkIndex_8e157, .static yJ3_checkIndex_8e157, .initialized RJ3, .code yJ3_checkIndex_8e157 cJ3_checkIndex_8e157 3 (some .int), .methodLink RJx4a65c 123 yJx4a65c_elementData_915e3, .instanceMethod yJx4a65c_elementData_915e3, .selects RJx4a65c yJx4a65c_elementData_915e3 yJx4a65c_elementData_915e3, .initialized RJx4a65c, .code yJx4a65c_elementData_915e3 cJx4a65c_elementData_915e3 2 (some (.object "java/lang/Object")), .fieldLink RJx4a65c 9 "java/util/ArrayList" "elementData" "[Ljava/lang/Object;"] ++ wsJx4a65c0)
def wsX2_countAt_r1 : List Cond := [Cond.fieldLink RX2 26 "Delaypouch" "sent" "Ljava/util/ArrayList;", Cond.classLink RX2 75 "Delaypouch$Bundle", Cond.methodLink RX2 60 yJx4a65c_size_8abf5, Cond.instanceMethod yJx4a65c_size_8abf5, Cond.selects RJx4a65c yJx4a65c_size_8abf5 yJx4a65c_size_8abf5, Cond.initialized RJx4a65c, Cond.code yJx4a65c_size_8abf5 cJx4a65c_size_8abf5 1 (some .int), Cond.fieldLink RJx4a65c 48 "java/util/ArrayList" "size" "I", Cond.methodLink RX2 122 yJx4a65c_get_915e3, Cond.instanceMethod yJx4a65c_get_915e3, Cond.selects RJx4a65c yJx4a65c_get_915e3 yJx4a65c_get_915e3, Cond.code yJx4a65c_get_915e3 cJx4a65c_get_915e3 2 (some (.object "java/lang/Object")), Cond.methodLink RJx4a65c 118 yJ15_checkIndex_7cf53, Cond.static yJ15_checkIndex_7cf53, Cond.initialized RJ15, Cond.code yJ15_checkIndex_7cf53 cJ15_checkIndex_7cf53 2 (some .int), Cond.methodLink RJ15 105 yJ3_checkIndex_8e157, Cond.static yJ3_checkIndex_8e157, Cond.initialized RJ3, Cond.code yJ3_checkIndex_8e157 cJ3_checkIndex_8e157 3 (some .int), Cond.methodLink RJx4a65c 123 yJx4a65c_elementData_915e3, Cond.instanceMethod yJx4a65c_elementData_915e3, Cond.selects RJx4a65c yJx4a65c_elementData_915e3 yJx4a65c_elementData_915e3, Cond.code yJx4a65c_elementData_915e3 cJx4a65c_elementData_915e3 2 (some (.object "java/lang/Object"))]
def wsX2_countAt_r2 : List Cond := [Cond.fieldLink RJx4a65c 9 "java/util/ArrayList" "elementData" "[Ljava/lang/Object;", Cond.methodLink RX2 160 yX0_isAt, Cond.instanceMethod yX0_isAt, Cond.selects RX0 yX0_isAt yX0_isAt, Cond.initialized RX0, Cond.code yX0_isAt cX0_isAt 2 (some .boolean), Cond.fieldLink RX0 24 "Delaypouch$Bundle" "copiesAt" "[I"]
def wsX2_countAt : List Cond := .code yX2_countAt cX2_countAt 4 (some .int) :: ((wsX2_countAt_r1 ++ wsX2_countAt_r2) ++ wsX20 ++ wsJx4a65c0 ++ wsX00)
def wsX2_lastWithoutCustody_r1 : List Cond := [Cond.fieldLink RX2 30 "Delaypouch" "ordered" "Ljava/util/ArrayList;", Cond.classLink RX2 75 "Delaypouch$Bundle", Cond.fieldLink RX2 80 "Delaypouch$Bundle" "custodian" "I", Cond.methodLink RX2 60 yJx4a65c_size_8abf5, Cond.instanceMethod yJx4a65c_size_8abf5, Cond.selects RJx4a65c yJx4a65c_size_8abf5 yJx4a65c_size_8abf5, Cond.initialized RJx4a65c, Cond.code yJx4a65c_size_8abf5 cJx4a65c_size_8abf5 1 (some .int), Cond.fieldLink RJx4a65c 48 "java/util/ArrayList" "size" "I", Cond.methodLink RX2 122 yJx4a65c_get_915e3, Cond.instanceMethod yJx4a65c_get_915e3, Cond.selects RJx4a65c yJx4a65c_get_915e3 yJx4a65c_get_915e3, Cond.code yJx4a65c_get_915e3 cJx4a65c_get_915e3 2 (some (.object "java/lang/Object")), Cond.methodLink RJx4a65c 118 yJ15_checkIndex_7cf53, Cond.static yJ15_checkIndex_7cf53, Cond.initialized RJ15, Cond.code yJ15_checkIndex_7cf53 cJ15_checkIndex_7cf53 2 (some .int), Cond.methodLink RJ15 105 yJ3_checkIndex_8e157, Cond.static yJ3_checkIndex_8e157, Cond.initialized RJ3, Cond.code yJ3_checkIndex_8e157 cJ3_checkIndex_8e157 3 (some .int), Cond.methodLink RJx4a65c 123 yJx4a65c_elementData_915e3, Cond.instanceMethod yJx4a65c_elementData_915e3, Cond.selects RJx4a65c yJx4a65c_elementData_915e3 yJx4a65c_elementData_915e3]
def wsX2_lastWithoutCustody_r2 : List Cond := [Cond.code yJx4a65c_elementData_915e3 cJx4a65c_elementData_915e3 2 (some (.object "java/lang/Object")), Cond.fieldLink RJx4a65c 9 "java/util/ArrayList" "elementData" "[Ljava/lang/Object;", Cond.methodLink RX2 160 yX0_isAt, Cond.instanceMethod yX0_isAt, Cond.selects RX0 yX0_isAt yX0_isAt, Cond.initialized RX0, Cond.code yX0_isAt cX0_isAt 2 (some .boolean), Cond.fieldLink RX0 24 "Delaypouch$Bundle" "copiesAt" "[I"]
def wsX2_lastWithoutCustody : List Cond := .code yX2_lastWithoutCustody cX2_lastWithoutCustody 5 (some (.object "Delaypouch$Bundle")) :: ((wsX2_lastWithoutCustody_r1 ++ wsX2_lastWithoutCustody_r2) ++ wsX20 ++ wsX00 ++ wsJx4a65c0)
def wsX2_makeRoom_r1 : List Cond := [Cond.fieldLink RX2 13 "Delaypouch" "places" "[I", Cond.fieldLink RX2 204 "Delaypouch$Bundle" "priority" "I", Cond.fieldLink RX2 17 "Delaypouch" "drops" "[I", Cond.methodLink RX2 137 yX2_countAt, Cond.instanceMethod yX2_countAt, Cond.selects RX2 yX2_countAt yX2_countAt, Cond.initialized RX2, Cond.code yX2_countAt cX2_countAt 4 (some .int), Cond.fieldLink RX2 26 "Delaypouch" "sent" "Ljava/util/ArrayList;", Cond.classLink RX2 75 "Delaypouch$Bundle", Cond.methodLink RX2 60 yJx4a65c_size_8abf5, Cond.instanceMethod yJx4a65c_size_8abf5, Cond.selects RJx4a65c yJx4a65c_size_8abf5 yJx4a65c_size_8abf5, Cond.initialized RJx4a65c, Cond.code yJx4a65c_size_8abf5 cJx4a65c_size_8abf5 1 (some .int), Cond.fieldLink RJx4a65c 48 "java/util/ArrayList" "size" "I", Cond.methodLink RX2 122 yJx4a65c_get_915e3, Cond.instanceMethod yJx4a65c_get_915e3, Cond.selects RJx4a65c yJx4a65c_get_915e3 yJx4a65c_get_915e3, Cond.code yJx4a65c_get_915e3 cJx4a65c_get_915e3 2 (some (.object "java/lang/Object")), Cond.methodLink RJx4a65c 118 yJ15_checkIndex_7cf53, Cond.static yJ15_checkIndex_7cf53, Cond.initialized RJ15, Cond.code yJ15_checkIndex_7cf53 cJ15_checkIndex_7cf53 2 (some .int)]
def wsX2_makeRoom_r2 : List Cond := [Cond.methodLink RJ15 105 yJ3_checkIndex_8e157, Cond.static yJ3_checkIndex_8e157, Cond.initialized RJ3, Cond.code yJ3_checkIndex_8e157 cJ3_checkIndex_8e157 3 (some .int), Cond.methodLink RJx4a65c 123 yJx4a65c_elementData_915e3, Cond.instanceMethod yJx4a65c_elementData_915e3, Cond.selects RJx4a65c yJx4a65c_elementData_915e3 yJx4a65c_elementData_915e3, Cond.code yJx4a65c_elementData_915e3 cJx4a65c_elementData_915e3 2 (some (.object "java/lang/Object")), Cond.fieldLink RJx4a65c 9 "java/util/ArrayList" "elementData" "[Ljava/lang/Object;", Cond.methodLink RX2 160 yX0_isAt, Cond.instanceMethod yX0_isAt, Cond.selects RX0 yX0_isAt yX0_isAt, Cond.initialized RX0, Cond.code yX0_isAt cX0_isAt 2 (some .boolean), Cond.fieldLink RX0 24 "Delaypouch$Bundle" "copiesAt" "[I", Cond.methodLink RX2 201 yX2_lastWithoutCustody, Cond.instanceMethod yX2_lastWithoutCustody, Cond.selects RX2 yX2_lastWithoutCustody yX2_lastWithoutCustody, Cond.code yX2_lastWithoutCustody cX2_lastWithoutCustody 5 (some (.object "Delaypouch$Bundle")), Cond.fieldLink RX2 30 "Delaypouch" "ordered" "Ljava/util/ArrayList;", Cond.fieldLink RX2 80 "Delaypouch$Bundle" "custodian" "I", Cond.methodLink RX2 207 yX0_leave, Cond.instanceMethod yX0_leave, Cond.selects RX0 yX0_leave yX0_leave]
def wsX2_makeRoom_r3 : List Cond := [Cond.code yX0_leave cX0_leave 2 none, Cond.methodLink RX0 51 yX0_put, Cond.instanceMethod yX0_put, Cond.selects RX0 yX0_put yX0_put, Cond.code yX0_put cX0_put 4 none, Cond.fieldLink RX0 28 "Delaypouch$Bundle" "hopsAt" "[I"]
def wsX2_makeRoom : List Cond := .code yX2_makeRoom cX2_makeRoom 4 (some .boolean) :: ((wsX2_makeRoom_r1 ++ (wsX2_makeRoom_r2 ++ wsX2_makeRoom_r3)) ++ wsX20 ++ wsX00 ++ wsJx4a65c0)
def wsX2_placeInOrder_r1 : List Cond := [Cond.fieldLink RX2 30 "Delaypouch" "ordered" "Ljava/util/ArrayList;", Cond.classLink RX2 75 "Delaypouch$Bundle", Cond.methodLink RX2 60 yJx4a65c_size_8abf5, Cond.instanceMethod yJx4a65c_size_8abf5, Cond.selects RJx4a65c yJx4a65c_size_8abf5 yJx4a65c_size_8abf5, Cond.initialized RJx4a65c, Cond.code yJx4a65c_size_8abf5 cJx4a65c_size_8abf5 1 (some .int), Cond.fieldLink RJx4a65c 48 "java/util/ArrayList" "size" "I", Cond.methodLink RX2 122 yJx4a65c_get_915e3, Cond.instanceMethod yJx4a65c_get_915e3, Cond.selects RJx4a65c yJx4a65c_get_915e3 yJx4a65c_get_915e3, Cond.code yJx4a65c_get_915e3 cJx4a65c_get_915e3 2 (some (.object "java/lang/Object")), Cond.methodLink RJx4a65c 118 yJ15_checkIndex_7cf53, Cond.static yJ15_checkIndex_7cf53, Cond.initialized RJ15, Cond.code yJ15_checkIndex_7cf53 cJ15_checkIndex_7cf53 2 (some .int), Cond.methodLink RJ15 105 yJ3_checkIndex_8e157, Cond.static yJ3_checkIndex_8e157, Cond.initialized RJ3, Cond.code yJ3_checkIndex_8e157 cJ3_checkIndex_8e157 3 (some .int), Cond.methodLink RJx4a65c 123 yJx4a65c_elementData_915e3, Cond.instanceMethod yJx4a65c_elementData_915e3, Cond.selects RJx4a65c yJx4a65c_elementData_915e3 yJx4a65c_elementData_915e3, Cond.code yJx4a65c_elementData_915e3 cJx4a65c_elementData_915e3 2 (some (.object "java/lang/Object"))]
def wsX2_placeInOrder_r2 : List Cond := [Cond.fieldLink RJx4a65c 9 "java/util/ArrayList" "elementData" "[Ljava/lang/Object;", Cond.methodLink RX2 197 yX0_isBefore, Cond.instanceMethod yX0_isBefore, Cond.selects RX0 yX0_isBefore yX0_isBefore, Cond.initialized RX0, Cond.code yX0_isBefore cX0_isBefore 2 (some .boolean), Cond.fieldLink RX0 18 "Delaypouch$Bundle" "priority" "I", Cond.fieldLink RX0 21 "Delaypouch$Bundle" "end" "I", Cond.fieldLink RX0 9 "Delaypouch$Bundle" "number" "I"]
def wsX2_placeInOrder : List Cond := .code yX2_placeInOrder cX2_placeInOrder 3 (some .int) :: ((wsX2_placeInOrder_r1 ++ wsX2_placeInOrder_r2) ++ wsX20 ++ wsJx4a65c0 ++ wsX00)
def wsJx4a65c_rangeCheckForAdd_d00df : List Cond := .code yJx4a65c_rangeCheckForAdd_d00df cJx4a65c_rangeCheckForAdd_d00df 2 none :: ([.fieldLink RJx4a65c 48 "java/util/ArrayList" "size" "I"] ++ wsJx4a65c0)
def wsJ8_hugeLength_7cf53 : List Cond := .code yJ8_hugeLength_7cf53 cJ8_hugeLength_7cf53 3 (some .int) :: ([.constant RJ8 200 (2147483639)])
def wsJ8_newLength_cabcc : List Cond := .code yJ8_newLength_cabcc cJ8_newLength_cabcc 4 (some .int) :: ([.methodLink RJ8 194 Lib.Math.max.name, .static Lib.Math.max.name, .initialized "java/lang/Math", .code Lib.Math.max.name Lib.Math.max.code 2 (some .int), .constant RJ8 200 (2147483639), .methodLink RJ8 201 yJ8_hugeLength_7cf53, .static yJ8_hugeLength_7cf53, .initialized RJ8, .code yJ8_hugeLength_7cf53 cJ8_hugeLength_7cf53 3 (some .int)])
def wsJ7_copyOf_6403c : List Cond := .code yJ7_copyOf_6403c cJ7_copyOf_6403c 4 (some (.array (.object "java/lang/Object"))) :: ([.classLink RJ7 110 "[Ljava/lang/Object;", .classLink RJ7 2 "java/lang/Object", .methodLink RJ7 304 Lib.Math.min.name, .static Lib.Math.min.name, .initialized "java/lang/Math", .code Lib.Math.min.name Lib.Math.min.code 2 (some .int), .methodLink RJ7 150 arraycopyName, .native arraycopyName, .static arraycopyName, .initialized "java/lang/System"])
def wsJ7_copyOf_1904c : List Cond := .code yJ7_copyOf_1904c cJ7_copyOf_1904c 2 (some (.array (.object "java/lang/Object"))) :: ([.methodLink RJ7 86 ⟨"java/lang/Object", "getClass", "()Ljava/lang/Class;"⟩, .selects "[Ljava/lang/Object;" ⟨"java/lang/Object", "getClass", "()Ljava/lang/Class;"⟩ ⟨"java/lang/Object", "getClass", "()Ljava/lang/Class;"⟩, .instanceMethod ⟨"java/lang/Object", "getClass", "()Ljava/lang/Class;"⟩, .native ⟨"java/lang/Object", "getClass", "()Ljava/lang/Class;"⟩, .methodLink RJ7 300 yJ7_copyOf_6403c, .static yJ7_copyOf_6403c, .initialized RJ7, .code yJ7_copyOf_6403c cJ7_copyOf_6403c 4 (some (.array (.object "java/lang/Object"))), .classLink RJ7 110 "[Ljava/lang/Object;", .classLink RJ7 2 "java/lang/Object", .methodLink RJ7 304 Lib.Math.min.name, .static Lib.Math.min.name, .initialized "java/lang/Math", .code Lib.Math.min.name Lib.Math.min.code 2 (some .int), .methodLink RJ7 150 arraycopyName, .native arraycopyName, .static arraycopyName, .initialized "java/lang/System"])
def wsJx4a65c_grow_92f84_r1 : List Cond := [Cond.fieldLink RJx4a65c 9 "java/util/ArrayList" "elementData" "[Ljava/lang/Object;", Cond.fieldLink RJx4a65c 39 "java/util/ArrayList" "DEFAULTCAPACITY_EMPTY_ELEMENTDATA" "[Ljava/lang/Object;", Cond.methodLink RJx4a65c 79 Lib.Math.max.name, Cond.static Lib.Math.max.name, Cond.initialized "java/lang/Math", Cond.code Lib.Math.max.name Lib.Math.max.code 2 (some .int), Cond.classLink RJx4a65c 7 "java/lang/Object", Cond.methodLink RJx4a65c 73 yJ8_newLength_cabcc, Cond.static yJ8_newLength_cabcc, Cond.initialized RJ8, Cond.code yJ8_newLength_cabcc cJ8_newLength_cabcc 4 (some .int), Cond.methodLink RJ8 194 Lib.Math.max.name, Cond.constant RJ8 200 (2147483639), Cond.methodLink RJ8 201 yJ8_hugeLength_7cf53, Cond.static yJ8_hugeLength_7cf53, Cond.code yJ8_hugeLength_7cf53 cJ8_hugeLength_7cf53 3 (some .int), Cond.methodLink RJx4a65c 66 yJ7_copyOf_1904c, Cond.static yJ7_copyOf_1904c, Cond.initialized RJ7, Cond.code yJ7_copyOf_1904c cJ7_copyOf_1904c 2 (some (.array (.object "java/lang/Object"))), Cond.methodLink RJ7 86 ⟨"java/lang/Object", "getClass", "()Ljava/lang/Class;"⟩, Cond.selects "[Ljava/lang/Object;" ⟨"java/lang/Object", "getClass", "()Ljava/lang/Class;"⟩ ⟨"java/lang/Object", "getClass", "()Ljava/lang/Class;"⟩, Cond.instanceMethod ⟨"java/lang/Object", "getClass", "()Ljava/lang/Class;"⟩, Cond.native ⟨"java/lang/Object", "getClass", "()Ljava/lang/Class;"⟩]
def wsJx4a65c_grow_92f84_r2 : List Cond := [Cond.methodLink RJ7 300 yJ7_copyOf_6403c, Cond.static yJ7_copyOf_6403c, Cond.code yJ7_copyOf_6403c cJ7_copyOf_6403c 4 (some (.array (.object "java/lang/Object"))), Cond.classLink RJ7 110 "[Ljava/lang/Object;", Cond.classLink RJ7 2 "java/lang/Object", Cond.methodLink RJ7 304 Lib.Math.min.name, Cond.static Lib.Math.min.name, Cond.code Lib.Math.min.name Lib.Math.min.code 2 (some .int), Cond.methodLink RJ7 150 arraycopyName, Cond.native arraycopyName, Cond.static arraycopyName, Cond.initialized "java/lang/System"]
def wsJx4a65c_grow_92f84 : List Cond := .code yJx4a65c_grow_92f84 cJx4a65c_grow_92f84 4 (some (.array (.object "java/lang/Object"))) :: ((wsJx4a65c_grow_92f84_r1 ++ wsJx4a65c_grow_92f84_r2) ++ wsJx4a65c0)
def wsJx4a65c_grow_d5877_r1 : List Cond := [Cond.fieldLink RJx4a65c 48 "java/util/ArrayList" "size" "I", Cond.methodLink RJx4a65c 69 yJx4a65c_grow_92f84, Cond.instanceMethod yJx4a65c_grow_92f84, Cond.selects RJx4a65c yJx4a65c_grow_92f84 yJx4a65c_grow_92f84, Cond.initialized RJx4a65c, Cond.code yJx4a65c_grow_92f84 cJx4a65c_grow_92f84 4 (some (.array (.object "java/lang/Object"))), Cond.fieldLink RJx4a65c 9 "java/util/ArrayList" "elementData" "[Ljava/lang/Object;", Cond.fieldLink RJx4a65c 39 "java/util/ArrayList" "DEFAULTCAPACITY_EMPTY_ELEMENTDATA" "[Ljava/lang/Object;", Cond.methodLink RJx4a65c 79 Lib.Math.max.name, Cond.static Lib.Math.max.name, Cond.initialized "java/lang/Math", Cond.code Lib.Math.max.name Lib.Math.max.code 2 (some .int), Cond.classLink RJx4a65c 7 "java/lang/Object", Cond.methodLink RJx4a65c 73 yJ8_newLength_cabcc, Cond.static yJ8_newLength_cabcc, Cond.initialized RJ8, Cond.code yJ8_newLength_cabcc cJ8_newLength_cabcc 4 (some .int), Cond.methodLink RJ8 194 Lib.Math.max.name, Cond.constant RJ8 200 (2147483639), Cond.methodLink RJ8 201 yJ8_hugeLength_7cf53, Cond.static yJ8_hugeLength_7cf53, Cond.code yJ8_hugeLength_7cf53 cJ8_hugeLength_7cf53 3 (some .int), Cond.methodLink RJx4a65c 66 yJ7_copyOf_1904c, Cond.static yJ7_copyOf_1904c]
def wsJx4a65c_grow_d5877_r2 : List Cond := [Cond.initialized RJ7, Cond.code yJ7_copyOf_1904c cJ7_copyOf_1904c 2 (some (.array (.object "java/lang/Object"))), Cond.methodLink RJ7 86 ⟨"java/lang/Object", "getClass", "()Ljava/lang/Class;"⟩, Cond.selects "[Ljava/lang/Object;" ⟨"java/lang/Object", "getClass", "()Ljava/lang/Class;"⟩ ⟨"java/lang/Object", "getClass", "()Ljava/lang/Class;"⟩, Cond.instanceMethod ⟨"java/lang/Object", "getClass", "()Ljava/lang/Class;"⟩, Cond.native ⟨"java/lang/Object", "getClass", "()Ljava/lang/Class;"⟩, Cond.methodLink RJ7 300 yJ7_copyOf_6403c, Cond.static yJ7_copyOf_6403c, Cond.code yJ7_copyOf_6403c cJ7_copyOf_6403c 4 (some (.array (.object "java/lang/Object"))), Cond.classLink RJ7 110 "[Ljava/lang/Object;", Cond.classLink RJ7 2 "java/lang/Object", Cond.methodLink RJ7 304 Lib.Math.min.name, Cond.static Lib.Math.min.name, Cond.code Lib.Math.min.name Lib.Math.min.code 2 (some .int), Cond.methodLink RJ7 150 arraycopyName, Cond.native arraycopyName, Cond.static arraycopyName, Cond.initialized "java/lang/System"]
def wsJx4a65c_grow_d5877 : List Cond := .code yJx4a65c_grow_d5877 cJx4a65c_grow_d5877 1 (some (.array (.object "java/lang/Object"))) :: ((wsJx4a65c_grow_d5877_r1 ++ wsJx4a65c_grow_d5877_r2) ++ wsJx4a65c0)
def wsJx4a65c_add_7a177_r1 : List Cond := [Cond.fieldLink RJx4a65c 63 "java/util/ArrayList" "modCount" "I", Cond.sameField "java/util/ArrayList" "java/util/AbstractList" "modCount" "I", Cond.fieldLink RJx4a65c 48 "java/util/ArrayList" "size" "I", Cond.fieldLink RJx4a65c 9 "java/util/ArrayList" "elementData" "[Ljava/lang/Object;", Cond.methodLink RJx4a65c 112 arraycopyName, Cond.native arraycopyName, Cond.static arraycopyName, Cond.initialized "java/lang/System", Cond.methodLink RJx4a65c 135 yJx4a65c_rangeCheckForAdd_d00df, Cond.instanceMethod yJx4a65c_rangeCheckForAdd_d00df, Cond.selects RJx4a65c yJx4a65c_rangeCheckForAdd_d00df yJx4a65c_rangeCheckForAdd_d00df, Cond.initialized RJx4a65c, Cond.code yJx4a65c_rangeCheckForAdd_d00df cJx4a65c_rangeCheckForAdd_d00df 2 none, Cond.methodLink RJx4a65c 129 yJx4a65c_grow_d5877, Cond.instanceMethod yJx4a65c_grow_d5877, Cond.selects RJx4a65c yJx4a65c_grow_d5877 yJx4a65c_grow_d5877, Cond.code yJx4a65c_grow_d5877 cJx4a65c_grow_d5877 1 (some (.array (.object "java/lang/Object"))), Cond.methodLink RJx4a65c 69 yJx4a65c_grow_92f84, Cond.instanceMethod yJx4a65c_grow_92f84, Cond.selects RJx4a65c yJx4a65c_grow_92f84 yJx4a65c_grow_92f84, Cond.code yJx4a65c_grow_92f84 cJx4a65c_grow_92f84 4 (some (.array (.object "java/lang/Object"))), Cond.fieldLink RJx4a65c 39 "java/util/ArrayList" "DEFAULTCAPACITY_EMPTY_ELEMENTDATA" "[Ljava/lang/Object;", Cond.methodLink RJx4a65c 79 Lib.Math.max.name, Cond.static Lib.Math.max.name]
def wsJx4a65c_add_7a177_r2 : List Cond := [Cond.initialized "java/lang/Math", Cond.code Lib.Math.max.name Lib.Math.max.code 2 (some .int), Cond.classLink RJx4a65c 7 "java/lang/Object", Cond.methodLink RJx4a65c 73 yJ8_newLength_cabcc, Cond.static yJ8_newLength_cabcc, Cond.initialized RJ8, Cond.code yJ8_newLength_cabcc cJ8_newLength_cabcc 4 (some .int), Cond.methodLink RJ8 194 Lib.Math.max.name, Cond.constant RJ8 200 (2147483639), Cond.methodLink RJ8 201 yJ8_hugeLength_7cf53, Cond.static yJ8_hugeLength_7cf53, Cond.code yJ8_hugeLength_7cf53 cJ8_hugeLength_7cf53 3 (some .int), Cond.methodLink RJx4a65c 66 yJ7_copyOf_1904c, Cond.static yJ7_copyOf_1904c, Cond.initialized RJ7, Cond.code yJ7_copyOf_1904c cJ7_copyOf_1904c 2 (some (.array (.object "java/lang/Object"))), Cond.methodLink RJ7 86 ⟨"java/lang/Object", "getClass", "()Ljava/lang/Class;"⟩, Cond.selects "[Ljava/lang/Object;" ⟨"java/lang/Object", "getClass", "()Ljava/lang/Class;"⟩ ⟨"java/lang/Object", "getClass", "()Ljava/lang/Class;"⟩, Cond.instanceMethod ⟨"java/lang/Object", "getClass", "()Ljava/lang/Class;"⟩, Cond.native ⟨"java/lang/Object", "getClass", "()Ljava/lang/Class;"⟩, Cond.methodLink RJ7 300 yJ7_copyOf_6403c, Cond.static yJ7_copyOf_6403c, Cond.code yJ7_copyOf_6403c cJ7_copyOf_6403c 4 (some (.array (.object "java/lang/Object"))), Cond.classLink RJ7 110 "[Ljava/lang/Object;"]
def wsJx4a65c_add_7a177_r3 : List Cond := [Cond.classLink RJ7 2 "java/lang/Object", Cond.methodLink RJ7 304 Lib.Math.min.name, Cond.static Lib.Math.min.name, Cond.code Lib.Math.min.name Lib.Math.min.code 2 (some .int), Cond.methodLink RJ7 150 arraycopyName]
def wsJx4a65c_add_7a177 : List Cond := .code yJx4a65c_add_7a177 cJx4a65c_add_7a177 5 none :: ((wsJx4a65c_add_7a177_r1 ++ (wsJx4a65c_add_7a177_r2 ++ wsJx4a65c_add_7a177_r3)) ++ wsJx4a65c0)
def wsJx4a65c_add_72be8_r1 : List Cond := [Cond.fieldLink RJx4a65c 48 "java/util/ArrayList" "size" "I", Cond.methodLink RJx4a65c 129 yJx4a65c_grow_d5877, Cond.instanceMethod yJx4a65c_grow_d5877, Cond.selects RJx4a65c yJx4a65c_grow_d5877 yJx4a65c_grow_d5877, Cond.initialized RJx4a65c, Cond.code yJx4a65c_grow_d5877 cJx4a65c_grow_d5877 1 (some (.array (.object "java/lang/Object"))), Cond.methodLink RJx4a65c 69 yJx4a65c_grow_92f84, Cond.instanceMethod yJx4a65c_grow_92f84, Cond.selects RJx4a65c yJx4a65c_grow_92f84 yJx4a65c_grow_92f84, Cond.code yJx4a65c_grow_92f84 cJx4a65c_grow_92f84 4 (some (.array (.object "java/lang/Object"))), Cond.fieldLink RJx4a65c 9 "java/util/ArrayList" "elementData" "[Ljava/lang/Object;", Cond.fieldLink RJx4a65c 39 "java/util/ArrayList" "DEFAULTCAPACITY_EMPTY_ELEMENTDATA" "[Ljava/lang/Object;", Cond.methodLink RJx4a65c 79 Lib.Math.max.name, Cond.static Lib.Math.max.name, Cond.initialized "java/lang/Math", Cond.code Lib.Math.max.name Lib.Math.max.code 2 (some .int), Cond.classLink RJx4a65c 7 "java/lang/Object", Cond.methodLink RJx4a65c 73 yJ8_newLength_cabcc, Cond.static yJ8_newLength_cabcc, Cond.initialized RJ8, Cond.code yJ8_newLength_cabcc cJ8_newLength_cabcc 4 (some .int), Cond.methodLink RJ8 194 Lib.Math.max.name, Cond.constant RJ8 200 (2147483639), Cond.methodLink RJ8 201 yJ8_hugeLength_7cf53]
def wsJx4a65c_add_72be8_r2 : List Cond := [Cond.static yJ8_hugeLength_7cf53, Cond.code yJ8_hugeLength_7cf53 cJ8_hugeLength_7cf53 3 (some .int), Cond.methodLink RJx4a65c 66 yJ7_copyOf_1904c, Cond.static yJ7_copyOf_1904c, Cond.initialized RJ7, Cond.code yJ7_copyOf_1904c cJ7_copyOf_1904c 2 (some (.array (.object "java/lang/Object"))), Cond.methodLink RJ7 86 ⟨"java/lang/Object", "getClass", "()Ljava/lang/Class;"⟩, Cond.selects "[Ljava/lang/Object;" ⟨"java/lang/Object", "getClass", "()Ljava/lang/Class;"⟩ ⟨"java/lang/Object", "getClass", "()Ljava/lang/Class;"⟩, Cond.instanceMethod ⟨"java/lang/Object", "getClass", "()Ljava/lang/Class;"⟩, Cond.native ⟨"java/lang/Object", "getClass", "()Ljava/lang/Class;"⟩, Cond.methodLink RJ7 300 yJ7_copyOf_6403c, Cond.static yJ7_copyOf_6403c, Cond.code yJ7_copyOf_6403c cJ7_copyOf_6403c 4 (some (.array (.object "java/lang/Object"))), Cond.classLink RJ7 110 "[Ljava/lang/Object;", Cond.classLink RJ7 2 "java/lang/Object", Cond.methodLink RJ7 304 Lib.Math.min.name, Cond.static Lib.Math.min.name, Cond.code Lib.Math.min.name Lib.Math.min.code 2 (some .int), Cond.methodLink RJ7 150 arraycopyName, Cond.native arraycopyName, Cond.static arraycopyName, Cond.initialized "java/lang/System"]
def wsJx4a65c_add_72be8 : List Cond := .code yJx4a65c_add_72be8 cJx4a65c_add_72be8 4 none :: ((wsJx4a65c_add_72be8_r1 ++ wsJx4a65c_add_72be8_r2) ++ wsJx4a65c0)
def wsJx4a65c_add_9ea2d_r1 : List Cond := [Cond.fieldLink RJx4a65c 63 "java/util/ArrayList" "modCount" "I", Cond.sameField "java/util/ArrayList" "java/util/AbstractList" "modCount" "I", Cond.fieldLink RJx4a65c 9 "java/util/ArrayList" "elementData" "[Ljava/lang/Object;", Cond.fieldLink RJx4a65c 48 "java/util/ArrayList" "size" "I", Cond.methodLink RJx4a65c 131 yJx4a65c_add_72be8, Cond.instanceMethod yJx4a65c_add_72be8, Cond.selects RJx4a65c yJx4a65c_add_72be8 yJx4a65c_add_72be8, Cond.initialized RJx4a65c, Cond.code yJx4a65c_add_72be8 cJx4a65c_add_72be8 4 none, Cond.methodLink RJx4a65c 129 yJx4a65c_grow_d5877, Cond.instanceMethod yJx4a65c_grow_d5877, Cond.selects RJx4a65c yJx4a65c_grow_d5877 yJx4a65c_grow_d5877, Cond.code yJx4a65c_grow_d5877 cJx4a65c_grow_d5877 1 (some (.array (.object "java/lang/Object"))), Cond.methodLink RJx4a65c 69 yJx4a65c_grow_92f84, Cond.instanceMethod yJx4a65c_grow_92f84, Cond.selects RJx4a65c yJx4a65c_grow_92f84 yJx4a65c_grow_92f84, Cond.code yJx4a65c_grow_92f84 cJx4a65c_grow_92f84 4 (some (.array (.object "java/lang/Object"))), Cond.fieldLink RJx4a65c 39 "java/util/ArrayList" "DEFAULTCAPACITY_EMPTY_ELEMENTDATA" "[Ljava/lang/Object;", Cond.methodLink RJx4a65c 79 Lib.Math.max.name, Cond.static Lib.Math.max.name, Cond.initialized "java/lang/Math", Cond.code Lib.Math.max.name Lib.Math.max.code 2 (some .int), Cond.classLink RJx4a65c 7 "java/lang/Object", Cond.methodLink RJx4a65c 73 yJ8_newLength_cabcc]
def wsJx4a65c_add_9ea2d_r2 : List Cond := [Cond.static yJ8_newLength_cabcc, Cond.initialized RJ8, Cond.code yJ8_newLength_cabcc cJ8_newLength_cabcc 4 (some .int), Cond.methodLink RJ8 194 Lib.Math.max.name, Cond.constant RJ8 200 (2147483639), Cond.methodLink RJ8 201 yJ8_hugeLength_7cf53, Cond.static yJ8_hugeLength_7cf53, Cond.code yJ8_hugeLength_7cf53 cJ8_hugeLength_7cf53 3 (some .int), Cond.methodLink RJx4a65c 66 yJ7_copyOf_1904c, Cond.static yJ7_copyOf_1904c, Cond.initialized RJ7, Cond.code yJ7_copyOf_1904c cJ7_copyOf_1904c 2 (some (.array (.object "java/lang/Object"))), Cond.methodLink RJ7 86 ⟨"java/lang/Object", "getClass", "()Ljava/lang/Class;"⟩, Cond.selects "[Ljava/lang/Object;" ⟨"java/lang/Object", "getClass", "()Ljava/lang/Class;"⟩ ⟨"java/lang/Object", "getClass", "()Ljava/lang/Class;"⟩, Cond.instanceMethod ⟨"java/lang/Object", "getClass", "()Ljava/lang/Class;"⟩, Cond.native ⟨"java/lang/Object", "getClass", "()Ljava/lang/Class;"⟩, Cond.methodLink RJ7 300 yJ7_copyOf_6403c, Cond.static yJ7_copyOf_6403c, Cond.code yJ7_copyOf_6403c cJ7_copyOf_6403c 4 (some (.array (.object "java/lang/Object"))), Cond.classLink RJ7 110 "[Ljava/lang/Object;", Cond.classLink RJ7 2 "java/lang/Object", Cond.methodLink RJ7 304 Lib.Math.min.name, Cond.static Lib.Math.min.name, Cond.code Lib.Math.min.name Lib.Math.min.code 2 (some .int)]
def wsJx4a65c_add_9ea2d_r3 : List Cond := [Cond.methodLink RJ7 150 arraycopyName, Cond.native arraycopyName, Cond.static arraycopyName, Cond.initialized "java/lang/System"]
def wsJx4a65c_add_9ea2d : List Cond := .code yJx4a65c_add_9ea2d cJx4a65c_add_9ea2d 2 (some .boolean) :: ((wsJx4a65c_add_9ea2d_r1 ++ (wsJx4a65c_add_9ea2d_r2 ++ wsJx4a65c_add_9ea2d_r3)) ++ wsJx4a65c0)
def wsX2_send_r1 : List Cond := [Cond.classLink RX2 44 "java/lang/IndexOutOfBoundsException", Cond.initialized "java/lang/IndexOutOfBoundsException", Cond.classLink RX2 55 "java/lang/IllegalArgumentException", Cond.initialized "java/lang/IllegalArgumentException", Cond.classLink RX2 64 "java/lang/IllegalStateException", Cond.initialized "java/lang/IllegalStateException", Cond.fieldLink RX2 26 "Delaypouch" "sent" "Ljava/util/ArrayList;", Cond.classLink RX2 75 RX0, Cond.instantiable RX0 11, Cond.initialized RX0, Cond.fieldLink RX2 7 "Delaypouch" "now" "I", Cond.fieldLink RX2 80 "Delaypouch$Bundle" "custodian" "I", Cond.fieldLink RX2 30 "Delaypouch" "ordered" "Ljava/util/ArrayList;", Cond.fieldLink RX2 98 "Delaypouch$Bundle" "number" "I", Cond.methodLink RX2 40 yX2_isNode, Cond.static yX2_isNode, Cond.initialized RX2, Cond.code yX2_isNode cX2_isNode 1 (some .boolean), Cond.methodLink RX2 51 yX2_isWithin, Cond.static yX2_isWithin, Cond.code yX2_isWithin cX2_isWithin 3 (some .boolean), Cond.methodLink RX2 60 yJx4a65c_size_8abf5, Cond.instanceMethod yJx4a65c_size_8abf5, Cond.selects RJx4a65c yJx4a65c_size_8abf5 yJx4a65c_size_8abf5]
def wsX2_send_r2 : List Cond := [Cond.initialized RJx4a65c, Cond.code yJx4a65c_size_8abf5 cJx4a65c_size_8abf5 1 (some .int), Cond.fieldLink RJx4a65c 48 "java/util/ArrayList" "size" "I", Cond.methodLink RX2 69 yX2_makeRoom, Cond.instanceMethod yX2_makeRoom, Cond.selects RX2 yX2_makeRoom yX2_makeRoom, Cond.code yX2_makeRoom cX2_makeRoom 4 (some .boolean), Cond.fieldLink RX2 13 "Delaypouch" "places" "[I", Cond.fieldLink RX2 204 "Delaypouch$Bundle" "priority" "I", Cond.fieldLink RX2 17 "Delaypouch" "drops" "[I", Cond.methodLink RX2 137 yX2_countAt, Cond.instanceMethod yX2_countAt, Cond.selects RX2 yX2_countAt yX2_countAt, Cond.code yX2_countAt cX2_countAt 4 (some .int), Cond.classLink RX2 75 "Delaypouch$Bundle", Cond.methodLink RX2 122 yJx4a65c_get_915e3, Cond.instanceMethod yJx4a65c_get_915e3, Cond.selects RJx4a65c yJx4a65c_get_915e3 yJx4a65c_get_915e3, Cond.code yJx4a65c_get_915e3 cJx4a65c_get_915e3 2 (some (.object "java/lang/Object")), Cond.methodLink RJx4a65c 118 yJ15_checkIndex_7cf53, Cond.static yJ15_checkIndex_7cf53, Cond.initialized RJ15, Cond.code yJ15_checkIndex_7cf53 cJ15_checkIndex_7cf53 2 (some .int), Cond.methodLink RJ15 105 yJ3_checkIndex_8e157]
def wsX2_send_r3 : List Cond := [Cond.static yJ3_checkIndex_8e157, Cond.initialized RJ3, Cond.code yJ3_checkIndex_8e157 cJ3_checkIndex_8e157 3 (some .int), Cond.methodLink RJx4a65c 123 yJx4a65c_elementData_915e3, Cond.instanceMethod yJx4a65c_elementData_915e3, Cond.selects RJx4a65c yJx4a65c_elementData_915e3 yJx4a65c_elementData_915e3, Cond.code yJx4a65c_elementData_915e3 cJx4a65c_elementData_915e3 2 (some (.object "java/lang/Object")), Cond.fieldLink RJx4a65c 9 "java/util/ArrayList" "elementData" "[Ljava/lang/Object;", Cond.methodLink RX2 160 yX0_isAt, Cond.instanceMethod yX0_isAt, Cond.selects RX0 yX0_isAt yX0_isAt, Cond.code yX0_isAt cX0_isAt 2 (some .boolean), Cond.fieldLink RX0 24 "Delaypouch$Bundle" "copiesAt" "[I", Cond.methodLink RX2 201 yX2_lastWithoutCustody, Cond.instanceMethod yX2_lastWithoutCustody, Cond.selects RX2 yX2_lastWithoutCustody yX2_lastWithoutCustody, Cond.code yX2_lastWithoutCustody cX2_lastWithoutCustody 5 (some (.object "Delaypouch$Bundle")), Cond.methodLink RX2 207 yX0_leave, Cond.instanceMethod yX0_leave, Cond.selects RX0 yX0_leave yX0_leave, Cond.code yX0_leave cX0_leave 2 none, Cond.methodLink RX0 51 yX0_put, Cond.instanceMethod yX0_put, Cond.selects RX0 yX0_put yX0_put]
def wsX2_send_r4 : List Cond := [Cond.code yX0_put cX0_put 4 none, Cond.fieldLink RX0 28 "Delaypouch$Bundle" "hopsAt" "[I", Cond.methodLink RX2 77 yX0_init, Cond.instanceMethod yX0_init, Cond.code yX0_init cX0_init 5 none, Cond.methodLink RX0 3 objectInit, Cond.instanceMethod objectInit, Cond.code objectInit ⟨#[0xb1]⟩ 1 none, Cond.fieldLink RX0 9 "Delaypouch$Bundle" "number" "I", Cond.fieldLink RX0 15 "Delaypouch$Bundle" "destination" "I", Cond.fieldLink RX0 18 "Delaypouch$Bundle" "priority" "I", Cond.fieldLink RX0 21 "Delaypouch$Bundle" "end" "I", Cond.arrayClass .int, Cond.arrayClass .boolean, Cond.fieldLink RX0 31 "Delaypouch$Bundle" "knownAt" "[Z", Cond.fieldLink RX0 35 "Delaypouch$Bundle" "custodian" "I", Cond.fieldLink RX0 38 "Delaypouch$Bundle" "deliverySecond" "I", Cond.fieldLink RX0 41 "Delaypouch$Bundle" "deliveryHops" "I", Cond.fieldLink RX0 44 "Delaypouch$Bundle" "giver" "I", Cond.methodLink RX2 83 yX0_put, Cond.methodLink RX2 87 yX2_placeInOrder, Cond.instanceMethod yX2_placeInOrder, Cond.selects RX2 yX2_placeInOrder yX2_placeInOrder, Cond.code yX2_placeInOrder cX2_placeInOrder 3 (some .int)]
def wsX2_send_r5 : List Cond := [Cond.methodLink RX2 197 yX0_isBefore, Cond.instanceMethod yX0_isBefore, Cond.selects RX0 yX0_isBefore yX0_isBefore, Cond.code yX0_isBefore cX0_isBefore 2 (some .boolean), Cond.methodLink RX2 91 yJx4a65c_add_7a177, Cond.instanceMethod yJx4a65c_add_7a177, Cond.selects RJx4a65c yJx4a65c_add_7a177 yJx4a65c_add_7a177, Cond.code yJx4a65c_add_7a177 cJx4a65c_add_7a177 5 none, Cond.fieldLink RJx4a65c 63 "java/util/ArrayList" "modCount" "I", Cond.sameField "java/util/ArrayList" "java/util/AbstractList" "modCount" "I", Cond.methodLink RJx4a65c 112 arraycopyName, Cond.native arraycopyName, Cond.static arraycopyName, Cond.initialized "java/lang/System", Cond.methodLink RJx4a65c 135 yJx4a65c_rangeCheckForAdd_d00df, Cond.instanceMethod yJx4a65c_rangeCheckForAdd_d00df, Cond.selects RJx4a65c yJx4a65c_rangeCheckForAdd_d00df yJx4a65c_rangeCheckForAdd_d00df, Cond.code yJx4a65c_rangeCheckForAdd_d00df cJx4a65c_rangeCheckForAdd_d00df 2 none, Cond.methodLink RJx4a65c 129 yJx4a65c_grow_d5877, Cond.instanceMethod yJx4a65c_grow_d5877, Cond.selects RJx4a65c yJx4a65c_grow_d5877 yJx4a65c_grow_d5877, Cond.code yJx4a65c_grow_d5877 cJx4a65c_grow_d5877 1 (some (.array (.object "java/lang/Object"))), Cond.methodLink RJx4a65c 69 yJx4a65c_grow_92f84, Cond.instanceMethod yJx4a65c_grow_92f84]
def wsX2_send_r6 : List Cond := [Cond.selects RJx4a65c yJx4a65c_grow_92f84 yJx4a65c_grow_92f84, Cond.code yJx4a65c_grow_92f84 cJx4a65c_grow_92f84 4 (some (.array (.object "java/lang/Object"))), Cond.fieldLink RJx4a65c 39 "java/util/ArrayList" "DEFAULTCAPACITY_EMPTY_ELEMENTDATA" "[Ljava/lang/Object;", Cond.methodLink RJx4a65c 79 Lib.Math.max.name, Cond.static Lib.Math.max.name, Cond.initialized "java/lang/Math", Cond.code Lib.Math.max.name Lib.Math.max.code 2 (some .int), Cond.classLink RJx4a65c 7 "java/lang/Object", Cond.methodLink RJx4a65c 73 yJ8_newLength_cabcc, Cond.static yJ8_newLength_cabcc, Cond.initialized RJ8, Cond.code yJ8_newLength_cabcc cJ8_newLength_cabcc 4 (some .int), Cond.methodLink RJ8 194 Lib.Math.max.name, Cond.constant RJ8 200 (2147483639), Cond.methodLink RJ8 201 yJ8_hugeLength_7cf53, Cond.static yJ8_hugeLength_7cf53, Cond.code yJ8_hugeLength_7cf53 cJ8_hugeLength_7cf53 3 (some .int), Cond.methodLink RJx4a65c 66 yJ7_copyOf_1904c, Cond.static yJ7_copyOf_1904c, Cond.initialized RJ7, Cond.code yJ7_copyOf_1904c cJ7_copyOf_1904c 2 (some (.array (.object "java/lang/Object"))), Cond.methodLink RJ7 86 ⟨"java/lang/Object", "getClass", "()Ljava/lang/Class;"⟩, Cond.selects "[Ljava/lang/Object;" ⟨"java/lang/Object", "getClass", "()Ljava/lang/Class;"⟩ ⟨"java/lang/Object", "getClass", "()Ljava/lang/Class;"⟩, Cond.instanceMethod ⟨"java/lang/Object", "getClass", "()Ljava/lang/Class;"⟩]
def wsX2_send_r7 : List Cond := [Cond.native ⟨"java/lang/Object", "getClass", "()Ljava/lang/Class;"⟩, Cond.methodLink RJ7 300 yJ7_copyOf_6403c, Cond.static yJ7_copyOf_6403c, Cond.code yJ7_copyOf_6403c cJ7_copyOf_6403c 4 (some (.array (.object "java/lang/Object"))), Cond.classLink RJ7 110 "[Ljava/lang/Object;", Cond.classLink RJ7 2 "java/lang/Object", Cond.methodLink RJ7 304 Lib.Math.min.name, Cond.static Lib.Math.min.name, Cond.code Lib.Math.min.name Lib.Math.min.code 2 (some .int), Cond.methodLink RJ7 150 arraycopyName, Cond.methodLink RX2 95 yJx4a65c_add_9ea2d, Cond.instanceMethod yJx4a65c_add_9ea2d, Cond.selects RJx4a65c yJx4a65c_add_9ea2d yJx4a65c_add_9ea2d, Cond.code yJx4a65c_add_9ea2d cJx4a65c_add_9ea2d 2 (some .boolean), Cond.methodLink RJx4a65c 131 yJx4a65c_add_72be8, Cond.instanceMethod yJx4a65c_add_72be8, Cond.selects RJx4a65c yJx4a65c_add_72be8 yJx4a65c_add_72be8, Cond.code yJx4a65c_add_72be8 cJx4a65c_add_72be8 4 none]
def wsX2_send : List Cond := .code yX2_send cX2_send 7 (some .int) :: ((wsX2_send_r1 ++ (wsX2_send_r2 ++ (wsX2_send_r3 ++ (wsX2_send_r4 ++ (wsX2_send_r5 ++ (wsX2_send_r6 ++ wsX2_send_r7)))))) ++ wsX20 ++ wsX00 ++ wsJx4a65c0 ++ (vx_atS RX2 48 "java/lang/IndexOutOfBoundsException" ["java/lang/RuntimeException", "java/lang/Exception"]).filter goodWord ++ (vx_atS RX2 59 "java/lang/IllegalArgumentException" ["java/lang/RuntimeException", "java/lang/Exception"]).filter goodWord ++ (vx_atS RX2 68 "java/lang/IllegalStateException" ["java/lang/RuntimeException", "java/lang/Exception"]).filter goodWord)
def wsX2_exchangeReceipts_r1 : List Cond := [Cond.fieldLink RX2 26 "Delaypouch" "sent" "Ljava/util/ArrayList;", Cond.classLink RX2 75 "Delaypouch$Bundle", Cond.fieldLink RX2 170 "Delaypouch$Bundle" "knownAt" "[Z", Cond.methodLink RX2 60 yJx4a65c_size_8abf5, Cond.instanceMethod yJx4a65c_size_8abf5, Cond.selects RJx4a65c yJx4a65c_size_8abf5 yJx4a65c_size_8abf5, Cond.initialized RJx4a65c, Cond.code yJx4a65c_size_8abf5 cJx4a65c_size_8abf5 1 (some .int), Cond.fieldLink RJx4a65c 48 "java/util/ArrayList" "size" "I", Cond.methodLink RX2 122 yJx4a65c_get_915e3, Cond.instanceMethod yJx4a65c_get_915e3, Cond.selects RJx4a65c yJx4a65c_get_915e3 yJx4a65c_get_915e3, Cond.code yJx4a65c_get_915e3 cJx4a65c_get_915e3 2 (some (.object "java/lang/Object")), Cond.methodLink RJx4a65c 118 yJ15_checkIndex_7cf53, Cond.static yJ15_checkIndex_7cf53, Cond.initialized RJ15, Cond.code yJ15_checkIndex_7cf53 cJ15_checkIndex_7cf53 2 (some .int), Cond.methodLink RJ15 105 yJ3_checkIndex_8e157, Cond.static yJ3_checkIndex_8e157, Cond.initialized RJ3, Cond.code yJ3_checkIndex_8e157 cJ3_checkIndex_8e157 3 (some .int), Cond.methodLink RJx4a65c 123 yJx4a65c_elementData_915e3, Cond.instanceMethod yJx4a65c_elementData_915e3, Cond.selects RJx4a65c yJx4a65c_elementData_915e3 yJx4a65c_elementData_915e3]
def wsX2_exchangeReceipts_r2 : List Cond := [Cond.code yJx4a65c_elementData_915e3 cJx4a65c_elementData_915e3 2 (some (.object "java/lang/Object")), Cond.fieldLink RJx4a65c 9 "java/util/ArrayList" "elementData" "[Ljava/lang/Object;", Cond.methodLink RX2 210 yX0_learn, Cond.instanceMethod yX0_learn, Cond.selects RX0 yX0_learn yX0_learn, Cond.initialized RX0, Cond.code yX0_learn cX0_learn 2 none, Cond.fieldLink RX0 31 "Delaypouch$Bundle" "knownAt" "[Z", Cond.fieldLink RX0 35 "Delaypouch$Bundle" "custodian" "I", Cond.methodLink RX0 59 yX0_leave, Cond.instanceMethod yX0_leave, Cond.selects RX0 yX0_leave yX0_leave, Cond.code yX0_leave cX0_leave 2 none, Cond.methodLink RX0 51 yX0_put, Cond.instanceMethod yX0_put, Cond.selects RX0 yX0_put yX0_put, Cond.code yX0_put cX0_put 4 none, Cond.fieldLink RX0 24 "Delaypouch$Bundle" "copiesAt" "[I", Cond.fieldLink RX0 28 "Delaypouch$Bundle" "hopsAt" "[I"]
def wsX2_exchangeReceipts : List Cond := .code yX2_exchangeReceipts cX2_exchangeReceipts 5 none :: ((wsX2_exchangeReceipts_r1 ++ wsX2_exchangeReceipts_r2) ++ wsX20 ++ wsX00 ++ wsJx4a65c0)
def wsX2_findSprays_r1 : List Cond := [Cond.fieldLink RX2 26 "Delaypouch" "sent" "Ljava/util/ArrayList;", Cond.classLink RX2 75 "Delaypouch$Bundle", Cond.fieldLink RX2 213 "Delaypouch$Bundle" "giver" "I", Cond.methodLink RX2 60 yJx4a65c_size_8abf5, Cond.instanceMethod yJx4a65c_size_8abf5, Cond.selects RJx4a65c yJx4a65c_size_8abf5 yJx4a65c_size_8abf5, Cond.initialized RJx4a65c, Cond.code yJx4a65c_size_8abf5 cJx4a65c_size_8abf5 1 (some .int), Cond.fieldLink RJx4a65c 48 "java/util/ArrayList" "size" "I", Cond.methodLink RX2 122 yJx4a65c_get_915e3, Cond.instanceMethod yJx4a65c_get_915e3, Cond.selects RJx4a65c yJx4a65c_get_915e3 yJx4a65c_get_915e3, Cond.code yJx4a65c_get_915e3 cJx4a65c_get_915e3 2 (some (.object "java/lang/Object")), Cond.methodLink RJx4a65c 118 yJ15_checkIndex_7cf53, Cond.static yJ15_checkIndex_7cf53, Cond.initialized RJ15, Cond.code yJ15_checkIndex_7cf53 cJ15_checkIndex_7cf53 2 (some .int), Cond.methodLink RJ15 105 yJ3_checkIndex_8e157, Cond.static yJ3_checkIndex_8e157, Cond.initialized RJ3, Cond.code yJ3_checkIndex_8e157 cJ3_checkIndex_8e157 3 (some .int), Cond.methodLink RJx4a65c 123 yJx4a65c_elementData_915e3, Cond.instanceMethod yJx4a65c_elementData_915e3, Cond.selects RJx4a65c yJx4a65c_elementData_915e3 yJx4a65c_elementData_915e3]
def wsX2_findSprays_r2 : List Cond := [Cond.code yJx4a65c_elementData_915e3 cJx4a65c_elementData_915e3 2 (some (.object "java/lang/Object")), Cond.fieldLink RJx4a65c 9 "java/util/ArrayList" "elementData" "[Ljava/lang/Object;", Cond.methodLink RX2 216 yX0_canSpray, Cond.instanceMethod yX0_canSpray, Cond.selects RX0 yX0_canSpray yX0_canSpray, Cond.initialized RX0, Cond.code yX0_canSpray cX0_canSpray 3 (some .boolean), Cond.fieldLink RX0 15 "Delaypouch$Bundle" "destination" "I", Cond.fieldLink RX0 24 "Delaypouch$Bundle" "copiesAt" "[I", Cond.methodLink RX0 47 yX0_isAt, Cond.instanceMethod yX0_isAt, Cond.selects RX0 yX0_isAt yX0_isAt, Cond.code yX0_isAt cX0_isAt 2 (some .boolean)]
def wsX2_findSprays : List Cond := .code yX2_findSprays cX2_findSprays 5 none :: ((wsX2_findSprays_r1 ++ wsX2_findSprays_r2) ++ wsX20 ++ wsX00 ++ wsJx4a65c0)
def wsX2_deliverSome_r1 : List Cond := [Cond.fieldLink RX2 30 "Delaypouch" "ordered" "Ljava/util/ArrayList;", Cond.classLink RX2 75 "Delaypouch$Bundle", Cond.fieldLink RX2 7 "Delaypouch" "now" "I", Cond.methodLink RX2 60 yJx4a65c_size_8abf5, Cond.instanceMethod yJx4a65c_size_8abf5, Cond.selects RJx4a65c yJx4a65c_size_8abf5 yJx4a65c_size_8abf5, Cond.initialized RJx4a65c, Cond.code yJx4a65c_size_8abf5 cJx4a65c_size_8abf5 1 (some .int), Cond.fieldLink RJx4a65c 48 "java/util/ArrayList" "size" "I", Cond.methodLink RX2 122 yJx4a65c_get_915e3, Cond.instanceMethod yJx4a65c_get_915e3, Cond.selects RJx4a65c yJx4a65c_get_915e3 yJx4a65c_get_915e3, Cond.code yJx4a65c_get_915e3 cJx4a65c_get_915e3 2 (some (.object "java/lang/Object")), Cond.methodLink RJx4a65c 118 yJ15_checkIndex_7cf53, Cond.static yJ15_checkIndex_7cf53, Cond.initialized RJ15, Cond.code yJ15_checkIndex_7cf53 cJ15_checkIndex_7cf53 2 (some .int), Cond.methodLink RJ15 105 yJ3_checkIndex_8e157, Cond.static yJ3_checkIndex_8e157, Cond.initialized RJ3, Cond.code yJ3_checkIndex_8e157 cJ3_checkIndex_8e157 3 (some .int), Cond.methodLink RJx4a65c 123 yJx4a65c_elementData_915e3, Cond.instanceMethod yJx4a65c_elementData_915e3, Cond.selects RJx4a65c yJx4a65c_elementData_915e3 yJx4a65c_elementData_915e3]
def wsX2_deliverSome_r2 : List Cond := [Cond.code yJx4a65c_elementData_915e3 cJx4a65c_elementData_915e3 2 (some (.object "java/lang/Object")), Cond.fieldLink RJx4a65c 9 "java/util/ArrayList" "elementData" "[Ljava/lang/Object;", Cond.methodLink RX2 219 yX0_canDeliver, Cond.instanceMethod yX0_canDeliver, Cond.selects RX0 yX0_canDeliver yX0_canDeliver, Cond.initialized RX0, Cond.code yX0_canDeliver cX0_canDeliver 3 (some .boolean), Cond.fieldLink RX0 15 "Delaypouch$Bundle" "destination" "I", Cond.methodLink RX0 47 yX0_isAt, Cond.instanceMethod yX0_isAt, Cond.selects RX0 yX0_isAt yX0_isAt, Cond.code yX0_isAt cX0_isAt 2 (some .boolean), Cond.fieldLink RX0 24 "Delaypouch$Bundle" "copiesAt" "[I", Cond.methodLink RX2 222 yX0_deliver, Cond.instanceMethod yX0_deliver, Cond.selects RX0 yX0_deliver yX0_deliver, Cond.code yX0_deliver cX0_deliver 3 none, Cond.fieldLink RX0 38 "Delaypouch$Bundle" "deliverySecond" "I", Cond.fieldLink RX0 28 "Delaypouch$Bundle" "hopsAt" "[I", Cond.fieldLink RX0 41 "Delaypouch$Bundle" "deliveryHops" "I", Cond.methodLink RX0 55 yX0_learn, Cond.instanceMethod yX0_learn, Cond.selects RX0 yX0_learn yX0_learn, Cond.code yX0_learn cX0_learn 2 none]
def wsX2_deliverSome_r3 : List Cond := [Cond.fieldLink RX0 31 "Delaypouch$Bundle" "knownAt" "[Z", Cond.fieldLink RX0 35 "Delaypouch$Bundle" "custodian" "I", Cond.methodLink RX0 59 yX0_leave, Cond.instanceMethod yX0_leave, Cond.selects RX0 yX0_leave yX0_leave, Cond.code yX0_leave cX0_leave 2 none, Cond.methodLink RX0 51 yX0_put, Cond.instanceMethod yX0_put, Cond.selects RX0 yX0_put yX0_put, Cond.code yX0_put cX0_put 4 none]
def wsX2_deliverSome : List Cond := .code yX2_deliverSome cX2_deliverSome 7 (some .int) :: ((wsX2_deliverSome_r1 ++ (wsX2_deliverSome_r2 ++ wsX2_deliverSome_r3)) ++ wsX20 ++ wsJx4a65c0 ++ wsX00)
def wsX2_spray_r1 : List Cond := [Cond.fieldLink RX2 204 "Delaypouch$Bundle" "priority" "I", Cond.fieldLink RX2 20 "Delaypouch" "refusals" "[I", Cond.methodLink RX2 160 yX0_isAt, Cond.instanceMethod yX0_isAt, Cond.selects RX0 yX0_isAt yX0_isAt, Cond.initialized RX0, Cond.code yX0_isAt cX0_isAt 2 (some .boolean), Cond.fieldLink RX0 24 "Delaypouch$Bundle" "copiesAt" "[I", Cond.methodLink RX2 69 yX2_makeRoom, Cond.instanceMethod yX2_makeRoom, Cond.selects RX2 yX2_makeRoom yX2_makeRoom, Cond.initialized RX2, Cond.code yX2_makeRoom cX2_makeRoom 4 (some .boolean), Cond.fieldLink RX2 13 "Delaypouch" "places" "[I", Cond.fieldLink RX2 17 "Delaypouch" "drops" "[I", Cond.methodLink RX2 137 yX2_countAt, Cond.instanceMethod yX2_countAt, Cond.selects RX2 yX2_countAt yX2_countAt, Cond.code yX2_countAt cX2_countAt 4 (some .int), Cond.fieldLink RX2 26 "Delaypouch" "sent" "Ljava/util/ArrayList;", Cond.classLink RX2 75 "Delaypouch$Bundle", Cond.methodLink RX2 60 yJx4a65c_size_8abf5, Cond.instanceMethod yJx4a65c_size_8abf5, Cond.selects RJx4a65c yJx4a65c_size_8abf5 yJx4a65c_size_8abf5]
def wsX2_spray_r2 : List Cond := [Cond.initialized RJx4a65c, Cond.code yJx4a65c_size_8abf5 cJx4a65c_size_8abf5 1 (some .int), Cond.fieldLink RJx4a65c 48 "java/util/ArrayList" "size" "I", Cond.methodLink RX2 122 yJx4a65c_get_915e3, Cond.instanceMethod yJx4a65c_get_915e3, Cond.selects RJx4a65c yJx4a65c_get_915e3 yJx4a65c_get_915e3, Cond.code yJx4a65c_get_915e3 cJx4a65c_get_915e3 2 (some (.object "java/lang/Object")), Cond.methodLink RJx4a65c 118 yJ15_checkIndex_7cf53, Cond.static yJ15_checkIndex_7cf53, Cond.initialized RJ15, Cond.code yJ15_checkIndex_7cf53 cJ15_checkIndex_7cf53 2 (some .int), Cond.methodLink RJ15 105 yJ3_checkIndex_8e157, Cond.static yJ3_checkIndex_8e157, Cond.initialized RJ3, Cond.code yJ3_checkIndex_8e157 cJ3_checkIndex_8e157 3 (some .int), Cond.methodLink RJx4a65c 123 yJx4a65c_elementData_915e3, Cond.instanceMethod yJx4a65c_elementData_915e3, Cond.selects RJx4a65c yJx4a65c_elementData_915e3 yJx4a65c_elementData_915e3, Cond.code yJx4a65c_elementData_915e3 cJx4a65c_elementData_915e3 2 (some (.object "java/lang/Object")), Cond.fieldLink RJx4a65c 9 "java/util/ArrayList" "elementData" "[Ljava/lang/Object;", Cond.methodLink RX2 201 yX2_lastWithoutCustody, Cond.instanceMethod yX2_lastWithoutCustody, Cond.selects RX2 yX2_lastWithoutCustody yX2_lastWithoutCustody, Cond.code yX2_lastWithoutCustody cX2_lastWithoutCustody 5 (some (.object "Delaypouch$Bundle"))]
def wsX2_spray_r3 : List Cond := [Cond.fieldLink RX2 30 "Delaypouch" "ordered" "Ljava/util/ArrayList;", Cond.fieldLink RX2 80 "Delaypouch$Bundle" "custodian" "I", Cond.methodLink RX2 207 yX0_leave, Cond.instanceMethod yX0_leave, Cond.selects RX0 yX0_leave yX0_leave, Cond.code yX0_leave cX0_leave 2 none, Cond.methodLink RX0 51 yX0_put, Cond.instanceMethod yX0_put, Cond.selects RX0 yX0_put yX0_put, Cond.code yX0_put cX0_put 4 none, Cond.fieldLink RX0 28 "Delaypouch$Bundle" "hopsAt" "[I", Cond.methodLink RX2 229 yX0_halve, Cond.instanceMethod yX0_halve, Cond.selects RX0 yX0_halve yX0_halve, Cond.code yX0_halve cX0_halve 4 none]
def wsX2_spray : List Cond := .code yX2_spray cX2_spray 4 (some .boolean) :: ((wsX2_spray_r1 ++ (wsX2_spray_r2 ++ wsX2_spray_r3)) ++ wsX00 ++ wsX20 ++ wsJx4a65c0)
def wsX2_spraySome_r1 : List Cond := [Cond.fieldLink RX2 30 "Delaypouch" "ordered" "Ljava/util/ArrayList;", Cond.classLink RX2 75 "Delaypouch$Bundle", Cond.fieldLink RX2 213 "Delaypouch$Bundle" "giver" "I", Cond.methodLink RX2 60 yJx4a65c_size_8abf5, Cond.instanceMethod yJx4a65c_size_8abf5, Cond.selects RJx4a65c yJx4a65c_size_8abf5 yJx4a65c_size_8abf5, Cond.initialized RJx4a65c, Cond.code yJx4a65c_size_8abf5 cJx4a65c_size_8abf5 1 (some .int), Cond.fieldLink RJx4a65c 48 "java/util/ArrayList" "size" "I", Cond.methodLink RX2 122 yJx4a65c_get_915e3, Cond.instanceMethod yJx4a65c_get_915e3, Cond.selects RJx4a65c yJx4a65c_get_915e3 yJx4a65c_get_915e3, Cond.code yJx4a65c_get_915e3 cJx4a65c_get_915e3 2 (some (.object "java/lang/Object")), Cond.methodLink RJx4a65c 118 yJ15_checkIndex_7cf53, Cond.static yJ15_checkIndex_7cf53, Cond.initialized RJ15, Cond.code yJ15_checkIndex_7cf53 cJ15_checkIndex_7cf53 2 (some .int), Cond.methodLink RJ15 105 yJ3_checkIndex_8e157, Cond.static yJ3_checkIndex_8e157, Cond.initialized RJ3, Cond.code yJ3_checkIndex_8e157 cJ3_checkIndex_8e157 3 (some .int), Cond.methodLink RJx4a65c 123 yJx4a65c_elementData_915e3, Cond.instanceMethod yJx4a65c_elementData_915e3, Cond.selects RJx4a65c yJx4a65c_elementData_915e3 yJx4a65c_elementData_915e3]
def wsX2_spraySome_r2 : List Cond := [Cond.code yJx4a65c_elementData_915e3 cJx4a65c_elementData_915e3 2 (some (.object "java/lang/Object")), Cond.fieldLink RJx4a65c 9 "java/util/ArrayList" "elementData" "[Ljava/lang/Object;", Cond.methodLink RX2 225 yX2_spray, Cond.instanceMethod yX2_spray, Cond.selects RX2 yX2_spray yX2_spray, Cond.initialized RX2, Cond.code yX2_spray cX2_spray 4 (some .boolean), Cond.fieldLink RX2 204 "Delaypouch$Bundle" "priority" "I", Cond.fieldLink RX2 20 "Delaypouch" "refusals" "[I", Cond.methodLink RX2 160 yX0_isAt, Cond.instanceMethod yX0_isAt, Cond.selects RX0 yX0_isAt yX0_isAt, Cond.initialized RX0, Cond.code yX0_isAt cX0_isAt 2 (some .boolean), Cond.fieldLink RX0 24 "Delaypouch$Bundle" "copiesAt" "[I", Cond.methodLink RX2 69 yX2_makeRoom, Cond.instanceMethod yX2_makeRoom, Cond.selects RX2 yX2_makeRoom yX2_makeRoom, Cond.code yX2_makeRoom cX2_makeRoom 4 (some .boolean), Cond.fieldLink RX2 13 "Delaypouch" "places" "[I", Cond.fieldLink RX2 17 "Delaypouch" "drops" "[I", Cond.methodLink RX2 137 yX2_countAt, Cond.instanceMethod yX2_countAt, Cond.selects RX2 yX2_countAt yX2_countAt]
def wsX2_spraySome_r3 : List Cond := [Cond.code yX2_countAt cX2_countAt 4 (some .int), Cond.fieldLink RX2 26 "Delaypouch" "sent" "Ljava/util/ArrayList;", Cond.methodLink RX2 201 yX2_lastWithoutCustody, Cond.instanceMethod yX2_lastWithoutCustody, Cond.selects RX2 yX2_lastWithoutCustody yX2_lastWithoutCustody, Cond.code yX2_lastWithoutCustody cX2_lastWithoutCustody 5 (some (.object "Delaypouch$Bundle")), Cond.fieldLink RX2 80 "Delaypouch$Bundle" "custodian" "I", Cond.methodLink RX2 207 yX0_leave, Cond.instanceMethod yX0_leave, Cond.selects RX0 yX0_leave yX0_leave, Cond.code yX0_leave cX0_leave 2 none, Cond.methodLink RX0 51 yX0_put, Cond.instanceMethod yX0_put, Cond.selects RX0 yX0_put yX0_put, Cond.code yX0_put cX0_put 4 none, Cond.fieldLink RX0 28 "Delaypouch$Bundle" "hopsAt" "[I", Cond.methodLink RX2 229 yX0_halve, Cond.instanceMethod yX0_halve, Cond.selects RX0 yX0_halve yX0_halve, Cond.code yX0_halve cX0_halve 4 none]
def wsX2_spraySome : List Cond := .code yX2_spraySome cX2_spraySome 7 (some .int) :: ((wsX2_spraySome_r1 ++ (wsX2_spraySome_r2 ++ wsX2_spraySome_r3)) ++ wsX20 ++ wsX00 ++ wsJx4a65c0)
def wsX2_moveCustodyIfNearer_r1 : List Cond := [Cond.fieldLink RX2 36 "Delaypouch" "plan" "LDelaypouch$Plan;", Cond.fieldLink RX2 186 "Delaypouch$Bundle" "destination" "I", Cond.fieldLink RX2 7 "Delaypouch" "now" "I", Cond.fieldLink RX2 80 "Delaypouch$Bundle" "custodian" "I", Cond.methodLink RX2 176 yX1_arrivalByNodes, Cond.instanceMethod yX1_arrivalByNodes, Cond.selects RX1 yX1_arrivalByNodes yX1_arrivalByNodes, Cond.initialized RX1, Cond.code yX1_arrivalByNodes cX1_arrivalByNodes 6 (some .int), Cond.fieldLink RX1 27 "Delaypouch$Plan" "settled" "[Z", Cond.fieldLink RX1 24 "Delaypouch$Plan" "reached" "[I", Cond.methodLink RX1 35 yX1_start, Cond.instanceMethod yX1_start, Cond.selects RX1 yX1_start yX1_start, Cond.code yX1_start cX1_start 4 none, Cond.constant RX1 51 (2147483647), Cond.methodLink RX1 39 yX1_nearestUnsettled, Cond.instanceMethod yX1_nearestUnsettled, Cond.selects RX1 yX1_nearestUnsettled yX1_nearestUnsettled, Cond.code yX1_nearestUnsettled cX1_nearestUnsettled 4 (some .int), Cond.methodLink RX1 43 yX1_spread, Cond.instanceMethod yX1_spread, Cond.selects RX1 yX1_spread yX1_spread, Cond.code yX1_spread cX1_spread 3 none]
def wsX2_moveCustodyIfNearer_r2 : List Cond := [Cond.fieldLink RX1 31 "Delaypouch$Plan" "size" "I", Cond.fieldLink RX1 9 "Delaypouch$Plan" "nodes" "[I", Cond.fieldLink RX1 15 "Delaypouch$Plan" "others" "[I", Cond.methodLink RX1 47 yX1_carry, Cond.instanceMethod yX1_carry, Cond.selects RX1 yX1_carry yX1_carry, Cond.code yX1_carry cX1_carry 5 (some .boolean), Cond.fieldLink RX1 21 "Delaypouch$Plan" "lasts" "[I", Cond.fieldLink RX1 18 "Delaypouch$Plan" "firsts" "[I", Cond.methodLink RX1 52 Lib.Math.max.name, Cond.static Lib.Math.max.name, Cond.initialized "java/lang/Math", Cond.code Lib.Math.max.name Lib.Math.max.code 2 (some .int)]
def wsX2_moveCustodyIfNearer : List Cond := .code yX2_moveCustodyIfNearer cX2_moveCustodyIfNearer 6 none :: ((wsX2_moveCustodyIfNearer_r1 ++ wsX2_moveCustodyIfNearer_r2) ++ wsX20 ++ wsX00 ++ wsX10)
def wsX2_moveCustody_r1 : List Cond := [Cond.fieldLink RX2 26 "Delaypouch" "sent" "Ljava/util/ArrayList;", Cond.classLink RX2 75 "Delaypouch$Bundle", Cond.fieldLink RX2 80 "Delaypouch$Bundle" "custodian" "I", Cond.methodLink RX2 60 yJx4a65c_size_8abf5, Cond.instanceMethod yJx4a65c_size_8abf5, Cond.selects RJx4a65c yJx4a65c_size_8abf5 yJx4a65c_size_8abf5, Cond.initialized RJx4a65c, Cond.code yJx4a65c_size_8abf5 cJx4a65c_size_8abf5 1 (some .int), Cond.fieldLink RJx4a65c 48 "java/util/ArrayList" "size" "I", Cond.methodLink RX2 122 yJx4a65c_get_915e3, Cond.instanceMethod yJx4a65c_get_915e3, Cond.selects RJx4a65c yJx4a65c_get_915e3 yJx4a65c_get_915e3, Cond.code yJx4a65c_get_915e3 cJx4a65c_get_915e3 2 (some (.object "java/lang/Object")), Cond.methodLink RJx4a65c 118 yJ15_checkIndex_7cf53, Cond.static yJ15_checkIndex_7cf53, Cond.initialized RJ15, Cond.code yJ15_checkIndex_7cf53 cJ15_checkIndex_7cf53 2 (some .int), Cond.methodLink RJ15 105 yJ3_checkIndex_8e157, Cond.static yJ3_checkIndex_8e157, Cond.initialized RJ3, Cond.code yJ3_checkIndex_8e157 cJ3_checkIndex_8e157 3 (some .int), Cond.methodLink RJx4a65c 123 yJx4a65c_elementData_915e3, Cond.instanceMethod yJx4a65c_elementData_915e3, Cond.selects RJx4a65c yJx4a65c_elementData_915e3 yJx4a65c_elementData_915e3]
def wsX2_moveCustody_r2 : List Cond := [Cond.code yJx4a65c_elementData_915e3 cJx4a65c_elementData_915e3 2 (some (.object "java/lang/Object")), Cond.fieldLink RJx4a65c 9 "java/util/ArrayList" "elementData" "[Ljava/lang/Object;", Cond.methodLink RX2 160 yX0_isAt, Cond.instanceMethod yX0_isAt, Cond.selects RX0 yX0_isAt yX0_isAt, Cond.initialized RX0, Cond.code yX0_isAt cX0_isAt 2 (some .boolean), Cond.fieldLink RX0 24 "Delaypouch$Bundle" "copiesAt" "[I", Cond.methodLink RX2 232 yX2_moveCustodyIfNearer, Cond.instanceMethod yX2_moveCustodyIfNearer, Cond.selects RX2 yX2_moveCustodyIfNearer yX2_moveCustodyIfNearer, Cond.initialized RX2, Cond.code yX2_moveCustodyIfNearer cX2_moveCustodyIfNearer 6 none, Cond.fieldLink RX2 36 "Delaypouch" "plan" "LDelaypouch$Plan;", Cond.fieldLink RX2 186 "Delaypouch$Bundle" "destination" "I", Cond.fieldLink RX2 7 "Delaypouch" "now" "I", Cond.methodLink RX2 176 yX1_arrivalByNodes, Cond.instanceMethod yX1_arrivalByNodes, Cond.selects RX1 yX1_arrivalByNodes yX1_arrivalByNodes, Cond.initialized RX1, Cond.code yX1_arrivalByNodes cX1_arrivalByNodes 6 (some .int), Cond.fieldLink RX1 27 "Delaypouch$Plan" "settled" "[Z", Cond.fieldLink RX1 24 "Delaypouch$Plan" "reached" "[I", Cond.methodLink RX1 35 yX1_start]
def wsX2_moveCustody_r3 : List Cond := [Cond.instanceMethod yX1_start, Cond.selects RX1 yX1_start yX1_start, Cond.code yX1_start cX1_start 4 none, Cond.constant RX1 51 (2147483647), Cond.methodLink RX1 39 yX1_nearestUnsettled, Cond.instanceMethod yX1_nearestUnsettled, Cond.selects RX1 yX1_nearestUnsettled yX1_nearestUnsettled, Cond.code yX1_nearestUnsettled cX1_nearestUnsettled 4 (some .int), Cond.methodLink RX1 43 yX1_spread, Cond.instanceMethod yX1_spread, Cond.selects RX1 yX1_spread yX1_spread, Cond.code yX1_spread cX1_spread 3 none, Cond.fieldLink RX1 31 "Delaypouch$Plan" "size" "I", Cond.fieldLink RX1 9 "Delaypouch$Plan" "nodes" "[I", Cond.fieldLink RX1 15 "Delaypouch$Plan" "others" "[I", Cond.methodLink RX1 47 yX1_carry, Cond.instanceMethod yX1_carry, Cond.selects RX1 yX1_carry yX1_carry, Cond.code yX1_carry cX1_carry 5 (some .boolean), Cond.fieldLink RX1 21 "Delaypouch$Plan" "lasts" "[I", Cond.fieldLink RX1 18 "Delaypouch$Plan" "firsts" "[I", Cond.methodLink RX1 52 Lib.Math.max.name, Cond.static Lib.Math.max.name, Cond.initialized "java/lang/Math"]
def wsX2_moveCustody_r4 : List Cond := [Cond.code Lib.Math.max.name Lib.Math.max.code 2 (some .int)]
def wsX2_moveCustody : List Cond := .code yX2_moveCustody cX2_moveCustody 5 none :: ((wsX2_moveCustody_r1 ++ (wsX2_moveCustody_r2 ++ (wsX2_moveCustody_r3 ++ wsX2_moveCustody_r4))) ++ wsX20 ++ wsX00 ++ wsJx4a65c0 ++ wsX10)
def wsX2_meet_r1 : List Cond := [Cond.classLink RX2 44 "java/lang/IndexOutOfBoundsException", Cond.initialized "java/lang/IndexOutOfBoundsException", Cond.classLink RX2 55 "java/lang/IllegalArgumentException", Cond.initialized "java/lang/IllegalArgumentException", Cond.methodLink RX2 40 yX2_isNode, Cond.static yX2_isNode, Cond.initialized RX2, Cond.code yX2_isNode cX2_isNode 1 (some .boolean), Cond.methodLink RX2 51 yX2_isWithin, Cond.static yX2_isWithin, Cond.code yX2_isWithin cX2_isWithin 3 (some .boolean), Cond.methodLink RX2 103 yX2_exchangeReceipts, Cond.instanceMethod yX2_exchangeReceipts, Cond.selects RX2 yX2_exchangeReceipts yX2_exchangeReceipts, Cond.code yX2_exchangeReceipts cX2_exchangeReceipts 5 none, Cond.fieldLink RX2 26 "Delaypouch" "sent" "Ljava/util/ArrayList;", Cond.classLink RX2 75 "Delaypouch$Bundle", Cond.fieldLink RX2 170 "Delaypouch$Bundle" "knownAt" "[Z", Cond.methodLink RX2 60 yJx4a65c_size_8abf5, Cond.instanceMethod yJx4a65c_size_8abf5, Cond.selects RJx4a65c yJx4a65c_size_8abf5 yJx4a65c_size_8abf5, Cond.initialized RJx4a65c, Cond.code yJx4a65c_size_8abf5 cJx4a65c_size_8abf5 1 (some .int), Cond.fieldLink RJx4a65c 48 "java/util/ArrayList" "size" "I"]
def wsX2_meet_r2 : List Cond := [Cond.methodLink RX2 122 yJx4a65c_get_915e3, Cond.instanceMethod yJx4a65c_get_915e3, Cond.selects RJx4a65c yJx4a65c_get_915e3 yJx4a65c_get_915e3, Cond.code yJx4a65c_get_915e3 cJx4a65c_get_915e3 2 (some (.object "java/lang/Object")), Cond.methodLink RJx4a65c 118 yJ15_checkIndex_7cf53, Cond.static yJ15_checkIndex_7cf53, Cond.initialized RJ15, Cond.code yJ15_checkIndex_7cf53 cJ15_checkIndex_7cf53 2 (some .int), Cond.methodLink RJ15 105 yJ3_checkIndex_8e157, Cond.static yJ3_checkIndex_8e157, Cond.initialized RJ3, Cond.code yJ3_checkIndex_8e157 cJ3_checkIndex_8e157 3 (some .int), Cond.methodLink RJx4a65c 123 yJx4a65c_elementData_915e3, Cond.instanceMethod yJx4a65c_elementData_915e3, Cond.selects RJx4a65c yJx4a65c_elementData_915e3 yJx4a65c_elementData_915e3, Cond.code yJx4a65c_elementData_915e3 cJx4a65c_elementData_915e3 2 (some (.object "java/lang/Object")), Cond.fieldLink RJx4a65c 9 "java/util/ArrayList" "elementData" "[Ljava/lang/Object;", Cond.methodLink RX2 210 yX0_learn, Cond.instanceMethod yX0_learn, Cond.selects RX0 yX0_learn yX0_learn, Cond.initialized RX0, Cond.code yX0_learn cX0_learn 2 none, Cond.fieldLink RX0 31 "Delaypouch$Bundle" "knownAt" "[Z", Cond.fieldLink RX0 35 "Delaypouch$Bundle" "custodian" "I"]
def wsX2_meet_r3 : List Cond := [Cond.methodLink RX0 59 yX0_leave, Cond.instanceMethod yX0_leave, Cond.selects RX0 yX0_leave yX0_leave, Cond.code yX0_leave cX0_leave 2 none, Cond.methodLink RX0 51 yX0_put, Cond.instanceMethod yX0_put, Cond.selects RX0 yX0_put yX0_put, Cond.code yX0_put cX0_put 4 none, Cond.fieldLink RX0 24 "Delaypouch$Bundle" "copiesAt" "[I", Cond.fieldLink RX0 28 "Delaypouch$Bundle" "hopsAt" "[I", Cond.methodLink RX2 107 yX2_findSprays, Cond.instanceMethod yX2_findSprays, Cond.selects RX2 yX2_findSprays yX2_findSprays, Cond.code yX2_findSprays cX2_findSprays 5 none, Cond.fieldLink RX2 213 "Delaypouch$Bundle" "giver" "I", Cond.methodLink RX2 216 yX0_canSpray, Cond.instanceMethod yX0_canSpray, Cond.selects RX0 yX0_canSpray yX0_canSpray, Cond.code yX0_canSpray cX0_canSpray 3 (some .boolean), Cond.fieldLink RX0 15 "Delaypouch$Bundle" "destination" "I", Cond.methodLink RX0 47 yX0_isAt, Cond.instanceMethod yX0_isAt, Cond.selects RX0 yX0_isAt yX0_isAt, Cond.code yX0_isAt cX0_isAt 2 (some .boolean)]
def wsX2_meet_r4 : List Cond := [Cond.methodLink RX2 110 yX2_deliverSome, Cond.instanceMethod yX2_deliverSome, Cond.selects RX2 yX2_deliverSome yX2_deliverSome, Cond.code yX2_deliverSome cX2_deliverSome 7 (some .int), Cond.fieldLink RX2 30 "Delaypouch" "ordered" "Ljava/util/ArrayList;", Cond.fieldLink RX2 7 "Delaypouch" "now" "I", Cond.methodLink RX2 219 yX0_canDeliver, Cond.instanceMethod yX0_canDeliver, Cond.selects RX0 yX0_canDeliver yX0_canDeliver, Cond.code yX0_canDeliver cX0_canDeliver 3 (some .boolean), Cond.methodLink RX2 222 yX0_deliver, Cond.instanceMethod yX0_deliver, Cond.selects RX0 yX0_deliver yX0_deliver, Cond.code yX0_deliver cX0_deliver 3 none, Cond.fieldLink RX0 38 "Delaypouch$Bundle" "deliverySecond" "I", Cond.fieldLink RX0 41 "Delaypouch$Bundle" "deliveryHops" "I", Cond.methodLink RX0 55 yX0_learn, Cond.methodLink RX2 114 yX2_spraySome, Cond.instanceMethod yX2_spraySome, Cond.selects RX2 yX2_spraySome yX2_spraySome, Cond.code yX2_spraySome cX2_spraySome 7 (some .int), Cond.methodLink RX2 225 yX2_spray, Cond.instanceMethod yX2_spray, Cond.selects RX2 yX2_spray yX2_spray]
def wsX2_meet_r5 : List Cond := [Cond.code yX2_spray cX2_spray 4 (some .boolean), Cond.fieldLink RX2 204 "Delaypouch$Bundle" "priority" "I", Cond.fieldLink RX2 20 "Delaypouch" "refusals" "[I", Cond.methodLink RX2 160 yX0_isAt, Cond.methodLink RX2 69 yX2_makeRoom, Cond.instanceMethod yX2_makeRoom, Cond.selects RX2 yX2_makeRoom yX2_makeRoom, Cond.code yX2_makeRoom cX2_makeRoom 4 (some .boolean), Cond.fieldLink RX2 13 "Delaypouch" "places" "[I", Cond.fieldLink RX2 17 "Delaypouch" "drops" "[I", Cond.methodLink RX2 137 yX2_countAt, Cond.instanceMethod yX2_countAt, Cond.selects RX2 yX2_countAt yX2_countAt, Cond.code yX2_countAt cX2_countAt 4 (some .int), Cond.methodLink RX2 201 yX2_lastWithoutCustody, Cond.instanceMethod yX2_lastWithoutCustody, Cond.selects RX2 yX2_lastWithoutCustody yX2_lastWithoutCustody, Cond.code yX2_lastWithoutCustody cX2_lastWithoutCustody 5 (some (.object "Delaypouch$Bundle")), Cond.fieldLink RX2 80 "Delaypouch$Bundle" "custodian" "I", Cond.methodLink RX2 207 yX0_leave, Cond.methodLink RX2 229 yX0_halve, Cond.instanceMethod yX0_halve, Cond.selects RX0 yX0_halve yX0_halve, Cond.code yX0_halve cX0_halve 4 none]
def wsX2_meet_r6 : List Cond := [Cond.methodLink RX2 117 yX2_moveCustody, Cond.instanceMethod yX2_moveCustody, Cond.selects RX2 yX2_moveCustody yX2_moveCustody, Cond.code yX2_moveCustody cX2_moveCustody 5 none, Cond.methodLink RX2 232 yX2_moveCustodyIfNearer, Cond.instanceMethod yX2_moveCustodyIfNearer, Cond.selects RX2 yX2_moveCustodyIfNearer yX2_moveCustodyIfNearer, Cond.code yX2_moveCustodyIfNearer cX2_moveCustodyIfNearer 6 none, Cond.fieldLink RX2 36 "Delaypouch" "plan" "LDelaypouch$Plan;", Cond.fieldLink RX2 186 "Delaypouch$Bundle" "destination" "I", Cond.methodLink RX2 176 yX1_arrivalByNodes, Cond.instanceMethod yX1_arrivalByNodes, Cond.selects RX1 yX1_arrivalByNodes yX1_arrivalByNodes, Cond.initialized RX1, Cond.code yX1_arrivalByNodes cX1_arrivalByNodes 6 (some .int), Cond.fieldLink RX1 27 "Delaypouch$Plan" "settled" "[Z", Cond.fieldLink RX1 24 "Delaypouch$Plan" "reached" "[I", Cond.methodLink RX1 35 yX1_start, Cond.instanceMethod yX1_start, Cond.selects RX1 yX1_start yX1_start, Cond.code yX1_start cX1_start 4 none, Cond.constant RX1 51 (2147483647), Cond.methodLink RX1 39 yX1_nearestUnsettled, Cond.instanceMethod yX1_nearestUnsettled]
def wsX2_meet_r7 : List Cond := [Cond.selects RX1 yX1_nearestUnsettled yX1_nearestUnsettled, Cond.code yX1_nearestUnsettled cX1_nearestUnsettled 4 (some .int), Cond.methodLink RX1 43 yX1_spread, Cond.instanceMethod yX1_spread, Cond.selects RX1 yX1_spread yX1_spread, Cond.code yX1_spread cX1_spread 3 none, Cond.fieldLink RX1 31 "Delaypouch$Plan" "size" "I", Cond.fieldLink RX1 9 "Delaypouch$Plan" "nodes" "[I", Cond.fieldLink RX1 15 "Delaypouch$Plan" "others" "[I", Cond.methodLink RX1 47 yX1_carry, Cond.instanceMethod yX1_carry, Cond.selects RX1 yX1_carry yX1_carry, Cond.code yX1_carry cX1_carry 5 (some .boolean), Cond.fieldLink RX1 21 "Delaypouch$Plan" "lasts" "[I", Cond.fieldLink RX1 18 "Delaypouch$Plan" "firsts" "[I", Cond.methodLink RX1 52 Lib.Math.max.name, Cond.static Lib.Math.max.name, Cond.initialized "java/lang/Math", Cond.code Lib.Math.max.name Lib.Math.max.code 2 (some .int)]
def wsX2_meet : List Cond := .code yX2_meet cX2_meet 6 (some .int) :: ((wsX2_meet_r1 ++ (wsX2_meet_r2 ++ (wsX2_meet_r3 ++ (wsX2_meet_r4 ++ (wsX2_meet_r5 ++ (wsX2_meet_r6 ++ wsX2_meet_r7)))))) ++ wsX20 ++ wsX00 ++ wsJx4a65c0 ++ wsX10 ++ (vx_atS RX2 48 "java/lang/IndexOutOfBoundsException" ["java/lang/RuntimeException", "java/lang/Exception"]).filter goodWord ++ (vx_atS RX2 59 "java/lang/IllegalArgumentException" ["java/lang/RuntimeException", "java/lang/Exception"]).filter goodWord)
def wsX2_pass_r1 : List Cond := [Cond.classLink RX2 55 "java/lang/IllegalArgumentException", Cond.initialized "java/lang/IllegalArgumentException", Cond.fieldLink RX2 7 "Delaypouch" "now" "I", Cond.fieldLink RX2 26 "Delaypouch" "sent" "Ljava/util/ArrayList;", Cond.classLink RX2 75 "Delaypouch$Bundle", Cond.fieldLink RX2 126 "Delaypouch$Bundle" "end" "I", Cond.fieldLink RX2 132 "Delaypouch$Bundle" "deliverySecond" "I", Cond.methodLink RX2 51 yX2_isWithin, Cond.static yX2_isWithin, Cond.initialized RX2, Cond.code yX2_isWithin cX2_isWithin 3 (some .boolean), Cond.methodLink RX2 60 yJx4a65c_size_8abf5, Cond.instanceMethod yJx4a65c_size_8abf5, Cond.selects RJx4a65c yJx4a65c_size_8abf5 yJx4a65c_size_8abf5, Cond.initialized RJx4a65c, Cond.code yJx4a65c_size_8abf5 cJx4a65c_size_8abf5 1 (some .int), Cond.fieldLink RJx4a65c 48 "java/util/ArrayList" "size" "I", Cond.methodLink RX2 122 yJx4a65c_get_915e3, Cond.instanceMethod yJx4a65c_get_915e3, Cond.selects RJx4a65c yJx4a65c_get_915e3 yJx4a65c_get_915e3, Cond.code yJx4a65c_get_915e3 cJx4a65c_get_915e3 2 (some (.object "java/lang/Object")), Cond.methodLink RJx4a65c 118 yJ15_checkIndex_7cf53, Cond.static yJ15_checkIndex_7cf53, Cond.initialized RJ15]
def wsX2_pass_r2 : List Cond := [Cond.code yJ15_checkIndex_7cf53 cJ15_checkIndex_7cf53 2 (some .int), Cond.methodLink RJ15 105 yJ3_checkIndex_8e157, Cond.static yJ3_checkIndex_8e157, Cond.initialized RJ3, Cond.code yJ3_checkIndex_8e157 cJ3_checkIndex_8e157 3 (some .int), Cond.methodLink RJx4a65c 123 yJx4a65c_elementData_915e3, Cond.instanceMethod yJx4a65c_elementData_915e3, Cond.selects RJx4a65c yJx4a65c_elementData_915e3 yJx4a65c_elementData_915e3, Cond.code yJx4a65c_elementData_915e3 cJx4a65c_elementData_915e3 2 (some (.object "java/lang/Object")), Cond.fieldLink RJx4a65c 9 "java/util/ArrayList" "elementData" "[Ljava/lang/Object;", Cond.methodLink RX2 129 yX0_vanish, Cond.instanceMethod yX0_vanish, Cond.selects RX0 yX0_vanish yX0_vanish, Cond.initialized RX0, Cond.code yX0_vanish cX0_vanish 2 none, Cond.fieldLink RX0 35 "Delaypouch$Bundle" "custodian" "I", Cond.methodLink RX0 59 yX0_leave, Cond.instanceMethod yX0_leave, Cond.selects RX0 yX0_leave yX0_leave, Cond.code yX0_leave cX0_leave 2 none, Cond.methodLink RX0 51 yX0_put, Cond.instanceMethod yX0_put, Cond.selects RX0 yX0_put yX0_put, Cond.code yX0_put cX0_put 4 none]
def wsX2_pass_r3 : List Cond := [Cond.fieldLink RX0 24 "Delaypouch$Bundle" "copiesAt" "[I", Cond.fieldLink RX0 28 "Delaypouch$Bundle" "hopsAt" "[I"]
def wsX2_pass : List Cond := .code yX2_pass cX2_pass 6 (some .int) :: ((wsX2_pass_r1 ++ (wsX2_pass_r2 ++ wsX2_pass_r3)) ++ wsX20 ++ wsX00 ++ wsJx4a65c0 ++ (vx_atS RX2 59 "java/lang/IllegalArgumentException" ["java/lang/RuntimeException", "java/lang/Exception"]).filter goodWord)
def wsX2_setBuffer_r1 : List Cond := [Cond.classLink RX2 44 "java/lang/IndexOutOfBoundsException", Cond.initialized "java/lang/IndexOutOfBoundsException", Cond.classLink RX2 55 "java/lang/IllegalArgumentException", Cond.initialized "java/lang/IllegalArgumentException", Cond.classLink RX2 64 "java/lang/IllegalStateException", Cond.initialized "java/lang/IllegalStateException", Cond.fieldLink RX2 13 "Delaypouch" "places" "[I", Cond.methodLink RX2 40 yX2_isNode, Cond.static yX2_isNode, Cond.initialized RX2, Cond.code yX2_isNode cX2_isNode 1 (some .boolean), Cond.methodLink RX2 51 yX2_isWithin, Cond.static yX2_isWithin, Cond.code yX2_isWithin cX2_isWithin 3 (some .boolean), Cond.methodLink RX2 137 yX2_countAt, Cond.instanceMethod yX2_countAt, Cond.selects RX2 yX2_countAt yX2_countAt, Cond.code yX2_countAt cX2_countAt 4 (some .int), Cond.fieldLink RX2 26 "Delaypouch" "sent" "Ljava/util/ArrayList;", Cond.classLink RX2 75 "Delaypouch$Bundle", Cond.methodLink RX2 60 yJx4a65c_size_8abf5, Cond.instanceMethod yJx4a65c_size_8abf5, Cond.selects RJx4a65c yJx4a65c_size_8abf5 yJx4a65c_size_8abf5, Cond.initialized RJx4a65c]
def wsX2_setBuffer_r2 : List Cond := [Cond.code yJx4a65c_size_8abf5 cJx4a65c_size_8abf5 1 (some .int), Cond.fieldLink RJx4a65c 48 "java/util/ArrayList" "size" "I", Cond.methodLink RX2 122 yJx4a65c_get_915e3, Cond.instanceMethod yJx4a65c_get_915e3, Cond.selects RJx4a65c yJx4a65c_get_915e3 yJx4a65c_get_915e3, Cond.code yJx4a65c_get_915e3 cJx4a65c_get_915e3 2 (some (.object "java/lang/Object")), Cond.methodLink RJx4a65c 118 yJ15_checkIndex_7cf53, Cond.static yJ15_checkIndex_7cf53, Cond.initialized RJ15, Cond.code yJ15_checkIndex_7cf53 cJ15_checkIndex_7cf53 2 (some .int), Cond.methodLink RJ15 105 yJ3_checkIndex_8e157, Cond.static yJ3_checkIndex_8e157, Cond.initialized RJ3, Cond.code yJ3_checkIndex_8e157 cJ3_checkIndex_8e157 3 (some .int), Cond.methodLink RJx4a65c 123 yJx4a65c_elementData_915e3, Cond.instanceMethod yJx4a65c_elementData_915e3, Cond.selects RJx4a65c yJx4a65c_elementData_915e3 yJx4a65c_elementData_915e3, Cond.code yJx4a65c_elementData_915e3 cJx4a65c_elementData_915e3 2 (some (.object "java/lang/Object")), Cond.fieldLink RJx4a65c 9 "java/util/ArrayList" "elementData" "[Ljava/lang/Object;", Cond.methodLink RX2 160 yX0_isAt, Cond.instanceMethod yX0_isAt, Cond.selects RX0 yX0_isAt yX0_isAt, Cond.initialized RX0, Cond.code yX0_isAt cX0_isAt 2 (some .boolean)]
def wsX2_setBuffer_r3 : List Cond := [Cond.fieldLink RX0 24 "Delaypouch$Bundle" "copiesAt" "[I"]
def wsX2_setBuffer : List Cond := .code yX2_setBuffer cX2_setBuffer 4 (some .int) :: ((wsX2_setBuffer_r1 ++ (wsX2_setBuffer_r2 ++ wsX2_setBuffer_r3)) ++ wsX20 ++ wsJx4a65c0 ++ wsX00 ++ (vx_atS RX2 48 "java/lang/IndexOutOfBoundsException" ["java/lang/RuntimeException", "java/lang/Exception"]).filter goodWord ++ (vx_atS RX2 59 "java/lang/IllegalArgumentException" ["java/lang/RuntimeException", "java/lang/Exception"]).filter goodWord ++ (vx_atS RX2 68 "java/lang/IllegalStateException" ["java/lang/RuntimeException", "java/lang/Exception"]).filter goodWord)
def wsX2_addContact_r1 : List Cond := [Cond.classLink RX2 44 "java/lang/IndexOutOfBoundsException", Cond.initialized "java/lang/IndexOutOfBoundsException", Cond.classLink RX2 55 "java/lang/IllegalArgumentException", Cond.initialized "java/lang/IllegalArgumentException", Cond.classLink RX2 64 "java/lang/IllegalStateException", Cond.initialized "java/lang/IllegalStateException", Cond.constant RX2 143 (100000), Cond.fieldLink RX2 36 "Delaypouch" "plan" "LDelaypouch$Plan;", Cond.fieldLink RX2 151 "Delaypouch$Plan" "size" "I", Cond.methodLink RX2 40 yX2_isNode, Cond.static yX2_isNode, Cond.initialized RX2, Cond.code yX2_isNode cX2_isNode 1 (some .boolean), Cond.methodLink RX2 51 yX2_isWithin, Cond.static yX2_isWithin, Cond.code yX2_isWithin cX2_isWithin 3 (some .boolean), Cond.methodLink RX2 146 yX1_add, Cond.instanceMethod yX1_add, Cond.selects RX1 yX1_add yX1_add, Cond.initialized RX1, Cond.code yX1_add cX1_add 5 (some .boolean), Cond.fieldLink RX1 31 "Delaypouch$Plan" "size" "I", Cond.fieldLink RX1 9 "Delaypouch$Plan" "nodes" "[I", Cond.fieldLink RX1 15 "Delaypouch$Plan" "others" "[I"]
def wsX2_addContact_r2 : List Cond := [Cond.fieldLink RX1 18 "Delaypouch$Plan" "firsts" "[I", Cond.fieldLink RX1 21 "Delaypouch$Plan" "lasts" "[I"]
def wsX2_addContact : List Cond := .code yX2_addContact cX2_addContact 5 (some .int) :: ((wsX2_addContact_r1 ++ wsX2_addContact_r2) ++ wsX20 ++ wsX10 ++ (vx_atS RX2 48 "java/lang/IndexOutOfBoundsException" ["java/lang/RuntimeException", "java/lang/Exception"]).filter goodWord ++ (vx_atS RX2 59 "java/lang/IllegalArgumentException" ["java/lang/RuntimeException", "java/lang/Exception"]).filter goodWord ++ (vx_atS RX2 68 "java/lang/IllegalStateException" ["java/lang/RuntimeException", "java/lang/Exception"]).filter goodWord)
def wsX2_clock : List Cond := .code yX2_clock cX2_clock 1 (some .int) :: ([.fieldLink RX2 7 "Delaypouch" "now" "I"] ++ wsX20)
def wsX2_bundles : List Cond := .code yX2_bundles cX2_bundles 1 (some .int) :: ([.fieldLink RX2 26 "Delaypouch" "sent" "Ljava/util/ArrayList;", .methodLink RX2 60 yJx4a65c_size_8abf5, .instanceMethod yJx4a65c_size_8abf5, .selects RJx4a65c yJx4a65c_size_8abf5 yJx4a65c_size_8abf5, .initialized RJx4a65c, .code yJx4a65c_size_8abf5 cJx4a65c_size_8abf5 1 (some .int), .fieldLink RJx4a65c 48 "java/util/ArrayList" "size" "I"] ++ wsX20 ++ wsJx4a65c0)
def wsX2_numbered_r1 : List Cond := [Cond.classLink RX2 44 "java/lang/IndexOutOfBoundsException", Cond.initialized "java/lang/IndexOutOfBoundsException", Cond.fieldLink RX2 26 "Delaypouch" "sent" "Ljava/util/ArrayList;", Cond.classLink RX2 75 "Delaypouch$Bundle", Cond.methodLink RX2 60 yJx4a65c_size_8abf5, Cond.instanceMethod yJx4a65c_size_8abf5, Cond.selects RJx4a65c yJx4a65c_size_8abf5 yJx4a65c_size_8abf5, Cond.initialized RJx4a65c, Cond.code yJx4a65c_size_8abf5 cJx4a65c_size_8abf5 1 (some .int), Cond.fieldLink RJx4a65c 48 "java/util/ArrayList" "size" "I", Cond.methodLink RX2 122 yJx4a65c_get_915e3, Cond.instanceMethod yJx4a65c_get_915e3, Cond.selects RJx4a65c yJx4a65c_get_915e3 yJx4a65c_get_915e3, Cond.code yJx4a65c_get_915e3 cJx4a65c_get_915e3 2 (some (.object "java/lang/Object")), Cond.methodLink RJx4a65c 118 yJ15_checkIndex_7cf53, Cond.static yJ15_checkIndex_7cf53, Cond.initialized RJ15, Cond.code yJ15_checkIndex_7cf53 cJ15_checkIndex_7cf53 2 (some .int), Cond.methodLink RJ15 105 yJ3_checkIndex_8e157, Cond.static yJ3_checkIndex_8e157, Cond.initialized RJ3, Cond.code yJ3_checkIndex_8e157 cJ3_checkIndex_8e157 3 (some .int), Cond.methodLink RJx4a65c 123 yJx4a65c_elementData_915e3, Cond.instanceMethod yJx4a65c_elementData_915e3]
def wsX2_numbered_r2 : List Cond := [Cond.selects RJx4a65c yJx4a65c_elementData_915e3 yJx4a65c_elementData_915e3, Cond.code yJx4a65c_elementData_915e3 cJx4a65c_elementData_915e3 2 (some (.object "java/lang/Object")), Cond.fieldLink RJx4a65c 9 "java/util/ArrayList" "elementData" "[Ljava/lang/Object;"]
def wsX2_numbered : List Cond := .code yX2_numbered cX2_numbered 2 (some (.object "Delaypouch$Bundle")) :: ((wsX2_numbered_r1 ++ wsX2_numbered_r2) ++ wsX20 ++ wsJx4a65c0 ++ (vx_atS RX2 48 "java/lang/IndexOutOfBoundsException" ["java/lang/RuntimeException", "java/lang/Exception"]).filter goodWord)
def wsX2_endOf_r1 : List Cond := [Cond.fieldLink RX2 126 "Delaypouch$Bundle" "end" "I", Cond.methodLink RX2 153 yX2_numbered, Cond.instanceMethod yX2_numbered, Cond.selects RX2 yX2_numbered yX2_numbered, Cond.initialized RX2, Cond.code yX2_numbered cX2_numbered 2 (some (.object "Delaypouch$Bundle")), Cond.classLink RX2 44 "java/lang/IndexOutOfBoundsException", Cond.initialized "java/lang/IndexOutOfBoundsException", Cond.fieldLink RX2 26 "Delaypouch" "sent" "Ljava/util/ArrayList;", Cond.classLink RX2 75 "Delaypouch$Bundle", Cond.methodLink RX2 60 yJx4a65c_size_8abf5, Cond.instanceMethod yJx4a65c_size_8abf5, Cond.selects RJx4a65c yJx4a65c_size_8abf5 yJx4a65c_size_8abf5, Cond.initialized RJx4a65c, Cond.code yJx4a65c_size_8abf5 cJx4a65c_size_8abf5 1 (some .int), Cond.fieldLink RJx4a65c 48 "java/util/ArrayList" "size" "I", Cond.methodLink RX2 122 yJx4a65c_get_915e3, Cond.instanceMethod yJx4a65c_get_915e3, Cond.selects RJx4a65c yJx4a65c_get_915e3 yJx4a65c_get_915e3, Cond.code yJx4a65c_get_915e3 cJx4a65c_get_915e3 2 (some (.object "java/lang/Object")), Cond.methodLink RJx4a65c 118 yJ15_checkIndex_7cf53, Cond.static yJ15_checkIndex_7cf53, Cond.initialized RJ15, Cond.code yJ15_checkIndex_7cf53 cJ15_checkIndex_7cf53 2 (some .int)]
def wsX2_endOf_r2 : List Cond := [Cond.methodLink RJ15 105 yJ3_checkIndex_8e157, Cond.static yJ3_checkIndex_8e157, Cond.initialized RJ3, Cond.code yJ3_checkIndex_8e157 cJ3_checkIndex_8e157 3 (some .int), Cond.methodLink RJx4a65c 123 yJx4a65c_elementData_915e3, Cond.instanceMethod yJx4a65c_elementData_915e3, Cond.selects RJx4a65c yJx4a65c_elementData_915e3 yJx4a65c_elementData_915e3, Cond.code yJx4a65c_elementData_915e3 cJx4a65c_elementData_915e3 2 (some (.object "java/lang/Object")), Cond.fieldLink RJx4a65c 9 "java/util/ArrayList" "elementData" "[Ljava/lang/Object;"]
def wsX2_endOf : List Cond := .code yX2_endOf cX2_endOf 2 (some .int) :: ((wsX2_endOf_r1 ++ wsX2_endOf_r2) ++ wsX00 ++ wsX20 ++ wsJx4a65c0 ++ (vx_atS RX2 48 "java/lang/IndexOutOfBoundsException" ["java/lang/RuntimeException", "java/lang/Exception"]).filter goodWord)
def wsX2_deliveredAt_r1 : List Cond := [Cond.fieldLink RX2 132 "Delaypouch$Bundle" "deliverySecond" "I", Cond.methodLink RX2 153 yX2_numbered, Cond.instanceMethod yX2_numbered, Cond.selects RX2 yX2_numbered yX2_numbered, Cond.initialized RX2, Cond.code yX2_numbered cX2_numbered 2 (some (.object "Delaypouch$Bundle")), Cond.classLink RX2 44 "java/lang/IndexOutOfBoundsException", Cond.initialized "java/lang/IndexOutOfBoundsException", Cond.fieldLink RX2 26 "Delaypouch" "sent" "Ljava/util/ArrayList;", Cond.classLink RX2 75 "Delaypouch$Bundle", Cond.methodLink RX2 60 yJx4a65c_size_8abf5, Cond.instanceMethod yJx4a65c_size_8abf5, Cond.selects RJx4a65c yJx4a65c_size_8abf5 yJx4a65c_size_8abf5, Cond.initialized RJx4a65c, Cond.code yJx4a65c_size_8abf5 cJx4a65c_size_8abf5 1 (some .int), Cond.fieldLink RJx4a65c 48 "java/util/ArrayList" "size" "I", Cond.methodLink RX2 122 yJx4a65c_get_915e3, Cond.instanceMethod yJx4a65c_get_915e3, Cond.selects RJx4a65c yJx4a65c_get_915e3 yJx4a65c_get_915e3, Cond.code yJx4a65c_get_915e3 cJx4a65c_get_915e3 2 (some (.object "java/lang/Object")), Cond.methodLink RJx4a65c 118 yJ15_checkIndex_7cf53, Cond.static yJ15_checkIndex_7cf53, Cond.initialized RJ15, Cond.code yJ15_checkIndex_7cf53 cJ15_checkIndex_7cf53 2 (some .int)]
def wsX2_deliveredAt_r2 : List Cond := [Cond.methodLink RJ15 105 yJ3_checkIndex_8e157, Cond.static yJ3_checkIndex_8e157, Cond.initialized RJ3, Cond.code yJ3_checkIndex_8e157 cJ3_checkIndex_8e157 3 (some .int), Cond.methodLink RJx4a65c 123 yJx4a65c_elementData_915e3, Cond.instanceMethod yJx4a65c_elementData_915e3, Cond.selects RJx4a65c yJx4a65c_elementData_915e3 yJx4a65c_elementData_915e3, Cond.code yJx4a65c_elementData_915e3 cJx4a65c_elementData_915e3 2 (some (.object "java/lang/Object")), Cond.fieldLink RJx4a65c 9 "java/util/ArrayList" "elementData" "[Ljava/lang/Object;"]
def wsX2_deliveredAt : List Cond := .code yX2_deliveredAt cX2_deliveredAt 2 (some .int) :: ((wsX2_deliveredAt_r1 ++ wsX2_deliveredAt_r2) ++ wsX00 ++ wsX20 ++ wsJx4a65c0 ++ (vx_atS RX2 48 "java/lang/IndexOutOfBoundsException" ["java/lang/RuntimeException", "java/lang/Exception"]).filter goodWord)
def wsX2_hops_r1 : List Cond := [Cond.fieldLink RX2 157 "Delaypouch$Bundle" "deliveryHops" "I", Cond.methodLink RX2 153 yX2_numbered, Cond.instanceMethod yX2_numbered, Cond.selects RX2 yX2_numbered yX2_numbered, Cond.initialized RX2, Cond.code yX2_numbered cX2_numbered 2 (some (.object "Delaypouch$Bundle")), Cond.classLink RX2 44 "java/lang/IndexOutOfBoundsException", Cond.initialized "java/lang/IndexOutOfBoundsException", Cond.fieldLink RX2 26 "Delaypouch" "sent" "Ljava/util/ArrayList;", Cond.classLink RX2 75 "Delaypouch$Bundle", Cond.methodLink RX2 60 yJx4a65c_size_8abf5, Cond.instanceMethod yJx4a65c_size_8abf5, Cond.selects RJx4a65c yJx4a65c_size_8abf5 yJx4a65c_size_8abf5, Cond.initialized RJx4a65c, Cond.code yJx4a65c_size_8abf5 cJx4a65c_size_8abf5 1 (some .int), Cond.fieldLink RJx4a65c 48 "java/util/ArrayList" "size" "I", Cond.methodLink RX2 122 yJx4a65c_get_915e3, Cond.instanceMethod yJx4a65c_get_915e3, Cond.selects RJx4a65c yJx4a65c_get_915e3 yJx4a65c_get_915e3, Cond.code yJx4a65c_get_915e3 cJx4a65c_get_915e3 2 (some (.object "java/lang/Object")), Cond.methodLink RJx4a65c 118 yJ15_checkIndex_7cf53, Cond.static yJ15_checkIndex_7cf53, Cond.initialized RJ15, Cond.code yJ15_checkIndex_7cf53 cJ15_checkIndex_7cf53 2 (some .int)]
def wsX2_hops_r2 : List Cond := [Cond.methodLink RJ15 105 yJ3_checkIndex_8e157, Cond.static yJ3_checkIndex_8e157, Cond.initialized RJ3, Cond.code yJ3_checkIndex_8e157 cJ3_checkIndex_8e157 3 (some .int), Cond.methodLink RJx4a65c 123 yJx4a65c_elementData_915e3, Cond.instanceMethod yJx4a65c_elementData_915e3, Cond.selects RJx4a65c yJx4a65c_elementData_915e3 yJx4a65c_elementData_915e3, Cond.code yJx4a65c_elementData_915e3 cJx4a65c_elementData_915e3 2 (some (.object "java/lang/Object")), Cond.fieldLink RJx4a65c 9 "java/util/ArrayList" "elementData" "[Ljava/lang/Object;"]
def wsX2_hops : List Cond := .code yX2_hops cX2_hops 2 (some .int) :: ((wsX2_hops_r1 ++ wsX2_hops_r2) ++ wsX00 ++ wsX20 ++ wsJx4a65c0 ++ (vx_atS RX2 48 "java/lang/IndexOutOfBoundsException" ["java/lang/RuntimeException", "java/lang/Exception"]).filter goodWord)
def wsX2_custodian_r1 : List Cond := [Cond.fieldLink RX2 80 "Delaypouch$Bundle" "custodian" "I", Cond.methodLink RX2 153 yX2_numbered, Cond.instanceMethod yX2_numbered, Cond.selects RX2 yX2_numbered yX2_numbered, Cond.initialized RX2, Cond.code yX2_numbered cX2_numbered 2 (some (.object "Delaypouch$Bundle")), Cond.classLink RX2 44 "java/lang/IndexOutOfBoundsException", Cond.initialized "java/lang/IndexOutOfBoundsException", Cond.fieldLink RX2 26 "Delaypouch" "sent" "Ljava/util/ArrayList;", Cond.classLink RX2 75 "Delaypouch$Bundle", Cond.methodLink RX2 60 yJx4a65c_size_8abf5, Cond.instanceMethod yJx4a65c_size_8abf5, Cond.selects RJx4a65c yJx4a65c_size_8abf5 yJx4a65c_size_8abf5, Cond.initialized RJx4a65c, Cond.code yJx4a65c_size_8abf5 cJx4a65c_size_8abf5 1 (some .int), Cond.fieldLink RJx4a65c 48 "java/util/ArrayList" "size" "I", Cond.methodLink RX2 122 yJx4a65c_get_915e3, Cond.instanceMethod yJx4a65c_get_915e3, Cond.selects RJx4a65c yJx4a65c_get_915e3 yJx4a65c_get_915e3, Cond.code yJx4a65c_get_915e3 cJx4a65c_get_915e3 2 (some (.object "java/lang/Object")), Cond.methodLink RJx4a65c 118 yJ15_checkIndex_7cf53, Cond.static yJ15_checkIndex_7cf53, Cond.initialized RJ15, Cond.code yJ15_checkIndex_7cf53 cJ15_checkIndex_7cf53 2 (some .int)]
def wsX2_custodian_r2 : List Cond := [Cond.methodLink RJ15 105 yJ3_checkIndex_8e157, Cond.static yJ3_checkIndex_8e157, Cond.initialized RJ3, Cond.code yJ3_checkIndex_8e157 cJ3_checkIndex_8e157 3 (some .int), Cond.methodLink RJx4a65c 123 yJx4a65c_elementData_915e3, Cond.instanceMethod yJx4a65c_elementData_915e3, Cond.selects RJx4a65c yJx4a65c_elementData_915e3 yJx4a65c_elementData_915e3, Cond.code yJx4a65c_elementData_915e3 cJx4a65c_elementData_915e3 2 (some (.object "java/lang/Object")), Cond.fieldLink RJx4a65c 9 "java/util/ArrayList" "elementData" "[Ljava/lang/Object;"]
def wsX2_custodian : List Cond := .code yX2_custodian cX2_custodian 2 (some .int) :: ((wsX2_custodian_r1 ++ wsX2_custodian_r2) ++ wsX00 ++ wsX20 ++ wsJx4a65c0 ++ (vx_atS RX2 48 "java/lang/IndexOutOfBoundsException" ["java/lang/RuntimeException", "java/lang/Exception"]).filter goodWord)
def wsX2_holders_r1 : List Cond := [Cond.methodLink RX2 153 yX2_numbered, Cond.instanceMethod yX2_numbered, Cond.selects RX2 yX2_numbered yX2_numbered, Cond.initialized RX2, Cond.code yX2_numbered cX2_numbered 2 (some (.object "Delaypouch$Bundle")), Cond.classLink RX2 44 "java/lang/IndexOutOfBoundsException", Cond.initialized "java/lang/IndexOutOfBoundsException", Cond.fieldLink RX2 26 "Delaypouch" "sent" "Ljava/util/ArrayList;", Cond.classLink RX2 75 "Delaypouch$Bundle", Cond.methodLink RX2 60 yJx4a65c_size_8abf5, Cond.instanceMethod yJx4a65c_size_8abf5, Cond.selects RJx4a65c yJx4a65c_size_8abf5 yJx4a65c_size_8abf5, Cond.initialized RJx4a65c, Cond.code yJx4a65c_size_8abf5 cJx4a65c_size_8abf5 1 (some .int), Cond.fieldLink RJx4a65c 48 "java/util/ArrayList" "size" "I", Cond.methodLink RX2 122 yJx4a65c_get_915e3, Cond.instanceMethod yJx4a65c_get_915e3, Cond.selects RJx4a65c yJx4a65c_get_915e3 yJx4a65c_get_915e3, Cond.code yJx4a65c_get_915e3 cJx4a65c_get_915e3 2 (some (.object "java/lang/Object")), Cond.methodLink RJx4a65c 118 yJ15_checkIndex_7cf53, Cond.static yJ15_checkIndex_7cf53, Cond.initialized RJ15, Cond.code yJ15_checkIndex_7cf53 cJ15_checkIndex_7cf53 2 (some .int), Cond.methodLink RJ15 105 yJ3_checkIndex_8e157]
def wsX2_holders_r2 : List Cond := [Cond.static yJ3_checkIndex_8e157, Cond.initialized RJ3, Cond.code yJ3_checkIndex_8e157 cJ3_checkIndex_8e157 3 (some .int), Cond.methodLink RJx4a65c 123 yJx4a65c_elementData_915e3, Cond.instanceMethod yJx4a65c_elementData_915e3, Cond.selects RJx4a65c yJx4a65c_elementData_915e3 yJx4a65c_elementData_915e3, Cond.code yJx4a65c_elementData_915e3 cJx4a65c_elementData_915e3 2 (some (.object "java/lang/Object")), Cond.fieldLink RJx4a65c 9 "java/util/ArrayList" "elementData" "[Ljava/lang/Object;", Cond.methodLink RX2 160 yX0_isAt, Cond.instanceMethod yX0_isAt, Cond.selects RX0 yX0_isAt yX0_isAt, Cond.initialized RX0, Cond.code yX0_isAt cX0_isAt 2 (some .boolean), Cond.fieldLink RX0 24 "Delaypouch$Bundle" "copiesAt" "[I"]
def wsX2_holders : List Cond := .code yX2_holders cX2_holders 5 (some .int) :: ((wsX2_holders_r1 ++ wsX2_holders_r2) ++ wsX20 ++ wsJx4a65c0 ++ wsX00 ++ (vx_atS RX2 48 "java/lang/IndexOutOfBoundsException" ["java/lang/RuntimeException", "java/lang/Exception"]).filter goodWord)
def wsX2_checkNode : List Cond := .code yX2_checkNode cX2_checkNode 1 none :: ([.classLink RX2 44 "java/lang/IndexOutOfBoundsException", .initialized "java/lang/IndexOutOfBoundsException", .methodLink RX2 40 yX2_isNode, .static yX2_isNode, .initialized RX2, .code yX2_isNode cX2_isNode 1 (some .boolean), .methodLink RX2 51 yX2_isWithin, .static yX2_isWithin, .code yX2_isWithin cX2_isWithin 3 (some .boolean)] ++ (vx_atS RX2 48 "java/lang/IndexOutOfBoundsException" ["java/lang/RuntimeException", "java/lang/Exception"]).filter goodWord)
def wsX2_copies_r1 : List Cond := [Cond.fieldLink RX2 167 "Delaypouch$Bundle" "copiesAt" "[I", Cond.methodLink RX2 163 yX2_checkNode, Cond.static yX2_checkNode, Cond.initialized RX2, Cond.code yX2_checkNode cX2_checkNode 1 none, Cond.classLink RX2 44 "java/lang/IndexOutOfBoundsException", Cond.initialized "java/lang/IndexOutOfBoundsException", Cond.methodLink RX2 40 yX2_isNode, Cond.static yX2_isNode, Cond.code yX2_isNode cX2_isNode 1 (some .boolean), Cond.methodLink RX2 51 yX2_isWithin, Cond.static yX2_isWithin, Cond.code yX2_isWithin cX2_isWithin 3 (some .boolean), Cond.methodLink RX2 153 yX2_numbered, Cond.instanceMethod yX2_numbered, Cond.selects RX2 yX2_numbered yX2_numbered, Cond.code yX2_numbered cX2_numbered 2 (some (.object "Delaypouch$Bundle")), Cond.fieldLink RX2 26 "Delaypouch" "sent" "Ljava/util/ArrayList;", Cond.classLink RX2 75 "Delaypouch$Bundle", Cond.methodLink RX2 60 yJx4a65c_size_8abf5, Cond.instanceMethod yJx4a65c_size_8abf5, Cond.selects RJx4a65c yJx4a65c_size_8abf5 yJx4a65c_size_8abf5, Cond.initialized RJx4a65c, Cond.code yJx4a65c_size_8abf5 cJx4a65c_size_8abf5 1 (some .int)]
def wsX2_copies_r2 : List Cond := [Cond.fieldLink RJx4a65c 48 "java/util/ArrayList" "size" "I", Cond.methodLink RX2 122 yJx4a65c_get_915e3, Cond.instanceMethod yJx4a65c_get_915e3, Cond.selects RJx4a65c yJx4a65c_get_915e3 yJx4a65c_get_915e3, Cond.code yJx4a65c_get_915e3 cJx4a65c_get_915e3 2 (some (.object "java/lang/Object")), Cond.methodLink RJx4a65c 118 yJ15_checkIndex_7cf53, Cond.static yJ15_checkIndex_7cf53, Cond.initialized RJ15, Cond.code yJ15_checkIndex_7cf53 cJ15_checkIndex_7cf53 2 (some .int), Cond.methodLink RJ15 105 yJ3_checkIndex_8e157, Cond.static yJ3_checkIndex_8e157, Cond.initialized RJ3, Cond.code yJ3_checkIndex_8e157 cJ3_checkIndex_8e157 3 (some .int), Cond.methodLink RJx4a65c 123 yJx4a65c_elementData_915e3, Cond.instanceMethod yJx4a65c_elementData_915e3, Cond.selects RJx4a65c yJx4a65c_elementData_915e3 yJx4a65c_elementData_915e3, Cond.code yJx4a65c_elementData_915e3 cJx4a65c_elementData_915e3 2 (some (.object "java/lang/Object")), Cond.fieldLink RJx4a65c 9 "java/util/ArrayList" "elementData" "[Ljava/lang/Object;"]
def wsX2_copies : List Cond := .code yX2_copies cX2_copies 3 (some .int) :: ((wsX2_copies_r1 ++ wsX2_copies_r2) ++ wsX00 ++ wsX20 ++ wsJx4a65c0 ++ (vx_atS RX2 48 "java/lang/IndexOutOfBoundsException" ["java/lang/RuntimeException", "java/lang/Exception"]).filter goodWord)
def wsX2_knows_r1 : List Cond := [Cond.fieldLink RX2 170 "Delaypouch$Bundle" "knownAt" "[Z", Cond.methodLink RX2 163 yX2_checkNode, Cond.static yX2_checkNode, Cond.initialized RX2, Cond.code yX2_checkNode cX2_checkNode 1 none, Cond.classLink RX2 44 "java/lang/IndexOutOfBoundsException", Cond.initialized "java/lang/IndexOutOfBoundsException", Cond.methodLink RX2 40 yX2_isNode, Cond.static yX2_isNode, Cond.code yX2_isNode cX2_isNode 1 (some .boolean), Cond.methodLink RX2 51 yX2_isWithin, Cond.static yX2_isWithin, Cond.code yX2_isWithin cX2_isWithin 3 (some .boolean), Cond.methodLink RX2 153 yX2_numbered, Cond.instanceMethod yX2_numbered, Cond.selects RX2 yX2_numbered yX2_numbered, Cond.code yX2_numbered cX2_numbered 2 (some (.object "Delaypouch$Bundle")), Cond.fieldLink RX2 26 "Delaypouch" "sent" "Ljava/util/ArrayList;", Cond.classLink RX2 75 "Delaypouch$Bundle", Cond.methodLink RX2 60 yJx4a65c_size_8abf5, Cond.instanceMethod yJx4a65c_size_8abf5, Cond.selects RJx4a65c yJx4a65c_size_8abf5 yJx4a65c_size_8abf5, Cond.initialized RJx4a65c, Cond.code yJx4a65c_size_8abf5 cJx4a65c_size_8abf5 1 (some .int)]
def wsX2_knows_r2 : List Cond := [Cond.fieldLink RJx4a65c 48 "java/util/ArrayList" "size" "I", Cond.methodLink RX2 122 yJx4a65c_get_915e3, Cond.instanceMethod yJx4a65c_get_915e3, Cond.selects RJx4a65c yJx4a65c_get_915e3 yJx4a65c_get_915e3, Cond.code yJx4a65c_get_915e3 cJx4a65c_get_915e3 2 (some (.object "java/lang/Object")), Cond.methodLink RJx4a65c 118 yJ15_checkIndex_7cf53, Cond.static yJ15_checkIndex_7cf53, Cond.initialized RJ15, Cond.code yJ15_checkIndex_7cf53 cJ15_checkIndex_7cf53 2 (some .int), Cond.methodLink RJ15 105 yJ3_checkIndex_8e157, Cond.static yJ3_checkIndex_8e157, Cond.initialized RJ3, Cond.code yJ3_checkIndex_8e157 cJ3_checkIndex_8e157 3 (some .int), Cond.methodLink RJx4a65c 123 yJx4a65c_elementData_915e3, Cond.instanceMethod yJx4a65c_elementData_915e3, Cond.selects RJx4a65c yJx4a65c_elementData_915e3 yJx4a65c_elementData_915e3, Cond.code yJx4a65c_elementData_915e3 cJx4a65c_elementData_915e3 2 (some (.object "java/lang/Object")), Cond.fieldLink RJx4a65c 9 "java/util/ArrayList" "elementData" "[Ljava/lang/Object;"]
def wsX2_knows : List Cond := .code yX2_knows cX2_knows 3 (some .boolean) :: ((wsX2_knows_r1 ++ wsX2_knows_r2) ++ wsX00 ++ wsX20 ++ wsJx4a65c0 ++ (vx_atS RX2 48 "java/lang/IndexOutOfBoundsException" ["java/lang/RuntimeException", "java/lang/Exception"]).filter goodWord)
def wsX2_held_r1 : List Cond := [Cond.methodLink RX2 163 yX2_checkNode, Cond.static yX2_checkNode, Cond.initialized RX2, Cond.code yX2_checkNode cX2_checkNode 1 none, Cond.classLink RX2 44 "java/lang/IndexOutOfBoundsException", Cond.initialized "java/lang/IndexOutOfBoundsException", Cond.methodLink RX2 40 yX2_isNode, Cond.static yX2_isNode, Cond.code yX2_isNode cX2_isNode 1 (some .boolean), Cond.methodLink RX2 51 yX2_isWithin, Cond.static yX2_isWithin, Cond.code yX2_isWithin cX2_isWithin 3 (some .boolean), Cond.methodLink RX2 137 yX2_countAt, Cond.instanceMethod yX2_countAt, Cond.selects RX2 yX2_countAt yX2_countAt, Cond.code yX2_countAt cX2_countAt 4 (some .int), Cond.fieldLink RX2 26 "Delaypouch" "sent" "Ljava/util/ArrayList;", Cond.classLink RX2 75 "Delaypouch$Bundle", Cond.methodLink RX2 60 yJx4a65c_size_8abf5, Cond.instanceMethod yJx4a65c_size_8abf5, Cond.selects RJx4a65c yJx4a65c_size_8abf5 yJx4a65c_size_8abf5, Cond.initialized RJx4a65c, Cond.code yJx4a65c_size_8abf5 cJx4a65c_size_8abf5 1 (some .int), Cond.fieldLink RJx4a65c 48 "java/util/ArrayList" "size" "I"]
def wsX2_held_r2 : List Cond := [Cond.methodLink RX2 122 yJx4a65c_get_915e3, Cond.instanceMethod yJx4a65c_get_915e3, Cond.selects RJx4a65c yJx4a65c_get_915e3 yJx4a65c_get_915e3, Cond.code yJx4a65c_get_915e3 cJx4a65c_get_915e3 2 (some (.object "java/lang/Object")), Cond.methodLink RJx4a65c 118 yJ15_checkIndex_7cf53, Cond.static yJ15_checkIndex_7cf53, Cond.initialized RJ15, Cond.code yJ15_checkIndex_7cf53 cJ15_checkIndex_7cf53 2 (some .int), Cond.methodLink RJ15 105 yJ3_checkIndex_8e157, Cond.static yJ3_checkIndex_8e157, Cond.initialized RJ3, Cond.code yJ3_checkIndex_8e157 cJ3_checkIndex_8e157 3 (some .int), Cond.methodLink RJx4a65c 123 yJx4a65c_elementData_915e3, Cond.instanceMethod yJx4a65c_elementData_915e3, Cond.selects RJx4a65c yJx4a65c_elementData_915e3 yJx4a65c_elementData_915e3, Cond.code yJx4a65c_elementData_915e3 cJx4a65c_elementData_915e3 2 (some (.object "java/lang/Object")), Cond.fieldLink RJx4a65c 9 "java/util/ArrayList" "elementData" "[Ljava/lang/Object;", Cond.methodLink RX2 160 yX0_isAt, Cond.instanceMethod yX0_isAt, Cond.selects RX0 yX0_isAt yX0_isAt, Cond.initialized RX0, Cond.code yX0_isAt cX0_isAt 2 (some .boolean), Cond.fieldLink RX0 24 "Delaypouch$Bundle" "copiesAt" "[I"]
def wsX2_held : List Cond := .code yX2_held cX2_held 2 (some .int) :: ((wsX2_held_r1 ++ wsX2_held_r2) ++ wsX20 ++ wsJx4a65c0 ++ wsX00 ++ (vx_atS RX2 48 "java/lang/IndexOutOfBoundsException" ["java/lang/RuntimeException", "java/lang/Exception"]).filter goodWord)
def wsX2_heldAt_r1 : List Cond := [Cond.classLink RX2 44 "java/lang/IndexOutOfBoundsException", Cond.initialized "java/lang/IndexOutOfBoundsException", Cond.fieldLink RX2 30 "Delaypouch" "ordered" "Ljava/util/ArrayList;", Cond.classLink RX2 75 "Delaypouch$Bundle", Cond.fieldLink RX2 98 "Delaypouch$Bundle" "number" "I", Cond.methodLink RX2 163 yX2_checkNode, Cond.static yX2_checkNode, Cond.initialized RX2, Cond.code yX2_checkNode cX2_checkNode 1 none, Cond.methodLink RX2 40 yX2_isNode, Cond.static yX2_isNode, Cond.code yX2_isNode cX2_isNode 1 (some .boolean), Cond.methodLink RX2 51 yX2_isWithin, Cond.static yX2_isWithin, Cond.code yX2_isWithin cX2_isWithin 3 (some .boolean), Cond.methodLink RX2 60 yJx4a65c_size_8abf5, Cond.instanceMethod yJx4a65c_size_8abf5, Cond.selects RJx4a65c yJx4a65c_size_8abf5 yJx4a65c_size_8abf5, Cond.initialized RJx4a65c, Cond.code yJx4a65c_size_8abf5 cJx4a65c_size_8abf5 1 (some .int), Cond.fieldLink RJx4a65c 48 "java/util/ArrayList" "size" "I", Cond.methodLink RX2 122 yJx4a65c_get_915e3, Cond.instanceMethod yJx4a65c_get_915e3, Cond.selects RJx4a65c yJx4a65c_get_915e3 yJx4a65c_get_915e3]
def wsX2_heldAt_r2 : List Cond := [Cond.code yJx4a65c_get_915e3 cJx4a65c_get_915e3 2 (some (.object "java/lang/Object")), Cond.methodLink RJx4a65c 118 yJ15_checkIndex_7cf53, Cond.static yJ15_checkIndex_7cf53, Cond.initialized RJ15, Cond.code yJ15_checkIndex_7cf53 cJ15_checkIndex_7cf53 2 (some .int), Cond.methodLink RJ15 105 yJ3_checkIndex_8e157, Cond.static yJ3_checkIndex_8e157, Cond.initialized RJ3, Cond.code yJ3_checkIndex_8e157 cJ3_checkIndex_8e157 3 (some .int), Cond.methodLink RJx4a65c 123 yJx4a65c_elementData_915e3, Cond.instanceMethod yJx4a65c_elementData_915e3, Cond.selects RJx4a65c yJx4a65c_elementData_915e3 yJx4a65c_elementData_915e3, Cond.code yJx4a65c_elementData_915e3 cJx4a65c_elementData_915e3 2 (some (.object "java/lang/Object")), Cond.fieldLink RJx4a65c 9 "java/util/ArrayList" "elementData" "[Ljava/lang/Object;", Cond.methodLink RX2 160 yX0_isAt, Cond.instanceMethod yX0_isAt, Cond.selects RX0 yX0_isAt yX0_isAt, Cond.initialized RX0, Cond.code yX0_isAt cX0_isAt 2 (some .boolean), Cond.fieldLink RX0 24 "Delaypouch$Bundle" "copiesAt" "[I"]
def wsX2_heldAt : List Cond := .code yX2_heldAt cX2_heldAt 6 (some .int) :: ((wsX2_heldAt_r1 ++ wsX2_heldAt_r2) ++ wsX20 ++ wsX00 ++ wsJx4a65c0 ++ (vx_atS RX2 48 "java/lang/IndexOutOfBoundsException" ["java/lang/RuntimeException", "java/lang/Exception"]).filter goodWord)
def wsX2_dropped : List Cond := .code yX2_dropped cX2_dropped 2 (some .int) :: ([.fieldLink RX2 17 "Delaypouch" "drops" "[I", .methodLink RX2 163 yX2_checkNode, .static yX2_checkNode, .initialized RX2, .code yX2_checkNode cX2_checkNode 1 none, .classLink RX2 44 "java/lang/IndexOutOfBoundsException", .initialized "java/lang/IndexOutOfBoundsException", .methodLink RX2 40 yX2_isNode, .static yX2_isNode, .code yX2_isNode cX2_isNode 1 (some .boolean), .methodLink RX2 51 yX2_isWithin, .static yX2_isWithin, .code yX2_isWithin cX2_isWithin 3 (some .boolean)] ++ wsX20 ++ (vx_atS RX2 48 "java/lang/IndexOutOfBoundsException" ["java/lang/RuntimeException", "java/lang/Exception"]).filter goodWord)
def wsX2_refused : List Cond := .code yX2_refused cX2_refused 2 (some .int) :: ([.fieldLink RX2 20 "Delaypouch" "refusals" "[I", .methodLink RX2 163 yX2_checkNode, .static yX2_checkNode, .initialized RX2, .code yX2_checkNode cX2_checkNode 1 none, .classLink RX2 44 "java/lang/IndexOutOfBoundsException", .initialized "java/lang/IndexOutOfBoundsException", .methodLink RX2 40 yX2_isNode, .static yX2_isNode, .code yX2_isNode cX2_isNode 1 (some .boolean), .methodLink RX2 51 yX2_isWithin, .static yX2_isWithin, .code yX2_isWithin cX2_isWithin 3 (some .boolean)] ++ wsX20 ++ (vx_atS RX2 48 "java/lang/IndexOutOfBoundsException" ["java/lang/RuntimeException", "java/lang/Exception"]).filter goodWord)
def wsX2_secondOrNone : List Cond := .code yX2_secondOrNone cX2_secondOrNone 1 (some .int) :: ([.constant RX2 185 (2147483647)])
def wsX2_arrival_r1 : List Cond := [Cond.fieldLink RX2 36 "Delaypouch" "plan" "LDelaypouch$Plan;", Cond.fieldLink RX2 7 "Delaypouch" "now" "I", Cond.methodLink RX2 163 yX2_checkNode, Cond.static yX2_checkNode, Cond.initialized RX2, Cond.code yX2_checkNode cX2_checkNode 1 none, Cond.classLink RX2 44 "java/lang/IndexOutOfBoundsException", Cond.initialized "java/lang/IndexOutOfBoundsException", Cond.methodLink RX2 40 yX2_isNode, Cond.static yX2_isNode, Cond.code yX2_isNode cX2_isNode 1 (some .boolean), Cond.methodLink RX2 51 yX2_isWithin, Cond.static yX2_isWithin, Cond.code yX2_isWithin cX2_isWithin 3 (some .boolean), Cond.methodLink RX2 176 yX1_arrivalByNodes, Cond.instanceMethod yX1_arrivalByNodes, Cond.selects RX1 yX1_arrivalByNodes yX1_arrivalByNodes, Cond.initialized RX1, Cond.code yX1_arrivalByNodes cX1_arrivalByNodes 6 (some .int), Cond.fieldLink RX1 27 "Delaypouch$Plan" "settled" "[Z", Cond.fieldLink RX1 24 "Delaypouch$Plan" "reached" "[I", Cond.methodLink RX1 35 yX1_start, Cond.instanceMethod yX1_start, Cond.selects RX1 yX1_start yX1_start]
def wsX2_arrival_r2 : List Cond := [Cond.code yX1_start cX1_start 4 none, Cond.constant RX1 51 (2147483647), Cond.methodLink RX1 39 yX1_nearestUnsettled, Cond.instanceMethod yX1_nearestUnsettled, Cond.selects RX1 yX1_nearestUnsettled yX1_nearestUnsettled, Cond.code yX1_nearestUnsettled cX1_nearestUnsettled 4 (some .int), Cond.methodLink RX1 43 yX1_spread, Cond.instanceMethod yX1_spread, Cond.selects RX1 yX1_spread yX1_spread, Cond.code yX1_spread cX1_spread 3 none, Cond.fieldLink RX1 31 "Delaypouch$Plan" "size" "I", Cond.fieldLink RX1 9 "Delaypouch$Plan" "nodes" "[I", Cond.fieldLink RX1 15 "Delaypouch$Plan" "others" "[I", Cond.methodLink RX1 47 yX1_carry, Cond.instanceMethod yX1_carry, Cond.selects RX1 yX1_carry yX1_carry, Cond.code yX1_carry cX1_carry 5 (some .boolean), Cond.fieldLink RX1 21 "Delaypouch$Plan" "lasts" "[I", Cond.fieldLink RX1 18 "Delaypouch$Plan" "firsts" "[I", Cond.methodLink RX1 52 Lib.Math.max.name, Cond.static Lib.Math.max.name, Cond.initialized "java/lang/Math", Cond.code Lib.Math.max.name Lib.Math.max.code 2 (some .int), Cond.methodLink RX2 179 yX2_secondOrNone]
def wsX2_arrival_r3 : List Cond := [Cond.static yX2_secondOrNone, Cond.code yX2_secondOrNone cX2_secondOrNone 1 (some .int), Cond.constant RX2 185 (2147483647)]
def wsX2_arrival : List Cond := .code yX2_arrival cX2_arrival 3 (some .int) :: ((wsX2_arrival_r1 ++ (wsX2_arrival_r2 ++ wsX2_arrival_r3)) ++ wsX20 ++ wsX10 ++ (vx_atS RX2 48 "java/lang/IndexOutOfBoundsException" ["java/lang/RuntimeException", "java/lang/Exception"]).filter goodWord)
def wsX2_arrivalByRounds_r1 : List Cond := [Cond.fieldLink RX2 36 "Delaypouch" "plan" "LDelaypouch$Plan;", Cond.fieldLink RX2 7 "Delaypouch" "now" "I", Cond.methodLink RX2 163 yX2_checkNode, Cond.static yX2_checkNode, Cond.initialized RX2, Cond.code yX2_checkNode cX2_checkNode 1 none, Cond.classLink RX2 44 "java/lang/IndexOutOfBoundsException", Cond.initialized "java/lang/IndexOutOfBoundsException", Cond.methodLink RX2 40 yX2_isNode, Cond.static yX2_isNode, Cond.code yX2_isNode cX2_isNode 1 (some .boolean), Cond.methodLink RX2 51 yX2_isWithin, Cond.static yX2_isWithin, Cond.code yX2_isWithin cX2_isWithin 3 (some .boolean), Cond.methodLink RX2 182 yX1_arrivalByContacts, Cond.instanceMethod yX1_arrivalByContacts, Cond.selects RX1 yX1_arrivalByContacts yX1_arrivalByContacts, Cond.initialized RX1, Cond.code yX1_arrivalByContacts cX1_arrivalByContacts 7 (some .int), Cond.fieldLink RX1 31 "Delaypouch$Plan" "size" "I", Cond.fieldLink RX1 9 "Delaypouch$Plan" "nodes" "[I", Cond.fieldLink RX1 15 "Delaypouch$Plan" "others" "[I", Cond.fieldLink RX1 24 "Delaypouch$Plan" "reached" "[I", Cond.methodLink RX1 35 yX1_start]
def wsX2_arrivalByRounds_r2 : List Cond := [Cond.instanceMethod yX1_start, Cond.selects RX1 yX1_start yX1_start, Cond.code yX1_start cX1_start 4 none, Cond.constant RX1 51 (2147483647), Cond.fieldLink RX1 27 "Delaypouch$Plan" "settled" "[Z", Cond.methodLink RX1 47 yX1_carry, Cond.instanceMethod yX1_carry, Cond.selects RX1 yX1_carry yX1_carry, Cond.code yX1_carry cX1_carry 5 (some .boolean), Cond.fieldLink RX1 21 "Delaypouch$Plan" "lasts" "[I", Cond.fieldLink RX1 18 "Delaypouch$Plan" "firsts" "[I", Cond.methodLink RX1 52 Lib.Math.max.name, Cond.static Lib.Math.max.name, Cond.initialized "java/lang/Math", Cond.code Lib.Math.max.name Lib.Math.max.code 2 (some .int), Cond.methodLink RX2 179 yX2_secondOrNone, Cond.static yX2_secondOrNone, Cond.code yX2_secondOrNone cX2_secondOrNone 1 (some .int), Cond.constant RX2 185 (2147483647)]
def wsX2_arrivalByRounds : List Cond := .code yX2_arrivalByRounds cX2_arrivalByRounds 3 (some .int) :: ((wsX2_arrivalByRounds_r1 ++ wsX2_arrivalByRounds_r2) ++ wsX20 ++ wsX10 ++ (vx_atS RX2 48 "java/lang/IndexOutOfBoundsException" ["java/lang/RuntimeException", "java/lang/Exception"]).filter goodWord)
def wsX2_promised_r1 : List Cond := [Cond.constant RX2 185 (2147483647), Cond.fieldLink RX2 36 "Delaypouch" "plan" "LDelaypouch$Plan;", Cond.fieldLink RX2 186 "Delaypouch$Bundle" "destination" "I", Cond.fieldLink RX2 7 "Delaypouch" "now" "I", Cond.methodLink RX2 189 Lib.Math.min.name, Cond.static Lib.Math.min.name, Cond.initialized "java/lang/Math", Cond.code Lib.Math.min.name Lib.Math.min.code 2 (some .int), Cond.fieldLink RX2 126 "Delaypouch$Bundle" "end" "I", Cond.methodLink RX2 153 yX2_numbered, Cond.instanceMethod yX2_numbered, Cond.selects RX2 yX2_numbered yX2_numbered, Cond.initialized RX2, Cond.code yX2_numbered cX2_numbered 2 (some (.object "Delaypouch$Bundle")), Cond.classLink RX2 44 "java/lang/IndexOutOfBoundsException", Cond.initialized "java/lang/IndexOutOfBoundsException", Cond.fieldLink RX2 26 "Delaypouch" "sent" "Ljava/util/ArrayList;", Cond.classLink RX2 75 "Delaypouch$Bundle", Cond.methodLink RX2 60 yJx4a65c_size_8abf5, Cond.instanceMethod yJx4a65c_size_8abf5, Cond.selects RJx4a65c yJx4a65c_size_8abf5 yJx4a65c_size_8abf5, Cond.initialized RJx4a65c, Cond.code yJx4a65c_size_8abf5 cJx4a65c_size_8abf5 1 (some .int), Cond.fieldLink RJx4a65c 48 "java/util/ArrayList" "size" "I"]
def wsX2_promised_r2 : List Cond := [Cond.methodLink RX2 122 yJx4a65c_get_915e3, Cond.instanceMethod yJx4a65c_get_915e3, Cond.selects RJx4a65c yJx4a65c_get_915e3 yJx4a65c_get_915e3, Cond.code yJx4a65c_get_915e3 cJx4a65c_get_915e3 2 (some (.object "java/lang/Object")), Cond.methodLink RJx4a65c 118 yJ15_checkIndex_7cf53, Cond.static yJ15_checkIndex_7cf53, Cond.initialized RJ15, Cond.code yJ15_checkIndex_7cf53 cJ15_checkIndex_7cf53 2 (some .int), Cond.methodLink RJ15 105 yJ3_checkIndex_8e157, Cond.static yJ3_checkIndex_8e157, Cond.initialized RJ3, Cond.code yJ3_checkIndex_8e157 cJ3_checkIndex_8e157 3 (some .int), Cond.methodLink RJx4a65c 123 yJx4a65c_elementData_915e3, Cond.instanceMethod yJx4a65c_elementData_915e3, Cond.selects RJx4a65c yJx4a65c_elementData_915e3 yJx4a65c_elementData_915e3, Cond.code yJx4a65c_elementData_915e3 cJx4a65c_elementData_915e3 2 (some (.object "java/lang/Object")), Cond.fieldLink RJx4a65c 9 "java/util/ArrayList" "elementData" "[Ljava/lang/Object;", Cond.methodLink RX2 160 yX0_isAt, Cond.instanceMethod yX0_isAt, Cond.selects RX0 yX0_isAt yX0_isAt, Cond.initialized RX0, Cond.code yX0_isAt cX0_isAt 2 (some .boolean), Cond.fieldLink RX0 24 "Delaypouch$Bundle" "copiesAt" "[I", Cond.methodLink RX2 176 yX1_arrivalByNodes]
def wsX2_promised_r3 : List Cond := [Cond.instanceMethod yX1_arrivalByNodes, Cond.selects RX1 yX1_arrivalByNodes yX1_arrivalByNodes, Cond.initialized RX1, Cond.code yX1_arrivalByNodes cX1_arrivalByNodes 6 (some .int), Cond.fieldLink RX1 27 "Delaypouch$Plan" "settled" "[Z", Cond.fieldLink RX1 24 "Delaypouch$Plan" "reached" "[I", Cond.methodLink RX1 35 yX1_start, Cond.instanceMethod yX1_start, Cond.selects RX1 yX1_start yX1_start, Cond.code yX1_start cX1_start 4 none, Cond.constant RX1 51 (2147483647), Cond.methodLink RX1 39 yX1_nearestUnsettled, Cond.instanceMethod yX1_nearestUnsettled, Cond.selects RX1 yX1_nearestUnsettled yX1_nearestUnsettled, Cond.code yX1_nearestUnsettled cX1_nearestUnsettled 4 (some .int), Cond.methodLink RX1 43 yX1_spread, Cond.instanceMethod yX1_spread, Cond.selects RX1 yX1_spread yX1_spread, Cond.code yX1_spread cX1_spread 3 none, Cond.fieldLink RX1 31 "Delaypouch$Plan" "size" "I", Cond.fieldLink RX1 9 "Delaypouch$Plan" "nodes" "[I", Cond.fieldLink RX1 15 "Delaypouch$Plan" "others" "[I", Cond.methodLink RX1 47 yX1_carry, Cond.instanceMethod yX1_carry]
def wsX2_promised_r4 : List Cond := [Cond.selects RX1 yX1_carry yX1_carry, Cond.code yX1_carry cX1_carry 5 (some .boolean), Cond.fieldLink RX1 21 "Delaypouch$Plan" "lasts" "[I", Cond.fieldLink RX1 18 "Delaypouch$Plan" "firsts" "[I", Cond.methodLink RX1 52 Lib.Math.max.name, Cond.static Lib.Math.max.name, Cond.code Lib.Math.max.name Lib.Math.max.code 2 (some .int), Cond.methodLink RX2 179 yX2_secondOrNone, Cond.static yX2_secondOrNone, Cond.code yX2_secondOrNone cX2_secondOrNone 1 (some .int)]
def wsX2_promised : List Cond := .code yX2_promised cX2_promised 5 (some .int) :: ((wsX2_promised_r1 ++ (wsX2_promised_r2 ++ (wsX2_promised_r3 ++ wsX2_promised_r4))) ++ wsX20 ++ wsX00 ++ wsJx4a65c0 ++ wsX10 ++ (vx_atS RX2 48 "java/lang/IndexOutOfBoundsException" ["java/lang/RuntimeException", "java/lang/Exception"]).filter goodWord)
def wsX3_init : List Cond := .code yX3_init cX3_init 2 none :: ([.methodLink RX3 1 objectInit, .instanceMethod objectInit, .code objectInit ⟨#[0xb1]⟩ 1 none, .arrayClass .int, .fieldLink RX3 7 "DelaypouchModel" "goal" "[I", .fieldLink RX3 13 "DelaypouchModel" "rank" "[I", .fieldLink RX3 16 "DelaypouchModel" "end" "[I", .fieldLink RX3 19 "DelaypouchModel" "keeper" "[I", .fieldLink RX3 22 "DelaypouchModel" "came" "[I", .fieldLink RX3 25 "DelaypouchModel" "way" "[I", .fieldLink RX3 28 "DelaypouchModel" "has" "[I", .fieldLink RX3 31 "DelaypouchModel" "steps" "[I", .fieldLink RX3 34 "DelaypouchModel" "told" "[I", .fieldLink RX3 37 "DelaypouchModel" "places" "[I", .fieldLink RX3 40 "DelaypouchModel" "lost" "[I", .fieldLink RX3 43 "DelaypouchModel" "spurned" "[I", .fieldLink RX3 46 "DelaypouchModel" "plan" "[I", .fieldLink RX3 49 "DelaypouchModel" "job" "[I", .fieldLink RX3 52 "DelaypouchModel" "giver" "[I", .fieldLink RX3 55 "DelaypouchModel" "best" "[I", .fieldLink RX3 58 "DelaypouchModel" "fixed" "[I"] ++ wsX30)
def wsX3_thrown : List Cond := .code yX3_thrown cX3_thrown 1 (some .int) :: ([.fieldLink RX3 61 "DelaypouchModel" "thrown" "I"] ++ wsX30)
def wsX3_holds : List Cond := .code yX3_holds cX3_holds 2 (some .boolean) :: ([.fieldLink RX3 61 "DelaypouchModel" "thrown" "I"] ++ wsX30)
def wsX3_plain : List Cond := .code yX3_plain cX3_plain 2 (some .int) :: ([.fieldLink RX3 61 "DelaypouchModel" "thrown" "I"] ++ wsX30)
def wsX3_between : List Cond := .code yX3_between cX3_between 4 (some .boolean) :: ([])
def wsX3_isNode : List Cond := .code yX3_isNode cX3_isNode 2 (some .boolean) :: ([.methodLink RX3 65 yX3_between, .instanceMethod yX3_between, .selects RX3 yX3_between yX3_between, .initialized RX3, .code yX3_between cX3_between 4 (some .boolean)])
def wsX3_isBundle : List Cond := .code yX3_isBundle cX3_isBundle 2 (some .boolean) :: ([.fieldLink RX3 69 "DelaypouchModel" "count" "I", .methodLink RX3 65 yX3_between, .instanceMethod yX3_between, .selects RX3 yX3_between yX3_between, .initialized RX3, .code yX3_between cX3_between 4 (some .boolean)] ++ wsX30)
def wsX3_precedes : List Cond := .code yX3_precedes cX3_precedes 3 (some .boolean) :: ([.fieldLink RX3 13 "DelaypouchModel" "rank" "[I", .fieldLink RX3 16 "DelaypouchModel" "end" "[I"] ++ wsX30)
def wsX3_load : List Cond := .code yX3_load cX3_load 4 (some .int) :: ([.fieldLink RX3 69 "DelaypouchModel" "count" "I", .fieldLink RX3 28 "DelaypouchModel" "has" "[I"] ++ wsX30)
def wsX3_last : List Cond := .code yX3_last cX3_last 4 (some .int) :: ([.fieldLink RX3 69 "DelaypouchModel" "count" "I", .fieldLink RX3 28 "DelaypouchModel" "has" "[I", .fieldLink RX3 19 "DelaypouchModel" "keeper" "[I", .methodLink RX3 72 yX3_precedes, .instanceMethod yX3_precedes, .selects RX3 yX3_precedes yX3_precedes, .initialized RX3, .code yX3_precedes cX3_precedes 3 (some .boolean), .fieldLink RX3 13 "DelaypouchModel" "rank" "[I", .fieldLink RX3 16 "DelaypouchModel" "end" "[I"] ++ wsX30)
def wsX3_hasRoom : List Cond := .code yX3_hasRoom cX3_hasRoom 4 (some .boolean) :: ([.fieldLink RX3 37 "DelaypouchModel" "places" "[I", .fieldLink RX3 13 "DelaypouchModel" "rank" "[I", .fieldLink RX3 28 "DelaypouchModel" "has" "[I", .fieldLink RX3 40 "DelaypouchModel" "lost" "[I", .methodLink RX3 76 yX3_load, .instanceMethod yX3_load, .selects RX3 yX3_load yX3_load, .initialized RX3, .code yX3_load cX3_load 4 (some .int), .fieldLink RX3 69 "DelaypouchModel" "count" "I", .methodLink RX3 80 yX3_last, .instanceMethod yX3_last, .selects RX3 yX3_last yX3_last, .code yX3_last cX3_last 4 (some .int), .fieldLink RX3 19 "DelaypouchModel" "keeper" "[I", .methodLink RX3 72 yX3_precedes, .instanceMethod yX3_precedes, .selects RX3 yX3_precedes yX3_precedes, .code yX3_precedes cX3_precedes 3 (some .boolean), .fieldLink RX3 16 "DelaypouchModel" "end" "[I"] ++ wsX30)
def wsX3_learn : List Cond := .code yX3_learn cX3_learn 3 none :: ([.fieldLink RX3 34 "DelaypouchModel" "told" "[I", .fieldLink RX3 28 "DelaypouchModel" "has" "[I", .fieldLink RX3 19 "DelaypouchModel" "keeper" "[I"] ++ wsX30)
def wsX3_send_r1 : List Cond := [Cond.fieldLink RX3 69 "DelaypouchModel" "count" "I", Cond.fieldLink RX3 7 "DelaypouchModel" "goal" "[I", Cond.fieldLink RX3 13 "DelaypouchModel" "rank" "[I", Cond.fieldLink RX3 16 "DelaypouchModel" "end" "[I", Cond.fieldLink RX3 93 "DelaypouchModel" "time" "I", Cond.fieldLink RX3 19 "DelaypouchModel" "keeper" "[I", Cond.fieldLink RX3 22 "DelaypouchModel" "came" "[I", Cond.fieldLink RX3 28 "DelaypouchModel" "has" "[I", Cond.methodLink RX3 65 yX3_between, Cond.instanceMethod yX3_between, Cond.selects RX3 yX3_between yX3_between, Cond.initialized RX3, Cond.code yX3_between cX3_between 4 (some .boolean), Cond.methodLink RX3 83 yX3_isNode, Cond.instanceMethod yX3_isNode, Cond.selects RX3 yX3_isNode yX3_isNode, Cond.code yX3_isNode cX3_isNode 2 (some .boolean), Cond.methodLink RX3 87 yX3_holds, Cond.instanceMethod yX3_holds, Cond.selects RX3 yX3_holds yX3_holds, Cond.code yX3_holds cX3_holds 2 (some .boolean), Cond.fieldLink RX3 61 "DelaypouchModel" "thrown" "I", Cond.methodLink RX3 90 yX3_hasRoom, Cond.instanceMethod yX3_hasRoom]
def wsX3_send_r2 : List Cond := [Cond.selects RX3 yX3_hasRoom yX3_hasRoom, Cond.code yX3_hasRoom cX3_hasRoom 4 (some .boolean), Cond.fieldLink RX3 37 "DelaypouchModel" "places" "[I", Cond.fieldLink RX3 40 "DelaypouchModel" "lost" "[I", Cond.methodLink RX3 76 yX3_load, Cond.instanceMethod yX3_load, Cond.selects RX3 yX3_load yX3_load, Cond.code yX3_load cX3_load 4 (some .int), Cond.methodLink RX3 80 yX3_last, Cond.instanceMethod yX3_last, Cond.selects RX3 yX3_last yX3_last, Cond.code yX3_last cX3_last 4 (some .int), Cond.methodLink RX3 72 yX3_precedes, Cond.instanceMethod yX3_precedes, Cond.selects RX3 yX3_precedes yX3_precedes, Cond.code yX3_precedes cX3_precedes 3 (some .boolean)]
def wsX3_send : List Cond := .code yX3_send cX3_send 7 (some .int) :: ((wsX3_send_r1 ++ wsX3_send_r2) ++ wsX30)
def wsX3_talk : List Cond := .code yX3_talk cX3_talk 4 none :: ([.fieldLink RX3 69 "DelaypouchModel" "count" "I", .fieldLink RX3 34 "DelaypouchModel" "told" "[I", .methodLink RX3 96 yX3_learn, .instanceMethod yX3_learn, .selects RX3 yX3_learn yX3_learn, .initialized RX3, .code yX3_learn cX3_learn 3 none, .fieldLink RX3 28 "DelaypouchModel" "has" "[I", .fieldLink RX3 19 "DelaypouchModel" "keeper" "[I"] ++ wsX30)
def wsX3_wants : List Cond := .code yX3_wants cX3_wants 6 (some .boolean) :: ([.fieldLink RX3 28 "DelaypouchModel" "has" "[I", .fieldLink RX3 7 "DelaypouchModel" "goal" "[I"] ++ wsX30)
def wsX3_gather : List Cond := .code yX3_gather cX3_gather 9 (some .int) :: ([.fieldLink RX3 69 "DelaypouchModel" "count" "I", .fieldLink RX3 49 "DelaypouchModel" "job" "[I", .fieldLink RX3 52 "DelaypouchModel" "giver" "[I", .methodLink RX3 100 yX3_wants, .instanceMethod yX3_wants, .selects RX3 yX3_wants yX3_wants, .initialized RX3, .code yX3_wants cX3_wants 6 (some .boolean), .fieldLink RX3 28 "DelaypouchModel" "has" "[I", .fieldLink RX3 7 "DelaypouchModel" "goal" "[I", .methodLink RX3 72 yX3_precedes, .instanceMethod yX3_precedes, .selects RX3 yX3_precedes yX3_precedes, .code yX3_precedes cX3_precedes 3 (some .boolean), .fieldLink RX3 13 "DelaypouchModel" "rank" "[I", .fieldLink RX3 16 "DelaypouchModel" "end" "[I"] ++ wsX30)
def wsX3_deliver : List Cond := .code yX3_deliver cX3_deliver 4 (some .int) :: ([.fieldLink RX3 22 "DelaypouchModel" "came" "[I", .fieldLink RX3 93 "DelaypouchModel" "time" "I", .fieldLink RX3 25 "DelaypouchModel" "way" "[I", .fieldLink RX3 31 "DelaypouchModel" "steps" "[I", .methodLink RX3 96 yX3_learn, .instanceMethod yX3_learn, .selects RX3 yX3_learn yX3_learn, .initialized RX3, .code yX3_learn cX3_learn 3 none, .fieldLink RX3 34 "DelaypouchModel" "told" "[I", .fieldLink RX3 28 "DelaypouchModel" "has" "[I", .fieldLink RX3 19 "DelaypouchModel" "keeper" "[I"] ++ wsX30)
def wsX3_spray_r1 : List Cond := [Cond.fieldLink RX3 28 "DelaypouchModel" "has" "[I", Cond.fieldLink RX3 13 "DelaypouchModel" "rank" "[I", Cond.fieldLink RX3 43 "DelaypouchModel" "spurned" "[I", Cond.fieldLink RX3 31 "DelaypouchModel" "steps" "[I", Cond.methodLink RX3 90 yX3_hasRoom, Cond.instanceMethod yX3_hasRoom, Cond.selects RX3 yX3_hasRoom yX3_hasRoom, Cond.initialized RX3, Cond.code yX3_hasRoom cX3_hasRoom 4 (some .boolean), Cond.fieldLink RX3 37 "DelaypouchModel" "places" "[I", Cond.fieldLink RX3 40 "DelaypouchModel" "lost" "[I", Cond.methodLink RX3 76 yX3_load, Cond.instanceMethod yX3_load, Cond.selects RX3 yX3_load yX3_load, Cond.code yX3_load cX3_load 4 (some .int), Cond.fieldLink RX3 69 "DelaypouchModel" "count" "I", Cond.methodLink RX3 80 yX3_last, Cond.instanceMethod yX3_last, Cond.selects RX3 yX3_last yX3_last, Cond.code yX3_last cX3_last 4 (some .int), Cond.fieldLink RX3 19 "DelaypouchModel" "keeper" "[I", Cond.methodLink RX3 72 yX3_precedes, Cond.instanceMethod yX3_precedes, Cond.selects RX3 yX3_precedes yX3_precedes]
def wsX3_spray_r2 : List Cond := [Cond.code yX3_precedes cX3_precedes 3 (some .boolean), Cond.fieldLink RX3 16 "DelaypouchModel" "end" "[I"]
def wsX3_spray : List Cond := .code yX3_spray cX3_spray 5 (some .int) :: ((wsX3_spray_r1 ++ wsX3_spray_r2) ++ wsX30)
def wsX3_begin : List Cond := .code yX3_begin cX3_begin 3 none :: ([.fieldLink RX3 55 "DelaypouchModel" "best" "[I", .fieldLink RX3 93 "DelaypouchModel" "time" "I", .fieldLink RX3 58 "DelaypouchModel" "fixed" "[I"] ++ wsX30)
def wsX3_nearest : List Cond := .code yX3_nearest cX3_nearest 3 (some .int) :: ([.fieldLink RX3 58 "DelaypouchModel" "fixed" "[I", .fieldLink RX3 55 "DelaypouchModel" "best" "[I"] ++ wsX30)
def wsX3_use : List Cond := .code yX3_use cX3_use 5 (some .int) :: ([.fieldLink RX3 46 "DelaypouchModel" "plan" "[I"] ++ wsX30)
def wsX3_improve : List Cond := .code yX3_improve cX3_improve 3 none :: ([.fieldLink RX3 55 "DelaypouchModel" "best" "[I"] ++ wsX30)
def wsX3_reach : List Cond := .code yX3_reach cX3_reach 7 (some .int) :: ([.fieldLink RX3 58 "DelaypouchModel" "fixed" "[I", .fieldLink RX3 126 "DelaypouchModel" "contacts" "I", .fieldLink RX3 46 "DelaypouchModel" "plan" "[I", .fieldLink RX3 55 "DelaypouchModel" "best" "[I", .methodLink RX3 135 yX3_begin, .instanceMethod yX3_begin, .selects RX3 yX3_begin yX3_begin, .initialized RX3, .code yX3_begin cX3_begin 3 none, .fieldLink RX3 93 "DelaypouchModel" "time" "I", .methodLink RX3 139 yX3_nearest, .instanceMethod yX3_nearest, .selects RX3 yX3_nearest yX3_nearest, .code yX3_nearest cX3_nearest 3 (some .int), .methodLink RX3 143 yX3_use, .instanceMethod yX3_use, .selects RX3 yX3_use yX3_use, .code yX3_use cX3_use 5 (some .int), .methodLink RX3 146 yX3_improve, .instanceMethod yX3_improve, .selects RX3 yX3_improve yX3_improve, .code yX3_improve cX3_improve 3 none] ++ wsX30)
def wsX3_entrust_r1 : List Cond := [Cond.fieldLink RX3 69 "DelaypouchModel" "count" "I", Cond.fieldLink RX3 28 "DelaypouchModel" "has" "[I", Cond.fieldLink RX3 19 "DelaypouchModel" "keeper" "[I", Cond.fieldLink RX3 7 "DelaypouchModel" "goal" "[I", Cond.methodLink RX3 104 yX3_reach, Cond.instanceMethod yX3_reach, Cond.selects RX3 yX3_reach yX3_reach, Cond.initialized RX3, Cond.code yX3_reach cX3_reach 7 (some .int), Cond.fieldLink RX3 58 "DelaypouchModel" "fixed" "[I", Cond.fieldLink RX3 126 "DelaypouchModel" "contacts" "I", Cond.fieldLink RX3 46 "DelaypouchModel" "plan" "[I", Cond.fieldLink RX3 55 "DelaypouchModel" "best" "[I", Cond.methodLink RX3 135 yX3_begin, Cond.instanceMethod yX3_begin, Cond.selects RX3 yX3_begin yX3_begin, Cond.code yX3_begin cX3_begin 3 none, Cond.fieldLink RX3 93 "DelaypouchModel" "time" "I", Cond.methodLink RX3 139 yX3_nearest, Cond.instanceMethod yX3_nearest, Cond.selects RX3 yX3_nearest yX3_nearest, Cond.code yX3_nearest cX3_nearest 3 (some .int), Cond.methodLink RX3 143 yX3_use, Cond.instanceMethod yX3_use]
def wsX3_entrust_r2 : List Cond := [Cond.selects RX3 yX3_use yX3_use, Cond.code yX3_use cX3_use 5 (some .int), Cond.methodLink RX3 146 yX3_improve, Cond.instanceMethod yX3_improve, Cond.selects RX3 yX3_improve yX3_improve, Cond.code yX3_improve cX3_improve 3 none]
def wsX3_entrust : List Cond := .code yX3_entrust cX3_entrust 8 none :: ((wsX3_entrust_r1 ++ wsX3_entrust_r2) ++ wsX30)
def wsX3_meet_r1 : List Cond := [Cond.fieldLink RX3 52 "DelaypouchModel" "giver" "[I", Cond.fieldLink RX3 49 "DelaypouchModel" "job" "[I", Cond.methodLink RX3 83 yX3_isNode, Cond.instanceMethod yX3_isNode, Cond.selects RX3 yX3_isNode yX3_isNode, Cond.initialized RX3, Cond.code yX3_isNode cX3_isNode 2 (some .boolean), Cond.methodLink RX3 65 yX3_between, Cond.instanceMethod yX3_between, Cond.selects RX3 yX3_between yX3_between, Cond.code yX3_between cX3_between 4 (some .boolean), Cond.methodLink RX3 87 yX3_holds, Cond.instanceMethod yX3_holds, Cond.selects RX3 yX3_holds yX3_holds, Cond.code yX3_holds cX3_holds 2 (some .boolean), Cond.fieldLink RX3 61 "DelaypouchModel" "thrown" "I", Cond.methodLink RX3 108 yX3_talk, Cond.instanceMethod yX3_talk, Cond.selects RX3 yX3_talk yX3_talk, Cond.code yX3_talk cX3_talk 4 none, Cond.fieldLink RX3 69 "DelaypouchModel" "count" "I", Cond.fieldLink RX3 34 "DelaypouchModel" "told" "[I", Cond.methodLink RX3 96 yX3_learn, Cond.instanceMethod yX3_learn]
def wsX3_meet_r2 : List Cond := [Cond.selects RX3 yX3_learn yX3_learn, Cond.code yX3_learn cX3_learn 3 none, Cond.fieldLink RX3 28 "DelaypouchModel" "has" "[I", Cond.fieldLink RX3 19 "DelaypouchModel" "keeper" "[I", Cond.methodLink RX3 111 yX3_gather, Cond.instanceMethod yX3_gather, Cond.selects RX3 yX3_gather yX3_gather, Cond.code yX3_gather cX3_gather 9 (some .int), Cond.methodLink RX3 100 yX3_wants, Cond.instanceMethod yX3_wants, Cond.selects RX3 yX3_wants yX3_wants, Cond.code yX3_wants cX3_wants 6 (some .boolean), Cond.fieldLink RX3 7 "DelaypouchModel" "goal" "[I", Cond.methodLink RX3 72 yX3_precedes, Cond.instanceMethod yX3_precedes, Cond.selects RX3 yX3_precedes yX3_precedes, Cond.code yX3_precedes cX3_precedes 3 (some .boolean), Cond.fieldLink RX3 13 "DelaypouchModel" "rank" "[I", Cond.fieldLink RX3 16 "DelaypouchModel" "end" "[I", Cond.methodLink RX3 115 yX3_deliver, Cond.instanceMethod yX3_deliver, Cond.selects RX3 yX3_deliver yX3_deliver, Cond.code yX3_deliver cX3_deliver 4 (some .int), Cond.fieldLink RX3 22 "DelaypouchModel" "came" "[I"]
def wsX3_meet_r3 : List Cond := [Cond.fieldLink RX3 93 "DelaypouchModel" "time" "I", Cond.fieldLink RX3 25 "DelaypouchModel" "way" "[I", Cond.fieldLink RX3 31 "DelaypouchModel" "steps" "[I", Cond.methodLink RX3 119 yX3_spray, Cond.instanceMethod yX3_spray, Cond.selects RX3 yX3_spray yX3_spray, Cond.code yX3_spray cX3_spray 5 (some .int), Cond.fieldLink RX3 43 "DelaypouchModel" "spurned" "[I", Cond.methodLink RX3 90 yX3_hasRoom, Cond.instanceMethod yX3_hasRoom, Cond.selects RX3 yX3_hasRoom yX3_hasRoom, Cond.code yX3_hasRoom cX3_hasRoom 4 (some .boolean), Cond.fieldLink RX3 37 "DelaypouchModel" "places" "[I", Cond.fieldLink RX3 40 "DelaypouchModel" "lost" "[I", Cond.methodLink RX3 76 yX3_load, Cond.instanceMethod yX3_load, Cond.selects RX3 yX3_load yX3_load, Cond.code yX3_load cX3_load 4 (some .int), Cond.methodLink RX3 80 yX3_last, Cond.instanceMethod yX3_last, Cond.selects RX3 yX3_last yX3_last, Cond.code yX3_last cX3_last 4 (some .int), Cond.methodLink RX3 122 yX3_entrust, Cond.instanceMethod yX3_entrust]
def wsX3_meet_r4 : List Cond := [Cond.selects RX3 yX3_entrust yX3_entrust, Cond.code yX3_entrust cX3_entrust 8 none, Cond.methodLink RX3 104 yX3_reach, Cond.instanceMethod yX3_reach, Cond.selects RX3 yX3_reach yX3_reach, Cond.code yX3_reach cX3_reach 7 (some .int), Cond.fieldLink RX3 58 "DelaypouchModel" "fixed" "[I", Cond.fieldLink RX3 126 "DelaypouchModel" "contacts" "I", Cond.fieldLink RX3 46 "DelaypouchModel" "plan" "[I", Cond.fieldLink RX3 55 "DelaypouchModel" "best" "[I", Cond.methodLink RX3 135 yX3_begin, Cond.instanceMethod yX3_begin, Cond.selects RX3 yX3_begin yX3_begin, Cond.code yX3_begin cX3_begin 3 none, Cond.methodLink RX3 139 yX3_nearest, Cond.instanceMethod yX3_nearest, Cond.selects RX3 yX3_nearest yX3_nearest, Cond.code yX3_nearest cX3_nearest 3 (some .int), Cond.methodLink RX3 143 yX3_use, Cond.instanceMethod yX3_use, Cond.selects RX3 yX3_use yX3_use, Cond.code yX3_use cX3_use 5 (some .int), Cond.methodLink RX3 146 yX3_improve, Cond.instanceMethod yX3_improve]
def wsX3_meet_r5 : List Cond := [Cond.selects RX3 yX3_improve yX3_improve, Cond.code yX3_improve cX3_improve 3 none]
def wsX3_meet : List Cond := .code yX3_meet cX3_meet 9 (some .int) :: ((wsX3_meet_r1 ++ (wsX3_meet_r2 ++ (wsX3_meet_r3 ++ (wsX3_meet_r4 ++ wsX3_meet_r5)))) ++ wsX30)
def wsX3_pass : List Cond := .code yX3_pass cX3_pass 6 (some .int) :: ([.fieldLink RX3 93 "DelaypouchModel" "time" "I", .fieldLink RX3 69 "DelaypouchModel" "count" "I", .fieldLink RX3 16 "DelaypouchModel" "end" "[I", .fieldLink RX3 22 "DelaypouchModel" "came" "[I", .fieldLink RX3 19 "DelaypouchModel" "keeper" "[I", .fieldLink RX3 28 "DelaypouchModel" "has" "[I", .methodLink RX3 65 yX3_between, .instanceMethod yX3_between, .selects RX3 yX3_between yX3_between, .initialized RX3, .code yX3_between cX3_between 4 (some .boolean), .methodLink RX3 87 yX3_holds, .instanceMethod yX3_holds, .selects RX3 yX3_holds yX3_holds, .code yX3_holds cX3_holds 2 (some .boolean), .fieldLink RX3 61 "DelaypouchModel" "thrown" "I"] ++ wsX30)
def wsX3_setBuffer : List Cond := .code yX3_setBuffer cX3_setBuffer 4 (some .int) :: ([.fieldLink RX3 37 "DelaypouchModel" "places" "[I", .methodLink RX3 83 yX3_isNode, .instanceMethod yX3_isNode, .selects RX3 yX3_isNode yX3_isNode, .initialized RX3, .code yX3_isNode cX3_isNode 2 (some .boolean), .methodLink RX3 65 yX3_between, .instanceMethod yX3_between, .selects RX3 yX3_between yX3_between, .code yX3_between cX3_between 4 (some .boolean), .methodLink RX3 76 yX3_load, .instanceMethod yX3_load, .selects RX3 yX3_load yX3_load, .code yX3_load cX3_load 4 (some .int), .fieldLink RX3 69 "DelaypouchModel" "count" "I", .fieldLink RX3 28 "DelaypouchModel" "has" "[I", .methodLink RX3 87 yX3_holds, .instanceMethod yX3_holds, .selects RX3 yX3_holds yX3_holds, .code yX3_holds cX3_holds 2 (some .boolean), .fieldLink RX3 61 "DelaypouchModel" "thrown" "I"] ++ wsX30)
def wsX3_addContact : List Cond := .code yX3_addContact cX3_addContact 6 (some .int) :: ([.constant RX3 125 (100000), .fieldLink RX3 126 "DelaypouchModel" "contacts" "I", .fieldLink RX3 46 "DelaypouchModel" "plan" "[I", .methodLink RX3 65 yX3_between, .instanceMethod yX3_between, .selects RX3 yX3_between yX3_between, .initialized RX3, .code yX3_between cX3_between 4 (some .boolean), .methodLink RX3 83 yX3_isNode, .instanceMethod yX3_isNode, .selects RX3 yX3_isNode yX3_isNode, .code yX3_isNode cX3_isNode 2 (some .boolean), .methodLink RX3 87 yX3_holds, .instanceMethod yX3_holds, .selects RX3 yX3_holds yX3_holds, .code yX3_holds cX3_holds 2 (some .boolean), .fieldLink RX3 61 "DelaypouchModel" "thrown" "I"] ++ wsX30)
def wsX3_clock : List Cond := .code yX3_clock cX3_clock 1 (some .int) :: ([.fieldLink RX3 93 "DelaypouchModel" "time" "I", .methodLink RX3 129 yX3_plain, .instanceMethod yX3_plain, .selects RX3 yX3_plain yX3_plain, .initialized RX3, .code yX3_plain cX3_plain 2 (some .int), .fieldLink RX3 61 "DelaypouchModel" "thrown" "I"] ++ wsX30)
def wsX3_bundles : List Cond := .code yX3_bundles cX3_bundles 1 (some .int) :: ([.fieldLink RX3 69 "DelaypouchModel" "count" "I", .methodLink RX3 129 yX3_plain, .instanceMethod yX3_plain, .selects RX3 yX3_plain yX3_plain, .initialized RX3, .code yX3_plain cX3_plain 2 (some .int), .fieldLink RX3 61 "DelaypouchModel" "thrown" "I"] ++ wsX30)
def wsX3_endOf : List Cond := .code yX3_endOf cX3_endOf 2 (some .int) :: ([.fieldLink RX3 16 "DelaypouchModel" "end" "[I", .methodLink RX3 132 yX3_isBundle, .instanceMethod yX3_isBundle, .selects RX3 yX3_isBundle yX3_isBundle, .initialized RX3, .code yX3_isBundle cX3_isBundle 2 (some .boolean), .fieldLink RX3 69 "DelaypouchModel" "count" "I", .methodLink RX3 65 yX3_between, .instanceMethod yX3_between, .selects RX3 yX3_between yX3_between, .code yX3_between cX3_between 4 (some .boolean), .methodLink RX3 87 yX3_holds, .instanceMethod yX3_holds, .selects RX3 yX3_holds yX3_holds, .code yX3_holds cX3_holds 2 (some .boolean), .fieldLink RX3 61 "DelaypouchModel" "thrown" "I"] ++ wsX30)
def wsX3_deliveredAt : List Cond := .code yX3_deliveredAt cX3_deliveredAt 2 (some .int) :: ([.fieldLink RX3 22 "DelaypouchModel" "came" "[I", .methodLink RX3 132 yX3_isBundle, .instanceMethod yX3_isBundle, .selects RX3 yX3_isBundle yX3_isBundle, .initialized RX3, .code yX3_isBundle cX3_isBundle 2 (some .boolean), .fieldLink RX3 69 "DelaypouchModel" "count" "I", .methodLink RX3 65 yX3_between, .instanceMethod yX3_between, .selects RX3 yX3_between yX3_between, .code yX3_between cX3_between 4 (some .boolean), .methodLink RX3 87 yX3_holds, .instanceMethod yX3_holds, .selects RX3 yX3_holds yX3_holds, .code yX3_holds cX3_holds 2 (some .boolean), .fieldLink RX3 61 "DelaypouchModel" "thrown" "I"] ++ wsX30)
def wsX3_hops : List Cond := .code yX3_hops cX3_hops 2 (some .int) :: ([.fieldLink RX3 25 "DelaypouchModel" "way" "[I", .methodLink RX3 132 yX3_isBundle, .instanceMethod yX3_isBundle, .selects RX3 yX3_isBundle yX3_isBundle, .initialized RX3, .code yX3_isBundle cX3_isBundle 2 (some .boolean), .fieldLink RX3 69 "DelaypouchModel" "count" "I", .methodLink RX3 65 yX3_between, .instanceMethod yX3_between, .selects RX3 yX3_between yX3_between, .code yX3_between cX3_between 4 (some .boolean), .methodLink RX3 87 yX3_holds, .instanceMethod yX3_holds, .selects RX3 yX3_holds yX3_holds, .code yX3_holds cX3_holds 2 (some .boolean), .fieldLink RX3 61 "DelaypouchModel" "thrown" "I"] ++ wsX30)
def wsX3_custodian : List Cond := .code yX3_custodian cX3_custodian 2 (some .int) :: ([.fieldLink RX3 19 "DelaypouchModel" "keeper" "[I", .methodLink RX3 132 yX3_isBundle, .instanceMethod yX3_isBundle, .selects RX3 yX3_isBundle yX3_isBundle, .initialized RX3, .code yX3_isBundle cX3_isBundle 2 (some .boolean), .fieldLink RX3 69 "DelaypouchModel" "count" "I", .methodLink RX3 65 yX3_between, .instanceMethod yX3_between, .selects RX3 yX3_between yX3_between, .code yX3_between cX3_between 4 (some .boolean), .methodLink RX3 87 yX3_holds, .instanceMethod yX3_holds, .selects RX3 yX3_holds yX3_holds, .code yX3_holds cX3_holds 2 (some .boolean), .fieldLink RX3 61 "DelaypouchModel" "thrown" "I"] ++ wsX30)
def wsX3_holders : List Cond := .code yX3_holders cX3_holders 4 (some .int) :: ([.fieldLink RX3 28 "DelaypouchModel" "has" "[I", .methodLink RX3 132 yX3_isBundle, .instanceMethod yX3_isBundle, .selects RX3 yX3_isBundle yX3_isBundle, .initialized RX3, .code yX3_isBundle cX3_isBundle 2 (some .boolean), .fieldLink RX3 69 "DelaypouchModel" "count" "I", .methodLink RX3 65 yX3_between, .instanceMethod yX3_between, .selects RX3 yX3_between yX3_between, .code yX3_between cX3_between 4 (some .boolean), .methodLink RX3 87 yX3_holds, .instanceMethod yX3_holds, .selects RX3 yX3_holds yX3_holds, .code yX3_holds cX3_holds 2 (some .boolean), .fieldLink RX3 61 "DelaypouchModel" "thrown" "I"] ++ wsX30)
def wsX3_copies : List Cond := .code yX3_copies cX3_copies 3 (some .int) :: ([.fieldLink RX3 28 "DelaypouchModel" "has" "[I", .methodLink RX3 83 yX3_isNode, .instanceMethod yX3_isNode, .selects RX3 yX3_isNode yX3_isNode, .initialized RX3, .code yX3_isNode cX3_isNode 2 (some .boolean), .methodLink RX3 65 yX3_between, .instanceMethod yX3_between, .selects RX3 yX3_between yX3_between, .code yX3_between cX3_between 4 (some .boolean), .methodLink RX3 132 yX3_isBundle, .instanceMethod yX3_isBundle, .selects RX3 yX3_isBundle yX3_isBundle, .code yX3_isBundle cX3_isBundle 2 (some .boolean), .fieldLink RX3 69 "DelaypouchModel" "count" "I", .methodLink RX3 87 yX3_holds, .instanceMethod yX3_holds, .selects RX3 yX3_holds yX3_holds, .code yX3_holds cX3_holds 2 (some .boolean), .fieldLink RX3 61 "DelaypouchModel" "thrown" "I"] ++ wsX30)
def wsX3_knows : List Cond := .code yX3_knows cX3_knows 3 (some .boolean) :: ([.fieldLink RX3 34 "DelaypouchModel" "told" "[I", .methodLink RX3 83 yX3_isNode, .instanceMethod yX3_isNode, .selects RX3 yX3_isNode yX3_isNode, .initialized RX3, .code yX3_isNode cX3_isNode 2 (some .boolean), .methodLink RX3 65 yX3_between, .instanceMethod yX3_between, .selects RX3 yX3_between yX3_between, .code yX3_between cX3_between 4 (some .boolean), .methodLink RX3 132 yX3_isBundle, .instanceMethod yX3_isBundle, .selects RX3 yX3_isBundle yX3_isBundle, .code yX3_isBundle cX3_isBundle 2 (some .boolean), .fieldLink RX3 69 "DelaypouchModel" "count" "I", .methodLink RX3 87 yX3_holds, .instanceMethod yX3_holds, .selects RX3 yX3_holds yX3_holds, .code yX3_holds cX3_holds 2 (some .boolean), .fieldLink RX3 61 "DelaypouchModel" "thrown" "I"] ++ wsX30)
def wsX3_held : List Cond := .code yX3_held cX3_held 2 (some .int) :: ([.methodLink RX3 83 yX3_isNode, .instanceMethod yX3_isNode, .selects RX3 yX3_isNode yX3_isNode, .initialized RX3, .code yX3_isNode cX3_isNode 2 (some .boolean), .methodLink RX3 65 yX3_between, .instanceMethod yX3_between, .selects RX3 yX3_between yX3_between, .code yX3_between cX3_between 4 (some .boolean), .methodLink RX3 87 yX3_holds, .instanceMethod yX3_holds, .selects RX3 yX3_holds yX3_holds, .code yX3_holds cX3_holds 2 (some .boolean), .fieldLink RX3 61 "DelaypouchModel" "thrown" "I", .methodLink RX3 76 yX3_load, .instanceMethod yX3_load, .selects RX3 yX3_load yX3_load, .code yX3_load cX3_load 4 (some .int), .fieldLink RX3 69 "DelaypouchModel" "count" "I", .fieldLink RX3 28 "DelaypouchModel" "has" "[I"] ++ wsX30)
def wsX3_heldAt_r1 : List Cond := [Cond.fieldLink RX3 69 "DelaypouchModel" "count" "I", Cond.fieldLink RX3 28 "DelaypouchModel" "has" "[I", Cond.methodLink RX3 83 yX3_isNode, Cond.instanceMethod yX3_isNode, Cond.selects RX3 yX3_isNode yX3_isNode, Cond.initialized RX3, Cond.code yX3_isNode cX3_isNode 2 (some .boolean), Cond.methodLink RX3 65 yX3_between, Cond.instanceMethod yX3_between, Cond.selects RX3 yX3_between yX3_between, Cond.code yX3_between cX3_between 4 (some .boolean), Cond.methodLink RX3 76 yX3_load, Cond.instanceMethod yX3_load, Cond.selects RX3 yX3_load yX3_load, Cond.code yX3_load cX3_load 4 (some .int), Cond.methodLink RX3 87 yX3_holds, Cond.instanceMethod yX3_holds, Cond.selects RX3 yX3_holds yX3_holds, Cond.code yX3_holds cX3_holds 2 (some .boolean), Cond.fieldLink RX3 61 "DelaypouchModel" "thrown" "I", Cond.methodLink RX3 72 yX3_precedes, Cond.instanceMethod yX3_precedes, Cond.selects RX3 yX3_precedes yX3_precedes, Cond.code yX3_precedes cX3_precedes 3 (some .boolean)]
def wsX3_heldAt_r2 : List Cond := [Cond.fieldLink RX3 13 "DelaypouchModel" "rank" "[I", Cond.fieldLink RX3 16 "DelaypouchModel" "end" "[I"]
def wsX3_heldAt : List Cond := .code yX3_heldAt cX3_heldAt 7 (some .int) :: ((wsX3_heldAt_r1 ++ wsX3_heldAt_r2) ++ wsX30)
def wsX3_dropped : List Cond := .code yX3_dropped cX3_dropped 2 (some .int) :: ([.fieldLink RX3 40 "DelaypouchModel" "lost" "[I", .methodLink RX3 83 yX3_isNode, .instanceMethod yX3_isNode, .selects RX3 yX3_isNode yX3_isNode, .initialized RX3, .code yX3_isNode cX3_isNode 2 (some .boolean), .methodLink RX3 65 yX3_between, .instanceMethod yX3_between, .selects RX3 yX3_between yX3_between, .code yX3_between cX3_between 4 (some .boolean), .methodLink RX3 87 yX3_holds, .instanceMethod yX3_holds, .selects RX3 yX3_holds yX3_holds, .code yX3_holds cX3_holds 2 (some .boolean), .fieldLink RX3 61 "DelaypouchModel" "thrown" "I"] ++ wsX30)
def wsX3_refused : List Cond := .code yX3_refused cX3_refused 2 (some .int) :: ([.fieldLink RX3 43 "DelaypouchModel" "spurned" "[I", .methodLink RX3 83 yX3_isNode, .instanceMethod yX3_isNode, .selects RX3 yX3_isNode yX3_isNode, .initialized RX3, .code yX3_isNode cX3_isNode 2 (some .boolean), .methodLink RX3 65 yX3_between, .instanceMethod yX3_between, .selects RX3 yX3_between yX3_between, .code yX3_between cX3_between 4 (some .boolean), .methodLink RX3 87 yX3_holds, .instanceMethod yX3_holds, .selects RX3 yX3_holds yX3_holds, .code yX3_holds cX3_holds 2 (some .boolean), .fieldLink RX3 61 "DelaypouchModel" "thrown" "I"] ++ wsX30)
def wsX3_arrival_r1 : List Cond := [Cond.methodLink RX3 83 yX3_isNode, Cond.instanceMethod yX3_isNode, Cond.selects RX3 yX3_isNode yX3_isNode, Cond.initialized RX3, Cond.code yX3_isNode cX3_isNode 2 (some .boolean), Cond.methodLink RX3 65 yX3_between, Cond.instanceMethod yX3_between, Cond.selects RX3 yX3_between yX3_between, Cond.code yX3_between cX3_between 4 (some .boolean), Cond.methodLink RX3 87 yX3_holds, Cond.instanceMethod yX3_holds, Cond.selects RX3 yX3_holds yX3_holds, Cond.code yX3_holds cX3_holds 2 (some .boolean), Cond.fieldLink RX3 61 "DelaypouchModel" "thrown" "I", Cond.methodLink RX3 104 yX3_reach, Cond.instanceMethod yX3_reach, Cond.selects RX3 yX3_reach yX3_reach, Cond.code yX3_reach cX3_reach 7 (some .int), Cond.fieldLink RX3 58 "DelaypouchModel" "fixed" "[I", Cond.fieldLink RX3 126 "DelaypouchModel" "contacts" "I", Cond.fieldLink RX3 46 "DelaypouchModel" "plan" "[I", Cond.fieldLink RX3 55 "DelaypouchModel" "best" "[I", Cond.methodLink RX3 135 yX3_begin, Cond.instanceMethod yX3_begin]
def wsX3_arrival_r2 : List Cond := [Cond.selects RX3 yX3_begin yX3_begin, Cond.code yX3_begin cX3_begin 3 none, Cond.fieldLink RX3 93 "DelaypouchModel" "time" "I", Cond.methodLink RX3 139 yX3_nearest, Cond.instanceMethod yX3_nearest, Cond.selects RX3 yX3_nearest yX3_nearest, Cond.code yX3_nearest cX3_nearest 3 (some .int), Cond.methodLink RX3 143 yX3_use, Cond.instanceMethod yX3_use, Cond.selects RX3 yX3_use yX3_use, Cond.code yX3_use cX3_use 5 (some .int), Cond.methodLink RX3 146 yX3_improve, Cond.instanceMethod yX3_improve, Cond.selects RX3 yX3_improve yX3_improve, Cond.code yX3_improve cX3_improve 3 none]
def wsX3_arrival : List Cond := .code yX3_arrival cX3_arrival 3 (some .int) :: ((wsX3_arrival_r1 ++ wsX3_arrival_r2) ++ wsX30)
def wsX3_arrivalByRounds_r1 : List Cond := [Cond.fieldLink RX3 126 "DelaypouchModel" "contacts" "I", Cond.fieldLink RX3 46 "DelaypouchModel" "plan" "[I", Cond.fieldLink RX3 55 "DelaypouchModel" "best" "[I", Cond.methodLink RX3 83 yX3_isNode, Cond.instanceMethod yX3_isNode, Cond.selects RX3 yX3_isNode yX3_isNode, Cond.initialized RX3, Cond.code yX3_isNode cX3_isNode 2 (some .boolean), Cond.methodLink RX3 65 yX3_between, Cond.instanceMethod yX3_between, Cond.selects RX3 yX3_between yX3_between, Cond.code yX3_between cX3_between 4 (some .boolean), Cond.methodLink RX3 87 yX3_holds, Cond.instanceMethod yX3_holds, Cond.selects RX3 yX3_holds yX3_holds, Cond.code yX3_holds cX3_holds 2 (some .boolean), Cond.fieldLink RX3 61 "DelaypouchModel" "thrown" "I", Cond.methodLink RX3 135 yX3_begin, Cond.instanceMethod yX3_begin, Cond.selects RX3 yX3_begin yX3_begin, Cond.code yX3_begin cX3_begin 3 none, Cond.fieldLink RX3 93 "DelaypouchModel" "time" "I", Cond.fieldLink RX3 58 "DelaypouchModel" "fixed" "[I", Cond.methodLink RX3 143 yX3_use]
def wsX3_arrivalByRounds_r2 : List Cond := [Cond.instanceMethod yX3_use, Cond.selects RX3 yX3_use yX3_use, Cond.code yX3_use cX3_use 5 (some .int), Cond.methodLink RX3 146 yX3_improve, Cond.instanceMethod yX3_improve, Cond.selects RX3 yX3_improve yX3_improve, Cond.code yX3_improve cX3_improve 3 none]
def wsX3_arrivalByRounds : List Cond := .code yX3_arrivalByRounds cX3_arrivalByRounds 7 (some .int) :: ((wsX3_arrivalByRounds_r1 ++ wsX3_arrivalByRounds_r2) ++ wsX30)
def wsX3_promised_r1 : List Cond := [Cond.fieldLink RX3 28 "DelaypouchModel" "has" "[I", Cond.fieldLink RX3 7 "DelaypouchModel" "goal" "[I", Cond.fieldLink RX3 16 "DelaypouchModel" "end" "[I", Cond.methodLink RX3 132 yX3_isBundle, Cond.instanceMethod yX3_isBundle, Cond.selects RX3 yX3_isBundle yX3_isBundle, Cond.initialized RX3, Cond.code yX3_isBundle cX3_isBundle 2 (some .boolean), Cond.fieldLink RX3 69 "DelaypouchModel" "count" "I", Cond.methodLink RX3 65 yX3_between, Cond.instanceMethod yX3_between, Cond.selects RX3 yX3_between yX3_between, Cond.code yX3_between cX3_between 4 (some .boolean), Cond.methodLink RX3 87 yX3_holds, Cond.instanceMethod yX3_holds, Cond.selects RX3 yX3_holds yX3_holds, Cond.code yX3_holds cX3_holds 2 (some .boolean), Cond.fieldLink RX3 61 "DelaypouchModel" "thrown" "I", Cond.methodLink RX3 104 yX3_reach, Cond.instanceMethod yX3_reach, Cond.selects RX3 yX3_reach yX3_reach, Cond.code yX3_reach cX3_reach 7 (some .int), Cond.fieldLink RX3 58 "DelaypouchModel" "fixed" "[I", Cond.fieldLink RX3 126 "DelaypouchModel" "contacts" "I"]
def wsX3_promised_r2 : List Cond := [Cond.fieldLink RX3 46 "DelaypouchModel" "plan" "[I", Cond.fieldLink RX3 55 "DelaypouchModel" "best" "[I", Cond.methodLink RX3 135 yX3_begin, Cond.instanceMethod yX3_begin, Cond.selects RX3 yX3_begin yX3_begin, Cond.code yX3_begin cX3_begin 3 none, Cond.fieldLink RX3 93 "DelaypouchModel" "time" "I", Cond.methodLink RX3 139 yX3_nearest, Cond.instanceMethod yX3_nearest, Cond.selects RX3 yX3_nearest yX3_nearest, Cond.code yX3_nearest cX3_nearest 3 (some .int), Cond.methodLink RX3 143 yX3_use, Cond.instanceMethod yX3_use, Cond.selects RX3 yX3_use yX3_use, Cond.code yX3_use cX3_use 5 (some .int), Cond.methodLink RX3 146 yX3_improve, Cond.instanceMethod yX3_improve, Cond.selects RX3 yX3_improve yX3_improve, Cond.code yX3_improve cX3_improve 3 none]
def wsX3_promised : List Cond := .code yX3_promised cX3_promised 5 (some .int) :: ((wsX3_promised_r1 ++ wsX3_promised_r2) ++ wsX30)
def wsJ2_newBytesLength_0f7a4 : List Cond := .code yJ2_newBytesLength_0f7a4 cJ2_newBytesLength_0f7a4 1 (some .int) :: ([.constant RJ2 20 (1073741823)])
def wsJ2_newBytesFor_77867 : List Cond := .code yJ2_newBytesFor_77867 cJ2_newBytesFor_77867 1 (some (.array .byte)) :: ([.arrayClass .byte, .methodLink RJ2 11 yJ2_newBytesLength_0f7a4, .static yJ2_newBytesLength_0f7a4, .initialized RJ2, .code yJ2_newBytesLength_0f7a4 cJ2_newBytesLength_0f7a4 1 (some .int), .constant RJ2 20 (1073741823)])
def wsJ5_init_d00df : List Cond := .code yJ5_init_d00df cJ5_init_d00df 2 none :: ([.methodLink RJ5 3 objectInit, .instanceMethod objectInit, .code objectInit ⟨#[0xb1]⟩ 1 none, .fieldLink RJ5 18 "java/lang/String" "COMPACT_STRINGS" "Z", .arrayClass .byte, .fieldLink RJ5 15 "java/lang/AbstractStringBuilder" "value" "[B", .fieldLink RJ5 22 "java/lang/AbstractStringBuilder" "coder" "B", .methodLink RJ5 26 yJ2_newBytesFor_77867, .static yJ2_newBytesFor_77867, .initialized RJ2, .code yJ2_newBytesFor_77867 cJ2_newBytesFor_77867 1 (some (.array .byte)), .methodLink RJ2 11 yJ2_newBytesLength_0f7a4, .static yJ2_newBytesLength_0f7a4, .code yJ2_newBytesLength_0f7a4 cJ2_newBytesLength_0f7a4 1 (some .int), .constant RJ2 20 (1073741823)] ++ wsJ40)
def wsJ5_length_8abf5 : List Cond := .code yJ5_length_8abf5 cJ5_length_8abf5 1 (some .int) :: ([.fieldLink RJ5 79 "java/lang/AbstractStringBuilder" "count" "I"] ++ wsJ40)
def wsJ5_newCapacity_0f7a4 : List Cond := .code yJ5_newCapacity_0f7a4 cJ5_newCapacity_0f7a4 6 (some .int) :: ([.fieldLink RJ5 15 "java/lang/AbstractStringBuilder" "value" "[B", .fieldLink RJ5 22 "java/lang/AbstractStringBuilder" "coder" "B", .constant RJ5 39 (2147483647), .methodLink RJ5 114 yJ8_newLength_cabcc, .static yJ8_newLength_cabcc, .initialized RJ8, .code yJ8_newLength_cabcc cJ8_newLength_cabcc 4 (some .int), .methodLink RJ8 194 Lib.Math.max.name, .static Lib.Math.max.name, .initialized "java/lang/Math", .code Lib.Math.max.name Lib.Math.max.code 2 (some .int), .constant RJ8 200 (2147483639), .methodLink RJ8 201 yJ8_hugeLength_7cf53, .static yJ8_hugeLength_7cf53, .code yJ8_hugeLength_7cf53 cJ8_hugeLength_7cf53 3 (some .int)] ++ wsJ40)
def wsJ7_copyOf_9075b : List Cond := .code yJ7_copyOf_9075b cJ7_copyOf_9075b 3 (some (.array .byte)) :: ([.methodLink RJ7 310 ⟨"[B", "clone", "()Ljava/lang/Object;"⟩, .sameMethod "[B" "java/lang/Object" "clone" "()Ljava/lang/Object;", .native ⟨"java/lang/Object", "clone", "()Ljava/lang/Object;"⟩, .instanceMethod ⟨"java/lang/Object", "clone", "()Ljava/lang/Object;"⟩, .selects "[B" ⟨"[B", "clone", "()Ljava/lang/Object;"⟩ ⟨"java/lang/Object", "clone", "()Ljava/lang/Object;"⟩, .classLink RJ7 311 "[B", .arrayClass .byte, .methodLink RJ7 304 Lib.Math.min.name, .static Lib.Math.min.name, .initialized "java/lang/Math", .code Lib.Math.min.name Lib.Math.min.code 2 (some .int), .methodLink RJ7 150 arraycopyName, .native arraycopyName, .static arraycopyName, .initialized "java/lang/System"])
def wsJ5_ensureCapacityInternal_d00df_r1 : List Cond := [Cond.fieldLink RJ5 15 "java/lang/AbstractStringBuilder" "value" "[B", Cond.fieldLink RJ5 22 "java/lang/AbstractStringBuilder" "coder" "B", Cond.methodLink RJ5 104 ⟨"java/lang/AbstractStringBuilder", "newCapacity", "(I)I"⟩, Cond.sameMethod "java/lang/AbstractStringBuilder" "java/lang/AbstractStringBuilder" "newCapacity" "(I)I", Cond.selects RJ4 ⟨"java/lang/AbstractStringBuilder", "newCapacity", "(I)I"⟩ yJ5_newCapacity_0f7a4, Cond.instanceMethod yJ5_newCapacity_0f7a4, Cond.initialized RJ5, Cond.code yJ5_newCapacity_0f7a4 cJ5_newCapacity_0f7a4 6 (some .int), Cond.constant RJ5 39 (2147483647), Cond.methodLink RJ5 114 yJ8_newLength_cabcc, Cond.static yJ8_newLength_cabcc, Cond.initialized RJ8, Cond.code yJ8_newLength_cabcc cJ8_newLength_cabcc 4 (some .int), Cond.methodLink RJ8 194 Lib.Math.max.name, Cond.static Lib.Math.max.name, Cond.initialized "java/lang/Math", Cond.code Lib.Math.max.name Lib.Math.max.code 2 (some .int), Cond.constant RJ8 200 (2147483639), Cond.methodLink RJ8 201 yJ8_hugeLength_7cf53, Cond.static yJ8_hugeLength_7cf53, Cond.code yJ8_hugeLength_7cf53 cJ8_hugeLength_7cf53 3 (some .int), Cond.methodLink RJ5 108 yJ7_copyOf_9075b, Cond.static yJ7_copyOf_9075b, Cond.initialized RJ7]
def wsJ5_ensureCapacityInternal_d00df_r2 : List Cond := [Cond.code yJ7_copyOf_9075b cJ7_copyOf_9075b 3 (some (.array .byte)), Cond.methodLink RJ7 310 ⟨"[B", "clone", "()Ljava/lang/Object;"⟩, Cond.sameMethod "[B" "java/lang/Object" "clone" "()Ljava/lang/Object;", Cond.native ⟨"java/lang/Object", "clone", "()Ljava/lang/Object;"⟩, Cond.instanceMethod ⟨"java/lang/Object", "clone", "()Ljava/lang/Object;"⟩, Cond.selects "[B" ⟨"[B", "clone", "()Ljava/lang/Object;"⟩ ⟨"java/lang/Object", "clone", "()Ljava/lang/Object;"⟩, Cond.classLink RJ7 311 "[B", Cond.arrayClass .byte, Cond.methodLink RJ7 304 Lib.Math.min.name, Cond.static Lib.Math.min.name, Cond.code Lib.Math.min.name Lib.Math.min.code 2 (some .int), Cond.methodLink RJ7 150 arraycopyName, Cond.native arraycopyName, Cond.static arraycopyName, Cond.initialized "java/lang/System"]
def wsJ5_ensureCapacityInternal_d00df : List Cond := .code yJ5_ensureCapacityInternal_d00df cJ5_ensureCapacityInternal_d00df 3 none :: ((wsJ5_ensureCapacityInternal_d00df_r1 ++ wsJ5_ensureCapacityInternal_d00df_r2) ++ wsJ40)
def wsJ5_isLatin1_aae02 : List Cond := .code yJ5_isLatin1_aae02 cJ5_isLatin1_aae02 1 (some .boolean) :: ([.fieldLink RJ5 18 "java/lang/String" "COMPACT_STRINGS" "Z", .fieldLink RJ5 22 "java/lang/AbstractStringBuilder" "coder" "B"] ++ wsJ40)
def wsJ2_length_9d52b : List Cond := .code yJ2_length_9d52b cJ2_length_9d52b 1 (some .int) :: ([])
def wsJ3_checkFromIndexSize_8c36e : List Cond := .code yJ3_checkFromIndexSize_8c36e cJ3_checkFromIndexSize_8c36e 4 (some .int) :: ([])
def wsJ0_checkBoundsOffCount_cabcc : List Cond := .code yJ0_checkBoundsOffCount_cabcc cJ0_checkBoundsOffCount_cabcc 3 (some .int) :: ([.fieldLink RJ0 1053 "jdk/internal/util/Preconditions" "SIOOBE_FORMATTER" "Ljava/util/function/BiFunction;", .methodLink RJ0 1065 yJ3_checkFromIndexSize_8c36e, .static yJ3_checkFromIndexSize_8c36e, .initialized RJ3, .code yJ3_checkFromIndexSize_8c36e cJ3_checkFromIndexSize_8c36e 4 (some .int)])
def wsJ2_checkBoundsOffCount_d044e : List Cond := .code yJ2_checkBoundsOffCount_d044e cJ2_checkBoundsOffCount_d044e 3 none :: ([.methodLink RJ2 48 yJ2_length_9d52b, .static yJ2_length_9d52b, .initialized RJ2, .code yJ2_length_9d52b cJ2_length_9d52b 1 (some .int), .methodLink RJ2 419 yJ0_checkBoundsOffCount_cabcc, .static yJ0_checkBoundsOffCount_cabcc, .initialized RJ0, .code yJ0_checkBoundsOffCount_cabcc cJ0_checkBoundsOffCount_cabcc 3 (some .int), .fieldLink RJ0 1053 "jdk/internal/util/Preconditions" "SIOOBE_FORMATTER" "Ljava/util/function/BiFunction;", .methodLink RJ0 1065 yJ3_checkFromIndexSize_8c36e, .static yJ3_checkFromIndexSize_8c36e, .initialized RJ3, .code yJ3_checkFromIndexSize_8c36e cJ3_checkFromIndexSize_8c36e 4 (some .int)])
def wsJ2_putChar_b72d1 : List Cond := .code yJ2_putChar_b72d1 cJ2_putChar_b72d1 3 none :: ([.fieldLink RJ2 44 "java/lang/StringUTF16" "$assertionsDisabled" "Z", .fieldLink RJ2 59 "java/lang/StringUTF16" "HI_BYTE_SHIFT" "I", .fieldLink RJ2 63 "java/lang/StringUTF16" "LO_BYTE_SHIFT" "I", .methodLink RJ2 48 yJ2_length_9d52b, .static yJ2_length_9d52b, .initialized RJ2, .code yJ2_length_9d52b cJ2_length_9d52b 1 (some .int)])
def wsJ2_inflate_0e8fd : List Cond := .code yJ2_inflate_0e8fd cJ2_inflate_0e8fd 6 none :: ([.methodLink RJ2 173 yJ2_checkBoundsOffCount_d044e, .static yJ2_checkBoundsOffCount_d044e, .initialized RJ2, .code yJ2_checkBoundsOffCount_d044e cJ2_checkBoundsOffCount_d044e 3 none, .methodLink RJ2 48 yJ2_length_9d52b, .static yJ2_length_9d52b, .code yJ2_length_9d52b cJ2_length_9d52b 1 (some .int), .methodLink RJ2 419 yJ0_checkBoundsOffCount_cabcc, .static yJ0_checkBoundsOffCount_cabcc, .initialized RJ0, .code yJ0_checkBoundsOffCount_cabcc cJ0_checkBoundsOffCount_cabcc 3 (some .int), .fieldLink RJ0 1053 "jdk/internal/util/Preconditions" "SIOOBE_FORMATTER" "Ljava/util/function/BiFunction;", .methodLink RJ0 1065 yJ3_checkFromIndexSize_8c36e, .static yJ3_checkFromIndexSize_8c36e, .initialized RJ3, .code yJ3_checkFromIndexSize_8c36e cJ3_checkFromIndexSize_8c36e 4 (some .int), .methodLink RJ2 111 yJ2_putChar_b72d1, .static yJ2_putChar_b72d1, .code yJ2_putChar_b72d1 cJ2_putChar_b72d1 3 none, .fieldLink RJ2 44 "java/lang/StringUTF16" "$assertionsDisabled" "Z", .fieldLink RJ2 59 "java/lang/StringUTF16" "HI_BYTE_SHIFT" "I", .fieldLink RJ2 63 "java/lang/StringUTF16" "LO_BYTE_SHIFT" "I"])
def wsJ1_inflate_0e8fd_r1 : List Cond := [Cond.methodLink RJ1 240 yJ2_inflate_0e8fd, Cond.static yJ2_inflate_0e8fd, Cond.initialized RJ2, Cond.code yJ2_inflate_0e8fd cJ2_inflate_0e8fd 6 none, Cond.methodLink RJ2 173 yJ2_checkBoundsOffCount_d044e, Cond.static yJ2_checkBoundsOffCount_d044e, Cond.code yJ2_checkBoundsOffCount_d044e cJ2_checkBoundsOffCount_d044e 3 none, Cond.methodLink RJ2 48 yJ2_length_9d52b, Cond.static yJ2_length_9d52b, Cond.code yJ2_length_9d52b cJ2_length_9d52b 1 (some .int), Cond.methodLink RJ2 419 yJ0_checkBoundsOffCount_cabcc, Cond.static yJ0_checkBoundsOffCount_cabcc, Cond.initialized RJ0, Cond.code yJ0_checkBoundsOffCount_cabcc cJ0_checkBoundsOffCount_cabcc 3 (some .int), Cond.fieldLink RJ0 1053 "jdk/internal/util/Preconditions" "SIOOBE_FORMATTER" "Ljava/util/function/BiFunction;", Cond.methodLink RJ0 1065 yJ3_checkFromIndexSize_8c36e, Cond.static yJ3_checkFromIndexSize_8c36e, Cond.initialized RJ3, Cond.code yJ3_checkFromIndexSize_8c36e cJ3_checkFromIndexSize_8c36e 4 (some .int), Cond.methodLink RJ2 111 yJ2_putChar_b72d1, Cond.static yJ2_putChar_b72d1, Cond.code yJ2_putChar_b72d1 cJ2_putChar_b72d1 3 none, Cond.fieldLink RJ2 44 "java/lang/StringUTF16" "$assertionsDisabled" "Z", Cond.fieldLink RJ2 59 "java/lang/StringUTF16" "HI_BYTE_SHIFT" "I"]
def wsJ1_inflate_0e8fd_r2 : List Cond := [Cond.fieldLink RJ2 63 "java/lang/StringUTF16" "LO_BYTE_SHIFT" "I"]
def wsJ1_inflate_0e8fd : List Cond := .code yJ1_inflate_0e8fd cJ1_inflate_0e8fd 5 none :: ((wsJ1_inflate_0e8fd_r1 ++ wsJ1_inflate_0e8fd_r2))
def wsJ5_inflate_da8c8_r1 : List Cond := [Cond.fieldLink RJ5 15 "java/lang/AbstractStringBuilder" "value" "[B", Cond.fieldLink RJ5 79 "java/lang/AbstractStringBuilder" "count" "I", Cond.fieldLink RJ5 22 "java/lang/AbstractStringBuilder" "coder" "B", Cond.methodLink RJ5 83 ⟨"java/lang/AbstractStringBuilder", "isLatin1", "()Z"⟩, Cond.sameMethod "java/lang/AbstractStringBuilder" "java/lang/AbstractStringBuilder" "isLatin1" "()Z", Cond.selects RJ4 ⟨"java/lang/AbstractStringBuilder", "isLatin1", "()Z"⟩ yJ5_isLatin1_aae02, Cond.instanceMethod yJ5_isLatin1_aae02, Cond.initialized RJ5, Cond.code yJ5_isLatin1_aae02 cJ5_isLatin1_aae02 1 (some .boolean), Cond.fieldLink RJ5 18 "java/lang/String" "COMPACT_STRINGS" "Z", Cond.methodLink RJ5 26 yJ2_newBytesFor_77867, Cond.static yJ2_newBytesFor_77867, Cond.initialized RJ2, Cond.code yJ2_newBytesFor_77867 cJ2_newBytesFor_77867 1 (some (.array .byte)), Cond.arrayClass .byte, Cond.methodLink RJ2 11 yJ2_newBytesLength_0f7a4, Cond.static yJ2_newBytesLength_0f7a4, Cond.code yJ2_newBytesLength_0f7a4 cJ2_newBytesLength_0f7a4 1 (some .int), Cond.constant RJ2 20 (1073741823), Cond.methodLink RJ5 125 yJ1_inflate_0e8fd, Cond.static yJ1_inflate_0e8fd, Cond.initialized RJ1, Cond.code yJ1_inflate_0e8fd cJ1_inflate_0e8fd 5 none, Cond.methodLink RJ1 240 yJ2_inflate_0e8fd]
def wsJ5_inflate_da8c8_r2 : List Cond := [Cond.static yJ2_inflate_0e8fd, Cond.code yJ2_inflate_0e8fd cJ2_inflate_0e8fd 6 none, Cond.methodLink RJ2 173 yJ2_checkBoundsOffCount_d044e, Cond.static yJ2_checkBoundsOffCount_d044e, Cond.code yJ2_checkBoundsOffCount_d044e cJ2_checkBoundsOffCount_d044e 3 none, Cond.methodLink RJ2 48 yJ2_length_9d52b, Cond.static yJ2_length_9d52b, Cond.code yJ2_length_9d52b cJ2_length_9d52b 1 (some .int), Cond.methodLink RJ2 419 yJ0_checkBoundsOffCount_cabcc, Cond.static yJ0_checkBoundsOffCount_cabcc, Cond.initialized RJ0, Cond.code yJ0_checkBoundsOffCount_cabcc cJ0_checkBoundsOffCount_cabcc 3 (some .int), Cond.fieldLink RJ0 1053 "jdk/internal/util/Preconditions" "SIOOBE_FORMATTER" "Ljava/util/function/BiFunction;", Cond.methodLink RJ0 1065 yJ3_checkFromIndexSize_8c36e, Cond.static yJ3_checkFromIndexSize_8c36e, Cond.initialized RJ3, Cond.code yJ3_checkFromIndexSize_8c36e cJ3_checkFromIndexSize_8c36e 4 (some .int), Cond.methodLink RJ2 111 yJ2_putChar_b72d1, Cond.static yJ2_putChar_b72d1, Cond.code yJ2_putChar_b72d1 cJ2_putChar_b72d1 3 none, Cond.fieldLink RJ2 44 "java/lang/StringUTF16" "$assertionsDisabled" "Z", Cond.fieldLink RJ2 59 "java/lang/StringUTF16" "HI_BYTE_SHIFT" "I", Cond.fieldLink RJ2 63 "java/lang/StringUTF16" "LO_BYTE_SHIFT" "I"]
def wsJ5_inflate_da8c8 : List Cond := .code yJ5_inflate_da8c8 cJ5_inflate_da8c8 2 none :: ((wsJ5_inflate_da8c8_r1 ++ wsJ5_inflate_da8c8_r2) ++ wsJ40)
def wsJ3_checkFromToIndex_8c36e : List Cond := .code yJ3_checkFromToIndex_8c36e cJ3_checkFromToIndex_8c36e 4 (some .int) :: ([])
def wsJ0_checkBoundsBeginEnd_23922 : List Cond := .code yJ0_checkBoundsBeginEnd_23922 cJ0_checkBoundsBeginEnd_23922 3 none :: ([.fieldLink RJ0 1053 "jdk/internal/util/Preconditions" "SIOOBE_FORMATTER" "Ljava/util/function/BiFunction;", .methodLink RJ0 1062 yJ3_checkFromToIndex_8c36e, .static yJ3_checkFromToIndex_8c36e, .initialized RJ3, .code yJ3_checkFromToIndex_8c36e cJ3_checkFromToIndex_8c36e 4 (some .int)])
def wsJ2_checkBoundsBeginEnd_d044e : List Cond := .code yJ2_checkBoundsBeginEnd_d044e cJ2_checkBoundsBeginEnd_d044e 3 none :: ([.methodLink RJ2 48 yJ2_length_9d52b, .static yJ2_length_9d52b, .initialized RJ2, .code yJ2_length_9d52b cJ2_length_9d52b 1 (some .int), .methodLink RJ2 241 yJ0_checkBoundsBeginEnd_23922, .static yJ0_checkBoundsBeginEnd_23922, .initialized RJ0, .code yJ0_checkBoundsBeginEnd_23922 cJ0_checkBoundsBeginEnd_23922 3 none, .fieldLink RJ0 1053 "jdk/internal/util/Preconditions" "SIOOBE_FORMATTER" "Ljava/util/function/BiFunction;", .methodLink RJ0 1062 yJ3_checkFromToIndex_8c36e, .static yJ3_checkFromToIndex_8c36e, .initialized RJ3, .code yJ3_checkFromToIndex_8c36e cJ3_checkFromToIndex_8c36e 4 (some .int)])
def wsJ2_putCharsAt_cd4e5 : List Cond := .code yJ2_putCharsAt_cd4e5 cJ2_putCharsAt_cd4e5 7 (some .int) :: ([.fieldLink RJ2 44 "java/lang/StringUTF16" "$assertionsDisabled" "Z", .methodLink RJ2 96 yJ2_checkBoundsBeginEnd_d044e, .static yJ2_checkBoundsBeginEnd_d044e, .initialized RJ2, .code yJ2_checkBoundsBeginEnd_d044e cJ2_checkBoundsBeginEnd_d044e 3 none, .methodLink RJ2 48 yJ2_length_9d52b, .static yJ2_length_9d52b, .code yJ2_length_9d52b cJ2_length_9d52b 1 (some .int), .methodLink RJ2 241 yJ0_checkBoundsBeginEnd_23922, .static yJ0_checkBoundsBeginEnd_23922, .initialized RJ0, .code yJ0_checkBoundsBeginEnd_23922 cJ0_checkBoundsBeginEnd_23922 3 none, .fieldLink RJ0 1053 "jdk/internal/util/Preconditions" "SIOOBE_FORMATTER" "Ljava/util/function/BiFunction;", .methodLink RJ0 1062 yJ3_checkFromToIndex_8c36e, .static yJ3_checkFromToIndex_8c36e, .initialized RJ3, .code yJ3_checkFromToIndex_8c36e cJ3_checkFromToIndex_8c36e 4 (some .int), .methodLink RJ2 111 yJ2_putChar_b72d1, .static yJ2_putChar_b72d1, .code yJ2_putChar_b72d1 cJ2_putChar_b72d1 3 none, .fieldLink RJ2 59 "java/lang/StringUTF16" "HI_BYTE_SHIFT" "I", .fieldLink RJ2 63 "java/lang/StringUTF16" "LO_BYTE_SHIFT" "I"])
def wsJ5_appendNull_278bc_r1 : List Cond := [Cond.fieldLink RJ5 79 "java/lang/AbstractStringBuilder" "count" "I", Cond.fieldLink RJ5 15 "java/lang/AbstractStringBuilder" "value" "[B", Cond.methodLink RJ5 100 ⟨"java/lang/AbstractStringBuilder", "ensureCapacityInternal", "(I)V"⟩, Cond.sameMethod "java/lang/AbstractStringBuilder" "java/lang/AbstractStringBuilder" "ensureCapacityInternal" "(I)V", Cond.selects RJ4 ⟨"java/lang/AbstractStringBuilder", "ensureCapacityInternal", "(I)V"⟩ yJ5_ensureCapacityInternal_d00df, Cond.instanceMethod yJ5_ensureCapacityInternal_d00df, Cond.initialized RJ5, Cond.code yJ5_ensureCapacityInternal_d00df cJ5_ensureCapacityInternal_d00df 3 none, Cond.fieldLink RJ5 22 "java/lang/AbstractStringBuilder" "coder" "B", Cond.methodLink RJ5 104 ⟨"java/lang/AbstractStringBuilder", "newCapacity", "(I)I"⟩, Cond.sameMethod "java/lang/AbstractStringBuilder" "java/lang/AbstractStringBuilder" "newCapacity" "(I)I", Cond.selects RJ4 ⟨"java/lang/AbstractStringBuilder", "newCapacity", "(I)I"⟩ yJ5_newCapacity_0f7a4, Cond.instanceMethod yJ5_newCapacity_0f7a4, Cond.code yJ5_newCapacity_0f7a4 cJ5_newCapacity_0f7a4 6 (some .int), Cond.constant RJ5 39 (2147483647), Cond.methodLink RJ5 114 yJ8_newLength_cabcc, Cond.static yJ8_newLength_cabcc, Cond.initialized RJ8, Cond.code yJ8_newLength_cabcc cJ8_newLength_cabcc 4 (some .int), Cond.methodLink RJ8 194 Lib.Math.max.name, Cond.static Lib.Math.max.name, Cond.initialized "java/lang/Math", Cond.code Lib.Math.max.name Lib.Math.max.code 2 (some .int), Cond.constant RJ8 200 (2147483639)]
def wsJ5_appendNull_278bc_r2 : List Cond := [Cond.methodLink RJ8 201 yJ8_hugeLength_7cf53, Cond.static yJ8_hugeLength_7cf53, Cond.code yJ8_hugeLength_7cf53 cJ8_hugeLength_7cf53 3 (some .int), Cond.methodLink RJ5 108 yJ7_copyOf_9075b, Cond.static yJ7_copyOf_9075b, Cond.initialized RJ7, Cond.code yJ7_copyOf_9075b cJ7_copyOf_9075b 3 (some (.array .byte)), Cond.methodLink RJ7 310 ⟨"[B", "clone", "()Ljava/lang/Object;"⟩, Cond.sameMethod "[B" "java/lang/Object" "clone" "()Ljava/lang/Object;", Cond.native ⟨"java/lang/Object", "clone", "()Ljava/lang/Object;"⟩, Cond.instanceMethod ⟨"java/lang/Object", "clone", "()Ljava/lang/Object;"⟩, Cond.selects "[B" ⟨"[B", "clone", "()Ljava/lang/Object;"⟩ ⟨"java/lang/Object", "clone", "()Ljava/lang/Object;"⟩, Cond.classLink RJ7 311 "[B", Cond.arrayClass .byte, Cond.methodLink RJ7 304 Lib.Math.min.name, Cond.static Lib.Math.min.name, Cond.code Lib.Math.min.name Lib.Math.min.code 2 (some .int), Cond.methodLink RJ7 150 arraycopyName, Cond.native arraycopyName, Cond.static arraycopyName, Cond.initialized "java/lang/System", Cond.methodLink RJ5 83 ⟨"java/lang/AbstractStringBuilder", "isLatin1", "()Z"⟩, Cond.sameMethod "java/lang/AbstractStringBuilder" "java/lang/AbstractStringBuilder" "isLatin1" "()Z", Cond.selects RJ4 ⟨"java/lang/AbstractStringBuilder", "isLatin1", "()Z"⟩ yJ5_isLatin1_aae02]
def wsJ5_appendNull_278bc_r3 : List Cond := [Cond.instanceMethod yJ5_isLatin1_aae02, Cond.code yJ5_isLatin1_aae02 cJ5_isLatin1_aae02 1 (some .boolean), Cond.fieldLink RJ5 18 "java/lang/String" "COMPACT_STRINGS" "Z", Cond.methodLink RJ5 226 yJ2_putCharsAt_cd4e5, Cond.static yJ2_putCharsAt_cd4e5, Cond.initialized RJ2, Cond.code yJ2_putCharsAt_cd4e5 cJ2_putCharsAt_cd4e5 7 (some .int), Cond.fieldLink RJ2 44 "java/lang/StringUTF16" "$assertionsDisabled" "Z", Cond.methodLink RJ2 96 yJ2_checkBoundsBeginEnd_d044e, Cond.static yJ2_checkBoundsBeginEnd_d044e, Cond.code yJ2_checkBoundsBeginEnd_d044e cJ2_checkBoundsBeginEnd_d044e 3 none, Cond.methodLink RJ2 48 yJ2_length_9d52b, Cond.static yJ2_length_9d52b, Cond.code yJ2_length_9d52b cJ2_length_9d52b 1 (some .int), Cond.methodLink RJ2 241 yJ0_checkBoundsBeginEnd_23922, Cond.static yJ0_checkBoundsBeginEnd_23922, Cond.initialized RJ0, Cond.code yJ0_checkBoundsBeginEnd_23922 cJ0_checkBoundsBeginEnd_23922 3 none, Cond.fieldLink RJ0 1053 "jdk/internal/util/Preconditions" "SIOOBE_FORMATTER" "Ljava/util/function/BiFunction;", Cond.methodLink RJ0 1062 yJ3_checkFromToIndex_8c36e, Cond.static yJ3_checkFromToIndex_8c36e, Cond.initialized RJ3, Cond.code yJ3_checkFromToIndex_8c36e cJ3_checkFromToIndex_8c36e 4 (some .int), Cond.methodLink RJ2 111 yJ2_putChar_b72d1]
def wsJ5_appendNull_278bc_r4 : List Cond := [Cond.static yJ2_putChar_b72d1, Cond.code yJ2_putChar_b72d1 cJ2_putChar_b72d1 3 none, Cond.fieldLink RJ2 59 "java/lang/StringUTF16" "HI_BYTE_SHIFT" "I", Cond.fieldLink RJ2 63 "java/lang/StringUTF16" "LO_BYTE_SHIFT" "I"]
def wsJ5_appendNull_278bc : List Cond := .code yJ5_appendNull_278bc cJ5_appendNull_278bc 3 (some (.object "java/lang/AbstractStringBuilder")) :: ((wsJ5_appendNull_278bc_r1 ++ (wsJ5_appendNull_278bc_r2 ++ (wsJ5_appendNull_278bc_r3 ++ wsJ5_appendNull_278bc_r4))) ++ wsJ40)
def wsJ0_coder_7d493 : List Cond := .code yJ0_coder_7d493 cJ0_coder_7d493 1 (some .byte) :: ([.fieldLink RJ0 38 "java/lang/String" "COMPACT_STRINGS" "Z", .fieldLink RJ0 15 "java/lang/String" "coder" "B"] ++ wsJ00)
def wsJ0_length_8abf5 : List Cond := .code yJ0_length_8abf5 cJ0_length_8abf5 1 (some .int) :: ([.fieldLink RJ0 9 "java/lang/String" "value" "[B", .methodLink RJ0 335 yJ0_coder_7d493, .instanceMethod yJ0_coder_7d493, .selects RJ0 yJ0_coder_7d493 yJ0_coder_7d493, .initialized RJ0, .code yJ0_coder_7d493 cJ0_coder_7d493 1 (some .byte), .fieldLink RJ0 38 "java/lang/String" "COMPACT_STRINGS" "Z", .fieldLink RJ0 15 "java/lang/String" "coder" "B"] ++ wsJ00)
def wsJ5_inflateIfNeededFor_a7421_r1 : List Cond := [Cond.fieldLink RJ5 18 "java/lang/String" "COMPACT_STRINGS" "Z", Cond.fieldLink RJ5 22 "java/lang/AbstractStringBuilder" "coder" "B", Cond.methodLink RJ5 40 yJ0_coder_7d493, Cond.instanceMethod yJ0_coder_7d493, Cond.selects RJ0 yJ0_coder_7d493 yJ0_coder_7d493, Cond.initialized RJ0, Cond.code yJ0_coder_7d493 cJ0_coder_7d493 1 (some .byte), Cond.fieldLink RJ0 38 "java/lang/String" "COMPACT_STRINGS" "Z", Cond.fieldLink RJ0 15 "java/lang/String" "coder" "B", Cond.methodLink RJ5 195 ⟨"java/lang/AbstractStringBuilder", "inflate", "()V"⟩, Cond.sameMethod "java/lang/AbstractStringBuilder" "java/lang/AbstractStringBuilder" "inflate" "()V", Cond.selects RJ4 ⟨"java/lang/AbstractStringBuilder", "inflate", "()V"⟩ yJ5_inflate_da8c8, Cond.instanceMethod yJ5_inflate_da8c8, Cond.initialized RJ5, Cond.code yJ5_inflate_da8c8 cJ5_inflate_da8c8 2 none, Cond.fieldLink RJ5 15 "java/lang/AbstractStringBuilder" "value" "[B", Cond.fieldLink RJ5 79 "java/lang/AbstractStringBuilder" "count" "I", Cond.methodLink RJ5 83 ⟨"java/lang/AbstractStringBuilder", "isLatin1", "()Z"⟩, Cond.sameMethod "java/lang/AbstractStringBuilder" "java/lang/AbstractStringBuilder" "isLatin1" "()Z", Cond.selects RJ4 ⟨"java/lang/AbstractStringBuilder", "isLatin1", "()Z"⟩ yJ5_isLatin1_aae02, Cond.instanceMethod yJ5_isLatin1_aae02, Cond.code yJ5_isLatin1_aae02 cJ5_isLatin1_aae02 1 (some .boolean), Cond.methodLink RJ5 26 yJ2_newBytesFor_77867, Cond.static yJ2_newBytesFor_77867]
def wsJ5_inflateIfNeededFor_a7421_r2 : List Cond := [Cond.initialized RJ2, Cond.code yJ2_newBytesFor_77867 cJ2_newBytesFor_77867 1 (some (.array .byte)), Cond.arrayClass .byte, Cond.methodLink RJ2 11 yJ2_newBytesLength_0f7a4, Cond.static yJ2_newBytesLength_0f7a4, Cond.code yJ2_newBytesLength_0f7a4 cJ2_newBytesLength_0f7a4 1 (some .int), Cond.constant RJ2 20 (1073741823), Cond.methodLink RJ5 125 yJ1_inflate_0e8fd, Cond.static yJ1_inflate_0e8fd, Cond.initialized RJ1, Cond.code yJ1_inflate_0e8fd cJ1_inflate_0e8fd 5 none, Cond.methodLink RJ1 240 yJ2_inflate_0e8fd, Cond.static yJ2_inflate_0e8fd, Cond.code yJ2_inflate_0e8fd cJ2_inflate_0e8fd 6 none, Cond.methodLink RJ2 173 yJ2_checkBoundsOffCount_d044e, Cond.static yJ2_checkBoundsOffCount_d044e, Cond.code yJ2_checkBoundsOffCount_d044e cJ2_checkBoundsOffCount_d044e 3 none, Cond.methodLink RJ2 48 yJ2_length_9d52b, Cond.static yJ2_length_9d52b, Cond.code yJ2_length_9d52b cJ2_length_9d52b 1 (some .int), Cond.methodLink RJ2 419 yJ0_checkBoundsOffCount_cabcc, Cond.static yJ0_checkBoundsOffCount_cabcc, Cond.code yJ0_checkBoundsOffCount_cabcc cJ0_checkBoundsOffCount_cabcc 3 (some .int), Cond.fieldLink RJ0 1053 "jdk/internal/util/Preconditions" "SIOOBE_FORMATTER" "Ljava/util/function/BiFunction;"]
def wsJ5_inflateIfNeededFor_a7421_r3 : List Cond := [Cond.methodLink RJ0 1065 yJ3_checkFromIndexSize_8c36e, Cond.static yJ3_checkFromIndexSize_8c36e, Cond.initialized RJ3, Cond.code yJ3_checkFromIndexSize_8c36e cJ3_checkFromIndexSize_8c36e 4 (some .int), Cond.methodLink RJ2 111 yJ2_putChar_b72d1, Cond.static yJ2_putChar_b72d1, Cond.code yJ2_putChar_b72d1 cJ2_putChar_b72d1 3 none, Cond.fieldLink RJ2 44 "java/lang/StringUTF16" "$assertionsDisabled" "Z", Cond.fieldLink RJ2 59 "java/lang/StringUTF16" "HI_BYTE_SHIFT" "I", Cond.fieldLink RJ2 63 "java/lang/StringUTF16" "LO_BYTE_SHIFT" "I"]
def wsJ5_inflateIfNeededFor_a7421 : List Cond := .code yJ5_inflateIfNeededFor_a7421 cJ5_inflateIfNeededFor_a7421 2 none :: ((wsJ5_inflateIfNeededFor_a7421_r1 ++ (wsJ5_inflateIfNeededFor_a7421_r2 ++ wsJ5_inflateIfNeededFor_a7421_r3)) ++ wsJ40 ++ wsJ00)
def wsJ0_getBytes_840e7_r1 : List Cond := [Cond.fieldLink RJ0 9 "java/lang/String" "value" "[B", Cond.methodLink RJ0 212 arraycopyName, Cond.native arraycopyName, Cond.static arraycopyName, Cond.initialized "java/lang/System", Cond.methodLink RJ0 335 yJ0_coder_7d493, Cond.instanceMethod yJ0_coder_7d493, Cond.selects RJ0 yJ0_coder_7d493 yJ0_coder_7d493, Cond.initialized RJ0, Cond.code yJ0_coder_7d493 cJ0_coder_7d493 1 (some .byte), Cond.fieldLink RJ0 38 "java/lang/String" "COMPACT_STRINGS" "Z", Cond.fieldLink RJ0 15 "java/lang/String" "coder" "B", Cond.methodLink RJ0 106 yJ1_inflate_0e8fd, Cond.static yJ1_inflate_0e8fd, Cond.initialized RJ1, Cond.code yJ1_inflate_0e8fd cJ1_inflate_0e8fd 5 none, Cond.methodLink RJ1 240 yJ2_inflate_0e8fd, Cond.static yJ2_inflate_0e8fd, Cond.initialized RJ2, Cond.code yJ2_inflate_0e8fd cJ2_inflate_0e8fd 6 none, Cond.methodLink RJ2 173 yJ2_checkBoundsOffCount_d044e, Cond.static yJ2_checkBoundsOffCount_d044e, Cond.code yJ2_checkBoundsOffCount_d044e cJ2_checkBoundsOffCount_d044e 3 none, Cond.methodLink RJ2 48 yJ2_length_9d52b]
def wsJ0_getBytes_840e7_r2 : List Cond := [Cond.static yJ2_length_9d52b, Cond.code yJ2_length_9d52b cJ2_length_9d52b 1 (some .int), Cond.methodLink RJ2 419 yJ0_checkBoundsOffCount_cabcc, Cond.static yJ0_checkBoundsOffCount_cabcc, Cond.code yJ0_checkBoundsOffCount_cabcc cJ0_checkBoundsOffCount_cabcc 3 (some .int), Cond.fieldLink RJ0 1053 "jdk/internal/util/Preconditions" "SIOOBE_FORMATTER" "Ljava/util/function/BiFunction;", Cond.methodLink RJ0 1065 yJ3_checkFromIndexSize_8c36e, Cond.static yJ3_checkFromIndexSize_8c36e, Cond.initialized RJ3, Cond.code yJ3_checkFromIndexSize_8c36e cJ3_checkFromIndexSize_8c36e 4 (some .int), Cond.methodLink RJ2 111 yJ2_putChar_b72d1, Cond.static yJ2_putChar_b72d1, Cond.code yJ2_putChar_b72d1 cJ2_putChar_b72d1 3 none, Cond.fieldLink RJ2 44 "java/lang/StringUTF16" "$assertionsDisabled" "Z", Cond.fieldLink RJ2 59 "java/lang/StringUTF16" "HI_BYTE_SHIFT" "I", Cond.fieldLink RJ2 63 "java/lang/StringUTF16" "LO_BYTE_SHIFT" "I"]
def wsJ0_getBytes_840e7 : List Cond := .code yJ0_getBytes_840e7 cJ0_getBytes_840e7 4 none :: ((wsJ0_getBytes_840e7_r1 ++ wsJ0_getBytes_840e7_r2) ++ wsJ00)
def wsJ5_putStringAt_47b60_r1 : List Cond := [Cond.fieldLink RJ5 15 "java/lang/AbstractStringBuilder" "value" "[B", Cond.fieldLink RJ5 22 "java/lang/AbstractStringBuilder" "coder" "B", Cond.methodLink RJ5 397 ⟨"java/lang/AbstractStringBuilder", "inflateIfNeededFor", "(Ljava/lang/String;)V"⟩, Cond.sameMethod "java/lang/AbstractStringBuilder" "java/lang/AbstractStringBuilder" "inflateIfNeededFor" "(Ljava/lang/String;)V", Cond.selects RJ4 ⟨"java/lang/AbstractStringBuilder", "inflateIfNeededFor", "(Ljava/lang/String;)V"⟩ yJ5_inflateIfNeededFor_a7421, Cond.instanceMethod yJ5_inflateIfNeededFor_a7421, Cond.initialized RJ5, Cond.code yJ5_inflateIfNeededFor_a7421 cJ5_inflateIfNeededFor_a7421 2 none, Cond.fieldLink RJ5 18 "java/lang/String" "COMPACT_STRINGS" "Z", Cond.methodLink RJ5 40 yJ0_coder_7d493, Cond.instanceMethod yJ0_coder_7d493, Cond.selects RJ0 yJ0_coder_7d493 yJ0_coder_7d493, Cond.initialized RJ0, Cond.code yJ0_coder_7d493 cJ0_coder_7d493 1 (some .byte), Cond.fieldLink RJ0 38 "java/lang/String" "COMPACT_STRINGS" "Z", Cond.fieldLink RJ0 15 "java/lang/String" "coder" "B", Cond.methodLink RJ5 195 ⟨"java/lang/AbstractStringBuilder", "inflate", "()V"⟩, Cond.sameMethod "java/lang/AbstractStringBuilder" "java/lang/AbstractStringBuilder" "inflate" "()V", Cond.selects RJ4 ⟨"java/lang/AbstractStringBuilder", "inflate", "()V"⟩ yJ5_inflate_da8c8, Cond.instanceMethod yJ5_inflate_da8c8, Cond.code yJ5_inflate_da8c8 cJ5_inflate_da8c8 2 none, Cond.fieldLink RJ5 79 "java/lang/AbstractStringBuilder" "count" "I", Cond.methodLink RJ5 83 ⟨"java/lang/AbstractStringBuilder", "isLatin1", "()Z"⟩, Cond.sameMethod "java/lang/AbstractStringBuilder" "java/lang/AbstractStringBuilder" "isLatin1" "()Z"]
def wsJ5_putStringAt_47b60_r2 : List Cond := [Cond.selects RJ4 ⟨"java/lang/AbstractStringBuilder", "isLatin1", "()Z"⟩ yJ5_isLatin1_aae02, Cond.instanceMethod yJ5_isLatin1_aae02, Cond.code yJ5_isLatin1_aae02 cJ5_isLatin1_aae02 1 (some .boolean), Cond.methodLink RJ5 26 yJ2_newBytesFor_77867, Cond.static yJ2_newBytesFor_77867, Cond.initialized RJ2, Cond.code yJ2_newBytesFor_77867 cJ2_newBytesFor_77867 1 (some (.array .byte)), Cond.arrayClass .byte, Cond.methodLink RJ2 11 yJ2_newBytesLength_0f7a4, Cond.static yJ2_newBytesLength_0f7a4, Cond.code yJ2_newBytesLength_0f7a4 cJ2_newBytesLength_0f7a4 1 (some .int), Cond.constant RJ2 20 (1073741823), Cond.methodLink RJ5 125 yJ1_inflate_0e8fd, Cond.static yJ1_inflate_0e8fd, Cond.initialized RJ1, Cond.code yJ1_inflate_0e8fd cJ1_inflate_0e8fd 5 none, Cond.methodLink RJ1 240 yJ2_inflate_0e8fd, Cond.static yJ2_inflate_0e8fd, Cond.code yJ2_inflate_0e8fd cJ2_inflate_0e8fd 6 none, Cond.methodLink RJ2 173 yJ2_checkBoundsOffCount_d044e, Cond.static yJ2_checkBoundsOffCount_d044e, Cond.code yJ2_checkBoundsOffCount_d044e cJ2_checkBoundsOffCount_d044e 3 none, Cond.methodLink RJ2 48 yJ2_length_9d52b, Cond.static yJ2_length_9d52b]
def wsJ5_putStringAt_47b60_r3 : List Cond := [Cond.code yJ2_length_9d52b cJ2_length_9d52b 1 (some .int), Cond.methodLink RJ2 419 yJ0_checkBoundsOffCount_cabcc, Cond.static yJ0_checkBoundsOffCount_cabcc, Cond.code yJ0_checkBoundsOffCount_cabcc cJ0_checkBoundsOffCount_cabcc 3 (some .int), Cond.fieldLink RJ0 1053 "jdk/internal/util/Preconditions" "SIOOBE_FORMATTER" "Ljava/util/function/BiFunction;", Cond.methodLink RJ0 1065 yJ3_checkFromIndexSize_8c36e, Cond.static yJ3_checkFromIndexSize_8c36e, Cond.initialized RJ3, Cond.code yJ3_checkFromIndexSize_8c36e cJ3_checkFromIndexSize_8c36e 4 (some .int), Cond.methodLink RJ2 111 yJ2_putChar_b72d1, Cond.static yJ2_putChar_b72d1, Cond.code yJ2_putChar_b72d1 cJ2_putChar_b72d1 3 none, Cond.fieldLink RJ2 44 "java/lang/StringUTF16" "$assertionsDisabled" "Z", Cond.fieldLink RJ2 59 "java/lang/StringUTF16" "HI_BYTE_SHIFT" "I", Cond.fieldLink RJ2 63 "java/lang/StringUTF16" "LO_BYTE_SHIFT" "I", Cond.methodLink RJ5 399 yJ0_getBytes_840e7, Cond.instanceMethod yJ0_getBytes_840e7, Cond.selects RJ0 yJ0_getBytes_840e7 yJ0_getBytes_840e7, Cond.code yJ0_getBytes_840e7 cJ0_getBytes_840e7 4 none, Cond.fieldLink RJ0 9 "java/lang/String" "value" "[B", Cond.methodLink RJ0 212 arraycopyName, Cond.native arraycopyName, Cond.static arraycopyName, Cond.initialized "java/lang/System"]
def wsJ5_putStringAt_47b60_r4 : List Cond := [Cond.methodLink RJ0 335 yJ0_coder_7d493, Cond.methodLink RJ0 106 yJ1_inflate_0e8fd]
def wsJ5_putStringAt_47b60 : List Cond := .code yJ5_putStringAt_47b60 cJ5_putStringAt_47b60 3 none :: ((wsJ5_putStringAt_47b60_r1 ++ (wsJ5_putStringAt_47b60_r2 ++ (wsJ5_putStringAt_47b60_r3 ++ wsJ5_putStringAt_47b60_r4))) ++ wsJ40 ++ wsJ00)
def wsJ5_append_cf1ce_r1 : List Cond := [Cond.fieldLink RJ5 79 "java/lang/AbstractStringBuilder" "count" "I", Cond.methodLink RJ5 204 ⟨"java/lang/AbstractStringBuilder", "appendNull", "()Ljava/lang/AbstractStringBuilder;"⟩, Cond.sameMethod "java/lang/AbstractStringBuilder" "java/lang/AbstractStringBuilder" "appendNull" "()Ljava/lang/AbstractStringBuilder;", Cond.selects RJ4 ⟨"java/lang/AbstractStringBuilder", "appendNull", "()Ljava/lang/AbstractStringBuilder;"⟩ yJ5_appendNull_278bc, Cond.instanceMethod yJ5_appendNull_278bc, Cond.initialized RJ5, Cond.code yJ5_appendNull_278bc cJ5_appendNull_278bc 3 (some (.object "java/lang/AbstractStringBuilder")), Cond.fieldLink RJ5 15 "java/lang/AbstractStringBuilder" "value" "[B", Cond.methodLink RJ5 100 ⟨"java/lang/AbstractStringBuilder", "ensureCapacityInternal", "(I)V"⟩, Cond.sameMethod "java/lang/AbstractStringBuilder" "java/lang/AbstractStringBuilder" "ensureCapacityInternal" "(I)V", Cond.selects RJ4 ⟨"java/lang/AbstractStringBuilder", "ensureCapacityInternal", "(I)V"⟩ yJ5_ensureCapacityInternal_d00df, Cond.instanceMethod yJ5_ensureCapacityInternal_d00df, Cond.code yJ5_ensureCapacityInternal_d00df cJ5_ensureCapacityInternal_d00df 3 none, Cond.fieldLink RJ5 22 "java/lang/AbstractStringBuilder" "coder" "B", Cond.methodLink RJ5 104 ⟨"java/lang/AbstractStringBuilder", "newCapacity", "(I)I"⟩, Cond.sameMethod "java/lang/AbstractStringBuilder" "java/lang/AbstractStringBuilder" "newCapacity" "(I)I", Cond.selects RJ4 ⟨"java/lang/AbstractStringBuilder", "newCapacity", "(I)I"⟩ yJ5_newCapacity_0f7a4, Cond.instanceMethod yJ5_newCapacity_0f7a4, Cond.code yJ5_newCapacity_0f7a4 cJ5_newCapacity_0f7a4 6 (some .int), Cond.constant RJ5 39 (2147483647), Cond.methodLink RJ5 114 yJ8_newLength_cabcc, Cond.static yJ8_newLength_cabcc, Cond.initialized RJ8, Cond.code yJ8_newLength_cabcc cJ8_newLength_cabcc 4 (some .int)]
def wsJ5_append_cf1ce_r2 : List Cond := [Cond.methodLink RJ8 194 Lib.Math.max.name, Cond.static Lib.Math.max.name, Cond.initialized "java/lang/Math", Cond.code Lib.Math.max.name Lib.Math.max.code 2 (some .int), Cond.constant RJ8 200 (2147483639), Cond.methodLink RJ8 201 yJ8_hugeLength_7cf53, Cond.static yJ8_hugeLength_7cf53, Cond.code yJ8_hugeLength_7cf53 cJ8_hugeLength_7cf53 3 (some .int), Cond.methodLink RJ5 108 yJ7_copyOf_9075b, Cond.static yJ7_copyOf_9075b, Cond.initialized RJ7, Cond.code yJ7_copyOf_9075b cJ7_copyOf_9075b 3 (some (.array .byte)), Cond.methodLink RJ7 310 ⟨"[B", "clone", "()Ljava/lang/Object;"⟩, Cond.sameMethod "[B" "java/lang/Object" "clone" "()Ljava/lang/Object;", Cond.native ⟨"java/lang/Object", "clone", "()Ljava/lang/Object;"⟩, Cond.instanceMethod ⟨"java/lang/Object", "clone", "()Ljava/lang/Object;"⟩, Cond.selects "[B" ⟨"[B", "clone", "()Ljava/lang/Object;"⟩ ⟨"java/lang/Object", "clone", "()Ljava/lang/Object;"⟩, Cond.classLink RJ7 311 "[B", Cond.arrayClass .byte, Cond.methodLink RJ7 304 Lib.Math.min.name, Cond.static Lib.Math.min.name, Cond.code Lib.Math.min.name Lib.Math.min.code 2 (some .int), Cond.methodLink RJ7 150 arraycopyName, Cond.native arraycopyName]
def wsJ5_append_cf1ce_r3 : List Cond := [Cond.static arraycopyName, Cond.initialized "java/lang/System", Cond.methodLink RJ5 83 ⟨"java/lang/AbstractStringBuilder", "isLatin1", "()Z"⟩, Cond.sameMethod "java/lang/AbstractStringBuilder" "java/lang/AbstractStringBuilder" "isLatin1" "()Z", Cond.selects RJ4 ⟨"java/lang/AbstractStringBuilder", "isLatin1", "()Z"⟩ yJ5_isLatin1_aae02, Cond.instanceMethod yJ5_isLatin1_aae02, Cond.code yJ5_isLatin1_aae02 cJ5_isLatin1_aae02 1 (some .boolean), Cond.fieldLink RJ5 18 "java/lang/String" "COMPACT_STRINGS" "Z", Cond.methodLink RJ5 226 yJ2_putCharsAt_cd4e5, Cond.static yJ2_putCharsAt_cd4e5, Cond.initialized RJ2, Cond.code yJ2_putCharsAt_cd4e5 cJ2_putCharsAt_cd4e5 7 (some .int), Cond.fieldLink RJ2 44 "java/lang/StringUTF16" "$assertionsDisabled" "Z", Cond.methodLink RJ2 96 yJ2_checkBoundsBeginEnd_d044e, Cond.static yJ2_checkBoundsBeginEnd_d044e, Cond.code yJ2_checkBoundsBeginEnd_d044e cJ2_checkBoundsBeginEnd_d044e 3 none, Cond.methodLink RJ2 48 yJ2_length_9d52b, Cond.static yJ2_length_9d52b, Cond.code yJ2_length_9d52b cJ2_length_9d52b 1 (some .int), Cond.methodLink RJ2 241 yJ0_checkBoundsBeginEnd_23922, Cond.static yJ0_checkBoundsBeginEnd_23922, Cond.initialized RJ0, Cond.code yJ0_checkBoundsBeginEnd_23922 cJ0_checkBoundsBeginEnd_23922 3 none, Cond.fieldLink RJ0 1053 "jdk/internal/util/Preconditions" "SIOOBE_FORMATTER" "Ljava/util/function/BiFunction;"]
def wsJ5_append_cf1ce_r4 : List Cond := [Cond.methodLink RJ0 1062 yJ3_checkFromToIndex_8c36e, Cond.static yJ3_checkFromToIndex_8c36e, Cond.initialized RJ3, Cond.code yJ3_checkFromToIndex_8c36e cJ3_checkFromToIndex_8c36e 4 (some .int), Cond.methodLink RJ2 111 yJ2_putChar_b72d1, Cond.static yJ2_putChar_b72d1, Cond.code yJ2_putChar_b72d1 cJ2_putChar_b72d1 3 none, Cond.fieldLink RJ2 59 "java/lang/StringUTF16" "HI_BYTE_SHIFT" "I", Cond.fieldLink RJ2 63 "java/lang/StringUTF16" "LO_BYTE_SHIFT" "I", Cond.methodLink RJ5 32 yJ0_length_8abf5, Cond.instanceMethod yJ0_length_8abf5, Cond.selects RJ0 yJ0_length_8abf5 yJ0_length_8abf5, Cond.code yJ0_length_8abf5 cJ0_length_8abf5 1 (some .int), Cond.fieldLink RJ0 9 "java/lang/String" "value" "[B", Cond.methodLink RJ0 335 yJ0_coder_7d493, Cond.instanceMethod yJ0_coder_7d493, Cond.selects RJ0 yJ0_coder_7d493 yJ0_coder_7d493, Cond.code yJ0_coder_7d493 cJ0_coder_7d493 1 (some .byte), Cond.fieldLink RJ0 38 "java/lang/String" "COMPACT_STRINGS" "Z", Cond.fieldLink RJ0 15 "java/lang/String" "coder" "B", Cond.methodLink RJ5 208 ⟨"java/lang/AbstractStringBuilder", "putStringAt", "(ILjava/lang/String;)V"⟩, Cond.sameMethod "java/lang/AbstractStringBuilder" "java/lang/AbstractStringBuilder" "putStringAt" "(ILjava/lang/String;)V", Cond.selects RJ4 ⟨"java/lang/AbstractStringBuilder", "putStringAt", "(ILjava/lang/String;)V"⟩ yJ5_putStringAt_47b60, Cond.instanceMethod yJ5_putStringAt_47b60]
def wsJ5_append_cf1ce_r5 : List Cond := [Cond.code yJ5_putStringAt_47b60 cJ5_putStringAt_47b60 3 none, Cond.methodLink RJ5 397 ⟨"java/lang/AbstractStringBuilder", "inflateIfNeededFor", "(Ljava/lang/String;)V"⟩, Cond.sameMethod "java/lang/AbstractStringBuilder" "java/lang/AbstractStringBuilder" "inflateIfNeededFor" "(Ljava/lang/String;)V", Cond.selects RJ4 ⟨"java/lang/AbstractStringBuilder", "inflateIfNeededFor", "(Ljava/lang/String;)V"⟩ yJ5_inflateIfNeededFor_a7421, Cond.instanceMethod yJ5_inflateIfNeededFor_a7421, Cond.code yJ5_inflateIfNeededFor_a7421 cJ5_inflateIfNeededFor_a7421 2 none, Cond.methodLink RJ5 40 yJ0_coder_7d493, Cond.methodLink RJ5 195 ⟨"java/lang/AbstractStringBuilder", "inflate", "()V"⟩, Cond.sameMethod "java/lang/AbstractStringBuilder" "java/lang/AbstractStringBuilder" "inflate" "()V", Cond.selects RJ4 ⟨"java/lang/AbstractStringBuilder", "inflate", "()V"⟩ yJ5_inflate_da8c8, Cond.instanceMethod yJ5_inflate_da8c8, Cond.code yJ5_inflate_da8c8 cJ5_inflate_da8c8 2 none, Cond.methodLink RJ5 26 yJ2_newBytesFor_77867, Cond.static yJ2_newBytesFor_77867, Cond.code yJ2_newBytesFor_77867 cJ2_newBytesFor_77867 1 (some (.array .byte)), Cond.methodLink RJ2 11 yJ2_newBytesLength_0f7a4, Cond.static yJ2_newBytesLength_0f7a4, Cond.code yJ2_newBytesLength_0f7a4 cJ2_newBytesLength_0f7a4 1 (some .int), Cond.constant RJ2 20 (1073741823), Cond.methodLink RJ5 125 yJ1_inflate_0e8fd, Cond.static yJ1_inflate_0e8fd, Cond.initialized RJ1, Cond.code yJ1_inflate_0e8fd cJ1_inflate_0e8fd 5 none, Cond.methodLink RJ1 240 yJ2_inflate_0e8fd]
def wsJ5_append_cf1ce_r6 : List Cond := [Cond.static yJ2_inflate_0e8fd, Cond.code yJ2_inflate_0e8fd cJ2_inflate_0e8fd 6 none, Cond.methodLink RJ2 173 yJ2_checkBoundsOffCount_d044e, Cond.static yJ2_checkBoundsOffCount_d044e, Cond.code yJ2_checkBoundsOffCount_d044e cJ2_checkBoundsOffCount_d044e 3 none, Cond.methodLink RJ2 419 yJ0_checkBoundsOffCount_cabcc, Cond.static yJ0_checkBoundsOffCount_cabcc, Cond.code yJ0_checkBoundsOffCount_cabcc cJ0_checkBoundsOffCount_cabcc 3 (some .int), Cond.methodLink RJ0 1065 yJ3_checkFromIndexSize_8c36e, Cond.static yJ3_checkFromIndexSize_8c36e, Cond.code yJ3_checkFromIndexSize_8c36e cJ3_checkFromIndexSize_8c36e 4 (some .int), Cond.methodLink RJ5 399 yJ0_getBytes_840e7, Cond.instanceMethod yJ0_getBytes_840e7, Cond.selects RJ0 yJ0_getBytes_840e7 yJ0_getBytes_840e7, Cond.code yJ0_getBytes_840e7 cJ0_getBytes_840e7 4 none, Cond.methodLink RJ0 212 arraycopyName, Cond.methodLink RJ0 106 yJ1_inflate_0e8fd]
def wsJ5_append_cf1ce : List Cond := .code yJ5_append_cf1ce cJ5_append_cf1ce 3 (some (.object "java/lang/AbstractStringBuilder")) :: ((wsJ5_append_cf1ce_r1 ++ (wsJ5_append_cf1ce_r2 ++ (wsJ5_append_cf1ce_r3 ++ (wsJ5_append_cf1ce_r4 ++ (wsJ5_append_cf1ce_r5 ++ wsJ5_append_cf1ce_r6))))) ++ wsJ40 ++ wsJ00)
def wsJ6_stringSize_0f7a4 : List Cond := .code yJ6_stringSize_0f7a4 cJ6_stringSize_0f7a4 4 (some .int) :: ([])
def wsJ6_getChars_ba4f3 : List Cond := .code yJ6_getChars_ba4f3 cJ6_getChars_ba4f3 7 (some .int) :: ([.fieldLink RJ6 83 "java/lang/Integer" "DigitOnes" "[B", .fieldLink RJ6 87 "java/lang/Integer" "DigitTens" "[B"])
def wsJ2_getChars_ba4f3 : List Cond := .code yJ2_getChars_ba4f3 cJ2_getChars_ba4f3 7 (some .int) :: ([.fieldLink RJ2 403 "java/lang/Integer" "DigitOnes" "[B", .fieldLink RJ2 407 "java/lang/Integer" "DigitTens" "[B", .methodLink RJ2 111 yJ2_putChar_b72d1, .static yJ2_putChar_b72d1, .initialized RJ2, .code yJ2_putChar_b72d1 cJ2_putChar_b72d1 3 none, .fieldLink RJ2 44 "java/lang/StringUTF16" "$assertionsDisabled" "Z", .fieldLink RJ2 59 "java/lang/StringUTF16" "HI_BYTE_SHIFT" "I", .fieldLink RJ2 63 "java/lang/StringUTF16" "LO_BYTE_SHIFT" "I", .methodLink RJ2 48 yJ2_length_9d52b, .static yJ2_length_9d52b, .code yJ2_length_9d52b cJ2_length_9d52b 1 (some .int)])
def wsJ2_getChars_46870_r1 : List Cond := [Cond.fieldLink RJ2 44 "java/lang/StringUTF16" "$assertionsDisabled" "Z", Cond.methodLink RJ2 96 yJ2_checkBoundsBeginEnd_d044e, Cond.static yJ2_checkBoundsBeginEnd_d044e, Cond.initialized RJ2, Cond.code yJ2_checkBoundsBeginEnd_d044e cJ2_checkBoundsBeginEnd_d044e 3 none, Cond.methodLink RJ2 48 yJ2_length_9d52b, Cond.static yJ2_length_9d52b, Cond.code yJ2_length_9d52b cJ2_length_9d52b 1 (some .int), Cond.methodLink RJ2 241 yJ0_checkBoundsBeginEnd_23922, Cond.static yJ0_checkBoundsBeginEnd_23922, Cond.initialized RJ0, Cond.code yJ0_checkBoundsBeginEnd_23922 cJ0_checkBoundsBeginEnd_23922 3 none, Cond.fieldLink RJ0 1053 "jdk/internal/util/Preconditions" "SIOOBE_FORMATTER" "Ljava/util/function/BiFunction;", Cond.methodLink RJ0 1062 yJ3_checkFromToIndex_8c36e, Cond.static yJ3_checkFromToIndex_8c36e, Cond.initialized RJ3, Cond.code yJ3_checkFromToIndex_8c36e cJ3_checkFromToIndex_8c36e 4 (some .int), Cond.methodLink RJ2 393 yJ2_getChars_ba4f3, Cond.static yJ2_getChars_ba4f3, Cond.code yJ2_getChars_ba4f3 cJ2_getChars_ba4f3 7 (some .int), Cond.fieldLink RJ2 403 "java/lang/Integer" "DigitOnes" "[B", Cond.fieldLink RJ2 407 "java/lang/Integer" "DigitTens" "[B", Cond.methodLink RJ2 111 yJ2_putChar_b72d1, Cond.static yJ2_putChar_b72d1]
def wsJ2_getChars_46870_r2 : List Cond := [Cond.code yJ2_putChar_b72d1 cJ2_putChar_b72d1 3 none, Cond.fieldLink RJ2 59 "java/lang/StringUTF16" "HI_BYTE_SHIFT" "I", Cond.fieldLink RJ2 63 "java/lang/StringUTF16" "LO_BYTE_SHIFT" "I"]
def wsJ2_getChars_46870 : List Cond := .code yJ2_getChars_46870 cJ2_getChars_46870 5 (some .int) :: ((wsJ2_getChars_46870_r1 ++ wsJ2_getChars_46870_r2))
def wsJ5_append_c97b9_r1 : List Cond := [Cond.fieldLink RJ5 79 "java/lang/AbstractStringBuilder" "count" "I", Cond.fieldLink RJ5 15 "java/lang/AbstractStringBuilder" "value" "[B", Cond.methodLink RJ5 245 yJ6_stringSize_0f7a4, Cond.static yJ6_stringSize_0f7a4, Cond.initialized RJ6, Cond.code yJ6_stringSize_0f7a4 cJ6_stringSize_0f7a4 4 (some .int), Cond.methodLink RJ5 100 ⟨"java/lang/AbstractStringBuilder", "ensureCapacityInternal", "(I)V"⟩, Cond.sameMethod "java/lang/AbstractStringBuilder" "java/lang/AbstractStringBuilder" "ensureCapacityInternal" "(I)V", Cond.selects RJ4 ⟨"java/lang/AbstractStringBuilder", "ensureCapacityInternal", "(I)V"⟩ yJ5_ensureCapacityInternal_d00df, Cond.instanceMethod yJ5_ensureCapacityInternal_d00df, Cond.initialized RJ5, Cond.code yJ5_ensureCapacityInternal_d00df cJ5_ensureCapacityInternal_d00df 3 none, Cond.fieldLink RJ5 22 "java/lang/AbstractStringBuilder" "coder" "B", Cond.methodLink RJ5 104 ⟨"java/lang/AbstractStringBuilder", "newCapacity", "(I)I"⟩, Cond.sameMethod "java/lang/AbstractStringBuilder" "java/lang/AbstractStringBuilder" "newCapacity" "(I)I", Cond.selects RJ4 ⟨"java/lang/AbstractStringBuilder", "newCapacity", "(I)I"⟩ yJ5_newCapacity_0f7a4, Cond.instanceMethod yJ5_newCapacity_0f7a4, Cond.code yJ5_newCapacity_0f7a4 cJ5_newCapacity_0f7a4 6 (some .int), Cond.constant RJ5 39 (2147483647), Cond.methodLink RJ5 114 yJ8_newLength_cabcc, Cond.static yJ8_newLength_cabcc, Cond.initialized RJ8, Cond.code yJ8_newLength_cabcc cJ8_newLength_cabcc 4 (some .int), Cond.methodLink RJ8 194 Lib.Math.max.name]
def wsJ5_append_c97b9_r2 : List Cond := [Cond.static Lib.Math.max.name, Cond.initialized "java/lang/Math", Cond.code Lib.Math.max.name Lib.Math.max.code 2 (some .int), Cond.constant RJ8 200 (2147483639), Cond.methodLink RJ8 201 yJ8_hugeLength_7cf53, Cond.static yJ8_hugeLength_7cf53, Cond.code yJ8_hugeLength_7cf53 cJ8_hugeLength_7cf53 3 (some .int), Cond.methodLink RJ5 108 yJ7_copyOf_9075b, Cond.static yJ7_copyOf_9075b, Cond.initialized RJ7, Cond.code yJ7_copyOf_9075b cJ7_copyOf_9075b 3 (some (.array .byte)), Cond.methodLink RJ7 310 ⟨"[B", "clone", "()Ljava/lang/Object;"⟩, Cond.sameMethod "[B" "java/lang/Object" "clone" "()Ljava/lang/Object;", Cond.native ⟨"java/lang/Object", "clone", "()Ljava/lang/Object;"⟩, Cond.instanceMethod ⟨"java/lang/Object", "clone", "()Ljava/lang/Object;"⟩, Cond.selects "[B" ⟨"[B", "clone", "()Ljava/lang/Object;"⟩ ⟨"java/lang/Object", "clone", "()Ljava/lang/Object;"⟩, Cond.classLink RJ7 311 "[B", Cond.arrayClass .byte, Cond.methodLink RJ7 304 Lib.Math.min.name, Cond.static Lib.Math.min.name, Cond.code Lib.Math.min.name Lib.Math.min.code 2 (some .int), Cond.methodLink RJ7 150 arraycopyName, Cond.native arraycopyName, Cond.static arraycopyName]
def wsJ5_append_c97b9_r3 : List Cond := [Cond.initialized "java/lang/System", Cond.methodLink RJ5 83 ⟨"java/lang/AbstractStringBuilder", "isLatin1", "()Z"⟩, Cond.sameMethod "java/lang/AbstractStringBuilder" "java/lang/AbstractStringBuilder" "isLatin1" "()Z", Cond.selects RJ4 ⟨"java/lang/AbstractStringBuilder", "isLatin1", "()Z"⟩ yJ5_isLatin1_aae02, Cond.instanceMethod yJ5_isLatin1_aae02, Cond.code yJ5_isLatin1_aae02 cJ5_isLatin1_aae02 1 (some .boolean), Cond.fieldLink RJ5 18 "java/lang/String" "COMPACT_STRINGS" "Z", Cond.methodLink RJ5 248 yJ6_getChars_ba4f3, Cond.static yJ6_getChars_ba4f3, Cond.code yJ6_getChars_ba4f3 cJ6_getChars_ba4f3 7 (some .int), Cond.fieldLink RJ6 83 "java/lang/Integer" "DigitOnes" "[B", Cond.fieldLink RJ6 87 "java/lang/Integer" "DigitTens" "[B", Cond.methodLink RJ5 251 yJ2_getChars_46870, Cond.static yJ2_getChars_46870, Cond.initialized RJ2, Cond.code yJ2_getChars_46870 cJ2_getChars_46870 5 (some .int), Cond.fieldLink RJ2 44 "java/lang/StringUTF16" "$assertionsDisabled" "Z", Cond.methodLink RJ2 96 yJ2_checkBoundsBeginEnd_d044e, Cond.static yJ2_checkBoundsBeginEnd_d044e, Cond.code yJ2_checkBoundsBeginEnd_d044e cJ2_checkBoundsBeginEnd_d044e 3 none, Cond.methodLink RJ2 48 yJ2_length_9d52b, Cond.static yJ2_length_9d52b, Cond.code yJ2_length_9d52b cJ2_length_9d52b 1 (some .int), Cond.methodLink RJ2 241 yJ0_checkBoundsBeginEnd_23922]
def wsJ5_append_c97b9_r4 : List Cond := [Cond.static yJ0_checkBoundsBeginEnd_23922, Cond.initialized RJ0, Cond.code yJ0_checkBoundsBeginEnd_23922 cJ0_checkBoundsBeginEnd_23922 3 none, Cond.fieldLink RJ0 1053 "jdk/internal/util/Preconditions" "SIOOBE_FORMATTER" "Ljava/util/function/BiFunction;", Cond.methodLink RJ0 1062 yJ3_checkFromToIndex_8c36e, Cond.static yJ3_checkFromToIndex_8c36e, Cond.initialized RJ3, Cond.code yJ3_checkFromToIndex_8c36e cJ3_checkFromToIndex_8c36e 4 (some .int), Cond.methodLink RJ2 393 yJ2_getChars_ba4f3, Cond.static yJ2_getChars_ba4f3, Cond.code yJ2_getChars_ba4f3 cJ2_getChars_ba4f3 7 (some .int), Cond.fieldLink RJ2 403 "java/lang/Integer" "DigitOnes" "[B", Cond.fieldLink RJ2 407 "java/lang/Integer" "DigitTens" "[B", Cond.methodLink RJ2 111 yJ2_putChar_b72d1, Cond.static yJ2_putChar_b72d1, Cond.code yJ2_putChar_b72d1 cJ2_putChar_b72d1 3 none, Cond.fieldLink RJ2 59 "java/lang/StringUTF16" "HI_BYTE_SHIFT" "I", Cond.fieldLink RJ2 63 "java/lang/StringUTF16" "LO_BYTE_SHIFT" "I"]
def wsJ5_append_c97b9 : List Cond := .code yJ5_append_c97b9 cJ5_append_c97b9 4 (some (.object "java/lang/AbstractStringBuilder")) :: ((wsJ5_append_c97b9_r1 ++ (wsJ5_append_c97b9_r2 ++ (wsJ5_append_c97b9_r3 ++ wsJ5_append_c97b9_r4))) ++ wsJ40)
def wsJ5_getValue_6d5f1 : List Cond := .code yJ5_getValue_6d5f1 cJ5_getValue_6d5f1 1 (some (.array .byte)) :: ([.fieldLink RJ5 15 "java/lang/AbstractStringBuilder" "value" "[B"] ++ wsJ40)
def wsJ9_max_7cf53 : List Cond := .code yJ9_max_7cf53 cJ9_max_7cf53 2 (some .int) :: ([])
def wsJ9_min_7cf53 : List Cond := .code yJ9_min_7cf53 cJ9_min_7cf53 2 (some .int) :: ([])
def wsJ4_length_8abf5 : List Cond := .code yJ4_length_8abf5 cJ4_length_8abf5 1 (some .int) :: ([.methodLink RJ4 343 yJ5_length_8abf5, .sameMethod "java/lang/AbstractStringBuilder" "java/lang/AbstractStringBuilder" "length" "()I", .superclass RJ4 RJ5, .instanceMethod yJ5_length_8abf5, .initialized RJ5, .code yJ5_length_8abf5 cJ5_length_8abf5 1 (some .int), .fieldLink RJ5 79 "java/lang/AbstractStringBuilder" "count" "I"] ++ wsJ40)
def wsJ7_checkLength_df160 : List Cond := .code yJ7_checkLength_df160 cJ7_checkLength_df160 2 none :: ([.classLink RJ7 45 RJ4, .instantiable RJ4 4, .initialized RJ4] ++ wsJ40)
def wsJ7_copyOfRangeByte_39247 : List Cond := .code yJ7_copyOfRangeByte_39247 cJ7_copyOfRangeByte_39247 5 (some (.array .byte)) :: ([.arrayClass .byte, .methodLink RJ7 304 Lib.Math.min.name, .static Lib.Math.min.name, .initialized "java/lang/Math", .code Lib.Math.min.name Lib.Math.min.code 2 (some .int), .methodLink RJ7 150 arraycopyName, .native arraycopyName, .static arraycopyName, .initialized "java/lang/System", .methodLink RJ7 343 yJ7_checkLength_df160, .static yJ7_checkLength_df160, .initialized RJ7, .code yJ7_checkLength_df160 cJ7_checkLength_df160 2 none, .classLink RJ7 45 RJ4, .instantiable RJ4 4, .initialized RJ4] ++ wsJ40)
def wsJ7_copyOfRange_39247_r1 : List Cond := [Cond.methodLink RJ7 310 ⟨"[B", "clone", "()Ljava/lang/Object;"⟩, Cond.sameMethod "[B" "java/lang/Object" "clone" "()Ljava/lang/Object;", Cond.native ⟨"java/lang/Object", "clone", "()Ljava/lang/Object;"⟩, Cond.instanceMethod ⟨"java/lang/Object", "clone", "()Ljava/lang/Object;"⟩, Cond.selects "[B" ⟨"[B", "clone", "()Ljava/lang/Object;"⟩ ⟨"java/lang/Object", "clone", "()Ljava/lang/Object;"⟩, Cond.classLink RJ7 311 "[B", Cond.methodLink RJ7 339 yJ7_copyOfRangeByte_39247, Cond.static yJ7_copyOfRangeByte_39247, Cond.initialized RJ7, Cond.code yJ7_copyOfRangeByte_39247 cJ7_copyOfRangeByte_39247 5 (some (.array .byte)), Cond.arrayClass .byte, Cond.methodLink RJ7 304 Lib.Math.min.name, Cond.static Lib.Math.min.name, Cond.initialized "java/lang/Math", Cond.code Lib.Math.min.name Lib.Math.min.code 2 (some .int), Cond.methodLink RJ7 150 arraycopyName, Cond.native arraycopyName, Cond.static arraycopyName, Cond.initialized "java/lang/System", Cond.methodLink RJ7 343 yJ7_checkLength_df160, Cond.static yJ7_checkLength_df160, Cond.code yJ7_checkLength_df160 cJ7_checkLength_df160 2 none, Cond.classLink RJ7 45 RJ4, Cond.instantiable RJ4 4]
def wsJ7_copyOfRange_39247_r2 : List Cond := [Cond.initialized RJ4]
def wsJ7_copyOfRange_39247 : List Cond := .code yJ7_copyOfRange_39247 cJ7_copyOfRange_39247 3 (some (.array .byte)) :: ((wsJ7_copyOfRange_39247_r1 ++ wsJ7_copyOfRange_39247_r2) ++ wsJ40)
def wsJ2_getChar_3b067 : List Cond := .code yJ2_getChar_3b067 cJ2_getChar_3b067 2 (some .char) :: ([.fieldLink RJ2 44 "java/lang/StringUTF16" "$assertionsDisabled" "Z", .fieldLink RJ2 59 "java/lang/StringUTF16" "HI_BYTE_SHIFT" "I", .fieldLink RJ2 63 "java/lang/StringUTF16" "LO_BYTE_SHIFT" "I", .methodLink RJ2 48 yJ2_length_9d52b, .static yJ2_length_9d52b, .initialized RJ2, .code yJ2_length_9d52b cJ2_length_9d52b 1 (some .int)])
def wsJ2_compress_5af95 : List Cond := .code yJ2_compress_5af95 cJ2_compress_5af95 7 (some .int) :: ([.methodLink RJ2 173 yJ2_checkBoundsOffCount_d044e, .static yJ2_checkBoundsOffCount_d044e, .initialized RJ2, .code yJ2_checkBoundsOffCount_d044e cJ2_checkBoundsOffCount_d044e 3 none, .methodLink RJ2 48 yJ2_length_9d52b, .static yJ2_length_9d52b, .code yJ2_length_9d52b cJ2_length_9d52b 1 (some .int), .methodLink RJ2 419 yJ0_checkBoundsOffCount_cabcc, .static yJ0_checkBoundsOffCount_cabcc, .initialized RJ0, .code yJ0_checkBoundsOffCount_cabcc cJ0_checkBoundsOffCount_cabcc 3 (some .int), .fieldLink RJ0 1053 "jdk/internal/util/Preconditions" "SIOOBE_FORMATTER" "Ljava/util/function/BiFunction;", .methodLink RJ0 1065 yJ3_checkFromIndexSize_8c36e, .static yJ3_checkFromIndexSize_8c36e, .initialized RJ3, .code yJ3_checkFromIndexSize_8c36e cJ3_checkFromIndexSize_8c36e 4 (some .int), .methodLink RJ2 71 yJ2_getChar_3b067, .static yJ2_getChar_3b067, .code yJ2_getChar_3b067 cJ2_getChar_3b067 2 (some .char), .fieldLink RJ2 44 "java/lang/StringUTF16" "$assertionsDisabled" "Z", .fieldLink RJ2 59 "java/lang/StringUTF16" "HI_BYTE_SHIFT" "I", .fieldLink RJ2 63 "java/lang/StringUTF16" "LO_BYTE_SHIFT" "I"])
def wsJ2_compress_39247_r1 : List Cond := [Cond.arrayClass .byte, Cond.methodLink RJ2 123 yJ2_compress_5af95, Cond.static yJ2_compress_5af95, Cond.initialized RJ2, Cond.code yJ2_compress_5af95 cJ2_compress_5af95 7 (some .int), Cond.methodLink RJ2 173 yJ2_checkBoundsOffCount_d044e, Cond.static yJ2_checkBoundsOffCount_d044e, Cond.code yJ2_checkBoundsOffCount_d044e cJ2_checkBoundsOffCount_d044e 3 none, Cond.methodLink RJ2 48 yJ2_length_9d52b, Cond.static yJ2_length_9d52b, Cond.code yJ2_length_9d52b cJ2_length_9d52b 1 (some .int), Cond.methodLink RJ2 419 yJ0_checkBoundsOffCount_cabcc, Cond.static yJ0_checkBoundsOffCount_cabcc, Cond.initialized RJ0, Cond.code yJ0_checkBoundsOffCount_cabcc cJ0_checkBoundsOffCount_cabcc 3 (some .int), Cond.fieldLink RJ0 1053 "jdk/internal/util/Preconditions" "SIOOBE_FORMATTER" "Ljava/util/function/BiFunction;", Cond.methodLink RJ0 1065 yJ3_checkFromIndexSize_8c36e, Cond.static yJ3_checkFromIndexSize_8c36e, Cond.initialized RJ3, Cond.code yJ3_checkFromIndexSize_8c36e cJ3_checkFromIndexSize_8c36e 4 (some .int), Cond.methodLink RJ2 71 yJ2_getChar_3b067, Cond.static yJ2_getChar_3b067, Cond.code yJ2_getChar_3b067 cJ2_getChar_3b067 2 (some .char), Cond.fieldLink RJ2 44 "java/lang/StringUTF16" "$assertionsDisabled" "Z"]
def wsJ2_compress_39247_r2 : List Cond := [Cond.fieldLink RJ2 59 "java/lang/StringUTF16" "HI_BYTE_SHIFT" "I", Cond.fieldLink RJ2 63 "java/lang/StringUTF16" "LO_BYTE_SHIFT" "I", Cond.methodLink RJ2 11 yJ2_newBytesLength_0f7a4, Cond.static yJ2_newBytesLength_0f7a4, Cond.code yJ2_newBytesLength_0f7a4 cJ2_newBytesLength_0f7a4 1 (some .int), Cond.constant RJ2 20 (1073741823), Cond.methodLink RJ2 126 yJ7_copyOfRange_39247, Cond.static yJ7_copyOfRange_39247, Cond.initialized RJ7, Cond.code yJ7_copyOfRange_39247 cJ7_copyOfRange_39247 3 (some (.array .byte)), Cond.methodLink RJ7 310 ⟨"[B", "clone", "()Ljava/lang/Object;"⟩, Cond.sameMethod "[B" "java/lang/Object" "clone" "()Ljava/lang/Object;", Cond.native ⟨"java/lang/Object", "clone", "()Ljava/lang/Object;"⟩, Cond.instanceMethod ⟨"java/lang/Object", "clone", "()Ljava/lang/Object;"⟩, Cond.selects "[B" ⟨"[B", "clone", "()Ljava/lang/Object;"⟩ ⟨"java/lang/Object", "clone", "()Ljava/lang/Object;"⟩, Cond.classLink RJ7 311 "[B", Cond.methodLink RJ7 339 yJ7_copyOfRangeByte_39247, Cond.static yJ7_copyOfRangeByte_39247, Cond.code yJ7_copyOfRangeByte_39247 cJ7_copyOfRangeByte_39247 5 (some (.array .byte)), Cond.methodLink RJ7 304 Lib.Math.min.name, Cond.static Lib.Math.min.name, Cond.initialized "java/lang/Math", Cond.code Lib.Math.min.name Lib.Math.min.code 2 (some .int), Cond.methodLink RJ7 150 arraycopyName]
def wsJ2_compress_39247_r3 : List Cond := [Cond.native arraycopyName, Cond.static arraycopyName, Cond.initialized "java/lang/System", Cond.methodLink RJ7 343 yJ7_checkLength_df160, Cond.static yJ7_checkLength_df160, Cond.code yJ7_checkLength_df160 cJ7_checkLength_df160 2 none, Cond.classLink RJ7 45 RJ4, Cond.instantiable RJ4 4, Cond.initialized RJ4]
def wsJ2_compress_39247 : List Cond := .code yJ2_compress_39247 cJ2_compress_39247 6 (some (.array .byte)) :: ((wsJ2_compress_39247_r1 ++ (wsJ2_compress_39247_r2 ++ wsJ2_compress_39247_r3)) ++ wsJ40)
def wsJ2_coderFromArrayLen_85cad : List Cond := .code yJ2_coderFromArrayLen_85cad cJ2_coderFromArrayLen_85cad 2 (some .byte) :: ([])
def wsJ0_init_db425_r1 : List Cond := [Cond.methodLink RJ0 1 objectInit, Cond.instanceMethod objectInit, Cond.code objectInit ⟨#[0xb1]⟩ 1 none, Cond.fieldLink RJ0 15 "java/lang/String" "coder" "B", Cond.fieldLink RJ0 9 "java/lang/String" "value" "[B", Cond.fieldLink RJ0 38 "java/lang/String" "COMPACT_STRINGS" "Z", Cond.fieldLink RJ0 1048 "java/lang/AbstractStringBuilder" "maybeLatin1" "Z", Cond.methodLink RJ0 552 ⟨"java/lang/AbstractStringBuilder", "getValue", "()[B"⟩, Cond.sameMethod "java/lang/AbstractStringBuilder" "java/lang/AbstractStringBuilder" "getValue" "()[B", Cond.selects RJ4 ⟨"java/lang/AbstractStringBuilder", "getValue", "()[B"⟩ yJ5_getValue_6d5f1, Cond.instanceMethod yJ5_getValue_6d5f1, Cond.initialized RJ5, Cond.code yJ5_getValue_6d5f1 cJ5_getValue_6d5f1 1 (some (.array .byte)), Cond.fieldLink RJ5 15 "java/lang/AbstractStringBuilder" "value" "[B", Cond.methodLink RJ0 549 ⟨"java/lang/AbstractStringBuilder", "length", "()I"⟩, Cond.sameMethod "java/lang/AbstractStringBuilder" "java/lang/AbstractStringBuilder" "length" "()I", Cond.instanceMethod ⟨"java/lang/AbstractStringBuilder", "length", "()I"⟩, Cond.selects RJ4 ⟨"java/lang/AbstractStringBuilder", "length", "()I"⟩ yJ4_length_8abf5, Cond.instanceMethod yJ4_length_8abf5, Cond.initialized RJ4, Cond.code yJ4_length_8abf5 cJ4_length_8abf5 1 (some .int), Cond.methodLink RJ4 343 yJ5_length_8abf5, Cond.superclass RJ4 RJ5, Cond.instanceMethod yJ5_length_8abf5]
def wsJ0_init_db425_r2 : List Cond := [Cond.code yJ5_length_8abf5 cJ5_length_8abf5 1 (some .int), Cond.fieldLink RJ5 79 "java/lang/AbstractStringBuilder" "count" "I", Cond.methodLink RJ0 1047 ⟨"java/lang/AbstractStringBuilder", "isLatin1", "()Z"⟩, Cond.sameMethod "java/lang/AbstractStringBuilder" "java/lang/AbstractStringBuilder" "isLatin1" "()Z", Cond.selects RJ4 ⟨"java/lang/AbstractStringBuilder", "isLatin1", "()Z"⟩ yJ5_isLatin1_aae02, Cond.instanceMethod yJ5_isLatin1_aae02, Cond.code yJ5_isLatin1_aae02 cJ5_isLatin1_aae02 1 (some .boolean), Cond.fieldLink RJ5 18 "java/lang/String" "COMPACT_STRINGS" "Z", Cond.fieldLink RJ5 22 "java/lang/AbstractStringBuilder" "coder" "B", Cond.methodLink RJ0 54 yJ7_copyOfRange_39247, Cond.static yJ7_copyOfRange_39247, Cond.initialized RJ7, Cond.code yJ7_copyOfRange_39247 cJ7_copyOfRange_39247 3 (some (.array .byte)), Cond.methodLink RJ7 310 ⟨"[B", "clone", "()Ljava/lang/Object;"⟩, Cond.sameMethod "[B" "java/lang/Object" "clone" "()Ljava/lang/Object;", Cond.native ⟨"java/lang/Object", "clone", "()Ljava/lang/Object;"⟩, Cond.instanceMethod ⟨"java/lang/Object", "clone", "()Ljava/lang/Object;"⟩, Cond.selects "[B" ⟨"[B", "clone", "()Ljava/lang/Object;"⟩ ⟨"java/lang/Object", "clone", "()Ljava/lang/Object;"⟩, Cond.classLink RJ7 311 "[B", Cond.methodLink RJ7 339 yJ7_copyOfRangeByte_39247, Cond.static yJ7_copyOfRangeByte_39247, Cond.code yJ7_copyOfRangeByte_39247 cJ7_copyOfRangeByte_39247 5 (some (.array .byte)), Cond.arrayClass .byte, Cond.methodLink RJ7 304 Lib.Math.min.name]
def wsJ0_init_db425_r3 : List Cond := [Cond.static Lib.Math.min.name, Cond.initialized "java/lang/Math", Cond.code Lib.Math.min.name Lib.Math.min.code 2 (some .int), Cond.methodLink RJ7 150 arraycopyName, Cond.native arraycopyName, Cond.static arraycopyName, Cond.initialized "java/lang/System", Cond.methodLink RJ7 343 yJ7_checkLength_df160, Cond.static yJ7_checkLength_df160, Cond.code yJ7_checkLength_df160 cJ7_checkLength_df160 2 none, Cond.classLink RJ7 45 RJ4, Cond.instantiable RJ4 4, Cond.methodLink RJ0 1051 yJ2_compress_39247, Cond.static yJ2_compress_39247, Cond.initialized RJ2, Cond.code yJ2_compress_39247 cJ2_compress_39247 6 (some (.array .byte)), Cond.methodLink RJ2 123 yJ2_compress_5af95, Cond.static yJ2_compress_5af95, Cond.code yJ2_compress_5af95 cJ2_compress_5af95 7 (some .int), Cond.methodLink RJ2 173 yJ2_checkBoundsOffCount_d044e, Cond.static yJ2_checkBoundsOffCount_d044e, Cond.code yJ2_checkBoundsOffCount_d044e cJ2_checkBoundsOffCount_d044e 3 none, Cond.methodLink RJ2 48 yJ2_length_9d52b, Cond.static yJ2_length_9d52b]
def wsJ0_init_db425_r4 : List Cond := [Cond.code yJ2_length_9d52b cJ2_length_9d52b 1 (some .int), Cond.methodLink RJ2 419 yJ0_checkBoundsOffCount_cabcc, Cond.static yJ0_checkBoundsOffCount_cabcc, Cond.initialized RJ0, Cond.code yJ0_checkBoundsOffCount_cabcc cJ0_checkBoundsOffCount_cabcc 3 (some .int), Cond.fieldLink RJ0 1053 "jdk/internal/util/Preconditions" "SIOOBE_FORMATTER" "Ljava/util/function/BiFunction;", Cond.methodLink RJ0 1065 yJ3_checkFromIndexSize_8c36e, Cond.static yJ3_checkFromIndexSize_8c36e, Cond.initialized RJ3, Cond.code yJ3_checkFromIndexSize_8c36e cJ3_checkFromIndexSize_8c36e 4 (some .int), Cond.methodLink RJ2 71 yJ2_getChar_3b067, Cond.static yJ2_getChar_3b067, Cond.code yJ2_getChar_3b067 cJ2_getChar_3b067 2 (some .char), Cond.fieldLink RJ2 44 "java/lang/StringUTF16" "$assertionsDisabled" "Z", Cond.fieldLink RJ2 59 "java/lang/StringUTF16" "HI_BYTE_SHIFT" "I", Cond.fieldLink RJ2 63 "java/lang/StringUTF16" "LO_BYTE_SHIFT" "I", Cond.methodLink RJ2 11 yJ2_newBytesLength_0f7a4, Cond.static yJ2_newBytesLength_0f7a4, Cond.code yJ2_newBytesLength_0f7a4 cJ2_newBytesLength_0f7a4 1 (some .int), Cond.constant RJ2 20 (1073741823), Cond.methodLink RJ2 126 yJ7_copyOfRange_39247, Cond.methodLink RJ0 47 yJ2_coderFromArrayLen_85cad, Cond.static yJ2_coderFromArrayLen_85cad, Cond.code yJ2_coderFromArrayLen_85cad cJ2_coderFromArrayLen_85cad 2 (some .byte)]
def wsJ0_init_db425 : List Cond := .code yJ0_init_db425 cJ0_init_db425 5 none :: ((wsJ0_init_db425_r1 ++ (wsJ0_init_db425_r2 ++ (wsJ0_init_db425_r3 ++ wsJ0_init_db425_r4))) ++ wsJ00 ++ wsJ40)
def wsJ0_init_81219_r1 : List Cond := [Cond.methodLink RJ0 489 yJ0_init_db425, Cond.instanceMethod yJ0_init_db425, Cond.initialized RJ0, Cond.code yJ0_init_db425 cJ0_init_db425 5 none, Cond.methodLink RJ0 1 objectInit, Cond.instanceMethod objectInit, Cond.code objectInit ⟨#[0xb1]⟩ 1 none, Cond.fieldLink RJ0 15 "java/lang/String" "coder" "B", Cond.fieldLink RJ0 9 "java/lang/String" "value" "[B", Cond.fieldLink RJ0 38 "java/lang/String" "COMPACT_STRINGS" "Z", Cond.fieldLink RJ0 1048 "java/lang/AbstractStringBuilder" "maybeLatin1" "Z", Cond.methodLink RJ0 552 ⟨"java/lang/AbstractStringBuilder", "getValue", "()[B"⟩, Cond.sameMethod "java/lang/AbstractStringBuilder" "java/lang/AbstractStringBuilder" "getValue" "()[B", Cond.selects RJ4 ⟨"java/lang/AbstractStringBuilder", "getValue", "()[B"⟩ yJ5_getValue_6d5f1, Cond.instanceMethod yJ5_getValue_6d5f1, Cond.initialized RJ5, Cond.code yJ5_getValue_6d5f1 cJ5_getValue_6d5f1 1 (some (.array .byte)), Cond.fieldLink RJ5 15 "java/lang/AbstractStringBuilder" "value" "[B", Cond.methodLink RJ0 549 ⟨"java/lang/AbstractStringBuilder", "length", "()I"⟩, Cond.sameMethod "java/lang/AbstractStringBuilder" "java/lang/AbstractStringBuilder" "length" "()I", Cond.instanceMethod ⟨"java/lang/AbstractStringBuilder", "length", "()I"⟩, Cond.selects RJ4 ⟨"java/lang/AbstractStringBuilder", "length", "()I"⟩ yJ4_length_8abf5, Cond.instanceMethod yJ4_length_8abf5, Cond.initialized RJ4]
def wsJ0_init_81219_r2 : List Cond := [Cond.code yJ4_length_8abf5 cJ4_length_8abf5 1 (some .int), Cond.methodLink RJ4 343 yJ5_length_8abf5, Cond.superclass RJ4 RJ5, Cond.instanceMethod yJ5_length_8abf5, Cond.code yJ5_length_8abf5 cJ5_length_8abf5 1 (some .int), Cond.fieldLink RJ5 79 "java/lang/AbstractStringBuilder" "count" "I", Cond.methodLink RJ0 1047 ⟨"java/lang/AbstractStringBuilder", "isLatin1", "()Z"⟩, Cond.sameMethod "java/lang/AbstractStringBuilder" "java/lang/AbstractStringBuilder" "isLatin1" "()Z", Cond.selects RJ4 ⟨"java/lang/AbstractStringBuilder", "isLatin1", "()Z"⟩ yJ5_isLatin1_aae02, Cond.instanceMethod yJ5_isLatin1_aae02, Cond.code yJ5_isLatin1_aae02 cJ5_isLatin1_aae02 1 (some .boolean), Cond.fieldLink RJ5 18 "java/lang/String" "COMPACT_STRINGS" "Z", Cond.fieldLink RJ5 22 "java/lang/AbstractStringBuilder" "coder" "B", Cond.methodLink RJ0 54 yJ7_copyOfRange_39247, Cond.static yJ7_copyOfRange_39247, Cond.initialized RJ7, Cond.code yJ7_copyOfRange_39247 cJ7_copyOfRange_39247 3 (some (.array .byte)), Cond.methodLink RJ7 310 ⟨"[B", "clone", "()Ljava/lang/Object;"⟩, Cond.sameMethod "[B" "java/lang/Object" "clone" "()Ljava/lang/Object;", Cond.native ⟨"java/lang/Object", "clone", "()Ljava/lang/Object;"⟩, Cond.instanceMethod ⟨"java/lang/Object", "clone", "()Ljava/lang/Object;"⟩, Cond.selects "[B" ⟨"[B", "clone", "()Ljava/lang/Object;"⟩ ⟨"java/lang/Object", "clone", "()Ljava/lang/Object;"⟩, Cond.classLink RJ7 311 "[B", Cond.methodLink RJ7 339 yJ7_copyOfRangeByte_39247]
def wsJ0_init_81219_r3 : List Cond := [Cond.static yJ7_copyOfRangeByte_39247, Cond.code yJ7_copyOfRangeByte_39247 cJ7_copyOfRangeByte_39247 5 (some (.array .byte)), Cond.arrayClass .byte, Cond.methodLink RJ7 304 Lib.Math.min.name, Cond.static Lib.Math.min.name, Cond.initialized "java/lang/Math", Cond.code Lib.Math.min.name Lib.Math.min.code 2 (some .int), Cond.methodLink RJ7 150 arraycopyName, Cond.native arraycopyName, Cond.static arraycopyName, Cond.initialized "java/lang/System", Cond.methodLink RJ7 343 yJ7_checkLength_df160, Cond.static yJ7_checkLength_df160, Cond.code yJ7_checkLength_df160 cJ7_checkLength_df160 2 none, Cond.classLink RJ7 45 RJ4, Cond.instantiable RJ4 4, Cond.methodLink RJ0 1051 yJ2_compress_39247, Cond.static yJ2_compress_39247, Cond.initialized RJ2, Cond.code yJ2_compress_39247 cJ2_compress_39247 6 (some (.array .byte)), Cond.methodLink RJ2 123 yJ2_compress_5af95, Cond.static yJ2_compress_5af95, Cond.code yJ2_compress_5af95 cJ2_compress_5af95 7 (some .int), Cond.methodLink RJ2 173 yJ2_checkBoundsOffCount_d044e]
def wsJ0_init_81219_r4 : List Cond := [Cond.static yJ2_checkBoundsOffCount_d044e, Cond.code yJ2_checkBoundsOffCount_d044e cJ2_checkBoundsOffCount_d044e 3 none, Cond.methodLink RJ2 48 yJ2_length_9d52b, Cond.static yJ2_length_9d52b, Cond.code yJ2_length_9d52b cJ2_length_9d52b 1 (some .int), Cond.methodLink RJ2 419 yJ0_checkBoundsOffCount_cabcc, Cond.static yJ0_checkBoundsOffCount_cabcc, Cond.code yJ0_checkBoundsOffCount_cabcc cJ0_checkBoundsOffCount_cabcc 3 (some .int), Cond.fieldLink RJ0 1053 "jdk/internal/util/Preconditions" "SIOOBE_FORMATTER" "Ljava/util/function/BiFunction;", Cond.methodLink RJ0 1065 yJ3_checkFromIndexSize_8c36e, Cond.static yJ3_checkFromIndexSize_8c36e, Cond.initialized RJ3, Cond.code yJ3_checkFromIndexSize_8c36e cJ3_checkFromIndexSize_8c36e 4 (some .int), Cond.methodLink RJ2 71 yJ2_getChar_3b067, Cond.static yJ2_getChar_3b067, Cond.code yJ2_getChar_3b067 cJ2_getChar_3b067 2 (some .char), Cond.fieldLink RJ2 44 "java/lang/StringUTF16" "$assertionsDisabled" "Z", Cond.fieldLink RJ2 59 "java/lang/StringUTF16" "HI_BYTE_SHIFT" "I", Cond.fieldLink RJ2 63 "java/lang/StringUTF16" "LO_BYTE_SHIFT" "I", Cond.methodLink RJ2 11 yJ2_newBytesLength_0f7a4, Cond.static yJ2_newBytesLength_0f7a4, Cond.code yJ2_newBytesLength_0f7a4 cJ2_newBytesLength_0f7a4 1 (some .int), Cond.constant RJ2 20 (1073741823), Cond.methodLink RJ2 126 yJ7_copyOfRange_39247]
def wsJ0_init_81219_r5 : List Cond := [Cond.methodLink RJ0 47 yJ2_coderFromArrayLen_85cad, Cond.static yJ2_coderFromArrayLen_85cad, Cond.code yJ2_coderFromArrayLen_85cad cJ2_coderFromArrayLen_85cad 2 (some .byte)]
def wsJ0_init_81219 : List Cond := .code yJ0_init_81219 cJ0_init_81219 2 none :: ((wsJ0_init_81219_r1 ++ (wsJ0_init_81219_r2 ++ (wsJ0_init_81219_r3 ++ (wsJ0_init_81219_r4 ++ wsJ0_init_81219_r5)))) ++ wsJ00 ++ wsJ40)
def wsJ4_init_da8c8 : List Cond := .code yJ4_init_da8c8 cJ4_init_da8c8 1 none :: ([.methodLink RJ4 1 yJ5_init_d00df, .instanceMethod yJ5_init_d00df, .initialized RJ5, .code yJ5_init_d00df cJ5_init_d00df 2 none, .methodLink RJ5 3 objectInit, .instanceMethod objectInit, .code objectInit ⟨#[0xb1]⟩ 1 none, .fieldLink RJ5 18 "java/lang/String" "COMPACT_STRINGS" "Z", .arrayClass .byte, .fieldLink RJ5 15 "java/lang/AbstractStringBuilder" "value" "[B", .fieldLink RJ5 22 "java/lang/AbstractStringBuilder" "coder" "B", .methodLink RJ5 26 yJ2_newBytesFor_77867, .static yJ2_newBytesFor_77867, .initialized RJ2, .code yJ2_newBytesFor_77867 cJ2_newBytesFor_77867 1 (some (.array .byte)), .methodLink RJ2 11 yJ2_newBytesLength_0f7a4, .static yJ2_newBytesLength_0f7a4, .code yJ2_newBytesLength_0f7a4 cJ2_newBytesLength_0f7a4 1 (some .int), .constant RJ2 20 (1073741823)] ++ wsJ40)
def wsJ4_append_15ec4_r1 : List Cond := [Cond.methodLink RJ4 29 yJ5_append_cf1ce, Cond.sameMethod "java/lang/AbstractStringBuilder" "java/lang/AbstractStringBuilder" "append" "(Ljava/lang/String;)Ljava/lang/AbstractStringBuilder;", Cond.superclass RJ4 RJ5, Cond.instanceMethod yJ5_append_cf1ce, Cond.initialized RJ5, Cond.code yJ5_append_cf1ce cJ5_append_cf1ce 3 (some (.object "java/lang/AbstractStringBuilder")), Cond.fieldLink RJ5 79 "java/lang/AbstractStringBuilder" "count" "I", Cond.methodLink RJ5 204 ⟨"java/lang/AbstractStringBuilder", "appendNull", "()Ljava/lang/AbstractStringBuilder;"⟩, Cond.sameMethod "java/lang/AbstractStringBuilder" "java/lang/AbstractStringBuilder" "appendNull" "()Ljava/lang/AbstractStringBuilder;", Cond.selects RJ4 ⟨"java/lang/AbstractStringBuilder", "appendNull", "()Ljava/lang/AbstractStringBuilder;"⟩ yJ5_appendNull_278bc, Cond.instanceMethod yJ5_appendNull_278bc, Cond.code yJ5_appendNull_278bc cJ5_appendNull_278bc 3 (some (.object "java/lang/AbstractStringBuilder")), Cond.fieldLink RJ5 15 "java/lang/AbstractStringBuilder" "value" "[B", Cond.methodLink RJ5 100 ⟨"java/lang/AbstractStringBuilder", "ensureCapacityInternal", "(I)V"⟩, Cond.sameMethod "java/lang/AbstractStringBuilder" "java/lang/AbstractStringBuilder" "ensureCapacityInternal" "(I)V", Cond.selects RJ4 ⟨"java/lang/AbstractStringBuilder", "ensureCapacityInternal", "(I)V"⟩ yJ5_ensureCapacityInternal_d00df, Cond.instanceMethod yJ5_ensureCapacityInternal_d00df, Cond.code yJ5_ensureCapacityInternal_d00df cJ5_ensureCapacityInternal_d00df 3 none, Cond.fieldLink RJ5 22 "java/lang/AbstractStringBuilder" "coder" "B", Cond.methodLink RJ5 104 ⟨"java/lang/AbstractStringBuilder", "newCapacity", "(I)I"⟩, Cond.sameMethod "java/lang/AbstractStringBuilder" "java/lang/AbstractStringBuilder" "newCapacity" "(I)I", Cond.selects RJ4 ⟨"java/lang/AbstractStringBuilder", "newCapacity", "(I)I"⟩ yJ5_newCapacity_0f7a4, Cond.instanceMethod yJ5_newCapacity_0f7a4, Cond.code yJ5_newCapacity_0f7a4 cJ5_newCapacity_0f7a4 6 (some .int)]
def wsJ4_append_15ec4_r2 : List Cond := [Cond.constant RJ5 39 (2147483647), Cond.methodLink RJ5 114 yJ8_newLength_cabcc, Cond.static yJ8_newLength_cabcc, Cond.initialized RJ8, Cond.code yJ8_newLength_cabcc cJ8_newLength_cabcc 4 (some .int), Cond.methodLink RJ8 194 Lib.Math.max.name, Cond.static Lib.Math.max.name, Cond.initialized "java/lang/Math", Cond.code Lib.Math.max.name Lib.Math.max.code 2 (some .int), Cond.constant RJ8 200 (2147483639), Cond.methodLink RJ8 201 yJ8_hugeLength_7cf53, Cond.static yJ8_hugeLength_7cf53, Cond.code yJ8_hugeLength_7cf53 cJ8_hugeLength_7cf53 3 (some .int), Cond.methodLink RJ5 108 yJ7_copyOf_9075b, Cond.static yJ7_copyOf_9075b, Cond.initialized RJ7, Cond.code yJ7_copyOf_9075b cJ7_copyOf_9075b 3 (some (.array .byte)), Cond.methodLink RJ7 310 ⟨"[B", "clone", "()Ljava/lang/Object;"⟩, Cond.sameMethod "[B" "java/lang/Object" "clone" "()Ljava/lang/Object;", Cond.native ⟨"java/lang/Object", "clone", "()Ljava/lang/Object;"⟩, Cond.instanceMethod ⟨"java/lang/Object", "clone", "()Ljava/lang/Object;"⟩, Cond.selects "[B" ⟨"[B", "clone", "()Ljava/lang/Object;"⟩ ⟨"java/lang/Object", "clone", "()Ljava/lang/Object;"⟩, Cond.classLink RJ7 311 "[B", Cond.arrayClass .byte]
def wsJ4_append_15ec4_r3 : List Cond := [Cond.methodLink RJ7 304 Lib.Math.min.name, Cond.static Lib.Math.min.name, Cond.code Lib.Math.min.name Lib.Math.min.code 2 (some .int), Cond.methodLink RJ7 150 arraycopyName, Cond.native arraycopyName, Cond.static arraycopyName, Cond.initialized "java/lang/System", Cond.methodLink RJ5 83 ⟨"java/lang/AbstractStringBuilder", "isLatin1", "()Z"⟩, Cond.sameMethod "java/lang/AbstractStringBuilder" "java/lang/AbstractStringBuilder" "isLatin1" "()Z", Cond.selects RJ4 ⟨"java/lang/AbstractStringBuilder", "isLatin1", "()Z"⟩ yJ5_isLatin1_aae02, Cond.instanceMethod yJ5_isLatin1_aae02, Cond.code yJ5_isLatin1_aae02 cJ5_isLatin1_aae02 1 (some .boolean), Cond.fieldLink RJ5 18 "java/lang/String" "COMPACT_STRINGS" "Z", Cond.methodLink RJ5 226 yJ2_putCharsAt_cd4e5, Cond.static yJ2_putCharsAt_cd4e5, Cond.initialized RJ2, Cond.code yJ2_putCharsAt_cd4e5 cJ2_putCharsAt_cd4e5 7 (some .int), Cond.fieldLink RJ2 44 "java/lang/StringUTF16" "$assertionsDisabled" "Z", Cond.methodLink RJ2 96 yJ2_checkBoundsBeginEnd_d044e, Cond.static yJ2_checkBoundsBeginEnd_d044e, Cond.code yJ2_checkBoundsBeginEnd_d044e cJ2_checkBoundsBeginEnd_d044e 3 none, Cond.methodLink RJ2 48 yJ2_length_9d52b, Cond.static yJ2_length_9d52b, Cond.code yJ2_length_9d52b cJ2_length_9d52b 1 (some .int)]
def wsJ4_append_15ec4_r4 : List Cond := [Cond.methodLink RJ2 241 yJ0_checkBoundsBeginEnd_23922, Cond.static yJ0_checkBoundsBeginEnd_23922, Cond.initialized RJ0, Cond.code yJ0_checkBoundsBeginEnd_23922 cJ0_checkBoundsBeginEnd_23922 3 none, Cond.fieldLink RJ0 1053 "jdk/internal/util/Preconditions" "SIOOBE_FORMATTER" "Ljava/util/function/BiFunction;", Cond.methodLink RJ0 1062 yJ3_checkFromToIndex_8c36e, Cond.static yJ3_checkFromToIndex_8c36e, Cond.initialized RJ3, Cond.code yJ3_checkFromToIndex_8c36e cJ3_checkFromToIndex_8c36e 4 (some .int), Cond.methodLink RJ2 111 yJ2_putChar_b72d1, Cond.static yJ2_putChar_b72d1, Cond.code yJ2_putChar_b72d1 cJ2_putChar_b72d1 3 none, Cond.fieldLink RJ2 59 "java/lang/StringUTF16" "HI_BYTE_SHIFT" "I", Cond.fieldLink RJ2 63 "java/lang/StringUTF16" "LO_BYTE_SHIFT" "I", Cond.methodLink RJ5 32 yJ0_length_8abf5, Cond.instanceMethod yJ0_length_8abf5, Cond.selects RJ0 yJ0_length_8abf5 yJ0_length_8abf5, Cond.code yJ0_length_8abf5 cJ0_length_8abf5 1 (some .int), Cond.fieldLink RJ0 9 "java/lang/String" "value" "[B", Cond.methodLink RJ0 335 yJ0_coder_7d493, Cond.instanceMethod yJ0_coder_7d493, Cond.selects RJ0 yJ0_coder_7d493 yJ0_coder_7d493, Cond.code yJ0_coder_7d493 cJ0_coder_7d493 1 (some .byte), Cond.fieldLink RJ0 38 "java/lang/String" "COMPACT_STRINGS" "Z"]
def wsJ4_append_15ec4_r5 : List Cond := [Cond.fieldLink RJ0 15 "java/lang/String" "coder" "B", Cond.methodLink RJ5 208 ⟨"java/lang/AbstractStringBuilder", "putStringAt", "(ILjava/lang/String;)V"⟩, Cond.sameMethod "java/lang/AbstractStringBuilder" "java/lang/AbstractStringBuilder" "putStringAt" "(ILjava/lang/String;)V", Cond.selects RJ4 ⟨"java/lang/AbstractStringBuilder", "putStringAt", "(ILjava/lang/String;)V"⟩ yJ5_putStringAt_47b60, Cond.instanceMethod yJ5_putStringAt_47b60, Cond.code yJ5_putStringAt_47b60 cJ5_putStringAt_47b60 3 none, Cond.methodLink RJ5 397 ⟨"java/lang/AbstractStringBuilder", "inflateIfNeededFor", "(Ljava/lang/String;)V"⟩, Cond.sameMethod "java/lang/AbstractStringBuilder" "java/lang/AbstractStringBuilder" "inflateIfNeededFor" "(Ljava/lang/String;)V", Cond.selects RJ4 ⟨"java/lang/AbstractStringBuilder", "inflateIfNeededFor", "(Ljava/lang/String;)V"⟩ yJ5_inflateIfNeededFor_a7421, Cond.instanceMethod yJ5_inflateIfNeededFor_a7421, Cond.code yJ5_inflateIfNeededFor_a7421 cJ5_inflateIfNeededFor_a7421 2 none, Cond.methodLink RJ5 40 yJ0_coder_7d493, Cond.methodLink RJ5 195 ⟨"java/lang/AbstractStringBuilder", "inflate", "()V"⟩, Cond.sameMethod "java/lang/AbstractStringBuilder" "java/lang/AbstractStringBuilder" "inflate" "()V", Cond.selects RJ4 ⟨"java/lang/AbstractStringBuilder", "inflate", "()V"⟩ yJ5_inflate_da8c8, Cond.instanceMethod yJ5_inflate_da8c8, Cond.code yJ5_inflate_da8c8 cJ5_inflate_da8c8 2 none, Cond.methodLink RJ5 26 yJ2_newBytesFor_77867, Cond.static yJ2_newBytesFor_77867, Cond.code yJ2_newBytesFor_77867 cJ2_newBytesFor_77867 1 (some (.array .byte)), Cond.methodLink RJ2 11 yJ2_newBytesLength_0f7a4, Cond.static yJ2_newBytesLength_0f7a4, Cond.code yJ2_newBytesLength_0f7a4 cJ2_newBytesLength_0f7a4 1 (some .int), Cond.constant RJ2 20 (1073741823)]
def wsJ4_append_15ec4_r6 : List Cond := [Cond.methodLink RJ5 125 yJ1_inflate_0e8fd, Cond.static yJ1_inflate_0e8fd, Cond.initialized RJ1, Cond.code yJ1_inflate_0e8fd cJ1_inflate_0e8fd 5 none, Cond.methodLink RJ1 240 yJ2_inflate_0e8fd, Cond.static yJ2_inflate_0e8fd, Cond.code yJ2_inflate_0e8fd cJ2_inflate_0e8fd 6 none, Cond.methodLink RJ2 173 yJ2_checkBoundsOffCount_d044e, Cond.static yJ2_checkBoundsOffCount_d044e, Cond.code yJ2_checkBoundsOffCount_d044e cJ2_checkBoundsOffCount_d044e 3 none, Cond.methodLink RJ2 419 yJ0_checkBoundsOffCount_cabcc, Cond.static yJ0_checkBoundsOffCount_cabcc, Cond.code yJ0_checkBoundsOffCount_cabcc cJ0_checkBoundsOffCount_cabcc 3 (some .int), Cond.methodLink RJ0 1065 yJ3_checkFromIndexSize_8c36e, Cond.static yJ3_checkFromIndexSize_8c36e, Cond.code yJ3_checkFromIndexSize_8c36e cJ3_checkFromIndexSize_8c36e 4 (some .int), Cond.methodLink RJ5 399 yJ0_getBytes_840e7, Cond.instanceMethod yJ0_getBytes_840e7, Cond.selects RJ0 yJ0_getBytes_840e7 yJ0_getBytes_840e7, Cond.code yJ0_getBytes_840e7 cJ0_getBytes_840e7 4 none, Cond.methodLink RJ0 212 arraycopyName, Cond.methodLink RJ0 106 yJ1_inflate_0e8fd]
def wsJ4_append_15ec4 : List Cond := .code yJ4_append_15ec4 cJ4_append_15ec4 2 (some (.object "java/lang/StringBuilder")) :: ((wsJ4_append_15ec4_r1 ++ (wsJ4_append_15ec4_r2 ++ (wsJ4_append_15ec4_r3 ++ (wsJ4_append_15ec4_r4 ++ (wsJ4_append_15ec4_r5 ++ wsJ4_append_15ec4_r6))))) ++ wsJ40 ++ wsJ00)
def wsJ4_append_bf812_r1 : List Cond := [Cond.methodLink RJ4 53 yJ5_append_c97b9, Cond.sameMethod "java/lang/AbstractStringBuilder" "java/lang/AbstractStringBuilder" "append" "(I)Ljava/lang/AbstractStringBuilder;", Cond.superclass RJ4 RJ5, Cond.instanceMethod yJ5_append_c97b9, Cond.initialized RJ5, Cond.code yJ5_append_c97b9 cJ5_append_c97b9 4 (some (.object "java/lang/AbstractStringBuilder")), Cond.fieldLink RJ5 79 "java/lang/AbstractStringBuilder" "count" "I", Cond.fieldLink RJ5 15 "java/lang/AbstractStringBuilder" "value" "[B", Cond.methodLink RJ5 245 yJ6_stringSize_0f7a4, Cond.static yJ6_stringSize_0f7a4, Cond.initialized RJ6, Cond.code yJ6_stringSize_0f7a4 cJ6_stringSize_0f7a4 4 (some .int), Cond.methodLink RJ5 100 ⟨"java/lang/AbstractStringBuilder", "ensureCapacityInternal", "(I)V"⟩, Cond.sameMethod "java/lang/AbstractStringBuilder" "java/lang/AbstractStringBuilder" "ensureCapacityInternal" "(I)V", Cond.selects RJ4 ⟨"java/lang/AbstractStringBuilder", "ensureCapacityInternal", "(I)V"⟩ yJ5_ensureCapacityInternal_d00df, Cond.instanceMethod yJ5_ensureCapacityInternal_d00df, Cond.code yJ5_ensureCapacityInternal_d00df cJ5_ensureCapacityInternal_d00df 3 none, Cond.fieldLink RJ5 22 "java/lang/AbstractStringBuilder" "coder" "B", Cond.methodLink RJ5 104 ⟨"java/lang/AbstractStringBuilder", "newCapacity", "(I)I"⟩, Cond.sameMethod "java/lang/AbstractStringBuilder" "java/lang/AbstractStringBuilder" "newCapacity" "(I)I", Cond.selects RJ4 ⟨"java/lang/AbstractStringBuilder", "newCapacity", "(I)I"⟩ yJ5_newCapacity_0f7a4, Cond.instanceMethod yJ5_newCapacity_0f7a4, Cond.code yJ5_newCapacity_0f7a4 cJ5_newCapacity_0f7a4 6 (some .int), Cond.constant RJ5 39 (2147483647)]
def wsJ4_append_bf812_r2 : List Cond := [Cond.methodLink RJ5 114 yJ8_newLength_cabcc, Cond.static yJ8_newLength_cabcc, Cond.initialized RJ8, Cond.code yJ8_newLength_cabcc cJ8_newLength_cabcc 4 (some .int), Cond.methodLink RJ8 194 Lib.Math.max.name, Cond.static Lib.Math.max.name, Cond.initialized "java/lang/Math", Cond.code Lib.Math.max.name Lib.Math.max.code 2 (some .int), Cond.constant RJ8 200 (2147483639), Cond.methodLink RJ8 201 yJ8_hugeLength_7cf53, Cond.static yJ8_hugeLength_7cf53, Cond.code yJ8_hugeLength_7cf53 cJ8_hugeLength_7cf53 3 (some .int), Cond.methodLink RJ5 108 yJ7_copyOf_9075b, Cond.static yJ7_copyOf_9075b, Cond.initialized RJ7, Cond.code yJ7_copyOf_9075b cJ7_copyOf_9075b 3 (some (.array .byte)), Cond.methodLink RJ7 310 ⟨"[B", "clone", "()Ljava/lang/Object;"⟩, Cond.sameMethod "[B" "java/lang/Object" "clone" "()Ljava/lang/Object;", Cond.native ⟨"java/lang/Object", "clone", "()Ljava/lang/Object;"⟩, Cond.instanceMethod ⟨"java/lang/Object", "clone", "()Ljava/lang/Object;"⟩, Cond.selects "[B" ⟨"[B", "clone", "()Ljava/lang/Object;"⟩ ⟨"java/lang/Object", "clone", "()Ljava/lang/Object;"⟩, Cond.classLink RJ7 311 "[B", Cond.arrayClass .byte, Cond.methodLink RJ7 304 Lib.Math.min.name]
def wsJ4_append_bf812_r3 : List Cond := [Cond.static Lib.Math.min.name, Cond.code Lib.Math.min.name Lib.Math.min.code 2 (some .int), Cond.methodLink RJ7 150 arraycopyName, Cond.native arraycopyName, Cond.static arraycopyName, Cond.initialized "java/lang/System", Cond.methodLink RJ5 83 ⟨"java/lang/AbstractStringBuilder", "isLatin1", "()Z"⟩, Cond.sameMethod "java/lang/AbstractStringBuilder" "java/lang/AbstractStringBuilder" "isLatin1" "()Z", Cond.selects RJ4 ⟨"java/lang/AbstractStringBuilder", "isLatin1", "()Z"⟩ yJ5_isLatin1_aae02, Cond.instanceMethod yJ5_isLatin1_aae02, Cond.code yJ5_isLatin1_aae02 cJ5_isLatin1_aae02 1 (some .boolean), Cond.fieldLink RJ5 18 "java/lang/String" "COMPACT_STRINGS" "Z", Cond.methodLink RJ5 248 yJ6_getChars_ba4f3, Cond.static yJ6_getChars_ba4f3, Cond.code yJ6_getChars_ba4f3 cJ6_getChars_ba4f3 7 (some .int), Cond.fieldLink RJ6 83 "java/lang/Integer" "DigitOnes" "[B", Cond.fieldLink RJ6 87 "java/lang/Integer" "DigitTens" "[B", Cond.methodLink RJ5 251 yJ2_getChars_46870, Cond.static yJ2_getChars_46870, Cond.initialized RJ2, Cond.code yJ2_getChars_46870 cJ2_getChars_46870 5 (some .int), Cond.fieldLink RJ2 44 "java/lang/StringUTF16" "$assertionsDisabled" "Z", Cond.methodLink RJ2 96 yJ2_checkBoundsBeginEnd_d044e, Cond.static yJ2_checkBoundsBeginEnd_d044e]
def wsJ4_append_bf812_r4 : List Cond := [Cond.code yJ2_checkBoundsBeginEnd_d044e cJ2_checkBoundsBeginEnd_d044e 3 none, Cond.methodLink RJ2 48 yJ2_length_9d52b, Cond.static yJ2_length_9d52b, Cond.code yJ2_length_9d52b cJ2_length_9d52b 1 (some .int), Cond.methodLink RJ2 241 yJ0_checkBoundsBeginEnd_23922, Cond.static yJ0_checkBoundsBeginEnd_23922, Cond.initialized RJ0, Cond.code yJ0_checkBoundsBeginEnd_23922 cJ0_checkBoundsBeginEnd_23922 3 none, Cond.fieldLink RJ0 1053 "jdk/internal/util/Preconditions" "SIOOBE_FORMATTER" "Ljava/util/function/BiFunction;", Cond.methodLink RJ0 1062 yJ3_checkFromToIndex_8c36e, Cond.static yJ3_checkFromToIndex_8c36e, Cond.initialized RJ3, Cond.code yJ3_checkFromToIndex_8c36e cJ3_checkFromToIndex_8c36e 4 (some .int), Cond.methodLink RJ2 393 yJ2_getChars_ba4f3, Cond.static yJ2_getChars_ba4f3, Cond.code yJ2_getChars_ba4f3 cJ2_getChars_ba4f3 7 (some .int), Cond.fieldLink RJ2 403 "java/lang/Integer" "DigitOnes" "[B", Cond.fieldLink RJ2 407 "java/lang/Integer" "DigitTens" "[B", Cond.methodLink RJ2 111 yJ2_putChar_b72d1, Cond.static yJ2_putChar_b72d1, Cond.code yJ2_putChar_b72d1 cJ2_putChar_b72d1 3 none, Cond.fieldLink RJ2 59 "java/lang/StringUTF16" "HI_BYTE_SHIFT" "I", Cond.fieldLink RJ2 63 "java/lang/StringUTF16" "LO_BYTE_SHIFT" "I"]
def wsJ4_append_bf812 : List Cond := .code yJ4_append_bf812 cJ4_append_bf812 2 (some (.object "java/lang/StringBuilder")) :: ((wsJ4_append_bf812_r1 ++ (wsJ4_append_bf812_r2 ++ (wsJ4_append_bf812_r3 ++ wsJ4_append_bf812_r4))) ++ wsJ40)
def wsJ4_toString_0e30d_r1 : List Cond := [Cond.classLink RJ4 18 RJ0, Cond.instantiable RJ0 4, Cond.initialized RJ0, Cond.methodLink RJ4 137 yJ0_init_81219, Cond.instanceMethod yJ0_init_81219, Cond.code yJ0_init_81219 cJ0_init_81219 2 none, Cond.methodLink RJ0 489 yJ0_init_db425, Cond.instanceMethod yJ0_init_db425, Cond.code yJ0_init_db425 cJ0_init_db425 5 none, Cond.methodLink RJ0 1 objectInit, Cond.instanceMethod objectInit, Cond.code objectInit ⟨#[0xb1]⟩ 1 none, Cond.fieldLink RJ0 15 "java/lang/String" "coder" "B", Cond.fieldLink RJ0 9 "java/lang/String" "value" "[B", Cond.fieldLink RJ0 38 "java/lang/String" "COMPACT_STRINGS" "Z", Cond.fieldLink RJ0 1048 "java/lang/AbstractStringBuilder" "maybeLatin1" "Z", Cond.methodLink RJ0 552 ⟨"java/lang/AbstractStringBuilder", "getValue", "()[B"⟩, Cond.sameMethod "java/lang/AbstractStringBuilder" "java/lang/AbstractStringBuilder" "getValue" "()[B", Cond.selects RJ4 ⟨"java/lang/AbstractStringBuilder", "getValue", "()[B"⟩ yJ5_getValue_6d5f1, Cond.instanceMethod yJ5_getValue_6d5f1, Cond.initialized RJ5, Cond.code yJ5_getValue_6d5f1 cJ5_getValue_6d5f1 1 (some (.array .byte)), Cond.fieldLink RJ5 15 "java/lang/AbstractStringBuilder" "value" "[B", Cond.methodLink RJ0 549 ⟨"java/lang/AbstractStringBuilder", "length", "()I"⟩]
def wsJ4_toString_0e30d_r2 : List Cond := [Cond.sameMethod "java/lang/AbstractStringBuilder" "java/lang/AbstractStringBuilder" "length" "()I", Cond.instanceMethod ⟨"java/lang/AbstractStringBuilder", "length", "()I"⟩, Cond.selects RJ4 ⟨"java/lang/AbstractStringBuilder", "length", "()I"⟩ yJ4_length_8abf5, Cond.instanceMethod yJ4_length_8abf5, Cond.initialized RJ4, Cond.code yJ4_length_8abf5 cJ4_length_8abf5 1 (some .int), Cond.methodLink RJ4 343 yJ5_length_8abf5, Cond.superclass RJ4 RJ5, Cond.instanceMethod yJ5_length_8abf5, Cond.code yJ5_length_8abf5 cJ5_length_8abf5 1 (some .int), Cond.fieldLink RJ5 79 "java/lang/AbstractStringBuilder" "count" "I", Cond.methodLink RJ0 1047 ⟨"java/lang/AbstractStringBuilder", "isLatin1", "()Z"⟩, Cond.sameMethod "java/lang/AbstractStringBuilder" "java/lang/AbstractStringBuilder" "isLatin1" "()Z", Cond.selects RJ4 ⟨"java/lang/AbstractStringBuilder", "isLatin1", "()Z"⟩ yJ5_isLatin1_aae02, Cond.instanceMethod yJ5_isLatin1_aae02, Cond.code yJ5_isLatin1_aae02 cJ5_isLatin1_aae02 1 (some .boolean), Cond.fieldLink RJ5 18 "java/lang/String" "COMPACT_STRINGS" "Z", Cond.fieldLink RJ5 22 "java/lang/AbstractStringBuilder" "coder" "B", Cond.methodLink RJ0 54 yJ7_copyOfRange_39247, Cond.static yJ7_copyOfRange_39247, Cond.initialized RJ7, Cond.code yJ7_copyOfRange_39247 cJ7_copyOfRange_39247 3 (some (.array .byte)), Cond.methodLink RJ7 310 ⟨"[B", "clone", "()Ljava/lang/Object;"⟩, Cond.sameMethod "[B" "java/lang/Object" "clone" "()Ljava/lang/Object;"]
def wsJ4_toString_0e30d_r3 : List Cond := [Cond.native ⟨"java/lang/Object", "clone", "()Ljava/lang/Object;"⟩, Cond.instanceMethod ⟨"java/lang/Object", "clone", "()Ljava/lang/Object;"⟩, Cond.selects "[B" ⟨"[B", "clone", "()Ljava/lang/Object;"⟩ ⟨"java/lang/Object", "clone", "()Ljava/lang/Object;"⟩, Cond.classLink RJ7 311 "[B", Cond.methodLink RJ7 339 yJ7_copyOfRangeByte_39247, Cond.static yJ7_copyOfRangeByte_39247, Cond.code yJ7_copyOfRangeByte_39247 cJ7_copyOfRangeByte_39247 5 (some (.array .byte)), Cond.arrayClass .byte, Cond.methodLink RJ7 304 Lib.Math.min.name, Cond.static Lib.Math.min.name, Cond.initialized "java/lang/Math", Cond.code Lib.Math.min.name Lib.Math.min.code 2 (some .int), Cond.methodLink RJ7 150 arraycopyName, Cond.native arraycopyName, Cond.static arraycopyName, Cond.initialized "java/lang/System", Cond.methodLink RJ7 343 yJ7_checkLength_df160, Cond.static yJ7_checkLength_df160, Cond.code yJ7_checkLength_df160 cJ7_checkLength_df160 2 none, Cond.classLink RJ7 45 RJ4, Cond.instantiable RJ4 4, Cond.methodLink RJ0 1051 yJ2_compress_39247, Cond.static yJ2_compress_39247, Cond.initialized RJ2]
def wsJ4_toString_0e30d_r4 : List Cond := [Cond.code yJ2_compress_39247 cJ2_compress_39247 6 (some (.array .byte)), Cond.methodLink RJ2 123 yJ2_compress_5af95, Cond.static yJ2_compress_5af95, Cond.code yJ2_compress_5af95 cJ2_compress_5af95 7 (some .int), Cond.methodLink RJ2 173 yJ2_checkBoundsOffCount_d044e, Cond.static yJ2_checkBoundsOffCount_d044e, Cond.code yJ2_checkBoundsOffCount_d044e cJ2_checkBoundsOffCount_d044e 3 none, Cond.methodLink RJ2 48 yJ2_length_9d52b, Cond.static yJ2_length_9d52b, Cond.code yJ2_length_9d52b cJ2_length_9d52b 1 (some .int), Cond.methodLink RJ2 419 yJ0_checkBoundsOffCount_cabcc, Cond.static yJ0_checkBoundsOffCount_cabcc, Cond.code yJ0_checkBoundsOffCount_cabcc cJ0_checkBoundsOffCount_cabcc 3 (some .int), Cond.fieldLink RJ0 1053 "jdk/internal/util/Preconditions" "SIOOBE_FORMATTER" "Ljava/util/function/BiFunction;", Cond.methodLink RJ0 1065 yJ3_checkFromIndexSize_8c36e, Cond.static yJ3_checkFromIndexSize_8c36e, Cond.initialized RJ3, Cond.code yJ3_checkFromIndexSize_8c36e cJ3_checkFromIndexSize_8c36e 4 (some .int), Cond.methodLink RJ2 71 yJ2_getChar_3b067, Cond.static yJ2_getChar_3b067, Cond.code yJ2_getChar_3b067 cJ2_getChar_3b067 2 (some .char), Cond.fieldLink RJ2 44 "java/lang/StringUTF16" "$assertionsDisabled" "Z", Cond.fieldLink RJ2 59 "java/lang/StringUTF16" "HI_BYTE_SHIFT" "I", Cond.fieldLink RJ2 63 "java/lang/StringUTF16" "LO_BYTE_SHIFT" "I"]
def wsJ4_toString_0e30d_r5 : List Cond := [Cond.methodLink RJ2 11 yJ2_newBytesLength_0f7a4, Cond.static yJ2_newBytesLength_0f7a4, Cond.code yJ2_newBytesLength_0f7a4 cJ2_newBytesLength_0f7a4 1 (some .int), Cond.constant RJ2 20 (1073741823), Cond.methodLink RJ2 126 yJ7_copyOfRange_39247, Cond.methodLink RJ0 47 yJ2_coderFromArrayLen_85cad, Cond.static yJ2_coderFromArrayLen_85cad, Cond.code yJ2_coderFromArrayLen_85cad cJ2_coderFromArrayLen_85cad 2 (some .byte)]
def wsJ4_toString_0e30d : List Cond := .code yJ4_toString_0e30d cJ4_toString_0e30d 1 (some (.object "java/lang/String")) :: ((wsJ4_toString_0e30d_r1 ++ (wsJ4_toString_0e30d_r2 ++ (wsJ4_toString_0e30d_r3 ++ (wsJ4_toString_0e30d_r4 ++ wsJ4_toString_0e30d_r5)))) ++ wsJ00 ++ wsJ40)
def wsJx4a65c_outOfBoundsMsg_b52d3_r1 : List Cond := [Cond.classLink RJx4a65c 20 RJ4, Cond.instantiable RJ4 4, Cond.initialized RJ4, Cond.fieldLink RJx4a65c 48 "java/util/ArrayList" "size" "I", Cond.methodLink RJx4a65c 22 yJ4_init_da8c8, Cond.instanceMethod yJ4_init_da8c8, Cond.code yJ4_init_da8c8 cJ4_init_da8c8 1 none, Cond.methodLink RJ4 1 yJ5_init_d00df, Cond.instanceMethod yJ5_init_d00df, Cond.initialized RJ5, Cond.code yJ5_init_d00df cJ5_init_d00df 2 none, Cond.methodLink RJ5 3 objectInit, Cond.instanceMethod objectInit, Cond.code objectInit ⟨#[0xb1]⟩ 1 none, Cond.fieldLink RJ5 18 "java/lang/String" "COMPACT_STRINGS" "Z", Cond.arrayClass .byte, Cond.fieldLink RJ5 15 "java/lang/AbstractStringBuilder" "value" "[B", Cond.fieldLink RJ5 22 "java/lang/AbstractStringBuilder" "coder" "B", Cond.methodLink RJ5 26 yJ2_newBytesFor_77867, Cond.static yJ2_newBytesFor_77867, Cond.initialized RJ2, Cond.code yJ2_newBytesFor_77867 cJ2_newBytesFor_77867 1 (some (.array .byte)), Cond.methodLink RJ2 11 yJ2_newBytesLength_0f7a4, Cond.static yJ2_newBytesLength_0f7a4]
def wsJx4a65c_outOfBoundsMsg_b52d3_r2 : List Cond := [Cond.code yJ2_newBytesLength_0f7a4 cJ2_newBytesLength_0f7a4 1 (some .int), Cond.constant RJ2 20 (1073741823), Cond.methodLink RJx4a65c 25 yJ4_append_15ec4, Cond.instanceMethod yJ4_append_15ec4, Cond.selects RJ4 yJ4_append_15ec4 yJ4_append_15ec4, Cond.code yJ4_append_15ec4 cJ4_append_15ec4 2 (some (.object "java/lang/StringBuilder")), Cond.methodLink RJ4 29 yJ5_append_cf1ce, Cond.sameMethod "java/lang/AbstractStringBuilder" "java/lang/AbstractStringBuilder" "append" "(Ljava/lang/String;)Ljava/lang/AbstractStringBuilder;", Cond.superclass RJ4 RJ5, Cond.instanceMethod yJ5_append_cf1ce, Cond.code yJ5_append_cf1ce cJ5_append_cf1ce 3 (some (.object "java/lang/AbstractStringBuilder")), Cond.fieldLink RJ5 79 "java/lang/AbstractStringBuilder" "count" "I", Cond.methodLink RJ5 204 ⟨"java/lang/AbstractStringBuilder", "appendNull", "()Ljava/lang/AbstractStringBuilder;"⟩, Cond.sameMethod "java/lang/AbstractStringBuilder" "java/lang/AbstractStringBuilder" "appendNull" "()Ljava/lang/AbstractStringBuilder;", Cond.selects RJ4 ⟨"java/lang/AbstractStringBuilder", "appendNull", "()Ljava/lang/AbstractStringBuilder;"⟩ yJ5_appendNull_278bc, Cond.instanceMethod yJ5_appendNull_278bc, Cond.code yJ5_appendNull_278bc cJ5_appendNull_278bc 3 (some (.object "java/lang/AbstractStringBuilder")), Cond.methodLink RJ5 100 ⟨"java/lang/AbstractStringBuilder", "ensureCapacityInternal", "(I)V"⟩, Cond.sameMethod "java/lang/AbstractStringBuilder" "java/lang/AbstractStringBuilder" "ensureCapacityInternal" "(I)V", Cond.selects RJ4 ⟨"java/lang/AbstractStringBuilder", "ensureCapacityInternal", "(I)V"⟩ yJ5_ensureCapacityInternal_d00df, Cond.instanceMethod yJ5_ensureCapacityInternal_d00df, Cond.code yJ5_ensureCapacityInternal_d00df cJ5_ensureCapacityInternal_d00df 3 none, Cond.methodLink RJ5 104 ⟨"java/lang/AbstractStringBuilder", "newCapacity", "(I)I"⟩, Cond.sameMethod "java/lang/AbstractStringBuilder" "java/lang/AbstractStringBuilder" "newCapacity" "(I)I"]
def wsJx4a65c_outOfBoundsMsg_b52d3_r3 : List Cond := [Cond.selects RJ4 ⟨"java/lang/AbstractStringBuilder", "newCapacity", "(I)I"⟩ yJ5_newCapacity_0f7a4, Cond.instanceMethod yJ5_newCapacity_0f7a4, Cond.code yJ5_newCapacity_0f7a4 cJ5_newCapacity_0f7a4 6 (some .int), Cond.constant RJ5 39 (2147483647), Cond.methodLink RJ5 114 yJ8_newLength_cabcc, Cond.static yJ8_newLength_cabcc, Cond.initialized RJ8, Cond.code yJ8_newLength_cabcc cJ8_newLength_cabcc 4 (some .int), Cond.methodLink RJ8 194 Lib.Math.max.name, Cond.static Lib.Math.max.name, Cond.initialized "java/lang/Math", Cond.code Lib.Math.max.name Lib.Math.max.code 2 (some .int), Cond.constant RJ8 200 (2147483639), Cond.methodLink RJ8 201 yJ8_hugeLength_7cf53, Cond.static yJ8_hugeLength_7cf53, Cond.code yJ8_hugeLength_7cf53 cJ8_hugeLength_7cf53 3 (some .int), Cond.methodLink RJ5 108 yJ7_copyOf_9075b, Cond.static yJ7_copyOf_9075b, Cond.initialized RJ7, Cond.code yJ7_copyOf_9075b cJ7_copyOf_9075b 3 (some (.array .byte)), Cond.methodLink RJ7 310 ⟨"[B", "clone", "()Ljava/lang/Object;"⟩, Cond.sameMethod "[B" "java/lang/Object" "clone" "()Ljava/lang/Object;", Cond.native ⟨"java/lang/Object", "clone", "()Ljava/lang/Object;"⟩, Cond.instanceMethod ⟨"java/lang/Object", "clone", "()Ljava/lang/Object;"⟩]
def wsJx4a65c_outOfBoundsMsg_b52d3_r4 : List Cond := [Cond.selects "[B" ⟨"[B", "clone", "()Ljava/lang/Object;"⟩ ⟨"java/lang/Object", "clone", "()Ljava/lang/Object;"⟩, Cond.classLink RJ7 311 "[B", Cond.methodLink RJ7 304 Lib.Math.min.name, Cond.static Lib.Math.min.name, Cond.code Lib.Math.min.name Lib.Math.min.code 2 (some .int), Cond.methodLink RJ7 150 arraycopyName, Cond.native arraycopyName, Cond.static arraycopyName, Cond.initialized "java/lang/System", Cond.methodLink RJ5 83 ⟨"java/lang/AbstractStringBuilder", "isLatin1", "()Z"⟩, Cond.sameMethod "java/lang/AbstractStringBuilder" "java/lang/AbstractStringBuilder" "isLatin1" "()Z", Cond.selects RJ4 ⟨"java/lang/AbstractStringBuilder", "isLatin1", "()Z"⟩ yJ5_isLatin1_aae02, Cond.instanceMethod yJ5_isLatin1_aae02, Cond.code yJ5_isLatin1_aae02 cJ5_isLatin1_aae02 1 (some .boolean), Cond.methodLink RJ5 226 yJ2_putCharsAt_cd4e5, Cond.static yJ2_putCharsAt_cd4e5, Cond.code yJ2_putCharsAt_cd4e5 cJ2_putCharsAt_cd4e5 7 (some .int), Cond.fieldLink RJ2 44 "java/lang/StringUTF16" "$assertionsDisabled" "Z", Cond.methodLink RJ2 96 yJ2_checkBoundsBeginEnd_d044e, Cond.static yJ2_checkBoundsBeginEnd_d044e, Cond.code yJ2_checkBoundsBeginEnd_d044e cJ2_checkBoundsBeginEnd_d044e 3 none, Cond.methodLink RJ2 48 yJ2_length_9d52b, Cond.static yJ2_length_9d52b, Cond.code yJ2_length_9d52b cJ2_length_9d52b 1 (some .int)]
def wsJx4a65c_outOfBoundsMsg_b52d3_r5 : List Cond := [Cond.methodLink RJ2 241 yJ0_checkBoundsBeginEnd_23922, Cond.static yJ0_checkBoundsBeginEnd_23922, Cond.initialized RJ0, Cond.code yJ0_checkBoundsBeginEnd_23922 cJ0_checkBoundsBeginEnd_23922 3 none, Cond.fieldLink RJ0 1053 "jdk/internal/util/Preconditions" "SIOOBE_FORMATTER" "Ljava/util/function/BiFunction;", Cond.methodLink RJ0 1062 yJ3_checkFromToIndex_8c36e, Cond.static yJ3_checkFromToIndex_8c36e, Cond.initialized RJ3, Cond.code yJ3_checkFromToIndex_8c36e cJ3_checkFromToIndex_8c36e 4 (some .int), Cond.methodLink RJ2 111 yJ2_putChar_b72d1, Cond.static yJ2_putChar_b72d1, Cond.code yJ2_putChar_b72d1 cJ2_putChar_b72d1 3 none, Cond.fieldLink RJ2 59 "java/lang/StringUTF16" "HI_BYTE_SHIFT" "I", Cond.fieldLink RJ2 63 "java/lang/StringUTF16" "LO_BYTE_SHIFT" "I", Cond.methodLink RJ5 32 yJ0_length_8abf5, Cond.instanceMethod yJ0_length_8abf5, Cond.selects RJ0 yJ0_length_8abf5 yJ0_length_8abf5, Cond.code yJ0_length_8abf5 cJ0_length_8abf5 1 (some .int), Cond.fieldLink RJ0 9 "java/lang/String" "value" "[B", Cond.methodLink RJ0 335 yJ0_coder_7d493, Cond.instanceMethod yJ0_coder_7d493, Cond.selects RJ0 yJ0_coder_7d493 yJ0_coder_7d493, Cond.code yJ0_coder_7d493 cJ0_coder_7d493 1 (some .byte), Cond.fieldLink RJ0 38 "java/lang/String" "COMPACT_STRINGS" "Z"]
def wsJx4a65c_outOfBoundsMsg_b52d3_r6 : List Cond := [Cond.fieldLink RJ0 15 "java/lang/String" "coder" "B", Cond.methodLink RJ5 208 ⟨"java/lang/AbstractStringBuilder", "putStringAt", "(ILjava/lang/String;)V"⟩, Cond.sameMethod "java/lang/AbstractStringBuilder" "java/lang/AbstractStringBuilder" "putStringAt" "(ILjava/lang/String;)V", Cond.selects RJ4 ⟨"java/lang/AbstractStringBuilder", "putStringAt", "(ILjava/lang/String;)V"⟩ yJ5_putStringAt_47b60, Cond.instanceMethod yJ5_putStringAt_47b60, Cond.code yJ5_putStringAt_47b60 cJ5_putStringAt_47b60 3 none, Cond.methodLink RJ5 397 ⟨"java/lang/AbstractStringBuilder", "inflateIfNeededFor", "(Ljava/lang/String;)V"⟩, Cond.sameMethod "java/lang/AbstractStringBuilder" "java/lang/AbstractStringBuilder" "inflateIfNeededFor" "(Ljava/lang/String;)V", Cond.selects RJ4 ⟨"java/lang/AbstractStringBuilder", "inflateIfNeededFor", "(Ljava/lang/String;)V"⟩ yJ5_inflateIfNeededFor_a7421, Cond.instanceMethod yJ5_inflateIfNeededFor_a7421, Cond.code yJ5_inflateIfNeededFor_a7421 cJ5_inflateIfNeededFor_a7421 2 none, Cond.methodLink RJ5 40 yJ0_coder_7d493, Cond.methodLink RJ5 195 ⟨"java/lang/AbstractStringBuilder", "inflate", "()V"⟩, Cond.sameMethod "java/lang/AbstractStringBuilder" "java/lang/AbstractStringBuilder" "inflate" "()V", Cond.selects RJ4 ⟨"java/lang/AbstractStringBuilder", "inflate", "()V"⟩ yJ5_inflate_da8c8, Cond.instanceMethod yJ5_inflate_da8c8, Cond.code yJ5_inflate_da8c8 cJ5_inflate_da8c8 2 none, Cond.methodLink RJ5 125 yJ1_inflate_0e8fd, Cond.static yJ1_inflate_0e8fd, Cond.initialized RJ1, Cond.code yJ1_inflate_0e8fd cJ1_inflate_0e8fd 5 none, Cond.methodLink RJ1 240 yJ2_inflate_0e8fd, Cond.static yJ2_inflate_0e8fd, Cond.code yJ2_inflate_0e8fd cJ2_inflate_0e8fd 6 none]
def wsJx4a65c_outOfBoundsMsg_b52d3_r7 : List Cond := [Cond.methodLink RJ2 173 yJ2_checkBoundsOffCount_d044e, Cond.static yJ2_checkBoundsOffCount_d044e, Cond.code yJ2_checkBoundsOffCount_d044e cJ2_checkBoundsOffCount_d044e 3 none, Cond.methodLink RJ2 419 yJ0_checkBoundsOffCount_cabcc, Cond.static yJ0_checkBoundsOffCount_cabcc, Cond.code yJ0_checkBoundsOffCount_cabcc cJ0_checkBoundsOffCount_cabcc 3 (some .int), Cond.methodLink RJ0 1065 yJ3_checkFromIndexSize_8c36e, Cond.static yJ3_checkFromIndexSize_8c36e, Cond.code yJ3_checkFromIndexSize_8c36e cJ3_checkFromIndexSize_8c36e 4 (some .int), Cond.methodLink RJ5 399 yJ0_getBytes_840e7, Cond.instanceMethod yJ0_getBytes_840e7, Cond.selects RJ0 yJ0_getBytes_840e7 yJ0_getBytes_840e7, Cond.code yJ0_getBytes_840e7 cJ0_getBytes_840e7 4 none, Cond.methodLink RJ0 212 arraycopyName, Cond.methodLink RJ0 106 yJ1_inflate_0e8fd, Cond.methodLink RJx4a65c 29 yJ4_append_bf812, Cond.instanceMethod yJ4_append_bf812, Cond.selects RJ4 yJ4_append_bf812 yJ4_append_bf812, Cond.code yJ4_append_bf812 cJ4_append_bf812 2 (some (.object "java/lang/StringBuilder")), Cond.methodLink RJ4 53 yJ5_append_c97b9, Cond.sameMethod "java/lang/AbstractStringBuilder" "java/lang/AbstractStringBuilder" "append" "(I)Ljava/lang/AbstractStringBuilder;", Cond.instanceMethod yJ5_append_c97b9, Cond.code yJ5_append_c97b9 cJ5_append_c97b9 4 (some (.object "java/lang/AbstractStringBuilder")), Cond.methodLink RJ5 245 yJ6_stringSize_0f7a4]
def wsJx4a65c_outOfBoundsMsg_b52d3_r8 : List Cond := [Cond.static yJ6_stringSize_0f7a4, Cond.initialized RJ6, Cond.code yJ6_stringSize_0f7a4 cJ6_stringSize_0f7a4 4 (some .int), Cond.methodLink RJ5 248 yJ6_getChars_ba4f3, Cond.static yJ6_getChars_ba4f3, Cond.code yJ6_getChars_ba4f3 cJ6_getChars_ba4f3 7 (some .int), Cond.fieldLink RJ6 83 "java/lang/Integer" "DigitOnes" "[B", Cond.fieldLink RJ6 87 "java/lang/Integer" "DigitTens" "[B", Cond.methodLink RJ5 251 yJ2_getChars_46870, Cond.static yJ2_getChars_46870, Cond.code yJ2_getChars_46870 cJ2_getChars_46870 5 (some .int), Cond.methodLink RJ2 393 yJ2_getChars_ba4f3, Cond.static yJ2_getChars_ba4f3, Cond.code yJ2_getChars_ba4f3 cJ2_getChars_ba4f3 7 (some .int), Cond.fieldLink RJ2 403 "java/lang/Integer" "DigitOnes" "[B", Cond.fieldLink RJ2 407 "java/lang/Integer" "DigitTens" "[B", Cond.methodLink RJx4a65c 32 yJ4_toString_0e30d, Cond.instanceMethod yJ4_toString_0e30d, Cond.selects RJ4 yJ4_toString_0e30d yJ4_toString_0e30d, Cond.code yJ4_toString_0e30d cJ4_toString_0e30d 1 (some (.object "java/lang/String")), Cond.classLink RJ4 18 RJ0, Cond.instantiable RJ0 4, Cond.methodLink RJ4 137 yJ0_init_81219, Cond.instanceMethod yJ0_init_81219]
def wsJx4a65c_outOfBoundsMsg_b52d3_r9 : List Cond := [Cond.code yJ0_init_81219 cJ0_init_81219 2 none, Cond.methodLink RJ0 489 yJ0_init_db425, Cond.instanceMethod yJ0_init_db425, Cond.code yJ0_init_db425 cJ0_init_db425 5 none, Cond.methodLink RJ0 1 objectInit, Cond.fieldLink RJ0 1048 "java/lang/AbstractStringBuilder" "maybeLatin1" "Z", Cond.methodLink RJ0 552 ⟨"java/lang/AbstractStringBuilder", "getValue", "()[B"⟩, Cond.sameMethod "java/lang/AbstractStringBuilder" "java/lang/AbstractStringBuilder" "getValue" "()[B", Cond.selects RJ4 ⟨"java/lang/AbstractStringBuilder", "getValue", "()[B"⟩ yJ5_getValue_6d5f1, Cond.instanceMethod yJ5_getValue_6d5f1, Cond.code yJ5_getValue_6d5f1 cJ5_getValue_6d5f1 1 (some (.array .byte)), Cond.methodLink RJ0 549 ⟨"java/lang/AbstractStringBuilder", "length", "()I"⟩, Cond.sameMethod "java/lang/AbstractStringBuilder" "java/lang/AbstractStringBuilder" "length" "()I", Cond.instanceMethod ⟨"java/lang/AbstractStringBuilder", "length", "()I"⟩, Cond.selects RJ4 ⟨"java/lang/AbstractStringBuilder", "length", "()I"⟩ yJ4_length_8abf5, Cond.instanceMethod yJ4_length_8abf5, Cond.code yJ4_length_8abf5 cJ4_length_8abf5 1 (some .int), Cond.methodLink RJ4 343 yJ5_length_8abf5, Cond.instanceMethod yJ5_length_8abf5, Cond.code yJ5_length_8abf5 cJ5_length_8abf5 1 (some .int), Cond.methodLink RJ0 1047 ⟨"java/lang/AbstractStringBuilder", "isLatin1", "()Z"⟩, Cond.methodLink RJ0 54 yJ7_copyOfRange_39247, Cond.static yJ7_copyOfRange_39247, Cond.code yJ7_copyOfRange_39247 cJ7_copyOfRange_39247 3 (some (.array .byte))]
def wsJx4a65c_outOfBoundsMsg_b52d3_r10 : List Cond := [Cond.methodLink RJ7 339 yJ7_copyOfRangeByte_39247, Cond.static yJ7_copyOfRangeByte_39247, Cond.code yJ7_copyOfRangeByte_39247 cJ7_copyOfRangeByte_39247 5 (some (.array .byte)), Cond.methodLink RJ7 343 yJ7_checkLength_df160, Cond.static yJ7_checkLength_df160, Cond.code yJ7_checkLength_df160 cJ7_checkLength_df160 2 none, Cond.classLink RJ7 45 RJ4, Cond.methodLink RJ0 1051 yJ2_compress_39247, Cond.static yJ2_compress_39247, Cond.code yJ2_compress_39247 cJ2_compress_39247 6 (some (.array .byte)), Cond.methodLink RJ2 123 yJ2_compress_5af95, Cond.static yJ2_compress_5af95, Cond.code yJ2_compress_5af95 cJ2_compress_5af95 7 (some .int), Cond.methodLink RJ2 71 yJ2_getChar_3b067, Cond.static yJ2_getChar_3b067, Cond.code yJ2_getChar_3b067 cJ2_getChar_3b067 2 (some .char), Cond.methodLink RJ2 126 yJ7_copyOfRange_39247, Cond.methodLink RJ0 47 yJ2_coderFromArrayLen_85cad, Cond.static yJ2_coderFromArrayLen_85cad, Cond.code yJ2_coderFromArrayLen_85cad cJ2_coderFromArrayLen_85cad 2 (some .byte)]
def wsJx4a65c_outOfBoundsMsg_b52d3 : List Cond := .code yJx4a65c_outOfBoundsMsg_b52d3 cJx4a65c_outOfBoundsMsg_b52d3 2 (some (.object "java/lang/String")) :: ((wsJx4a65c_outOfBoundsMsg_b52d3_r1 ++ (wsJx4a65c_outOfBoundsMsg_b52d3_r2 ++ (wsJx4a65c_outOfBoundsMsg_b52d3_r3 ++ (wsJx4a65c_outOfBoundsMsg_b52d3_r4 ++ (wsJx4a65c_outOfBoundsMsg_b52d3_r5 ++ (wsJx4a65c_outOfBoundsMsg_b52d3_r6 ++ (wsJx4a65c_outOfBoundsMsg_b52d3_r7 ++ (wsJx4a65c_outOfBoundsMsg_b52d3_r8 ++ (wsJx4a65c_outOfBoundsMsg_b52d3_r9 ++ wsJx4a65c_outOfBoundsMsg_b52d3_r10))))))))) ++ wsJ40 ++ wsJx4a65c0 ++ wsJ00)
def wsL_send_r1 : List Cond := [Cond.classLink RL 13 "java/lang/IndexOutOfBoundsException", Cond.classLink RL 15 "java/lang/IllegalArgumentException", Cond.classLink RL 17 "java/lang/IllegalStateException", Cond.methodLink RL 7 yX2_send, Cond.instanceMethod yX2_send, Cond.selects RX2 yX2_send yX2_send, Cond.initialized RX2, Cond.code yX2_send cX2_send 7 (some .int), Cond.classLink RX2 44 "java/lang/IndexOutOfBoundsException", Cond.initialized "java/lang/IndexOutOfBoundsException", Cond.classLink RX2 55 "java/lang/IllegalArgumentException", Cond.initialized "java/lang/IllegalArgumentException", Cond.classLink RX2 64 "java/lang/IllegalStateException", Cond.initialized "java/lang/IllegalStateException", Cond.fieldLink RX2 26 "Delaypouch" "sent" "Ljava/util/ArrayList;", Cond.classLink RX2 75 RX0, Cond.instantiable RX0 11, Cond.initialized RX0, Cond.fieldLink RX2 7 "Delaypouch" "now" "I", Cond.fieldLink RX2 80 "Delaypouch$Bundle" "custodian" "I", Cond.fieldLink RX2 30 "Delaypouch" "ordered" "Ljava/util/ArrayList;", Cond.fieldLink RX2 98 "Delaypouch$Bundle" "number" "I", Cond.methodLink RX2 40 yX2_isNode, Cond.static yX2_isNode]
def wsL_send_r2 : List Cond := [Cond.code yX2_isNode cX2_isNode 1 (some .boolean), Cond.methodLink RX2 51 yX2_isWithin, Cond.static yX2_isWithin, Cond.code yX2_isWithin cX2_isWithin 3 (some .boolean), Cond.methodLink RX2 60 yJx4a65c_size_8abf5, Cond.instanceMethod yJx4a65c_size_8abf5, Cond.selects RJx4a65c yJx4a65c_size_8abf5 yJx4a65c_size_8abf5, Cond.initialized RJx4a65c, Cond.code yJx4a65c_size_8abf5 cJx4a65c_size_8abf5 1 (some .int), Cond.fieldLink RJx4a65c 48 "java/util/ArrayList" "size" "I", Cond.methodLink RX2 69 yX2_makeRoom, Cond.instanceMethod yX2_makeRoom, Cond.selects RX2 yX2_makeRoom yX2_makeRoom, Cond.code yX2_makeRoom cX2_makeRoom 4 (some .boolean), Cond.fieldLink RX2 13 "Delaypouch" "places" "[I", Cond.fieldLink RX2 204 "Delaypouch$Bundle" "priority" "I", Cond.fieldLink RX2 17 "Delaypouch" "drops" "[I", Cond.methodLink RX2 137 yX2_countAt, Cond.instanceMethod yX2_countAt, Cond.selects RX2 yX2_countAt yX2_countAt, Cond.code yX2_countAt cX2_countAt 4 (some .int), Cond.classLink RX2 75 "Delaypouch$Bundle", Cond.methodLink RX2 122 yJx4a65c_get_915e3, Cond.instanceMethod yJx4a65c_get_915e3]
def wsL_send_r3 : List Cond := [Cond.selects RJx4a65c yJx4a65c_get_915e3 yJx4a65c_get_915e3, Cond.code yJx4a65c_get_915e3 cJx4a65c_get_915e3 2 (some (.object "java/lang/Object")), Cond.methodLink RJx4a65c 118 yJ15_checkIndex_7cf53, Cond.static yJ15_checkIndex_7cf53, Cond.initialized RJ15, Cond.code yJ15_checkIndex_7cf53 cJ15_checkIndex_7cf53 2 (some .int), Cond.methodLink RJ15 105 yJ3_checkIndex_8e157, Cond.static yJ3_checkIndex_8e157, Cond.initialized RJ3, Cond.code yJ3_checkIndex_8e157 cJ3_checkIndex_8e157 3 (some .int), Cond.methodLink RJx4a65c 123 yJx4a65c_elementData_915e3, Cond.instanceMethod yJx4a65c_elementData_915e3, Cond.selects RJx4a65c yJx4a65c_elementData_915e3 yJx4a65c_elementData_915e3, Cond.code yJx4a65c_elementData_915e3 cJx4a65c_elementData_915e3 2 (some (.object "java/lang/Object")), Cond.fieldLink RJx4a65c 9 "java/util/ArrayList" "elementData" "[Ljava/lang/Object;", Cond.methodLink RX2 160 yX0_isAt, Cond.instanceMethod yX0_isAt, Cond.selects RX0 yX0_isAt yX0_isAt, Cond.code yX0_isAt cX0_isAt 2 (some .boolean), Cond.fieldLink RX0 24 "Delaypouch$Bundle" "copiesAt" "[I", Cond.methodLink RX2 201 yX2_lastWithoutCustody, Cond.instanceMethod yX2_lastWithoutCustody, Cond.selects RX2 yX2_lastWithoutCustody yX2_lastWithoutCustody, Cond.code yX2_lastWithoutCustody cX2_lastWithoutCustody 5 (some (.object "Delaypouch$Bundle"))]
def wsL_send_r4 : List Cond := [Cond.methodLink RX2 207 yX0_leave, Cond.instanceMethod yX0_leave, Cond.selects RX0 yX0_leave yX0_leave, Cond.code yX0_leave cX0_leave 2 none, Cond.methodLink RX0 51 yX0_put, Cond.instanceMethod yX0_put, Cond.selects RX0 yX0_put yX0_put, Cond.code yX0_put cX0_put 4 none, Cond.fieldLink RX0 28 "Delaypouch$Bundle" "hopsAt" "[I", Cond.methodLink RX2 77 yX0_init, Cond.instanceMethod yX0_init, Cond.code yX0_init cX0_init 5 none, Cond.methodLink RX0 3 objectInit, Cond.instanceMethod objectInit, Cond.code objectInit ⟨#[0xb1]⟩ 1 none, Cond.fieldLink RX0 9 "Delaypouch$Bundle" "number" "I", Cond.fieldLink RX0 15 "Delaypouch$Bundle" "destination" "I", Cond.fieldLink RX0 18 "Delaypouch$Bundle" "priority" "I", Cond.fieldLink RX0 21 "Delaypouch$Bundle" "end" "I", Cond.arrayClass .int, Cond.arrayClass .boolean, Cond.fieldLink RX0 31 "Delaypouch$Bundle" "knownAt" "[Z", Cond.fieldLink RX0 35 "Delaypouch$Bundle" "custodian" "I", Cond.fieldLink RX0 38 "Delaypouch$Bundle" "deliverySecond" "I"]
def wsL_send_r5 : List Cond := [Cond.fieldLink RX0 41 "Delaypouch$Bundle" "deliveryHops" "I", Cond.fieldLink RX0 44 "Delaypouch$Bundle" "giver" "I", Cond.methodLink RX2 83 yX0_put, Cond.methodLink RX2 87 yX2_placeInOrder, Cond.instanceMethod yX2_placeInOrder, Cond.selects RX2 yX2_placeInOrder yX2_placeInOrder, Cond.code yX2_placeInOrder cX2_placeInOrder 3 (some .int), Cond.methodLink RX2 197 yX0_isBefore, Cond.instanceMethod yX0_isBefore, Cond.selects RX0 yX0_isBefore yX0_isBefore, Cond.code yX0_isBefore cX0_isBefore 2 (some .boolean), Cond.methodLink RX2 91 yJx4a65c_add_7a177, Cond.instanceMethod yJx4a65c_add_7a177, Cond.selects RJx4a65c yJx4a65c_add_7a177 yJx4a65c_add_7a177, Cond.code yJx4a65c_add_7a177 cJx4a65c_add_7a177 5 none, Cond.fieldLink RJx4a65c 63 "java/util/ArrayList" "modCount" "I", Cond.sameField "java/util/ArrayList" "java/util/AbstractList" "modCount" "I", Cond.methodLink RJx4a65c 112 arraycopyName, Cond.native arraycopyName, Cond.static arraycopyName, Cond.initialized "java/lang/System", Cond.methodLink RJx4a65c 135 yJx4a65c_rangeCheckForAdd_d00df, Cond.instanceMethod yJx4a65c_rangeCheckForAdd_d00df, Cond.selects RJx4a65c yJx4a65c_rangeCheckForAdd_d00df yJx4a65c_rangeCheckForAdd_d00df]
def wsL_send_r6 : List Cond := [Cond.code yJx4a65c_rangeCheckForAdd_d00df cJx4a65c_rangeCheckForAdd_d00df 2 none, Cond.methodLink RJx4a65c 129 yJx4a65c_grow_d5877, Cond.instanceMethod yJx4a65c_grow_d5877, Cond.selects RJx4a65c yJx4a65c_grow_d5877 yJx4a65c_grow_d5877, Cond.code yJx4a65c_grow_d5877 cJx4a65c_grow_d5877 1 (some (.array (.object "java/lang/Object"))), Cond.methodLink RJx4a65c 69 yJx4a65c_grow_92f84, Cond.instanceMethod yJx4a65c_grow_92f84, Cond.selects RJx4a65c yJx4a65c_grow_92f84 yJx4a65c_grow_92f84, Cond.code yJx4a65c_grow_92f84 cJx4a65c_grow_92f84 4 (some (.array (.object "java/lang/Object"))), Cond.fieldLink RJx4a65c 39 "java/util/ArrayList" "DEFAULTCAPACITY_EMPTY_ELEMENTDATA" "[Ljava/lang/Object;", Cond.methodLink RJx4a65c 79 Lib.Math.max.name, Cond.static Lib.Math.max.name, Cond.initialized "java/lang/Math", Cond.code Lib.Math.max.name Lib.Math.max.code 2 (some .int), Cond.classLink RJx4a65c 7 "java/lang/Object", Cond.methodLink RJx4a65c 73 yJ8_newLength_cabcc, Cond.static yJ8_newLength_cabcc, Cond.initialized RJ8, Cond.code yJ8_newLength_cabcc cJ8_newLength_cabcc 4 (some .int), Cond.methodLink RJ8 194 Lib.Math.max.name, Cond.constant RJ8 200 (2147483639), Cond.methodLink RJ8 201 yJ8_hugeLength_7cf53, Cond.static yJ8_hugeLength_7cf53, Cond.code yJ8_hugeLength_7cf53 cJ8_hugeLength_7cf53 3 (some .int)]
def wsL_send_r7 : List Cond := [Cond.methodLink RJx4a65c 66 yJ7_copyOf_1904c, Cond.static yJ7_copyOf_1904c, Cond.initialized RJ7, Cond.code yJ7_copyOf_1904c cJ7_copyOf_1904c 2 (some (.array (.object "java/lang/Object"))), Cond.methodLink RJ7 86 ⟨"java/lang/Object", "getClass", "()Ljava/lang/Class;"⟩, Cond.selects "[Ljava/lang/Object;" ⟨"java/lang/Object", "getClass", "()Ljava/lang/Class;"⟩ ⟨"java/lang/Object", "getClass", "()Ljava/lang/Class;"⟩, Cond.instanceMethod ⟨"java/lang/Object", "getClass", "()Ljava/lang/Class;"⟩, Cond.native ⟨"java/lang/Object", "getClass", "()Ljava/lang/Class;"⟩, Cond.methodLink RJ7 300 yJ7_copyOf_6403c, Cond.static yJ7_copyOf_6403c, Cond.code yJ7_copyOf_6403c cJ7_copyOf_6403c 4 (some (.array (.object "java/lang/Object"))), Cond.classLink RJ7 110 "[Ljava/lang/Object;", Cond.classLink RJ7 2 "java/lang/Object", Cond.methodLink RJ7 304 Lib.Math.min.name, Cond.static Lib.Math.min.name, Cond.code Lib.Math.min.name Lib.Math.min.code 2 (some .int), Cond.methodLink RJ7 150 arraycopyName, Cond.methodLink RX2 95 yJx4a65c_add_9ea2d, Cond.instanceMethod yJx4a65c_add_9ea2d, Cond.selects RJx4a65c yJx4a65c_add_9ea2d yJx4a65c_add_9ea2d, Cond.code yJx4a65c_add_9ea2d cJx4a65c_add_9ea2d 2 (some .boolean), Cond.methodLink RJx4a65c 131 yJx4a65c_add_72be8, Cond.instanceMethod yJx4a65c_add_72be8, Cond.selects RJx4a65c yJx4a65c_add_72be8 yJx4a65c_add_72be8]
def wsL_send_r8 : List Cond := [Cond.code yJx4a65c_add_72be8 cJx4a65c_add_72be8 4 none]
def wsL_send : List Cond := .codeWith yL_send cL_send 8 (some .int) [(0, 16, 19, 13), (0, 16, 23, 15), (0, 16, 27, 17)] :: ((wsL_send_r1 ++ (wsL_send_r2 ++ (wsL_send_r3 ++ (wsL_send_r4 ++ (wsL_send_r5 ++ (wsL_send_r6 ++ (wsL_send_r7 ++ wsL_send_r8))))))) ++ wsX20 ++ wsX00 ++ wsJx4a65c0 ++ (vx_atS RX2 48 "java/lang/IndexOutOfBoundsException" ["java/lang/RuntimeException", "java/lang/Exception"]).filter goodWord ++ (vx_atS RX2 59 "java/lang/IllegalArgumentException" ["java/lang/RuntimeException", "java/lang/Exception"]).filter goodWord ++ (vx_atS RX2 68 "java/lang/IllegalStateException" ["java/lang/RuntimeException", "java/lang/Exception"]).filter goodWord)
def wsL_meet_r1 : List Cond := [Cond.classLink RL 13 "java/lang/IndexOutOfBoundsException", Cond.classLink RL 15 "java/lang/IllegalArgumentException", Cond.methodLink RL 19 yX2_meet, Cond.instanceMethod yX2_meet, Cond.selects RX2 yX2_meet yX2_meet, Cond.initialized RX2, Cond.code yX2_meet cX2_meet 6 (some .int), Cond.classLink RX2 44 "java/lang/IndexOutOfBoundsException", Cond.initialized "java/lang/IndexOutOfBoundsException", Cond.classLink RX2 55 "java/lang/IllegalArgumentException", Cond.initialized "java/lang/IllegalArgumentException", Cond.methodLink RX2 40 yX2_isNode, Cond.static yX2_isNode, Cond.code yX2_isNode cX2_isNode 1 (some .boolean), Cond.methodLink RX2 51 yX2_isWithin, Cond.static yX2_isWithin, Cond.code yX2_isWithin cX2_isWithin 3 (some .boolean), Cond.methodLink RX2 103 yX2_exchangeReceipts, Cond.instanceMethod yX2_exchangeReceipts, Cond.selects RX2 yX2_exchangeReceipts yX2_exchangeReceipts, Cond.code yX2_exchangeReceipts cX2_exchangeReceipts 5 none, Cond.fieldLink RX2 26 "Delaypouch" "sent" "Ljava/util/ArrayList;", Cond.classLink RX2 75 "Delaypouch$Bundle", Cond.fieldLink RX2 170 "Delaypouch$Bundle" "knownAt" "[Z"]
def wsL_meet_r2 : List Cond := [Cond.methodLink RX2 60 yJx4a65c_size_8abf5, Cond.instanceMethod yJx4a65c_size_8abf5, Cond.selects RJx4a65c yJx4a65c_size_8abf5 yJx4a65c_size_8abf5, Cond.initialized RJx4a65c, Cond.code yJx4a65c_size_8abf5 cJx4a65c_size_8abf5 1 (some .int), Cond.fieldLink RJx4a65c 48 "java/util/ArrayList" "size" "I", Cond.methodLink RX2 122 yJx4a65c_get_915e3, Cond.instanceMethod yJx4a65c_get_915e3, Cond.selects RJx4a65c yJx4a65c_get_915e3 yJx4a65c_get_915e3, Cond.code yJx4a65c_get_915e3 cJx4a65c_get_915e3 2 (some (.object "java/lang/Object")), Cond.methodLink RJx4a65c 118 yJ15_checkIndex_7cf53, Cond.static yJ15_checkIndex_7cf53, Cond.initialized RJ15, Cond.code yJ15_checkIndex_7cf53 cJ15_checkIndex_7cf53 2 (some .int), Cond.methodLink RJ15 105 yJ3_checkIndex_8e157, Cond.static yJ3_checkIndex_8e157, Cond.initialized RJ3, Cond.code yJ3_checkIndex_8e157 cJ3_checkIndex_8e157 3 (some .int), Cond.methodLink RJx4a65c 123 yJx4a65c_elementData_915e3, Cond.instanceMethod yJx4a65c_elementData_915e3, Cond.selects RJx4a65c yJx4a65c_elementData_915e3 yJx4a65c_elementData_915e3, Cond.code yJx4a65c_elementData_915e3 cJx4a65c_elementData_915e3 2 (some (.object "java/lang/Object")), Cond.fieldLink RJx4a65c 9 "java/util/ArrayList" "elementData" "[Ljava/lang/Object;", Cond.methodLink RX2 210 yX0_learn]
def wsL_meet_r3 : List Cond := [Cond.instanceMethod yX0_learn, Cond.selects RX0 yX0_learn yX0_learn, Cond.initialized RX0, Cond.code yX0_learn cX0_learn 2 none, Cond.fieldLink RX0 31 "Delaypouch$Bundle" "knownAt" "[Z", Cond.fieldLink RX0 35 "Delaypouch$Bundle" "custodian" "I", Cond.methodLink RX0 59 yX0_leave, Cond.instanceMethod yX0_leave, Cond.selects RX0 yX0_leave yX0_leave, Cond.code yX0_leave cX0_leave 2 none, Cond.methodLink RX0 51 yX0_put, Cond.instanceMethod yX0_put, Cond.selects RX0 yX0_put yX0_put, Cond.code yX0_put cX0_put 4 none, Cond.fieldLink RX0 24 "Delaypouch$Bundle" "copiesAt" "[I", Cond.fieldLink RX0 28 "Delaypouch$Bundle" "hopsAt" "[I", Cond.methodLink RX2 107 yX2_findSprays, Cond.instanceMethod yX2_findSprays, Cond.selects RX2 yX2_findSprays yX2_findSprays, Cond.code yX2_findSprays cX2_findSprays 5 none, Cond.fieldLink RX2 213 "Delaypouch$Bundle" "giver" "I", Cond.methodLink RX2 216 yX0_canSpray, Cond.instanceMethod yX0_canSpray, Cond.selects RX0 yX0_canSpray yX0_canSpray]
def wsL_meet_r4 : List Cond := [Cond.code yX0_canSpray cX0_canSpray 3 (some .boolean), Cond.fieldLink RX0 15 "Delaypouch$Bundle" "destination" "I", Cond.methodLink RX0 47 yX0_isAt, Cond.instanceMethod yX0_isAt, Cond.selects RX0 yX0_isAt yX0_isAt, Cond.code yX0_isAt cX0_isAt 2 (some .boolean), Cond.methodLink RX2 110 yX2_deliverSome, Cond.instanceMethod yX2_deliverSome, Cond.selects RX2 yX2_deliverSome yX2_deliverSome, Cond.code yX2_deliverSome cX2_deliverSome 7 (some .int), Cond.fieldLink RX2 30 "Delaypouch" "ordered" "Ljava/util/ArrayList;", Cond.fieldLink RX2 7 "Delaypouch" "now" "I", Cond.methodLink RX2 219 yX0_canDeliver, Cond.instanceMethod yX0_canDeliver, Cond.selects RX0 yX0_canDeliver yX0_canDeliver, Cond.code yX0_canDeliver cX0_canDeliver 3 (some .boolean), Cond.methodLink RX2 222 yX0_deliver, Cond.instanceMethod yX0_deliver, Cond.selects RX0 yX0_deliver yX0_deliver, Cond.code yX0_deliver cX0_deliver 3 none, Cond.fieldLink RX0 38 "Delaypouch$Bundle" "deliverySecond" "I", Cond.fieldLink RX0 41 "Delaypouch$Bundle" "deliveryHops" "I", Cond.methodLink RX0 55 yX0_learn, Cond.methodLink RX2 114 yX2_spraySome]
def wsL_meet_r5 : List Cond := [Cond.instanceMethod yX2_spraySome, Cond.selects RX2 yX2_spraySome yX2_spraySome, Cond.code yX2_spraySome cX2_spraySome 7 (some .int), Cond.methodLink RX2 225 yX2_spray, Cond.instanceMethod yX2_spray, Cond.selects RX2 yX2_spray yX2_spray, Cond.code yX2_spray cX2_spray 4 (some .boolean), Cond.fieldLink RX2 204 "Delaypouch$Bundle" "priority" "I", Cond.fieldLink RX2 20 "Delaypouch" "refusals" "[I", Cond.methodLink RX2 160 yX0_isAt, Cond.methodLink RX2 69 yX2_makeRoom, Cond.instanceMethod yX2_makeRoom, Cond.selects RX2 yX2_makeRoom yX2_makeRoom, Cond.code yX2_makeRoom cX2_makeRoom 4 (some .boolean), Cond.fieldLink RX2 13 "Delaypouch" "places" "[I", Cond.fieldLink RX2 17 "Delaypouch" "drops" "[I", Cond.methodLink RX2 137 yX2_countAt, Cond.instanceMethod yX2_countAt, Cond.selects RX2 yX2_countAt yX2_countAt, Cond.code yX2_countAt cX2_countAt 4 (some .int), Cond.methodLink RX2 201 yX2_lastWithoutCustody, Cond.instanceMethod yX2_lastWithoutCustody, Cond.selects RX2 yX2_lastWithoutCustody yX2_lastWithoutCustody, Cond.code yX2_lastWithoutCustody cX2_lastWithoutCustody 5 (some (.object "Delaypouch$Bundle"))]
def wsL_meet_r6 : List Cond := [Cond.fieldLink RX2 80 "Delaypouch$Bundle" "custodian" "I", Cond.methodLink RX2 207 yX0_leave, Cond.methodLink RX2 229 yX0_halve, Cond.instanceMethod yX0_halve, Cond.selects RX0 yX0_halve yX0_halve, Cond.code yX0_halve cX0_halve 4 none, Cond.methodLink RX2 117 yX2_moveCustody, Cond.instanceMethod yX2_moveCustody, Cond.selects RX2 yX2_moveCustody yX2_moveCustody, Cond.code yX2_moveCustody cX2_moveCustody 5 none, Cond.methodLink RX2 232 yX2_moveCustodyIfNearer, Cond.instanceMethod yX2_moveCustodyIfNearer, Cond.selects RX2 yX2_moveCustodyIfNearer yX2_moveCustodyIfNearer, Cond.code yX2_moveCustodyIfNearer cX2_moveCustodyIfNearer 6 none, Cond.fieldLink RX2 36 "Delaypouch" "plan" "LDelaypouch$Plan;", Cond.fieldLink RX2 186 "Delaypouch$Bundle" "destination" "I", Cond.methodLink RX2 176 yX1_arrivalByNodes, Cond.instanceMethod yX1_arrivalByNodes, Cond.selects RX1 yX1_arrivalByNodes yX1_arrivalByNodes, Cond.initialized RX1, Cond.code yX1_arrivalByNodes cX1_arrivalByNodes 6 (some .int), Cond.fieldLink RX1 27 "Delaypouch$Plan" "settled" "[Z", Cond.fieldLink RX1 24 "Delaypouch$Plan" "reached" "[I", Cond.methodLink RX1 35 yX1_start]
def wsL_meet_r7 : List Cond := [Cond.instanceMethod yX1_start, Cond.selects RX1 yX1_start yX1_start, Cond.code yX1_start cX1_start 4 none, Cond.constant RX1 51 (2147483647), Cond.methodLink RX1 39 yX1_nearestUnsettled, Cond.instanceMethod yX1_nearestUnsettled, Cond.selects RX1 yX1_nearestUnsettled yX1_nearestUnsettled, Cond.code yX1_nearestUnsettled cX1_nearestUnsettled 4 (some .int), Cond.methodLink RX1 43 yX1_spread, Cond.instanceMethod yX1_spread, Cond.selects RX1 yX1_spread yX1_spread, Cond.code yX1_spread cX1_spread 3 none, Cond.fieldLink RX1 31 "Delaypouch$Plan" "size" "I", Cond.fieldLink RX1 9 "Delaypouch$Plan" "nodes" "[I", Cond.fieldLink RX1 15 "Delaypouch$Plan" "others" "[I", Cond.methodLink RX1 47 yX1_carry, Cond.instanceMethod yX1_carry, Cond.selects RX1 yX1_carry yX1_carry, Cond.code yX1_carry cX1_carry 5 (some .boolean), Cond.fieldLink RX1 21 "Delaypouch$Plan" "lasts" "[I", Cond.fieldLink RX1 18 "Delaypouch$Plan" "firsts" "[I", Cond.methodLink RX1 52 Lib.Math.max.name, Cond.static Lib.Math.max.name, Cond.initialized "java/lang/Math"]
def wsL_meet_r8 : List Cond := [Cond.code Lib.Math.max.name Lib.Math.max.code 2 (some .int)]
def wsL_meet : List Cond := .codeWith yL_meet cL_meet 6 (some .int) [(0, 12, 15, 13), (0, 12, 19, 15)] :: ((wsL_meet_r1 ++ (wsL_meet_r2 ++ (wsL_meet_r3 ++ (wsL_meet_r4 ++ (wsL_meet_r5 ++ (wsL_meet_r6 ++ (wsL_meet_r7 ++ wsL_meet_r8))))))) ++ wsX20 ++ wsX00 ++ wsJx4a65c0 ++ wsX10 ++ (vx_atS RX2 48 "java/lang/IndexOutOfBoundsException" ["java/lang/RuntimeException", "java/lang/Exception"]).filter goodWord ++ (vx_atS RX2 59 "java/lang/IllegalArgumentException" ["java/lang/RuntimeException", "java/lang/Exception"]).filter goodWord)
def wsL_pass_r1 : List Cond := [Cond.classLink RL 15 "java/lang/IllegalArgumentException", Cond.methodLink RL 23 yX2_pass, Cond.instanceMethod yX2_pass, Cond.selects RX2 yX2_pass yX2_pass, Cond.initialized RX2, Cond.code yX2_pass cX2_pass 6 (some .int), Cond.classLink RX2 55 "java/lang/IllegalArgumentException", Cond.initialized "java/lang/IllegalArgumentException", Cond.fieldLink RX2 7 "Delaypouch" "now" "I", Cond.fieldLink RX2 26 "Delaypouch" "sent" "Ljava/util/ArrayList;", Cond.classLink RX2 75 "Delaypouch$Bundle", Cond.fieldLink RX2 126 "Delaypouch$Bundle" "end" "I", Cond.fieldLink RX2 132 "Delaypouch$Bundle" "deliverySecond" "I", Cond.methodLink RX2 51 yX2_isWithin, Cond.static yX2_isWithin, Cond.code yX2_isWithin cX2_isWithin 3 (some .boolean), Cond.methodLink RX2 60 yJx4a65c_size_8abf5, Cond.instanceMethod yJx4a65c_size_8abf5, Cond.selects RJx4a65c yJx4a65c_size_8abf5 yJx4a65c_size_8abf5, Cond.initialized RJx4a65c, Cond.code yJx4a65c_size_8abf5 cJx4a65c_size_8abf5 1 (some .int), Cond.fieldLink RJx4a65c 48 "java/util/ArrayList" "size" "I", Cond.methodLink RX2 122 yJx4a65c_get_915e3, Cond.instanceMethod yJx4a65c_get_915e3]
def wsL_pass_r2 : List Cond := [Cond.selects RJx4a65c yJx4a65c_get_915e3 yJx4a65c_get_915e3, Cond.code yJx4a65c_get_915e3 cJx4a65c_get_915e3 2 (some (.object "java/lang/Object")), Cond.methodLink RJx4a65c 118 yJ15_checkIndex_7cf53, Cond.static yJ15_checkIndex_7cf53, Cond.initialized RJ15, Cond.code yJ15_checkIndex_7cf53 cJ15_checkIndex_7cf53 2 (some .int), Cond.methodLink RJ15 105 yJ3_checkIndex_8e157, Cond.static yJ3_checkIndex_8e157, Cond.initialized RJ3, Cond.code yJ3_checkIndex_8e157 cJ3_checkIndex_8e157 3 (some .int), Cond.methodLink RJx4a65c 123 yJx4a65c_elementData_915e3, Cond.instanceMethod yJx4a65c_elementData_915e3, Cond.selects RJx4a65c yJx4a65c_elementData_915e3 yJx4a65c_elementData_915e3, Cond.code yJx4a65c_elementData_915e3 cJx4a65c_elementData_915e3 2 (some (.object "java/lang/Object")), Cond.fieldLink RJx4a65c 9 "java/util/ArrayList" "elementData" "[Ljava/lang/Object;", Cond.methodLink RX2 129 yX0_vanish, Cond.instanceMethod yX0_vanish, Cond.selects RX0 yX0_vanish yX0_vanish, Cond.initialized RX0, Cond.code yX0_vanish cX0_vanish 2 none, Cond.fieldLink RX0 35 "Delaypouch$Bundle" "custodian" "I", Cond.methodLink RX0 59 yX0_leave, Cond.instanceMethod yX0_leave, Cond.selects RX0 yX0_leave yX0_leave]
def wsL_pass_r3 : List Cond := [Cond.code yX0_leave cX0_leave 2 none, Cond.methodLink RX0 51 yX0_put, Cond.instanceMethod yX0_put, Cond.selects RX0 yX0_put yX0_put, Cond.code yX0_put cX0_put 4 none, Cond.fieldLink RX0 24 "Delaypouch$Bundle" "copiesAt" "[I", Cond.fieldLink RX0 28 "Delaypouch$Bundle" "hopsAt" "[I"]
def wsL_pass : List Cond := .codeWith yL_pass cL_pass 4 (some .int) [(0, 9, 12, 15)] :: ((wsL_pass_r1 ++ (wsL_pass_r2 ++ wsL_pass_r3)) ++ wsX20 ++ wsX00 ++ wsJx4a65c0 ++ (vx_atS RX2 59 "java/lang/IllegalArgumentException" ["java/lang/RuntimeException", "java/lang/Exception"]).filter goodWord)
def wsL_setBuffer_r1 : List Cond := [Cond.classLink RL 13 "java/lang/IndexOutOfBoundsException", Cond.classLink RL 15 "java/lang/IllegalArgumentException", Cond.classLink RL 17 "java/lang/IllegalStateException", Cond.methodLink RL 27 yX2_setBuffer, Cond.instanceMethod yX2_setBuffer, Cond.selects RX2 yX2_setBuffer yX2_setBuffer, Cond.initialized RX2, Cond.code yX2_setBuffer cX2_setBuffer 4 (some .int), Cond.classLink RX2 44 "java/lang/IndexOutOfBoundsException", Cond.initialized "java/lang/IndexOutOfBoundsException", Cond.classLink RX2 55 "java/lang/IllegalArgumentException", Cond.initialized "java/lang/IllegalArgumentException", Cond.classLink RX2 64 "java/lang/IllegalStateException", Cond.initialized "java/lang/IllegalStateException", Cond.fieldLink RX2 13 "Delaypouch" "places" "[I", Cond.methodLink RX2 40 yX2_isNode, Cond.static yX2_isNode, Cond.code yX2_isNode cX2_isNode 1 (some .boolean), Cond.methodLink RX2 51 yX2_isWithin, Cond.static yX2_isWithin, Cond.code yX2_isWithin cX2_isWithin 3 (some .boolean), Cond.methodLink RX2 137 yX2_countAt, Cond.instanceMethod yX2_countAt, Cond.selects RX2 yX2_countAt yX2_countAt]
def wsL_setBuffer_r2 : List Cond := [Cond.code yX2_countAt cX2_countAt 4 (some .int), Cond.fieldLink RX2 26 "Delaypouch" "sent" "Ljava/util/ArrayList;", Cond.classLink RX2 75 "Delaypouch$Bundle", Cond.methodLink RX2 60 yJx4a65c_size_8abf5, Cond.instanceMethod yJx4a65c_size_8abf5, Cond.selects RJx4a65c yJx4a65c_size_8abf5 yJx4a65c_size_8abf5, Cond.initialized RJx4a65c, Cond.code yJx4a65c_size_8abf5 cJx4a65c_size_8abf5 1 (some .int), Cond.fieldLink RJx4a65c 48 "java/util/ArrayList" "size" "I", Cond.methodLink RX2 122 yJx4a65c_get_915e3, Cond.instanceMethod yJx4a65c_get_915e3, Cond.selects RJx4a65c yJx4a65c_get_915e3 yJx4a65c_get_915e3, Cond.code yJx4a65c_get_915e3 cJx4a65c_get_915e3 2 (some (.object "java/lang/Object")), Cond.methodLink RJx4a65c 118 yJ15_checkIndex_7cf53, Cond.static yJ15_checkIndex_7cf53, Cond.initialized RJ15, Cond.code yJ15_checkIndex_7cf53 cJ15_checkIndex_7cf53 2 (some .int), Cond.methodLink RJ15 105 yJ3_checkIndex_8e157, Cond.static yJ3_checkIndex_8e157, Cond.initialized RJ3, Cond.code yJ3_checkIndex_8e157 cJ3_checkIndex_8e157 3 (some .int), Cond.methodLink RJx4a65c 123 yJx4a65c_elementData_915e3, Cond.instanceMethod yJx4a65c_elementData_915e3, Cond.selects RJx4a65c yJx4a65c_elementData_915e3 yJx4a65c_elementData_915e3]
def wsL_setBuffer_r3 : List Cond := [Cond.code yJx4a65c_elementData_915e3 cJx4a65c_elementData_915e3 2 (some (.object "java/lang/Object")), Cond.fieldLink RJx4a65c 9 "java/util/ArrayList" "elementData" "[Ljava/lang/Object;", Cond.methodLink RX2 160 yX0_isAt, Cond.instanceMethod yX0_isAt, Cond.selects RX0 yX0_isAt yX0_isAt, Cond.initialized RX0, Cond.code yX0_isAt cX0_isAt 2 (some .boolean), Cond.fieldLink RX0 24 "Delaypouch$Bundle" "copiesAt" "[I"]
def wsL_setBuffer : List Cond := .codeWith yL_setBuffer cL_setBuffer 5 (some .int) [(0, 10, 13, 13), (0, 10, 17, 15), (0, 10, 21, 17)] :: ((wsL_setBuffer_r1 ++ (wsL_setBuffer_r2 ++ wsL_setBuffer_r3)) ++ wsX20 ++ wsJx4a65c0 ++ wsX00 ++ (vx_atS RX2 48 "java/lang/IndexOutOfBoundsException" ["java/lang/RuntimeException", "java/lang/Exception"]).filter goodWord ++ (vx_atS RX2 59 "java/lang/IllegalArgumentException" ["java/lang/RuntimeException", "java/lang/Exception"]).filter goodWord ++ (vx_atS RX2 68 "java/lang/IllegalStateException" ["java/lang/RuntimeException", "java/lang/Exception"]).filter goodWord)
def wsL_addContact_r1 : List Cond := [Cond.classLink RL 13 "java/lang/IndexOutOfBoundsException", Cond.classLink RL 15 "java/lang/IllegalArgumentException", Cond.classLink RL 17 "java/lang/IllegalStateException", Cond.methodLink RL 31 yX2_addContact, Cond.instanceMethod yX2_addContact, Cond.selects RX2 yX2_addContact yX2_addContact, Cond.initialized RX2, Cond.code yX2_addContact cX2_addContact 5 (some .int), Cond.classLink RX2 44 "java/lang/IndexOutOfBoundsException", Cond.initialized "java/lang/IndexOutOfBoundsException", Cond.classLink RX2 55 "java/lang/IllegalArgumentException", Cond.initialized "java/lang/IllegalArgumentException", Cond.classLink RX2 64 "java/lang/IllegalStateException", Cond.initialized "java/lang/IllegalStateException", Cond.constant RX2 143 (100000), Cond.fieldLink RX2 36 "Delaypouch" "plan" "LDelaypouch$Plan;", Cond.fieldLink RX2 151 "Delaypouch$Plan" "size" "I", Cond.methodLink RX2 40 yX2_isNode, Cond.static yX2_isNode, Cond.code yX2_isNode cX2_isNode 1 (some .boolean), Cond.methodLink RX2 51 yX2_isWithin, Cond.static yX2_isWithin, Cond.code yX2_isWithin cX2_isWithin 3 (some .boolean), Cond.methodLink RX2 146 yX1_add]
def wsL_addContact_r2 : List Cond := [Cond.instanceMethod yX1_add, Cond.selects RX1 yX1_add yX1_add, Cond.initialized RX1, Cond.code yX1_add cX1_add 5 (some .boolean), Cond.fieldLink RX1 31 "Delaypouch$Plan" "size" "I", Cond.fieldLink RX1 9 "Delaypouch$Plan" "nodes" "[I", Cond.fieldLink RX1 15 "Delaypouch$Plan" "others" "[I", Cond.fieldLink RX1 18 "Delaypouch$Plan" "firsts" "[I", Cond.fieldLink RX1 21 "Delaypouch$Plan" "lasts" "[I"]
def wsL_addContact : List Cond := .codeWith yL_addContact cL_addContact 7 (some .int) [(0, 14, 17, 13), (0, 14, 21, 15), (0, 14, 25, 17)] :: ((wsL_addContact_r1 ++ wsL_addContact_r2) ++ wsX20 ++ wsX10 ++ (vx_atS RX2 48 "java/lang/IndexOutOfBoundsException" ["java/lang/RuntimeException", "java/lang/Exception"]).filter goodWord ++ (vx_atS RX2 59 "java/lang/IllegalArgumentException" ["java/lang/RuntimeException", "java/lang/Exception"]).filter goodWord ++ (vx_atS RX2 68 "java/lang/IllegalStateException" ["java/lang/RuntimeException", "java/lang/Exception"]).filter goodWord)
def wsL_endOf_r1 : List Cond := [Cond.classLink RL 13 "java/lang/IndexOutOfBoundsException", Cond.methodLink RL 35 yX2_endOf, Cond.instanceMethod yX2_endOf, Cond.selects RX2 yX2_endOf yX2_endOf, Cond.initialized RX2, Cond.code yX2_endOf cX2_endOf 2 (some .int), Cond.fieldLink RX2 126 "Delaypouch$Bundle" "end" "I", Cond.methodLink RX2 153 yX2_numbered, Cond.instanceMethod yX2_numbered, Cond.selects RX2 yX2_numbered yX2_numbered, Cond.code yX2_numbered cX2_numbered 2 (some (.object "Delaypouch$Bundle")), Cond.classLink RX2 44 "java/lang/IndexOutOfBoundsException", Cond.initialized "java/lang/IndexOutOfBoundsException", Cond.fieldLink RX2 26 "Delaypouch" "sent" "Ljava/util/ArrayList;", Cond.classLink RX2 75 "Delaypouch$Bundle", Cond.methodLink RX2 60 yJx4a65c_size_8abf5, Cond.instanceMethod yJx4a65c_size_8abf5, Cond.selects RJx4a65c yJx4a65c_size_8abf5 yJx4a65c_size_8abf5, Cond.initialized RJx4a65c, Cond.code yJx4a65c_size_8abf5 cJx4a65c_size_8abf5 1 (some .int), Cond.fieldLink RJx4a65c 48 "java/util/ArrayList" "size" "I", Cond.methodLink RX2 122 yJx4a65c_get_915e3, Cond.instanceMethod yJx4a65c_get_915e3, Cond.selects RJx4a65c yJx4a65c_get_915e3 yJx4a65c_get_915e3]
def wsL_endOf_r2 : List Cond := [Cond.code yJx4a65c_get_915e3 cJx4a65c_get_915e3 2 (some (.object "java/lang/Object")), Cond.methodLink RJx4a65c 118 yJ15_checkIndex_7cf53, Cond.static yJ15_checkIndex_7cf53, Cond.initialized RJ15, Cond.code yJ15_checkIndex_7cf53 cJ15_checkIndex_7cf53 2 (some .int), Cond.methodLink RJ15 105 yJ3_checkIndex_8e157, Cond.static yJ3_checkIndex_8e157, Cond.initialized RJ3, Cond.code yJ3_checkIndex_8e157 cJ3_checkIndex_8e157 3 (some .int), Cond.methodLink RJx4a65c 123 yJx4a65c_elementData_915e3, Cond.instanceMethod yJx4a65c_elementData_915e3, Cond.selects RJx4a65c yJx4a65c_elementData_915e3 yJx4a65c_elementData_915e3, Cond.code yJx4a65c_elementData_915e3 cJx4a65c_elementData_915e3 2 (some (.object "java/lang/Object")), Cond.fieldLink RJx4a65c 9 "java/util/ArrayList" "elementData" "[Ljava/lang/Object;"]
def wsL_endOf : List Cond := .codeWith yL_endOf cL_endOf 4 (some .int) [(0, 9, 12, 13)] :: ((wsL_endOf_r1 ++ wsL_endOf_r2) ++ wsX00 ++ wsX20 ++ wsJx4a65c0 ++ (vx_atS RX2 48 "java/lang/IndexOutOfBoundsException" ["java/lang/RuntimeException", "java/lang/Exception"]).filter goodWord)
def wsL_deliveredAt_r1 : List Cond := [Cond.classLink RL 13 "java/lang/IndexOutOfBoundsException", Cond.methodLink RL 38 yX2_deliveredAt, Cond.instanceMethod yX2_deliveredAt, Cond.selects RX2 yX2_deliveredAt yX2_deliveredAt, Cond.initialized RX2, Cond.code yX2_deliveredAt cX2_deliveredAt 2 (some .int), Cond.fieldLink RX2 132 "Delaypouch$Bundle" "deliverySecond" "I", Cond.methodLink RX2 153 yX2_numbered, Cond.instanceMethod yX2_numbered, Cond.selects RX2 yX2_numbered yX2_numbered, Cond.code yX2_numbered cX2_numbered 2 (some (.object "Delaypouch$Bundle")), Cond.classLink RX2 44 "java/lang/IndexOutOfBoundsException", Cond.initialized "java/lang/IndexOutOfBoundsException", Cond.fieldLink RX2 26 "Delaypouch" "sent" "Ljava/util/ArrayList;", Cond.classLink RX2 75 "Delaypouch$Bundle", Cond.methodLink RX2 60 yJx4a65c_size_8abf5, Cond.instanceMethod yJx4a65c_size_8abf5, Cond.selects RJx4a65c yJx4a65c_size_8abf5 yJx4a65c_size_8abf5, Cond.initialized RJx4a65c, Cond.code yJx4a65c_size_8abf5 cJx4a65c_size_8abf5 1 (some .int), Cond.fieldLink RJx4a65c 48 "java/util/ArrayList" "size" "I", Cond.methodLink RX2 122 yJx4a65c_get_915e3, Cond.instanceMethod yJx4a65c_get_915e3, Cond.selects RJx4a65c yJx4a65c_get_915e3 yJx4a65c_get_915e3]
def wsL_deliveredAt_r2 : List Cond := [Cond.code yJx4a65c_get_915e3 cJx4a65c_get_915e3 2 (some (.object "java/lang/Object")), Cond.methodLink RJx4a65c 118 yJ15_checkIndex_7cf53, Cond.static yJ15_checkIndex_7cf53, Cond.initialized RJ15, Cond.code yJ15_checkIndex_7cf53 cJ15_checkIndex_7cf53 2 (some .int), Cond.methodLink RJ15 105 yJ3_checkIndex_8e157, Cond.static yJ3_checkIndex_8e157, Cond.initialized RJ3, Cond.code yJ3_checkIndex_8e157 cJ3_checkIndex_8e157 3 (some .int), Cond.methodLink RJx4a65c 123 yJx4a65c_elementData_915e3, Cond.instanceMethod yJx4a65c_elementData_915e3, Cond.selects RJx4a65c yJx4a65c_elementData_915e3 yJx4a65c_elementData_915e3, Cond.code yJx4a65c_elementData_915e3 cJx4a65c_elementData_915e3 2 (some (.object "java/lang/Object")), Cond.fieldLink RJx4a65c 9 "java/util/ArrayList" "elementData" "[Ljava/lang/Object;"]
def wsL_deliveredAt : List Cond := .codeWith yL_deliveredAt cL_deliveredAt 4 (some .int) [(0, 9, 12, 13)] :: ((wsL_deliveredAt_r1 ++ wsL_deliveredAt_r2) ++ wsX00 ++ wsX20 ++ wsJx4a65c0 ++ (vx_atS RX2 48 "java/lang/IndexOutOfBoundsException" ["java/lang/RuntimeException", "java/lang/Exception"]).filter goodWord)
def wsL_hops_r1 : List Cond := [Cond.classLink RL 13 "java/lang/IndexOutOfBoundsException", Cond.methodLink RL 41 yX2_hops, Cond.instanceMethod yX2_hops, Cond.selects RX2 yX2_hops yX2_hops, Cond.initialized RX2, Cond.code yX2_hops cX2_hops 2 (some .int), Cond.fieldLink RX2 157 "Delaypouch$Bundle" "deliveryHops" "I", Cond.methodLink RX2 153 yX2_numbered, Cond.instanceMethod yX2_numbered, Cond.selects RX2 yX2_numbered yX2_numbered, Cond.code yX2_numbered cX2_numbered 2 (some (.object "Delaypouch$Bundle")), Cond.classLink RX2 44 "java/lang/IndexOutOfBoundsException", Cond.initialized "java/lang/IndexOutOfBoundsException", Cond.fieldLink RX2 26 "Delaypouch" "sent" "Ljava/util/ArrayList;", Cond.classLink RX2 75 "Delaypouch$Bundle", Cond.methodLink RX2 60 yJx4a65c_size_8abf5, Cond.instanceMethod yJx4a65c_size_8abf5, Cond.selects RJx4a65c yJx4a65c_size_8abf5 yJx4a65c_size_8abf5, Cond.initialized RJx4a65c, Cond.code yJx4a65c_size_8abf5 cJx4a65c_size_8abf5 1 (some .int), Cond.fieldLink RJx4a65c 48 "java/util/ArrayList" "size" "I", Cond.methodLink RX2 122 yJx4a65c_get_915e3, Cond.instanceMethod yJx4a65c_get_915e3, Cond.selects RJx4a65c yJx4a65c_get_915e3 yJx4a65c_get_915e3]
def wsL_hops_r2 : List Cond := [Cond.code yJx4a65c_get_915e3 cJx4a65c_get_915e3 2 (some (.object "java/lang/Object")), Cond.methodLink RJx4a65c 118 yJ15_checkIndex_7cf53, Cond.static yJ15_checkIndex_7cf53, Cond.initialized RJ15, Cond.code yJ15_checkIndex_7cf53 cJ15_checkIndex_7cf53 2 (some .int), Cond.methodLink RJ15 105 yJ3_checkIndex_8e157, Cond.static yJ3_checkIndex_8e157, Cond.initialized RJ3, Cond.code yJ3_checkIndex_8e157 cJ3_checkIndex_8e157 3 (some .int), Cond.methodLink RJx4a65c 123 yJx4a65c_elementData_915e3, Cond.instanceMethod yJx4a65c_elementData_915e3, Cond.selects RJx4a65c yJx4a65c_elementData_915e3 yJx4a65c_elementData_915e3, Cond.code yJx4a65c_elementData_915e3 cJx4a65c_elementData_915e3 2 (some (.object "java/lang/Object")), Cond.fieldLink RJx4a65c 9 "java/util/ArrayList" "elementData" "[Ljava/lang/Object;"]
def wsL_hops : List Cond := .codeWith yL_hops cL_hops 4 (some .int) [(0, 9, 12, 13)] :: ((wsL_hops_r1 ++ wsL_hops_r2) ++ wsX00 ++ wsX20 ++ wsJx4a65c0 ++ (vx_atS RX2 48 "java/lang/IndexOutOfBoundsException" ["java/lang/RuntimeException", "java/lang/Exception"]).filter goodWord)
def wsL_custodian_r1 : List Cond := [Cond.classLink RL 13 "java/lang/IndexOutOfBoundsException", Cond.methodLink RL 44 yX2_custodian, Cond.instanceMethod yX2_custodian, Cond.selects RX2 yX2_custodian yX2_custodian, Cond.initialized RX2, Cond.code yX2_custodian cX2_custodian 2 (some .int), Cond.fieldLink RX2 80 "Delaypouch$Bundle" "custodian" "I", Cond.methodLink RX2 153 yX2_numbered, Cond.instanceMethod yX2_numbered, Cond.selects RX2 yX2_numbered yX2_numbered, Cond.code yX2_numbered cX2_numbered 2 (some (.object "Delaypouch$Bundle")), Cond.classLink RX2 44 "java/lang/IndexOutOfBoundsException", Cond.initialized "java/lang/IndexOutOfBoundsException", Cond.fieldLink RX2 26 "Delaypouch" "sent" "Ljava/util/ArrayList;", Cond.classLink RX2 75 "Delaypouch$Bundle", Cond.methodLink RX2 60 yJx4a65c_size_8abf5, Cond.instanceMethod yJx4a65c_size_8abf5, Cond.selects RJx4a65c yJx4a65c_size_8abf5 yJx4a65c_size_8abf5, Cond.initialized RJx4a65c, Cond.code yJx4a65c_size_8abf5 cJx4a65c_size_8abf5 1 (some .int), Cond.fieldLink RJx4a65c 48 "java/util/ArrayList" "size" "I", Cond.methodLink RX2 122 yJx4a65c_get_915e3, Cond.instanceMethod yJx4a65c_get_915e3, Cond.selects RJx4a65c yJx4a65c_get_915e3 yJx4a65c_get_915e3]
def wsL_custodian_r2 : List Cond := [Cond.code yJx4a65c_get_915e3 cJx4a65c_get_915e3 2 (some (.object "java/lang/Object")), Cond.methodLink RJx4a65c 118 yJ15_checkIndex_7cf53, Cond.static yJ15_checkIndex_7cf53, Cond.initialized RJ15, Cond.code yJ15_checkIndex_7cf53 cJ15_checkIndex_7cf53 2 (some .int), Cond.methodLink RJ15 105 yJ3_checkIndex_8e157, Cond.static yJ3_checkIndex_8e157, Cond.initialized RJ3, Cond.code yJ3_checkIndex_8e157 cJ3_checkIndex_8e157 3 (some .int), Cond.methodLink RJx4a65c 123 yJx4a65c_elementData_915e3, Cond.instanceMethod yJx4a65c_elementData_915e3, Cond.selects RJx4a65c yJx4a65c_elementData_915e3 yJx4a65c_elementData_915e3, Cond.code yJx4a65c_elementData_915e3 cJx4a65c_elementData_915e3 2 (some (.object "java/lang/Object")), Cond.fieldLink RJx4a65c 9 "java/util/ArrayList" "elementData" "[Ljava/lang/Object;"]
def wsL_custodian : List Cond := .codeWith yL_custodian cL_custodian 4 (some .int) [(0, 9, 12, 13)] :: ((wsL_custodian_r1 ++ wsL_custodian_r2) ++ wsX00 ++ wsX20 ++ wsJx4a65c0 ++ (vx_atS RX2 48 "java/lang/IndexOutOfBoundsException" ["java/lang/RuntimeException", "java/lang/Exception"]).filter goodWord)
def wsL_holders_r1 : List Cond := [Cond.classLink RL 13 "java/lang/IndexOutOfBoundsException", Cond.methodLink RL 47 yX2_holders, Cond.instanceMethod yX2_holders, Cond.selects RX2 yX2_holders yX2_holders, Cond.initialized RX2, Cond.code yX2_holders cX2_holders 5 (some .int), Cond.methodLink RX2 153 yX2_numbered, Cond.instanceMethod yX2_numbered, Cond.selects RX2 yX2_numbered yX2_numbered, Cond.code yX2_numbered cX2_numbered 2 (some (.object "Delaypouch$Bundle")), Cond.classLink RX2 44 "java/lang/IndexOutOfBoundsException", Cond.initialized "java/lang/IndexOutOfBoundsException", Cond.fieldLink RX2 26 "Delaypouch" "sent" "Ljava/util/ArrayList;", Cond.classLink RX2 75 "Delaypouch$Bundle", Cond.methodLink RX2 60 yJx4a65c_size_8abf5, Cond.instanceMethod yJx4a65c_size_8abf5, Cond.selects RJx4a65c yJx4a65c_size_8abf5 yJx4a65c_size_8abf5, Cond.initialized RJx4a65c, Cond.code yJx4a65c_size_8abf5 cJx4a65c_size_8abf5 1 (some .int), Cond.fieldLink RJx4a65c 48 "java/util/ArrayList" "size" "I", Cond.methodLink RX2 122 yJx4a65c_get_915e3, Cond.instanceMethod yJx4a65c_get_915e3, Cond.selects RJx4a65c yJx4a65c_get_915e3 yJx4a65c_get_915e3, Cond.code yJx4a65c_get_915e3 cJx4a65c_get_915e3 2 (some (.object "java/lang/Object"))]
def wsL_holders_r2 : List Cond := [Cond.methodLink RJx4a65c 118 yJ15_checkIndex_7cf53, Cond.static yJ15_checkIndex_7cf53, Cond.initialized RJ15, Cond.code yJ15_checkIndex_7cf53 cJ15_checkIndex_7cf53 2 (some .int), Cond.methodLink RJ15 105 yJ3_checkIndex_8e157, Cond.static yJ3_checkIndex_8e157, Cond.initialized RJ3, Cond.code yJ3_checkIndex_8e157 cJ3_checkIndex_8e157 3 (some .int), Cond.methodLink RJx4a65c 123 yJx4a65c_elementData_915e3, Cond.instanceMethod yJx4a65c_elementData_915e3, Cond.selects RJx4a65c yJx4a65c_elementData_915e3 yJx4a65c_elementData_915e3, Cond.code yJx4a65c_elementData_915e3 cJx4a65c_elementData_915e3 2 (some (.object "java/lang/Object")), Cond.fieldLink RJx4a65c 9 "java/util/ArrayList" "elementData" "[Ljava/lang/Object;", Cond.methodLink RX2 160 yX0_isAt, Cond.instanceMethod yX0_isAt, Cond.selects RX0 yX0_isAt yX0_isAt, Cond.initialized RX0, Cond.code yX0_isAt cX0_isAt 2 (some .boolean), Cond.fieldLink RX0 24 "Delaypouch$Bundle" "copiesAt" "[I"]
def wsL_holders : List Cond := .codeWith yL_holders cL_holders 4 (some .int) [(0, 9, 12, 13)] :: ((wsL_holders_r1 ++ wsL_holders_r2) ++ wsX20 ++ wsJx4a65c0 ++ wsX00 ++ (vx_atS RX2 48 "java/lang/IndexOutOfBoundsException" ["java/lang/RuntimeException", "java/lang/Exception"]).filter goodWord)
def wsL_copies_r1 : List Cond := [Cond.classLink RL 13 "java/lang/IndexOutOfBoundsException", Cond.methodLink RL 50 yX2_copies, Cond.instanceMethod yX2_copies, Cond.selects RX2 yX2_copies yX2_copies, Cond.initialized RX2, Cond.code yX2_copies cX2_copies 3 (some .int), Cond.fieldLink RX2 167 "Delaypouch$Bundle" "copiesAt" "[I", Cond.methodLink RX2 163 yX2_checkNode, Cond.static yX2_checkNode, Cond.code yX2_checkNode cX2_checkNode 1 none, Cond.classLink RX2 44 "java/lang/IndexOutOfBoundsException", Cond.initialized "java/lang/IndexOutOfBoundsException", Cond.methodLink RX2 40 yX2_isNode, Cond.static yX2_isNode, Cond.code yX2_isNode cX2_isNode 1 (some .boolean), Cond.methodLink RX2 51 yX2_isWithin, Cond.static yX2_isWithin, Cond.code yX2_isWithin cX2_isWithin 3 (some .boolean), Cond.methodLink RX2 153 yX2_numbered, Cond.instanceMethod yX2_numbered, Cond.selects RX2 yX2_numbered yX2_numbered, Cond.code yX2_numbered cX2_numbered 2 (some (.object "Delaypouch$Bundle")), Cond.fieldLink RX2 26 "Delaypouch" "sent" "Ljava/util/ArrayList;", Cond.classLink RX2 75 "Delaypouch$Bundle"]
def wsL_copies_r2 : List Cond := [Cond.methodLink RX2 60 yJx4a65c_size_8abf5, Cond.instanceMethod yJx4a65c_size_8abf5, Cond.selects RJx4a65c yJx4a65c_size_8abf5 yJx4a65c_size_8abf5, Cond.initialized RJx4a65c, Cond.code yJx4a65c_size_8abf5 cJx4a65c_size_8abf5 1 (some .int), Cond.fieldLink RJx4a65c 48 "java/util/ArrayList" "size" "I", Cond.methodLink RX2 122 yJx4a65c_get_915e3, Cond.instanceMethod yJx4a65c_get_915e3, Cond.selects RJx4a65c yJx4a65c_get_915e3 yJx4a65c_get_915e3, Cond.code yJx4a65c_get_915e3 cJx4a65c_get_915e3 2 (some (.object "java/lang/Object")), Cond.methodLink RJx4a65c 118 yJ15_checkIndex_7cf53, Cond.static yJ15_checkIndex_7cf53, Cond.initialized RJ15, Cond.code yJ15_checkIndex_7cf53 cJ15_checkIndex_7cf53 2 (some .int), Cond.methodLink RJ15 105 yJ3_checkIndex_8e157, Cond.static yJ3_checkIndex_8e157, Cond.initialized RJ3, Cond.code yJ3_checkIndex_8e157 cJ3_checkIndex_8e157 3 (some .int), Cond.methodLink RJx4a65c 123 yJx4a65c_elementData_915e3, Cond.instanceMethod yJx4a65c_elementData_915e3, Cond.selects RJx4a65c yJx4a65c_elementData_915e3 yJx4a65c_elementData_915e3, Cond.code yJx4a65c_elementData_915e3 cJx4a65c_elementData_915e3 2 (some (.object "java/lang/Object")), Cond.fieldLink RJx4a65c 9 "java/util/ArrayList" "elementData" "[Ljava/lang/Object;"]
def wsL_copies : List Cond := .codeWith yL_copies cL_copies 5 (some .int) [(0, 10, 13, 13)] :: ((wsL_copies_r1 ++ wsL_copies_r2) ++ wsX00 ++ wsX20 ++ wsJx4a65c0 ++ (vx_atS RX2 48 "java/lang/IndexOutOfBoundsException" ["java/lang/RuntimeException", "java/lang/Exception"]).filter goodWord)
def wsL_knows_r1 : List Cond := [Cond.classLink RL 13 "java/lang/IndexOutOfBoundsException", Cond.methodLink RL 53 yX2_knows, Cond.instanceMethod yX2_knows, Cond.selects RX2 yX2_knows yX2_knows, Cond.initialized RX2, Cond.code yX2_knows cX2_knows 3 (some .boolean), Cond.fieldLink RX2 170 "Delaypouch$Bundle" "knownAt" "[Z", Cond.methodLink RX2 163 yX2_checkNode, Cond.static yX2_checkNode, Cond.code yX2_checkNode cX2_checkNode 1 none, Cond.classLink RX2 44 "java/lang/IndexOutOfBoundsException", Cond.initialized "java/lang/IndexOutOfBoundsException", Cond.methodLink RX2 40 yX2_isNode, Cond.static yX2_isNode, Cond.code yX2_isNode cX2_isNode 1 (some .boolean), Cond.methodLink RX2 51 yX2_isWithin, Cond.static yX2_isWithin, Cond.code yX2_isWithin cX2_isWithin 3 (some .boolean), Cond.methodLink RX2 153 yX2_numbered, Cond.instanceMethod yX2_numbered, Cond.selects RX2 yX2_numbered yX2_numbered, Cond.code yX2_numbered cX2_numbered 2 (some (.object "Delaypouch$Bundle")), Cond.fieldLink RX2 26 "Delaypouch" "sent" "Ljava/util/ArrayList;", Cond.classLink RX2 75 "Delaypouch$Bundle"]
def wsL_knows_r2 : List Cond := [Cond.methodLink RX2 60 yJx4a65c_size_8abf5, Cond.instanceMethod yJx4a65c_size_8abf5, Cond.selects RJx4a65c yJx4a65c_size_8abf5 yJx4a65c_size_8abf5, Cond.initialized RJx4a65c, Cond.code yJx4a65c_size_8abf5 cJx4a65c_size_8abf5 1 (some .int), Cond.fieldLink RJx4a65c 48 "java/util/ArrayList" "size" "I", Cond.methodLink RX2 122 yJx4a65c_get_915e3, Cond.instanceMethod yJx4a65c_get_915e3, Cond.selects RJx4a65c yJx4a65c_get_915e3 yJx4a65c_get_915e3, Cond.code yJx4a65c_get_915e3 cJx4a65c_get_915e3 2 (some (.object "java/lang/Object")), Cond.methodLink RJx4a65c 118 yJ15_checkIndex_7cf53, Cond.static yJ15_checkIndex_7cf53, Cond.initialized RJ15, Cond.code yJ15_checkIndex_7cf53 cJ15_checkIndex_7cf53 2 (some .int), Cond.methodLink RJ15 105 yJ3_checkIndex_8e157, Cond.static yJ3_checkIndex_8e157, Cond.initialized RJ3, Cond.code yJ3_checkIndex_8e157 cJ3_checkIndex_8e157 3 (some .int), Cond.methodLink RJx4a65c 123 yJx4a65c_elementData_915e3, Cond.instanceMethod yJx4a65c_elementData_915e3, Cond.selects RJx4a65c yJx4a65c_elementData_915e3 yJx4a65c_elementData_915e3, Cond.code yJx4a65c_elementData_915e3 cJx4a65c_elementData_915e3 2 (some (.object "java/lang/Object")), Cond.fieldLink RJx4a65c 9 "java/util/ArrayList" "elementData" "[Ljava/lang/Object;"]
def wsL_knows : List Cond := .codeWith yL_knows cL_knows 5 (some .int) [(0, 17, 20, 13)] :: ((wsL_knows_r1 ++ wsL_knows_r2) ++ wsX00 ++ wsX20 ++ wsJx4a65c0 ++ (vx_atS RX2 48 "java/lang/IndexOutOfBoundsException" ["java/lang/RuntimeException", "java/lang/Exception"]).filter goodWord)
def wsL_held_r1 : List Cond := [Cond.classLink RL 13 "java/lang/IndexOutOfBoundsException", Cond.methodLink RL 57 yX2_held, Cond.instanceMethod yX2_held, Cond.selects RX2 yX2_held yX2_held, Cond.initialized RX2, Cond.code yX2_held cX2_held 2 (some .int), Cond.methodLink RX2 163 yX2_checkNode, Cond.static yX2_checkNode, Cond.code yX2_checkNode cX2_checkNode 1 none, Cond.classLink RX2 44 "java/lang/IndexOutOfBoundsException", Cond.initialized "java/lang/IndexOutOfBoundsException", Cond.methodLink RX2 40 yX2_isNode, Cond.static yX2_isNode, Cond.code yX2_isNode cX2_isNode 1 (some .boolean), Cond.methodLink RX2 51 yX2_isWithin, Cond.static yX2_isWithin, Cond.code yX2_isWithin cX2_isWithin 3 (some .boolean), Cond.methodLink RX2 137 yX2_countAt, Cond.instanceMethod yX2_countAt, Cond.selects RX2 yX2_countAt yX2_countAt, Cond.code yX2_countAt cX2_countAt 4 (some .int), Cond.fieldLink RX2 26 "Delaypouch" "sent" "Ljava/util/ArrayList;", Cond.classLink RX2 75 "Delaypouch$Bundle", Cond.methodLink RX2 60 yJx4a65c_size_8abf5]
def wsL_held_r2 : List Cond := [Cond.instanceMethod yJx4a65c_size_8abf5, Cond.selects RJx4a65c yJx4a65c_size_8abf5 yJx4a65c_size_8abf5, Cond.initialized RJx4a65c, Cond.code yJx4a65c_size_8abf5 cJx4a65c_size_8abf5 1 (some .int), Cond.fieldLink RJx4a65c 48 "java/util/ArrayList" "size" "I", Cond.methodLink RX2 122 yJx4a65c_get_915e3, Cond.instanceMethod yJx4a65c_get_915e3, Cond.selects RJx4a65c yJx4a65c_get_915e3 yJx4a65c_get_915e3, Cond.code yJx4a65c_get_915e3 cJx4a65c_get_915e3 2 (some (.object "java/lang/Object")), Cond.methodLink RJx4a65c 118 yJ15_checkIndex_7cf53, Cond.static yJ15_checkIndex_7cf53, Cond.initialized RJ15, Cond.code yJ15_checkIndex_7cf53 cJ15_checkIndex_7cf53 2 (some .int), Cond.methodLink RJ15 105 yJ3_checkIndex_8e157, Cond.static yJ3_checkIndex_8e157, Cond.initialized RJ3, Cond.code yJ3_checkIndex_8e157 cJ3_checkIndex_8e157 3 (some .int), Cond.methodLink RJx4a65c 123 yJx4a65c_elementData_915e3, Cond.instanceMethod yJx4a65c_elementData_915e3, Cond.selects RJx4a65c yJx4a65c_elementData_915e3 yJx4a65c_elementData_915e3, Cond.code yJx4a65c_elementData_915e3 cJx4a65c_elementData_915e3 2 (some (.object "java/lang/Object")), Cond.fieldLink RJx4a65c 9 "java/util/ArrayList" "elementData" "[Ljava/lang/Object;", Cond.methodLink RX2 160 yX0_isAt, Cond.instanceMethod yX0_isAt]
def wsL_held_r3 : List Cond := [Cond.selects RX0 yX0_isAt yX0_isAt, Cond.initialized RX0, Cond.code yX0_isAt cX0_isAt 2 (some .boolean), Cond.fieldLink RX0 24 "Delaypouch$Bundle" "copiesAt" "[I"]
def wsL_held : List Cond := .codeWith yL_held cL_held 4 (some .int) [(0, 9, 12, 13)] :: ((wsL_held_r1 ++ (wsL_held_r2 ++ wsL_held_r3)) ++ wsX20 ++ wsJx4a65c0 ++ wsX00 ++ (vx_atS RX2 48 "java/lang/IndexOutOfBoundsException" ["java/lang/RuntimeException", "java/lang/Exception"]).filter goodWord)
def wsL_heldAt_r1 : List Cond := [Cond.classLink RL 13 "java/lang/IndexOutOfBoundsException", Cond.methodLink RL 60 yX2_heldAt, Cond.instanceMethod yX2_heldAt, Cond.selects RX2 yX2_heldAt yX2_heldAt, Cond.initialized RX2, Cond.code yX2_heldAt cX2_heldAt 6 (some .int), Cond.classLink RX2 44 "java/lang/IndexOutOfBoundsException", Cond.initialized "java/lang/IndexOutOfBoundsException", Cond.fieldLink RX2 30 "Delaypouch" "ordered" "Ljava/util/ArrayList;", Cond.classLink RX2 75 "Delaypouch$Bundle", Cond.fieldLink RX2 98 "Delaypouch$Bundle" "number" "I", Cond.methodLink RX2 163 yX2_checkNode, Cond.static yX2_checkNode, Cond.code yX2_checkNode cX2_checkNode 1 none, Cond.methodLink RX2 40 yX2_isNode, Cond.static yX2_isNode, Cond.code yX2_isNode cX2_isNode 1 (some .boolean), Cond.methodLink RX2 51 yX2_isWithin, Cond.static yX2_isWithin, Cond.code yX2_isWithin cX2_isWithin 3 (some .boolean), Cond.methodLink RX2 60 yJx4a65c_size_8abf5, Cond.instanceMethod yJx4a65c_size_8abf5, Cond.selects RJx4a65c yJx4a65c_size_8abf5 yJx4a65c_size_8abf5, Cond.initialized RJx4a65c]
def wsL_heldAt_r2 : List Cond := [Cond.code yJx4a65c_size_8abf5 cJx4a65c_size_8abf5 1 (some .int), Cond.fieldLink RJx4a65c 48 "java/util/ArrayList" "size" "I", Cond.methodLink RX2 122 yJx4a65c_get_915e3, Cond.instanceMethod yJx4a65c_get_915e3, Cond.selects RJx4a65c yJx4a65c_get_915e3 yJx4a65c_get_915e3, Cond.code yJx4a65c_get_915e3 cJx4a65c_get_915e3 2 (some (.object "java/lang/Object")), Cond.methodLink RJx4a65c 118 yJ15_checkIndex_7cf53, Cond.static yJ15_checkIndex_7cf53, Cond.initialized RJ15, Cond.code yJ15_checkIndex_7cf53 cJ15_checkIndex_7cf53 2 (some .int), Cond.methodLink RJ15 105 yJ3_checkIndex_8e157, Cond.static yJ3_checkIndex_8e157, Cond.initialized RJ3, Cond.code yJ3_checkIndex_8e157 cJ3_checkIndex_8e157 3 (some .int), Cond.methodLink RJx4a65c 123 yJx4a65c_elementData_915e3, Cond.instanceMethod yJx4a65c_elementData_915e3, Cond.selects RJx4a65c yJx4a65c_elementData_915e3 yJx4a65c_elementData_915e3, Cond.code yJx4a65c_elementData_915e3 cJx4a65c_elementData_915e3 2 (some (.object "java/lang/Object")), Cond.fieldLink RJx4a65c 9 "java/util/ArrayList" "elementData" "[Ljava/lang/Object;", Cond.methodLink RX2 160 yX0_isAt, Cond.instanceMethod yX0_isAt, Cond.selects RX0 yX0_isAt yX0_isAt, Cond.initialized RX0, Cond.code yX0_isAt cX0_isAt 2 (some .boolean)]
def wsL_heldAt_r3 : List Cond := [Cond.fieldLink RX0 24 "Delaypouch$Bundle" "copiesAt" "[I"]
def wsL_heldAt : List Cond := .codeWith yL_heldAt cL_heldAt 5 (some .int) [(0, 10, 13, 13)] :: ((wsL_heldAt_r1 ++ (wsL_heldAt_r2 ++ wsL_heldAt_r3)) ++ wsX20 ++ wsX00 ++ wsJx4a65c0 ++ (vx_atS RX2 48 "java/lang/IndexOutOfBoundsException" ["java/lang/RuntimeException", "java/lang/Exception"]).filter goodWord)
def wsL_dropped : List Cond := .codeWith yL_dropped cL_dropped 4 (some .int) [(0, 9, 12, 13)] :: ([.classLink RL 13 "java/lang/IndexOutOfBoundsException", .methodLink RL 63 yX2_dropped, .instanceMethod yX2_dropped, .selects RX2 yX2_dropped yX2_dropped, .initialized RX2, .code yX2_dropped cX2_dropped 2 (some .int), .fieldLink RX2 17 "Delaypouch" "drops" "[I", .methodLink RX2 163 yX2_checkNode, .static yX2_checkNode, .code yX2_checkNode cX2_checkNode 1 none, .classLink RX2 44 "java/lang/IndexOutOfBoundsException", .initialized "java/lang/IndexOutOfBoundsException", .methodLink RX2 40 yX2_isNode, .static yX2_isNode, .code yX2_isNode cX2_isNode 1 (some .boolean), .methodLink RX2 51 yX2_isWithin, .static yX2_isWithin, .code yX2_isWithin cX2_isWithin 3 (some .boolean)] ++ wsX20 ++ (vx_atS RX2 48 "java/lang/IndexOutOfBoundsException" ["java/lang/RuntimeException", "java/lang/Exception"]).filter goodWord)
def wsL_refused : List Cond := .codeWith yL_refused cL_refused 4 (some .int) [(0, 9, 12, 13)] :: ([.classLink RL 13 "java/lang/IndexOutOfBoundsException", .methodLink RL 66 yX2_refused, .instanceMethod yX2_refused, .selects RX2 yX2_refused yX2_refused, .initialized RX2, .code yX2_refused cX2_refused 2 (some .int), .fieldLink RX2 20 "Delaypouch" "refusals" "[I", .methodLink RX2 163 yX2_checkNode, .static yX2_checkNode, .code yX2_checkNode cX2_checkNode 1 none, .classLink RX2 44 "java/lang/IndexOutOfBoundsException", .initialized "java/lang/IndexOutOfBoundsException", .methodLink RX2 40 yX2_isNode, .static yX2_isNode, .code yX2_isNode cX2_isNode 1 (some .boolean), .methodLink RX2 51 yX2_isWithin, .static yX2_isWithin, .code yX2_isWithin cX2_isWithin 3 (some .boolean)] ++ wsX20 ++ (vx_atS RX2 48 "java/lang/IndexOutOfBoundsException" ["java/lang/RuntimeException", "java/lang/Exception"]).filter goodWord)
def wsL_arrival_r1 : List Cond := [Cond.classLink RL 13 "java/lang/IndexOutOfBoundsException", Cond.methodLink RL 69 yX2_arrival, Cond.instanceMethod yX2_arrival, Cond.selects RX2 yX2_arrival yX2_arrival, Cond.initialized RX2, Cond.code yX2_arrival cX2_arrival 3 (some .int), Cond.fieldLink RX2 36 "Delaypouch" "plan" "LDelaypouch$Plan;", Cond.fieldLink RX2 7 "Delaypouch" "now" "I", Cond.methodLink RX2 163 yX2_checkNode, Cond.static yX2_checkNode, Cond.code yX2_checkNode cX2_checkNode 1 none, Cond.classLink RX2 44 "java/lang/IndexOutOfBoundsException", Cond.initialized "java/lang/IndexOutOfBoundsException", Cond.methodLink RX2 40 yX2_isNode, Cond.static yX2_isNode, Cond.code yX2_isNode cX2_isNode 1 (some .boolean), Cond.methodLink RX2 51 yX2_isWithin, Cond.static yX2_isWithin, Cond.code yX2_isWithin cX2_isWithin 3 (some .boolean), Cond.methodLink RX2 176 yX1_arrivalByNodes, Cond.instanceMethod yX1_arrivalByNodes, Cond.selects RX1 yX1_arrivalByNodes yX1_arrivalByNodes, Cond.initialized RX1, Cond.code yX1_arrivalByNodes cX1_arrivalByNodes 6 (some .int)]
def wsL_arrival_r2 : List Cond := [Cond.fieldLink RX1 27 "Delaypouch$Plan" "settled" "[Z", Cond.fieldLink RX1 24 "Delaypouch$Plan" "reached" "[I", Cond.methodLink RX1 35 yX1_start, Cond.instanceMethod yX1_start, Cond.selects RX1 yX1_start yX1_start, Cond.code yX1_start cX1_start 4 none, Cond.constant RX1 51 (2147483647), Cond.methodLink RX1 39 yX1_nearestUnsettled, Cond.instanceMethod yX1_nearestUnsettled, Cond.selects RX1 yX1_nearestUnsettled yX1_nearestUnsettled, Cond.code yX1_nearestUnsettled cX1_nearestUnsettled 4 (some .int), Cond.methodLink RX1 43 yX1_spread, Cond.instanceMethod yX1_spread, Cond.selects RX1 yX1_spread yX1_spread, Cond.code yX1_spread cX1_spread 3 none, Cond.fieldLink RX1 31 "Delaypouch$Plan" "size" "I", Cond.fieldLink RX1 9 "Delaypouch$Plan" "nodes" "[I", Cond.fieldLink RX1 15 "Delaypouch$Plan" "others" "[I", Cond.methodLink RX1 47 yX1_carry, Cond.instanceMethod yX1_carry, Cond.selects RX1 yX1_carry yX1_carry, Cond.code yX1_carry cX1_carry 5 (some .boolean), Cond.fieldLink RX1 21 "Delaypouch$Plan" "lasts" "[I", Cond.fieldLink RX1 18 "Delaypouch$Plan" "firsts" "[I"]
def wsL_arrival_r3 : List Cond := [Cond.methodLink RX1 52 Lib.Math.max.name, Cond.static Lib.Math.max.name, Cond.initialized "java/lang/Math", Cond.code Lib.Math.max.name Lib.Math.max.code 2 (some .int), Cond.methodLink RX2 179 yX2_secondOrNone, Cond.static yX2_secondOrNone, Cond.code yX2_secondOrNone cX2_secondOrNone 1 (some .int), Cond.constant RX2 185 (2147483647)]
def wsL_arrival : List Cond := .codeWith yL_arrival cL_arrival 5 (some .int) [(0, 10, 13, 13)] :: ((wsL_arrival_r1 ++ (wsL_arrival_r2 ++ wsL_arrival_r3)) ++ wsX20 ++ wsX10 ++ (vx_atS RX2 48 "java/lang/IndexOutOfBoundsException" ["java/lang/RuntimeException", "java/lang/Exception"]).filter goodWord)
def wsL_arrivalByRounds_r1 : List Cond := [Cond.classLink RL 13 "java/lang/IndexOutOfBoundsException", Cond.methodLink RL 72 yX2_arrivalByRounds, Cond.instanceMethod yX2_arrivalByRounds, Cond.selects RX2 yX2_arrivalByRounds yX2_arrivalByRounds, Cond.initialized RX2, Cond.code yX2_arrivalByRounds cX2_arrivalByRounds 3 (some .int), Cond.fieldLink RX2 36 "Delaypouch" "plan" "LDelaypouch$Plan;", Cond.fieldLink RX2 7 "Delaypouch" "now" "I", Cond.methodLink RX2 163 yX2_checkNode, Cond.static yX2_checkNode, Cond.code yX2_checkNode cX2_checkNode 1 none, Cond.classLink RX2 44 "java/lang/IndexOutOfBoundsException", Cond.initialized "java/lang/IndexOutOfBoundsException", Cond.methodLink RX2 40 yX2_isNode, Cond.static yX2_isNode, Cond.code yX2_isNode cX2_isNode 1 (some .boolean), Cond.methodLink RX2 51 yX2_isWithin, Cond.static yX2_isWithin, Cond.code yX2_isWithin cX2_isWithin 3 (some .boolean), Cond.methodLink RX2 182 yX1_arrivalByContacts, Cond.instanceMethod yX1_arrivalByContacts, Cond.selects RX1 yX1_arrivalByContacts yX1_arrivalByContacts, Cond.initialized RX1, Cond.code yX1_arrivalByContacts cX1_arrivalByContacts 7 (some .int)]
def wsL_arrivalByRounds_r2 : List Cond := [Cond.fieldLink RX1 31 "Delaypouch$Plan" "size" "I", Cond.fieldLink RX1 9 "Delaypouch$Plan" "nodes" "[I", Cond.fieldLink RX1 15 "Delaypouch$Plan" "others" "[I", Cond.fieldLink RX1 24 "Delaypouch$Plan" "reached" "[I", Cond.methodLink RX1 35 yX1_start, Cond.instanceMethod yX1_start, Cond.selects RX1 yX1_start yX1_start, Cond.code yX1_start cX1_start 4 none, Cond.constant RX1 51 (2147483647), Cond.fieldLink RX1 27 "Delaypouch$Plan" "settled" "[Z", Cond.methodLink RX1 47 yX1_carry, Cond.instanceMethod yX1_carry, Cond.selects RX1 yX1_carry yX1_carry, Cond.code yX1_carry cX1_carry 5 (some .boolean), Cond.fieldLink RX1 21 "Delaypouch$Plan" "lasts" "[I", Cond.fieldLink RX1 18 "Delaypouch$Plan" "firsts" "[I", Cond.methodLink RX1 52 Lib.Math.max.name, Cond.static Lib.Math.max.name, Cond.initialized "java/lang/Math", Cond.code Lib.Math.max.name Lib.Math.max.code 2 (some .int), Cond.methodLink RX2 179 yX2_secondOrNone, Cond.static yX2_secondOrNone, Cond.code yX2_secondOrNone cX2_secondOrNone 1 (some .int), Cond.constant RX2 185 (2147483647)]
def wsL_arrivalByRounds : List Cond := .codeWith yL_arrivalByRounds cL_arrivalByRounds 5 (some .int) [(0, 10, 13, 13)] :: ((wsL_arrivalByRounds_r1 ++ wsL_arrivalByRounds_r2) ++ wsX20 ++ wsX10 ++ (vx_atS RX2 48 "java/lang/IndexOutOfBoundsException" ["java/lang/RuntimeException", "java/lang/Exception"]).filter goodWord)
def wsL_promised_r1 : List Cond := [Cond.classLink RL 13 "java/lang/IndexOutOfBoundsException", Cond.methodLink RL 75 yX2_promised, Cond.instanceMethod yX2_promised, Cond.selects RX2 yX2_promised yX2_promised, Cond.initialized RX2, Cond.code yX2_promised cX2_promised 5 (some .int), Cond.constant RX2 185 (2147483647), Cond.fieldLink RX2 36 "Delaypouch" "plan" "LDelaypouch$Plan;", Cond.fieldLink RX2 186 "Delaypouch$Bundle" "destination" "I", Cond.fieldLink RX2 7 "Delaypouch" "now" "I", Cond.methodLink RX2 189 Lib.Math.min.name, Cond.static Lib.Math.min.name, Cond.initialized "java/lang/Math", Cond.code Lib.Math.min.name Lib.Math.min.code 2 (some .int), Cond.fieldLink RX2 126 "Delaypouch$Bundle" "end" "I", Cond.methodLink RX2 153 yX2_numbered, Cond.instanceMethod yX2_numbered, Cond.selects RX2 yX2_numbered yX2_numbered, Cond.code yX2_numbered cX2_numbered 2 (some (.object "Delaypouch$Bundle")), Cond.classLink RX2 44 "java/lang/IndexOutOfBoundsException", Cond.initialized "java/lang/IndexOutOfBoundsException", Cond.fieldLink RX2 26 "Delaypouch" "sent" "Ljava/util/ArrayList;", Cond.classLink RX2 75 "Delaypouch$Bundle", Cond.methodLink RX2 60 yJx4a65c_size_8abf5]
def wsL_promised_r2 : List Cond := [Cond.instanceMethod yJx4a65c_size_8abf5, Cond.selects RJx4a65c yJx4a65c_size_8abf5 yJx4a65c_size_8abf5, Cond.initialized RJx4a65c, Cond.code yJx4a65c_size_8abf5 cJx4a65c_size_8abf5 1 (some .int), Cond.fieldLink RJx4a65c 48 "java/util/ArrayList" "size" "I", Cond.methodLink RX2 122 yJx4a65c_get_915e3, Cond.instanceMethod yJx4a65c_get_915e3, Cond.selects RJx4a65c yJx4a65c_get_915e3 yJx4a65c_get_915e3, Cond.code yJx4a65c_get_915e3 cJx4a65c_get_915e3 2 (some (.object "java/lang/Object")), Cond.methodLink RJx4a65c 118 yJ15_checkIndex_7cf53, Cond.static yJ15_checkIndex_7cf53, Cond.initialized RJ15, Cond.code yJ15_checkIndex_7cf53 cJ15_checkIndex_7cf53 2 (some .int), Cond.methodLink RJ15 105 yJ3_checkIndex_8e157, Cond.static yJ3_checkIndex_8e157, Cond.initialized RJ3, Cond.code yJ3_checkIndex_8e157 cJ3_checkIndex_8e157 3 (some .int), Cond.methodLink RJx4a65c 123 yJx4a65c_elementData_915e3, Cond.instanceMethod yJx4a65c_elementData_915e3, Cond.selects RJx4a65c yJx4a65c_elementData_915e3 yJx4a65c_elementData_915e3, Cond.code yJx4a65c_elementData_915e3 cJx4a65c_elementData_915e3 2 (some (.object "java/lang/Object")), Cond.fieldLink RJx4a65c 9 "java/util/ArrayList" "elementData" "[Ljava/lang/Object;", Cond.methodLink RX2 160 yX0_isAt, Cond.instanceMethod yX0_isAt]
def wsL_promised_r3 : List Cond := [Cond.selects RX0 yX0_isAt yX0_isAt, Cond.initialized RX0, Cond.code yX0_isAt cX0_isAt 2 (some .boolean), Cond.fieldLink RX0 24 "Delaypouch$Bundle" "copiesAt" "[I", Cond.methodLink RX2 176 yX1_arrivalByNodes, Cond.instanceMethod yX1_arrivalByNodes, Cond.selects RX1 yX1_arrivalByNodes yX1_arrivalByNodes, Cond.initialized RX1, Cond.code yX1_arrivalByNodes cX1_arrivalByNodes 6 (some .int), Cond.fieldLink RX1 27 "Delaypouch$Plan" "settled" "[Z", Cond.fieldLink RX1 24 "Delaypouch$Plan" "reached" "[I", Cond.methodLink RX1 35 yX1_start, Cond.instanceMethod yX1_start, Cond.selects RX1 yX1_start yX1_start, Cond.code yX1_start cX1_start 4 none, Cond.constant RX1 51 (2147483647), Cond.methodLink RX1 39 yX1_nearestUnsettled, Cond.instanceMethod yX1_nearestUnsettled, Cond.selects RX1 yX1_nearestUnsettled yX1_nearestUnsettled, Cond.code yX1_nearestUnsettled cX1_nearestUnsettled 4 (some .int), Cond.methodLink RX1 43 yX1_spread, Cond.instanceMethod yX1_spread, Cond.selects RX1 yX1_spread yX1_spread, Cond.code yX1_spread cX1_spread 3 none]
def wsL_promised_r4 : List Cond := [Cond.fieldLink RX1 31 "Delaypouch$Plan" "size" "I", Cond.fieldLink RX1 9 "Delaypouch$Plan" "nodes" "[I", Cond.fieldLink RX1 15 "Delaypouch$Plan" "others" "[I", Cond.methodLink RX1 47 yX1_carry, Cond.instanceMethod yX1_carry, Cond.selects RX1 yX1_carry yX1_carry, Cond.code yX1_carry cX1_carry 5 (some .boolean), Cond.fieldLink RX1 21 "Delaypouch$Plan" "lasts" "[I", Cond.fieldLink RX1 18 "Delaypouch$Plan" "firsts" "[I", Cond.methodLink RX1 52 Lib.Math.max.name, Cond.static Lib.Math.max.name, Cond.code Lib.Math.max.name Lib.Math.max.code 2 (some .int), Cond.methodLink RX2 179 yX2_secondOrNone, Cond.static yX2_secondOrNone, Cond.code yX2_secondOrNone cX2_secondOrNone 1 (some .int)]
def wsL_promised : List Cond := .codeWith yL_promised cL_promised 4 (some .int) [(0, 9, 12, 13)] :: ((wsL_promised_r1 ++ (wsL_promised_r2 ++ (wsL_promised_r3 ++ wsL_promised_r4))) ++ wsX20 ++ wsX00 ++ wsJx4a65c0 ++ wsX10 ++ (vx_atS RX2 48 "java/lang/IndexOutOfBoundsException" ["java/lang/RuntimeException", "java/lang/Exception"]).filter goodWord)
def wsL_law0_r1 : List Cond := [Cond.classLink RL 8 RX2, Cond.instantiable RX2 7, Cond.initialized RX2, Cond.classLink RL 79 RX3, Cond.instantiable RX3 21, Cond.initialized RX3, Cond.arrayClass .long, Cond.methodLink RL 78 yX2_init, Cond.instanceMethod yX2_init, Cond.code yX2_init cX2_init 2 none, Cond.methodLink RX2 1 objectInit, Cond.instanceMethod objectInit, Cond.code objectInit ⟨#[0xb1]⟩ 1 none, Cond.fieldLink RX2 7 "Delaypouch" "now" "I", Cond.arrayClass .int, Cond.fieldLink RX2 13 "Delaypouch" "places" "[I", Cond.fieldLink RX2 17 "Delaypouch" "drops" "[I", Cond.fieldLink RX2 20 "Delaypouch" "refusals" "[I", Cond.classLink RX2 23 RJx4a65c, Cond.instantiable RJx4a65c 3, Cond.initialized RJx4a65c, Cond.fieldLink RX2 26 "Delaypouch" "sent" "Ljava/util/ArrayList;", Cond.fieldLink RX2 30 "Delaypouch" "ordered" "Ljava/util/ArrayList;", Cond.classLink RX2 33 RX1]
def wsL_law0_r2 : List Cond := [Cond.instantiable RX1 7, Cond.initialized RX1, Cond.fieldLink RX2 36 "Delaypouch" "plan" "LDelaypouch$Plan;", Cond.methodLink RX2 25 yJx4a65c_init_da8c8, Cond.instanceMethod yJx4a65c_init_da8c8, Cond.code yJx4a65c_init_da8c8 cJx4a65c_init_da8c8 1 none, Cond.fieldLink RJx4a65c 39 "java/util/ArrayList" "DEFAULTCAPACITY_EMPTY_ELEMENTDATA" "[Ljava/lang/Object;", Cond.fieldLink RJx4a65c 9 "java/util/ArrayList" "elementData" "[Ljava/lang/Object;", Cond.methodLink RJx4a65c 1 yJxc12de_init_da8c8, Cond.instanceMethod yJxc12de_init_da8c8, Cond.initialized RJxc12de, Cond.code yJxc12de_init_da8c8 cJxc12de_init_da8c8 1 none, Cond.fieldLink RJxc12de 7 "java/util/AbstractList" "modCount" "I", Cond.methodLink RJxc12de 1 yJxa1e45_init_da8c8, Cond.instanceMethod yJxa1e45_init_da8c8, Cond.initialized RJxa1e45, Cond.code yJxa1e45_init_da8c8 cJxa1e45_init_da8c8 1 none, Cond.methodLink RJxa1e45 1 objectInit, Cond.methodLink RX2 35 yX1_init, Cond.instanceMethod yX1_init, Cond.code yX1_init cX1_init 1 none, Cond.methodLink RX1 3 objectInit, Cond.fieldLink RX1 9 "Delaypouch$Plan" "nodes" "[I", Cond.fieldLink RX1 15 "Delaypouch$Plan" "others" "[I"]
def wsL_law0_r3 : List Cond := [Cond.fieldLink RX1 18 "Delaypouch$Plan" "firsts" "[I", Cond.fieldLink RX1 21 "Delaypouch$Plan" "lasts" "[I", Cond.fieldLink RX1 24 "Delaypouch$Plan" "reached" "[I", Cond.arrayClass .boolean, Cond.fieldLink RX1 27 "Delaypouch$Plan" "settled" "[Z", Cond.fieldLink RX1 31 "Delaypouch$Plan" "size" "I", Cond.methodLink RL 81 yX3_init, Cond.instanceMethod yX3_init, Cond.code yX3_init cX3_init 2 none, Cond.methodLink RX3 1 objectInit, Cond.fieldLink RX3 7 "DelaypouchModel" "goal" "[I", Cond.fieldLink RX3 13 "DelaypouchModel" "rank" "[I", Cond.fieldLink RX3 16 "DelaypouchModel" "end" "[I", Cond.fieldLink RX3 19 "DelaypouchModel" "keeper" "[I", Cond.fieldLink RX3 22 "DelaypouchModel" "came" "[I", Cond.fieldLink RX3 25 "DelaypouchModel" "way" "[I", Cond.fieldLink RX3 28 "DelaypouchModel" "has" "[I", Cond.fieldLink RX3 31 "DelaypouchModel" "steps" "[I", Cond.fieldLink RX3 34 "DelaypouchModel" "told" "[I", Cond.fieldLink RX3 37 "DelaypouchModel" "places" "[I", Cond.fieldLink RX3 40 "DelaypouchModel" "lost" "[I", Cond.fieldLink RX3 43 "DelaypouchModel" "spurned" "[I", Cond.fieldLink RX3 46 "DelaypouchModel" "plan" "[I", Cond.fieldLink RX3 49 "DelaypouchModel" "job" "[I"]
def wsL_law0_r4 : List Cond := [Cond.fieldLink RX3 52 "DelaypouchModel" "giver" "[I", Cond.fieldLink RX3 55 "DelaypouchModel" "best" "[I", Cond.fieldLink RX3 58 "DelaypouchModel" "fixed" "[I", Cond.methodLink RL 82 yL_send, Cond.static yL_send, Cond.initialized RL, Cond.codeWith yL_send cL_send 8 (some .int) [(0, 16, 19, 13), (0, 16, 23, 15), (0, 16, 27, 17)], Cond.classLink RL 13 "java/lang/IndexOutOfBoundsException", Cond.classLink RL 15 "java/lang/IllegalArgumentException", Cond.classLink RL 17 "java/lang/IllegalStateException", Cond.methodLink RL 7 yX2_send, Cond.instanceMethod yX2_send, Cond.selects RX2 yX2_send yX2_send, Cond.code yX2_send cX2_send 7 (some .int), Cond.classLink RX2 44 "java/lang/IndexOutOfBoundsException", Cond.initialized "java/lang/IndexOutOfBoundsException", Cond.classLink RX2 55 "java/lang/IllegalArgumentException", Cond.initialized "java/lang/IllegalArgumentException", Cond.classLink RX2 64 "java/lang/IllegalStateException", Cond.initialized "java/lang/IllegalStateException", Cond.classLink RX2 75 RX0, Cond.instantiable RX0 11, Cond.initialized RX0, Cond.fieldLink RX2 80 "Delaypouch$Bundle" "custodian" "I"]
def wsL_law0_r5 : List Cond := [Cond.fieldLink RX2 98 "Delaypouch$Bundle" "number" "I", Cond.methodLink RX2 40 yX2_isNode, Cond.static yX2_isNode, Cond.code yX2_isNode cX2_isNode 1 (some .boolean), Cond.methodLink RX2 51 yX2_isWithin, Cond.static yX2_isWithin, Cond.code yX2_isWithin cX2_isWithin 3 (some .boolean), Cond.methodLink RX2 60 yJx4a65c_size_8abf5, Cond.instanceMethod yJx4a65c_size_8abf5, Cond.selects RJx4a65c yJx4a65c_size_8abf5 yJx4a65c_size_8abf5, Cond.code yJx4a65c_size_8abf5 cJx4a65c_size_8abf5 1 (some .int), Cond.fieldLink RJx4a65c 48 "java/util/ArrayList" "size" "I", Cond.methodLink RX2 69 yX2_makeRoom, Cond.instanceMethod yX2_makeRoom, Cond.selects RX2 yX2_makeRoom yX2_makeRoom, Cond.code yX2_makeRoom cX2_makeRoom 4 (some .boolean), Cond.fieldLink RX2 204 "Delaypouch$Bundle" "priority" "I", Cond.methodLink RX2 137 yX2_countAt, Cond.instanceMethod yX2_countAt, Cond.selects RX2 yX2_countAt yX2_countAt, Cond.code yX2_countAt cX2_countAt 4 (some .int), Cond.classLink RX2 75 "Delaypouch$Bundle", Cond.methodLink RX2 122 yJx4a65c_get_915e3, Cond.instanceMethod yJx4a65c_get_915e3]
def wsL_law0_r6 : List Cond := [Cond.selects RJx4a65c yJx4a65c_get_915e3 yJx4a65c_get_915e3, Cond.code yJx4a65c_get_915e3 cJx4a65c_get_915e3 2 (some (.object "java/lang/Object")), Cond.methodLink RJx4a65c 118 yJ15_checkIndex_7cf53, Cond.static yJ15_checkIndex_7cf53, Cond.initialized RJ15, Cond.code yJ15_checkIndex_7cf53 cJ15_checkIndex_7cf53 2 (some .int), Cond.methodLink RJ15 105 yJ3_checkIndex_8e157, Cond.static yJ3_checkIndex_8e157, Cond.initialized RJ3, Cond.code yJ3_checkIndex_8e157 cJ3_checkIndex_8e157 3 (some .int), Cond.methodLink RJx4a65c 123 yJx4a65c_elementData_915e3, Cond.instanceMethod yJx4a65c_elementData_915e3, Cond.selects RJx4a65c yJx4a65c_elementData_915e3 yJx4a65c_elementData_915e3, Cond.code yJx4a65c_elementData_915e3 cJx4a65c_elementData_915e3 2 (some (.object "java/lang/Object")), Cond.methodLink RX2 160 yX0_isAt, Cond.instanceMethod yX0_isAt, Cond.selects RX0 yX0_isAt yX0_isAt, Cond.code yX0_isAt cX0_isAt 2 (some .boolean), Cond.fieldLink RX0 24 "Delaypouch$Bundle" "copiesAt" "[I", Cond.methodLink RX2 201 yX2_lastWithoutCustody, Cond.instanceMethod yX2_lastWithoutCustody, Cond.selects RX2 yX2_lastWithoutCustody yX2_lastWithoutCustody, Cond.code yX2_lastWithoutCustody cX2_lastWithoutCustody 5 (some (.object "Delaypouch$Bundle")), Cond.methodLink RX2 207 yX0_leave]
def wsL_law0_r7 : List Cond := [Cond.instanceMethod yX0_leave, Cond.selects RX0 yX0_leave yX0_leave, Cond.code yX0_leave cX0_leave 2 none, Cond.methodLink RX0 51 yX0_put, Cond.instanceMethod yX0_put, Cond.selects RX0 yX0_put yX0_put, Cond.code yX0_put cX0_put 4 none, Cond.fieldLink RX0 28 "Delaypouch$Bundle" "hopsAt" "[I", Cond.methodLink RX2 77 yX0_init, Cond.instanceMethod yX0_init, Cond.code yX0_init cX0_init 5 none, Cond.methodLink RX0 3 objectInit, Cond.fieldLink RX0 9 "Delaypouch$Bundle" "number" "I", Cond.fieldLink RX0 15 "Delaypouch$Bundle" "destination" "I", Cond.fieldLink RX0 18 "Delaypouch$Bundle" "priority" "I", Cond.fieldLink RX0 21 "Delaypouch$Bundle" "end" "I", Cond.fieldLink RX0 31 "Delaypouch$Bundle" "knownAt" "[Z", Cond.fieldLink RX0 35 "Delaypouch$Bundle" "custodian" "I", Cond.fieldLink RX0 38 "Delaypouch$Bundle" "deliverySecond" "I", Cond.fieldLink RX0 41 "Delaypouch$Bundle" "deliveryHops" "I", Cond.fieldLink RX0 44 "Delaypouch$Bundle" "giver" "I", Cond.methodLink RX2 83 yX0_put, Cond.methodLink RX2 87 yX2_placeInOrder, Cond.instanceMethod yX2_placeInOrder]
def wsL_law0_r8 : List Cond := [Cond.selects RX2 yX2_placeInOrder yX2_placeInOrder, Cond.code yX2_placeInOrder cX2_placeInOrder 3 (some .int), Cond.methodLink RX2 197 yX0_isBefore, Cond.instanceMethod yX0_isBefore, Cond.selects RX0 yX0_isBefore yX0_isBefore, Cond.code yX0_isBefore cX0_isBefore 2 (some .boolean), Cond.methodLink RX2 91 yJx4a65c_add_7a177, Cond.instanceMethod yJx4a65c_add_7a177, Cond.selects RJx4a65c yJx4a65c_add_7a177 yJx4a65c_add_7a177, Cond.code yJx4a65c_add_7a177 cJx4a65c_add_7a177 5 none, Cond.fieldLink RJx4a65c 63 "java/util/ArrayList" "modCount" "I", Cond.sameField "java/util/ArrayList" "java/util/AbstractList" "modCount" "I", Cond.methodLink RJx4a65c 112 arraycopyName, Cond.native arraycopyName, Cond.static arraycopyName, Cond.initialized "java/lang/System", Cond.methodLink RJx4a65c 135 yJx4a65c_rangeCheckForAdd_d00df, Cond.instanceMethod yJx4a65c_rangeCheckForAdd_d00df, Cond.selects RJx4a65c yJx4a65c_rangeCheckForAdd_d00df yJx4a65c_rangeCheckForAdd_d00df, Cond.code yJx4a65c_rangeCheckForAdd_d00df cJx4a65c_rangeCheckForAdd_d00df 2 none, Cond.methodLink RJx4a65c 129 yJx4a65c_grow_d5877, Cond.instanceMethod yJx4a65c_grow_d5877, Cond.selects RJx4a65c yJx4a65c_grow_d5877 yJx4a65c_grow_d5877, Cond.code yJx4a65c_grow_d5877 cJx4a65c_grow_d5877 1 (some (.array (.object "java/lang/Object")))]
def wsL_law0_r9 : List Cond := [Cond.methodLink RJx4a65c 69 yJx4a65c_grow_92f84, Cond.instanceMethod yJx4a65c_grow_92f84, Cond.selects RJx4a65c yJx4a65c_grow_92f84 yJx4a65c_grow_92f84, Cond.code yJx4a65c_grow_92f84 cJx4a65c_grow_92f84 4 (some (.array (.object "java/lang/Object"))), Cond.methodLink RJx4a65c 79 Lib.Math.max.name, Cond.static Lib.Math.max.name, Cond.initialized "java/lang/Math", Cond.code Lib.Math.max.name Lib.Math.max.code 2 (some .int), Cond.classLink RJx4a65c 7 "java/lang/Object", Cond.methodLink RJx4a65c 73 yJ8_newLength_cabcc, Cond.static yJ8_newLength_cabcc, Cond.initialized RJ8, Cond.code yJ8_newLength_cabcc cJ8_newLength_cabcc 4 (some .int), Cond.methodLink RJ8 194 Lib.Math.max.name, Cond.constant RJ8 200 (2147483639), Cond.methodLink RJ8 201 yJ8_hugeLength_7cf53, Cond.static yJ8_hugeLength_7cf53, Cond.code yJ8_hugeLength_7cf53 cJ8_hugeLength_7cf53 3 (some .int), Cond.methodLink RJx4a65c 66 yJ7_copyOf_1904c, Cond.static yJ7_copyOf_1904c, Cond.initialized RJ7, Cond.code yJ7_copyOf_1904c cJ7_copyOf_1904c 2 (some (.array (.object "java/lang/Object"))), Cond.methodLink RJ7 86 ⟨"java/lang/Object", "getClass", "()Ljava/lang/Class;"⟩, Cond.selects "[Ljava/lang/Object;" ⟨"java/lang/Object", "getClass", "()Ljava/lang/Class;"⟩ ⟨"java/lang/Object", "getClass", "()Ljava/lang/Class;"⟩]
def wsL_law0_r10 : List Cond := [Cond.instanceMethod ⟨"java/lang/Object", "getClass", "()Ljava/lang/Class;"⟩, Cond.native ⟨"java/lang/Object", "getClass", "()Ljava/lang/Class;"⟩, Cond.methodLink RJ7 300 yJ7_copyOf_6403c, Cond.static yJ7_copyOf_6403c, Cond.code yJ7_copyOf_6403c cJ7_copyOf_6403c 4 (some (.array (.object "java/lang/Object"))), Cond.classLink RJ7 110 "[Ljava/lang/Object;", Cond.classLink RJ7 2 "java/lang/Object", Cond.methodLink RJ7 304 Lib.Math.min.name, Cond.static Lib.Math.min.name, Cond.code Lib.Math.min.name Lib.Math.min.code 2 (some .int), Cond.methodLink RJ7 150 arraycopyName, Cond.methodLink RX2 95 yJx4a65c_add_9ea2d, Cond.instanceMethod yJx4a65c_add_9ea2d, Cond.selects RJx4a65c yJx4a65c_add_9ea2d yJx4a65c_add_9ea2d, Cond.code yJx4a65c_add_9ea2d cJx4a65c_add_9ea2d 2 (some .boolean), Cond.methodLink RJx4a65c 131 yJx4a65c_add_72be8, Cond.instanceMethod yJx4a65c_add_72be8, Cond.selects RJx4a65c yJx4a65c_add_72be8 yJx4a65c_add_72be8, Cond.code yJx4a65c_add_72be8 cJx4a65c_add_72be8 4 none, Cond.methodLink RL 87 yX3_send, Cond.instanceMethod yX3_send, Cond.selects RX3 yX3_send yX3_send, Cond.code yX3_send cX3_send 7 (some .int), Cond.fieldLink RX3 69 "DelaypouchModel" "count" "I"]
def wsL_law0_r11 : List Cond := [Cond.fieldLink RX3 93 "DelaypouchModel" "time" "I", Cond.methodLink RX3 65 yX3_between, Cond.instanceMethod yX3_between, Cond.selects RX3 yX3_between yX3_between, Cond.code yX3_between cX3_between 4 (some .boolean), Cond.methodLink RX3 83 yX3_isNode, Cond.instanceMethod yX3_isNode, Cond.selects RX3 yX3_isNode yX3_isNode, Cond.code yX3_isNode cX3_isNode 2 (some .boolean), Cond.methodLink RX3 87 yX3_holds, Cond.instanceMethod yX3_holds, Cond.selects RX3 yX3_holds yX3_holds, Cond.code yX3_holds cX3_holds 2 (some .boolean), Cond.fieldLink RX3 61 "DelaypouchModel" "thrown" "I", Cond.methodLink RX3 90 yX3_hasRoom, Cond.instanceMethod yX3_hasRoom, Cond.selects RX3 yX3_hasRoom yX3_hasRoom, Cond.code yX3_hasRoom cX3_hasRoom 4 (some .boolean), Cond.methodLink RX3 76 yX3_load, Cond.instanceMethod yX3_load, Cond.selects RX3 yX3_load yX3_load, Cond.code yX3_load cX3_load 4 (some .int), Cond.methodLink RX3 80 yX3_last, Cond.instanceMethod yX3_last]
def wsL_law0_r12 : List Cond := [Cond.selects RX3 yX3_last yX3_last, Cond.code yX3_last cX3_last 4 (some .int), Cond.methodLink RX3 72 yX3_precedes, Cond.instanceMethod yX3_precedes, Cond.selects RX3 yX3_precedes yX3_precedes, Cond.code yX3_precedes cX3_precedes 3 (some .boolean), Cond.methodLink RL 88 yX3_thrown, Cond.instanceMethod yX3_thrown, Cond.selects RX3 yX3_thrown yX3_thrown, Cond.code yX3_thrown cX3_thrown 1 (some .int), Cond.methodLink RL 92 yL_meet, Cond.static yL_meet, Cond.codeWith yL_meet cL_meet 6 (some .int) [(0, 12, 15, 13), (0, 12, 19, 15)], Cond.methodLink RL 19 yX2_meet, Cond.instanceMethod yX2_meet, Cond.selects RX2 yX2_meet yX2_meet, Cond.code yX2_meet cX2_meet 6 (some .int), Cond.methodLink RX2 103 yX2_exchangeReceipts, Cond.instanceMethod yX2_exchangeReceipts, Cond.selects RX2 yX2_exchangeReceipts yX2_exchangeReceipts, Cond.code yX2_exchangeReceipts cX2_exchangeReceipts 5 none, Cond.fieldLink RX2 170 "Delaypouch$Bundle" "knownAt" "[Z", Cond.methodLink RX2 210 yX0_learn, Cond.instanceMethod yX0_learn]
def wsL_law0_r13 : List Cond := [Cond.selects RX0 yX0_learn yX0_learn, Cond.code yX0_learn cX0_learn 2 none, Cond.methodLink RX0 59 yX0_leave, Cond.methodLink RX2 107 yX2_findSprays, Cond.instanceMethod yX2_findSprays, Cond.selects RX2 yX2_findSprays yX2_findSprays, Cond.code yX2_findSprays cX2_findSprays 5 none, Cond.fieldLink RX2 213 "Delaypouch$Bundle" "giver" "I", Cond.methodLink RX2 216 yX0_canSpray, Cond.instanceMethod yX0_canSpray, Cond.selects RX0 yX0_canSpray yX0_canSpray, Cond.code yX0_canSpray cX0_canSpray 3 (some .boolean), Cond.methodLink RX0 47 yX0_isAt, Cond.methodLink RX2 110 yX2_deliverSome, Cond.instanceMethod yX2_deliverSome, Cond.selects RX2 yX2_deliverSome yX2_deliverSome, Cond.code yX2_deliverSome cX2_deliverSome 7 (some .int), Cond.methodLink RX2 219 yX0_canDeliver, Cond.instanceMethod yX0_canDeliver, Cond.selects RX0 yX0_canDeliver yX0_canDeliver, Cond.code yX0_canDeliver cX0_canDeliver 3 (some .boolean), Cond.methodLink RX2 222 yX0_deliver, Cond.instanceMethod yX0_deliver, Cond.selects RX0 yX0_deliver yX0_deliver]
def wsL_law0_r14 : List Cond := [Cond.code yX0_deliver cX0_deliver 3 none, Cond.methodLink RX0 55 yX0_learn, Cond.methodLink RX2 114 yX2_spraySome, Cond.instanceMethod yX2_spraySome, Cond.selects RX2 yX2_spraySome yX2_spraySome, Cond.code yX2_spraySome cX2_spraySome 7 (some .int), Cond.methodLink RX2 225 yX2_spray, Cond.instanceMethod yX2_spray, Cond.selects RX2 yX2_spray yX2_spray, Cond.code yX2_spray cX2_spray 4 (some .boolean), Cond.methodLink RX2 229 yX0_halve, Cond.instanceMethod yX0_halve, Cond.selects RX0 yX0_halve yX0_halve, Cond.code yX0_halve cX0_halve 4 none, Cond.methodLink RX2 117 yX2_moveCustody, Cond.instanceMethod yX2_moveCustody, Cond.selects RX2 yX2_moveCustody yX2_moveCustody, Cond.code yX2_moveCustody cX2_moveCustody 5 none, Cond.methodLink RX2 232 yX2_moveCustodyIfNearer, Cond.instanceMethod yX2_moveCustodyIfNearer, Cond.selects RX2 yX2_moveCustodyIfNearer yX2_moveCustodyIfNearer, Cond.code yX2_moveCustodyIfNearer cX2_moveCustodyIfNearer 6 none, Cond.fieldLink RX2 186 "Delaypouch$Bundle" "destination" "I", Cond.methodLink RX2 176 yX1_arrivalByNodes]
def wsL_law0_r15 : List Cond := [Cond.instanceMethod yX1_arrivalByNodes, Cond.selects RX1 yX1_arrivalByNodes yX1_arrivalByNodes, Cond.code yX1_arrivalByNodes cX1_arrivalByNodes 6 (some .int), Cond.methodLink RX1 35 yX1_start, Cond.instanceMethod yX1_start, Cond.selects RX1 yX1_start yX1_start, Cond.code yX1_start cX1_start 4 none, Cond.constant RX1 51 (2147483647), Cond.methodLink RX1 39 yX1_nearestUnsettled, Cond.instanceMethod yX1_nearestUnsettled, Cond.selects RX1 yX1_nearestUnsettled yX1_nearestUnsettled, Cond.code yX1_nearestUnsettled cX1_nearestUnsettled 4 (some .int), Cond.methodLink RX1 43 yX1_spread, Cond.instanceMethod yX1_spread, Cond.selects RX1 yX1_spread yX1_spread, Cond.code yX1_spread cX1_spread 3 none, Cond.methodLink RX1 47 yX1_carry, Cond.instanceMethod yX1_carry, Cond.selects RX1 yX1_carry yX1_carry, Cond.code yX1_carry cX1_carry 5 (some .boolean), Cond.methodLink RX1 52 Lib.Math.max.name, Cond.methodLink RL 95 yX3_meet, Cond.instanceMethod yX3_meet, Cond.selects RX3 yX3_meet yX3_meet]
def wsL_law0_r16 : List Cond := [Cond.code yX3_meet cX3_meet 9 (some .int), Cond.methodLink RX3 108 yX3_talk, Cond.instanceMethod yX3_talk, Cond.selects RX3 yX3_talk yX3_talk, Cond.code yX3_talk cX3_talk 4 none, Cond.methodLink RX3 96 yX3_learn, Cond.instanceMethod yX3_learn, Cond.selects RX3 yX3_learn yX3_learn, Cond.code yX3_learn cX3_learn 3 none, Cond.methodLink RX3 111 yX3_gather, Cond.instanceMethod yX3_gather, Cond.selects RX3 yX3_gather yX3_gather, Cond.code yX3_gather cX3_gather 9 (some .int), Cond.methodLink RX3 100 yX3_wants, Cond.instanceMethod yX3_wants, Cond.selects RX3 yX3_wants yX3_wants, Cond.code yX3_wants cX3_wants 6 (some .boolean), Cond.methodLink RX3 115 yX3_deliver, Cond.instanceMethod yX3_deliver, Cond.selects RX3 yX3_deliver yX3_deliver, Cond.code yX3_deliver cX3_deliver 4 (some .int), Cond.methodLink RX3 119 yX3_spray, Cond.instanceMethod yX3_spray, Cond.selects RX3 yX3_spray yX3_spray]
def wsL_law0_r17 : List Cond := [Cond.code yX3_spray cX3_spray 5 (some .int), Cond.methodLink RX3 122 yX3_entrust, Cond.instanceMethod yX3_entrust, Cond.selects RX3 yX3_entrust yX3_entrust, Cond.code yX3_entrust cX3_entrust 8 none, Cond.methodLink RX3 104 yX3_reach, Cond.instanceMethod yX3_reach, Cond.selects RX3 yX3_reach yX3_reach, Cond.code yX3_reach cX3_reach 7 (some .int), Cond.fieldLink RX3 126 "DelaypouchModel" "contacts" "I", Cond.methodLink RX3 135 yX3_begin, Cond.instanceMethod yX3_begin, Cond.selects RX3 yX3_begin yX3_begin, Cond.code yX3_begin cX3_begin 3 none, Cond.methodLink RX3 139 yX3_nearest, Cond.instanceMethod yX3_nearest, Cond.selects RX3 yX3_nearest yX3_nearest, Cond.code yX3_nearest cX3_nearest 3 (some .int), Cond.methodLink RX3 143 yX3_use, Cond.instanceMethod yX3_use, Cond.selects RX3 yX3_use yX3_use, Cond.code yX3_use cX3_use 5 (some .int), Cond.methodLink RX3 146 yX3_improve, Cond.instanceMethod yX3_improve]
def wsL_law0_r18 : List Cond := [Cond.selects RX3 yX3_improve yX3_improve, Cond.code yX3_improve cX3_improve 3 none, Cond.methodLink RL 96 yL_pass, Cond.static yL_pass, Cond.codeWith yL_pass cL_pass 4 (some .int) [(0, 9, 12, 15)], Cond.methodLink RL 23 yX2_pass, Cond.instanceMethod yX2_pass, Cond.selects RX2 yX2_pass yX2_pass, Cond.code yX2_pass cX2_pass 6 (some .int), Cond.fieldLink RX2 126 "Delaypouch$Bundle" "end" "I", Cond.fieldLink RX2 132 "Delaypouch$Bundle" "deliverySecond" "I", Cond.methodLink RX2 129 yX0_vanish, Cond.instanceMethod yX0_vanish, Cond.selects RX0 yX0_vanish yX0_vanish, Cond.code yX0_vanish cX0_vanish 2 none, Cond.methodLink RL 99 yX3_pass, Cond.instanceMethod yX3_pass, Cond.selects RX3 yX3_pass yX3_pass, Cond.code yX3_pass cX3_pass 6 (some .int), Cond.methodLink RL 100 yL_setBuffer, Cond.static yL_setBuffer, Cond.codeWith yL_setBuffer cL_setBuffer 5 (some .int) [(0, 10, 13, 13), (0, 10, 17, 15), (0, 10, 21, 17)], Cond.methodLink RL 27 yX2_setBuffer, Cond.instanceMethod yX2_setBuffer]
def wsL_law0_r19 : List Cond := [Cond.selects RX2 yX2_setBuffer yX2_setBuffer, Cond.code yX2_setBuffer cX2_setBuffer 4 (some .int), Cond.methodLink RL 103 yX3_setBuffer, Cond.instanceMethod yX3_setBuffer, Cond.selects RX3 yX3_setBuffer yX3_setBuffer, Cond.code yX3_setBuffer cX3_setBuffer 4 (some .int), Cond.methodLink RL 104 yL_addContact, Cond.static yL_addContact, Cond.codeWith yL_addContact cL_addContact 7 (some .int) [(0, 14, 17, 13), (0, 14, 21, 15), (0, 14, 25, 17)], Cond.methodLink RL 31 yX2_addContact, Cond.instanceMethod yX2_addContact, Cond.selects RX2 yX2_addContact yX2_addContact, Cond.code yX2_addContact cX2_addContact 5 (some .int), Cond.constant RX2 143 (100000), Cond.fieldLink RX2 151 "Delaypouch$Plan" "size" "I", Cond.methodLink RX2 146 yX1_add, Cond.instanceMethod yX1_add, Cond.selects RX1 yX1_add yX1_add, Cond.code yX1_add cX1_add 5 (some .boolean), Cond.methodLink RL 107 yX3_addContact, Cond.instanceMethod yX3_addContact, Cond.selects RX3 yX3_addContact yX3_addContact, Cond.code yX3_addContact cX3_addContact 6 (some .int), Cond.constant RX3 125 (100000)]
def wsL_law0_r20 : List Cond := [Cond.methodLink RL 108 yX2_clock, Cond.instanceMethod yX2_clock, Cond.selects RX2 yX2_clock yX2_clock, Cond.code yX2_clock cX2_clock 1 (some .int), Cond.methodLink RL 111 yX3_clock, Cond.instanceMethod yX3_clock, Cond.selects RX3 yX3_clock yX3_clock, Cond.code yX3_clock cX3_clock 1 (some .int), Cond.methodLink RX3 129 yX3_plain, Cond.instanceMethod yX3_plain, Cond.selects RX3 yX3_plain yX3_plain, Cond.code yX3_plain cX3_plain 2 (some .int), Cond.methodLink RL 112 yX2_bundles, Cond.instanceMethod yX2_bundles, Cond.selects RX2 yX2_bundles yX2_bundles, Cond.code yX2_bundles cX2_bundles 1 (some .int), Cond.methodLink RL 115 yX3_bundles, Cond.instanceMethod yX3_bundles, Cond.selects RX3 yX3_bundles yX3_bundles, Cond.code yX3_bundles cX3_bundles 1 (some .int), Cond.methodLink RL 116 yL_endOf, Cond.static yL_endOf, Cond.codeWith yL_endOf cL_endOf 4 (some .int) [(0, 9, 12, 13)], Cond.methodLink RL 35 yX2_endOf]
def wsL_law0_r21 : List Cond := [Cond.instanceMethod yX2_endOf, Cond.selects RX2 yX2_endOf yX2_endOf, Cond.code yX2_endOf cX2_endOf 2 (some .int), Cond.methodLink RX2 153 yX2_numbered, Cond.instanceMethod yX2_numbered, Cond.selects RX2 yX2_numbered yX2_numbered, Cond.code yX2_numbered cX2_numbered 2 (some (.object "Delaypouch$Bundle")), Cond.methodLink RL 118 yX3_endOf, Cond.instanceMethod yX3_endOf, Cond.selects RX3 yX3_endOf yX3_endOf, Cond.code yX3_endOf cX3_endOf 2 (some .int), Cond.methodLink RX3 132 yX3_isBundle, Cond.instanceMethod yX3_isBundle, Cond.selects RX3 yX3_isBundle yX3_isBundle, Cond.code yX3_isBundle cX3_isBundle 2 (some .boolean), Cond.methodLink RL 119 yL_deliveredAt, Cond.static yL_deliveredAt, Cond.codeWith yL_deliveredAt cL_deliveredAt 4 (some .int) [(0, 9, 12, 13)], Cond.methodLink RL 38 yX2_deliveredAt, Cond.instanceMethod yX2_deliveredAt, Cond.selects RX2 yX2_deliveredAt yX2_deliveredAt, Cond.code yX2_deliveredAt cX2_deliveredAt 2 (some .int), Cond.methodLink RL 121 yX3_deliveredAt, Cond.instanceMethod yX3_deliveredAt]
def wsL_law0_r22 : List Cond := [Cond.selects RX3 yX3_deliveredAt yX3_deliveredAt, Cond.code yX3_deliveredAt cX3_deliveredAt 2 (some .int), Cond.methodLink RL 122 yL_hops, Cond.static yL_hops, Cond.codeWith yL_hops cL_hops 4 (some .int) [(0, 9, 12, 13)], Cond.methodLink RL 41 yX2_hops, Cond.instanceMethod yX2_hops, Cond.selects RX2 yX2_hops yX2_hops, Cond.code yX2_hops cX2_hops 2 (some .int), Cond.fieldLink RX2 157 "Delaypouch$Bundle" "deliveryHops" "I", Cond.methodLink RL 124 yX3_hops, Cond.instanceMethod yX3_hops, Cond.selects RX3 yX3_hops yX3_hops, Cond.code yX3_hops cX3_hops 2 (some .int), Cond.methodLink RL 125 yL_custodian, Cond.static yL_custodian, Cond.codeWith yL_custodian cL_custodian 4 (some .int) [(0, 9, 12, 13)], Cond.methodLink RL 44 yX2_custodian, Cond.instanceMethod yX2_custodian, Cond.selects RX2 yX2_custodian yX2_custodian, Cond.code yX2_custodian cX2_custodian 2 (some .int), Cond.methodLink RL 127 yX3_custodian, Cond.instanceMethod yX3_custodian, Cond.selects RX3 yX3_custodian yX3_custodian]
def wsL_law0_r23 : List Cond := [Cond.code yX3_custodian cX3_custodian 2 (some .int), Cond.methodLink RL 128 yL_holders, Cond.static yL_holders, Cond.codeWith yL_holders cL_holders 4 (some .int) [(0, 9, 12, 13)], Cond.methodLink RL 47 yX2_holders, Cond.instanceMethod yX2_holders, Cond.selects RX2 yX2_holders yX2_holders, Cond.code yX2_holders cX2_holders 5 (some .int), Cond.methodLink RL 130 yX3_holders, Cond.instanceMethod yX3_holders, Cond.selects RX3 yX3_holders yX3_holders, Cond.code yX3_holders cX3_holders 4 (some .int), Cond.methodLink RL 131 yL_copies, Cond.static yL_copies, Cond.codeWith yL_copies cL_copies 5 (some .int) [(0, 10, 13, 13)], Cond.methodLink RL 50 yX2_copies, Cond.instanceMethod yX2_copies, Cond.selects RX2 yX2_copies yX2_copies, Cond.code yX2_copies cX2_copies 3 (some .int), Cond.fieldLink RX2 167 "Delaypouch$Bundle" "copiesAt" "[I", Cond.methodLink RX2 163 yX2_checkNode, Cond.static yX2_checkNode, Cond.code yX2_checkNode cX2_checkNode 1 none, Cond.methodLink RL 133 yX3_copies]
def wsL_law0_r24 : List Cond := [Cond.instanceMethod yX3_copies, Cond.selects RX3 yX3_copies yX3_copies, Cond.code yX3_copies cX3_copies 3 (some .int), Cond.methodLink RL 134 yL_knows, Cond.static yL_knows, Cond.codeWith yL_knows cL_knows 5 (some .int) [(0, 17, 20, 13)], Cond.methodLink RL 53 yX2_knows, Cond.instanceMethod yX2_knows, Cond.selects RX2 yX2_knows yX2_knows, Cond.code yX2_knows cX2_knows 3 (some .boolean), Cond.methodLink RL 136 yX3_knows, Cond.instanceMethod yX3_knows, Cond.selects RX3 yX3_knows yX3_knows, Cond.code yX3_knows cX3_knows 3 (some .boolean), Cond.methodLink RL 137 yL_held, Cond.static yL_held, Cond.codeWith yL_held cL_held 4 (some .int) [(0, 9, 12, 13)], Cond.methodLink RL 57 yX2_held, Cond.instanceMethod yX2_held, Cond.selects RX2 yX2_held yX2_held, Cond.code yX2_held cX2_held 2 (some .int), Cond.methodLink RL 139 yX3_held, Cond.instanceMethod yX3_held, Cond.selects RX3 yX3_held yX3_held]
def wsL_law0_r25 : List Cond := [Cond.code yX3_held cX3_held 2 (some .int), Cond.methodLink RL 140 yL_heldAt, Cond.static yL_heldAt, Cond.codeWith yL_heldAt cL_heldAt 5 (some .int) [(0, 10, 13, 13)], Cond.methodLink RL 60 yX2_heldAt, Cond.instanceMethod yX2_heldAt, Cond.selects RX2 yX2_heldAt yX2_heldAt, Cond.code yX2_heldAt cX2_heldAt 6 (some .int), Cond.methodLink RL 142 yX3_heldAt, Cond.instanceMethod yX3_heldAt, Cond.selects RX3 yX3_heldAt yX3_heldAt, Cond.code yX3_heldAt cX3_heldAt 7 (some .int), Cond.methodLink RL 143 yL_dropped, Cond.static yL_dropped, Cond.codeWith yL_dropped cL_dropped 4 (some .int) [(0, 9, 12, 13)], Cond.methodLink RL 63 yX2_dropped, Cond.instanceMethod yX2_dropped, Cond.selects RX2 yX2_dropped yX2_dropped, Cond.code yX2_dropped cX2_dropped 2 (some .int), Cond.methodLink RL 145 yX3_dropped, Cond.instanceMethod yX3_dropped, Cond.selects RX3 yX3_dropped yX3_dropped, Cond.code yX3_dropped cX3_dropped 2 (some .int), Cond.methodLink RL 146 yL_refused]
def wsL_law0_r26 : List Cond := [Cond.static yL_refused, Cond.codeWith yL_refused cL_refused 4 (some .int) [(0, 9, 12, 13)], Cond.methodLink RL 66 yX2_refused, Cond.instanceMethod yX2_refused, Cond.selects RX2 yX2_refused yX2_refused, Cond.code yX2_refused cX2_refused 2 (some .int), Cond.methodLink RL 148 yX3_refused, Cond.instanceMethod yX3_refused, Cond.selects RX3 yX3_refused yX3_refused, Cond.code yX3_refused cX3_refused 2 (some .int), Cond.methodLink RL 149 yL_arrival, Cond.static yL_arrival, Cond.codeWith yL_arrival cL_arrival 5 (some .int) [(0, 10, 13, 13)], Cond.methodLink RL 69 yX2_arrival, Cond.instanceMethod yX2_arrival, Cond.selects RX2 yX2_arrival yX2_arrival, Cond.code yX2_arrival cX2_arrival 3 (some .int), Cond.methodLink RX2 179 yX2_secondOrNone, Cond.static yX2_secondOrNone, Cond.code yX2_secondOrNone cX2_secondOrNone 1 (some .int), Cond.constant RX2 185 (2147483647), Cond.methodLink RL 151 yX3_arrival, Cond.instanceMethod yX3_arrival, Cond.selects RX3 yX3_arrival yX3_arrival]
def wsL_law0_r27 : List Cond := [Cond.code yX3_arrival cX3_arrival 3 (some .int), Cond.methodLink RL 152 yL_arrivalByRounds, Cond.static yL_arrivalByRounds, Cond.codeWith yL_arrivalByRounds cL_arrivalByRounds 5 (some .int) [(0, 10, 13, 13)], Cond.methodLink RL 72 yX2_arrivalByRounds, Cond.instanceMethod yX2_arrivalByRounds, Cond.selects RX2 yX2_arrivalByRounds yX2_arrivalByRounds, Cond.code yX2_arrivalByRounds cX2_arrivalByRounds 3 (some .int), Cond.methodLink RX2 182 yX1_arrivalByContacts, Cond.instanceMethod yX1_arrivalByContacts, Cond.selects RX1 yX1_arrivalByContacts yX1_arrivalByContacts, Cond.code yX1_arrivalByContacts cX1_arrivalByContacts 7 (some .int), Cond.methodLink RL 154 yX3_arrivalByRounds, Cond.instanceMethod yX3_arrivalByRounds, Cond.selects RX3 yX3_arrivalByRounds yX3_arrivalByRounds, Cond.code yX3_arrivalByRounds cX3_arrivalByRounds 7 (some .int), Cond.methodLink RL 155 yL_promised, Cond.static yL_promised, Cond.codeWith yL_promised cL_promised 4 (some .int) [(0, 9, 12, 13)], Cond.methodLink RL 75 yX2_promised, Cond.instanceMethod yX2_promised, Cond.selects RX2 yX2_promised yX2_promised, Cond.code yX2_promised cX2_promised 5 (some .int), Cond.methodLink RX2 189 Lib.Math.min.name]
def wsL_law0_r28 : List Cond := [Cond.methodLink RL 157 yX3_promised, Cond.instanceMethod yX3_promised, Cond.selects RX3 yX3_promised yX3_promised, Cond.code yX3_promised cX3_promised 5 (some .int)]
def wsL_law0 : List Cond := (wsL_law0_r1 ++ (wsL_law0_r2 ++ (wsL_law0_r3 ++ (wsL_law0_r4 ++ (wsL_law0_r5 ++ (wsL_law0_r6 ++ (wsL_law0_r7 ++ (wsL_law0_r8 ++ (wsL_law0_r9 ++ (wsL_law0_r10 ++ (wsL_law0_r11 ++ (wsL_law0_r12 ++ (wsL_law0_r13 ++ (wsL_law0_r14 ++ (wsL_law0_r15 ++ (wsL_law0_r16 ++ (wsL_law0_r17 ++ (wsL_law0_r18 ++ (wsL_law0_r19 ++ (wsL_law0_r20 ++ (wsL_law0_r21 ++ (wsL_law0_r22 ++ (wsL_law0_r23 ++ (wsL_law0_r24 ++ (wsL_law0_r25 ++ (wsL_law0_r26 ++ (wsL_law0_r27 ++ wsL_law0_r28))))))))))))))))))))))))))) ++ wsX20 ++ wsX30 ++ wsJx4a65c0 ++ wsX10 ++ wsX00 ++ ([] : List Cond)
def wsL_law : List Cond := wsL_law0 ++ (vx_atS RX2 48 "java/lang/IndexOutOfBoundsException" ["java/lang/RuntimeException", "java/lang/Exception"]).filter goodWord ++ (vx_atS RX2 59 "java/lang/IllegalArgumentException" ["java/lang/RuntimeException", "java/lang/Exception"]).filter goodWord ++ (vx_atS RX2 68 "java/lang/IllegalStateException" ["java/lang/RuntimeException", "java/lang/Exception"]).filter goodWord
set_option maxRecDepth 100000 in
theorem my_wsL_law0_r1 : GoodIn lw_tbl wsL_law0_r1 := goodIn_r _ [70, 71, 44, 918, 919, 49, 1161, 72, 73, 74, 75, 76, 77, 135, 104, 136, 137, 138, 78, 79, 47, 139, 140, 105] (by decide +kernel) (by decide +kernel)
set_option maxRecDepth 100000 in
theorem my_wsL_law0_r2 : GoodIn lw_tbl wsL_law0_r2 := goodIn_r _ [106, 48, 141, 80, 81, 82, 90, 92, 83, 84, 46, 85, 94, 86, 87, 45, 88, 89, 107, 108, 109, 110, 111, 112] (by decide +kernel) (by decide +kernel)
set_option maxRecDepth 100000 in
theorem my_wsL_law0_r3 : GoodIn lw_tbl wsL_law0_r3 := goodIn_r _ [113, 114, 115, 134, 116, 117, 920, 921, 922, 923, 924, 925, 926, 927, 928, 929, 930, 931, 932, 933, 934, 935, 936, 937] (by decide +kernel) (by decide +kernel)
set_option maxRecDepth 100000 in
theorem my_wsL_law0_r4 : GoodIn lw_tbl wsL_law0_r4 := goodIn_r _ [938, 939, 940, 169, 170, 43, 171, 172, 173, 174, 175, 176, 177, 178, 185, 53, 253, 54, 269, 55, 307, 325, 58, 344] (by decide +kernel) (by decide +kernel)
set_option maxRecDepth 100000 in
theorem my_wsL_law0_r5 : GoodIn lw_tbl wsL_law0_r5 := goodIn_r _ [331, 179, 180, 181, 182, 183, 184, 165, 166, 167, 168, 93, 285, 287, 1, 288, 335, 289, 291, 2, 292, 307, 293, 294] (by decide +kernel) (by decide +kernel)
set_option maxRecDepth 100000 in
theorem my_wsL_law0_r6 : GoodIn lw_tbl wsL_law0_r6 := goodIn_r _ [295, 296, 297, 298, 56, 299, 300, 301, 57, 302, 303, 304, 305, 306, 308, 309, 310, 311, 338, 312, 314, 3, 315, 316] (by decide +kernel) (by decide +kernel)
set_option maxRecDepth 100000 in
theorem my_wsL_law0_r7 : GoodIn lw_tbl wsL_law0_r7 := goodIn_r _ [317, 318, 319, 320, 321, 322, 323, 340, 326, 327, 328, 329, 330, 332, 334, 336, 341, 343, 345, 347, 349, 374, 375, 377] (by decide +kernel) (by decide +kernel)
set_option maxRecDepth 100000 in
theorem my_wsL_law0_r8 : GoodIn lw_tbl wsL_law0_r8 := goodIn_r _ [4, 378, 379, 380, 381, 382, 383, 384, 385, 386, 95, 96, 677, 473, 472, 66, 387, 389, 5, 390, 643, 645, 7, 646] (by decide +kernel) (by decide +kernel)
set_option maxRecDepth 100000 in
theorem my_wsL_law0_r9 : GoodIn lw_tbl wsL_law0_r9 := goodIn_r _ [647, 649, 8, 650, 675, 451, 64, 452, 676, 651, 448, 63, 449, 450, 453, 454, 455, 456, 652, 653, 65, 654, 655, 1183] (by decide +kernel) (by decide +kernel)
set_option maxRecDepth 100000 in
theorem my_wsL_law0_r10 : GoodIn lw_tbl wsL_law0_r10 := goodIn_r _ [656, 668, 669, 670, 671, 672, 674, 468, 469, 470, 471, 678, 679, 680, 681, 682, 684, 9, 685, 992, 993, 994, 995, 941] (by decide +kernel) (by decide +kernel)
set_option maxRecDepth 100000 in
theorem my_wsL_law0_r11 : GoodIn lw_tbl wsL_law0_r11 := goodIn_r _ [943, 996, 998, 22, 999, 1000, 1002, 23, 1003, 1004, 1006, 24, 1007, 944, 1008, 1010, 25, 1011, 1012, 1014, 26, 1015, 1016, 1018] (by decide +kernel) (by decide +kernel)
set_option maxRecDepth 100000 in
theorem my_wsL_law0_r12 : GoodIn lw_tbl wsL_law0_r12 := goodIn_r _ [27, 1019, 1020, 1022, 28, 1023, 988, 989, 990, 991, 686, 687, 688, 689, 690, 691, 692, 694, 696, 10, 697, 342, 698, 699] (by decide +kernel) (by decide +kernel)
set_option maxRecDepth 100000 in
theorem my_wsL_law0_r13 : GoodIn lw_tbl wsL_law0_r13 := goodIn_r _ [700, 701, 702, 703, 705, 11, 706, 350, 707, 708, 709, 710, 711, 712, 714, 12, 715, 716, 717, 718, 719, 720, 721, 722] (by decide +kernel) (by decide +kernel)
set_option maxRecDepth 100000 in
theorem my_wsL_law0_r14 : GoodIn lw_tbl wsL_law0_r14 := goodIn_r _ [723, 724, 725, 727, 13, 728, 729, 731, 14, 732, 733, 734, 735, 736, 737, 739, 15, 740, 741, 743, 16, 744, 333, 745] (by decide +kernel) (by decide +kernel)
set_option maxRecDepth 100000 in
theorem my_wsL_law0_r15 : GoodIn lw_tbl wsL_law0_r15 := goodIn_r _ [746, 747, 748, 749, 751, 17, 752, 753, 754, 756, 18, 757, 758, 760, 19, 761, 762, 764, 20, 765, 766, 1024, 1025, 1026] (by decide +kernel) (by decide +kernel)
set_option maxRecDepth 100000 in
theorem my_wsL_law0_r16 : GoodIn lw_tbl wsL_law0_r16 := goodIn_r _ [1027, 1028, 1030, 29, 1031, 1032, 1034, 30, 1035, 1036, 1038, 31, 1039, 1040, 1042, 32, 1043, 1044, 1046, 33, 1047, 1048, 1050, 34] (by decide +kernel) (by decide +kernel)
set_option maxRecDepth 100000 in
theorem my_wsL_law0_r17 : GoodIn lw_tbl wsL_law0_r17 := goodIn_r _ [1051, 1052, 1054, 35, 1055, 1056, 1058, 36, 1059, 942, 1060, 1062, 37, 1063, 1064, 1066, 38, 1067, 1068, 1070, 39, 1071, 1072, 1074] (by decide +kernel) (by decide +kernel)
set_option maxRecDepth 100000 in
theorem my_wsL_law0_r18 : GoodIn lw_tbl wsL_law0_r18 := goodIn_r _ [40, 1075, 767, 768, 769, 770, 771, 772, 773, 337, 346, 775, 776, 777, 778, 1076, 1077, 1078, 1079, 779, 780, 781, 782, 783] (by decide +kernel) (by decide +kernel)
set_option maxRecDepth 100000 in
theorem my_wsL_law0_r19 : GoodIn lw_tbl wsL_law0_r19 := goodIn_r _ [784, 785, 1080, 1081, 1082, 1083, 788, 789, 790, 791, 792, 793, 794, 795, 118, 797, 798, 799, 800, 1084, 1085, 1086, 1087, 1088] (by decide +kernel) (by decide +kernel)
set_option maxRecDepth 100000 in
theorem my_wsL_law0_r20 : GoodIn lw_tbl wsL_law0_r20 := goodIn_r _ [157, 158, 159, 160, 1089, 1090, 1091, 1092, 1093, 1095, 41, 1096, 161, 162, 163, 164, 1097, 1098, 1099, 1100, 802, 803, 804, 805] (by decide +kernel) (by decide +kernel)
set_option maxRecDepth 100000 in
theorem my_wsL_law0_r21 : GoodIn lw_tbl wsL_law0_r21 := goodIn_r _ [806, 807, 808, 809, 811, 21, 812, 1101, 1102, 1103, 1104, 1105, 1107, 42, 1108, 814, 815, 816, 817, 818, 819, 820, 1109, 1110] (by decide +kernel) (by decide +kernel)
set_option maxRecDepth 100000 in
theorem my_wsL_law0_r22 : GoodIn lw_tbl wsL_law0_r22 := goodIn_r _ [1111, 1112, 821, 822, 823, 824, 825, 826, 827, 348, 1113, 1114, 1115, 1116, 828, 829, 830, 831, 832, 833, 834, 1117, 1118, 1119] (by decide +kernel) (by decide +kernel)
set_option maxRecDepth 100000 in
theorem my_wsL_law0_r23 : GoodIn lw_tbl wsL_law0_r23 := goodIn_r _ [1120, 835, 836, 837, 838, 839, 840, 841, 1121, 1122, 1123, 1124, 842, 843, 844, 845, 846, 847, 848, 339, 849, 850, 851, 1125] (by decide +kernel) (by decide +kernel)
set_option maxRecDepth 100000 in
theorem my_wsL_law0_r24 : GoodIn lw_tbl wsL_law0_r24 := goodIn_r _ [1126, 1127, 1128, 852, 853, 854, 855, 856, 857, 858, 1129, 1130, 1131, 1132, 859, 860, 861, 862, 863, 864, 865, 1133, 1134, 1135] (by decide +kernel) (by decide +kernel)
set_option maxRecDepth 100000 in
theorem my_wsL_law0_r25 : GoodIn lw_tbl wsL_law0_r25 := goodIn_r _ [1136, 866, 867, 868, 869, 870, 871, 872, 1137, 1138, 1139, 1140, 874, 875, 876, 877, 878, 879, 880, 1141, 1142, 1143, 1144, 881] (by decide +kernel) (by decide +kernel)
set_option maxRecDepth 100000 in
theorem my_wsL_law0_r26 : GoodIn lw_tbl wsL_law0_r26 := goodIn_r _ [882, 883, 884, 885, 886, 887, 1145, 1146, 1147, 1148, 888, 889, 890, 891, 892, 893, 894, 895, 896, 897, 898, 1149, 1150, 1151] (by decide +kernel) (by decide +kernel)
set_option maxRecDepth 100000 in
theorem my_wsL_law0_r27 : GoodIn lw_tbl wsL_law0_r27 := goodIn_r _ [1152, 899, 900, 901, 902, 903, 904, 905, 906, 907, 908, 909, 1153, 1154, 1155, 1156, 910, 911, 912, 913, 914, 915, 916, 917] (by decide +kernel) (by decide +kernel)
set_option maxRecDepth 100000 in
theorem my_wsL_law0_r28 : GoodIn lw_tbl wsL_law0_r28 := goodIn_r _ [1157, 1158, 1159, 1160] (by decide +kernel) (by decide +kernel)
set_option maxRecDepth 100000 in
theorem my_wsX20 : GoodIn lw_tbl wsX20 := goodIn_r _ [142, 144, 146, 148, 150, 152, 154] (by decide +kernel) (by decide +kernel)
set_option maxRecDepth 100000 in
theorem my_wsX30 : GoodIn lw_tbl wsX30 := goodIn_r _ [945, 947, 949, 951, 953, 955, 957, 959, 961, 963, 965, 967, 969, 971, 973, 975, 977, 979, 981, 983, 985] (by decide +kernel) (by decide +kernel)
set_option maxRecDepth 100000 in
theorem my_wsJx4a65c0 : GoodIn lw_tbl wsJx4a65c0 := goodIn_r _ [101, 97, 99] (by decide +kernel) (by decide +kernel)
set_option maxRecDepth 100000 in
theorem my_wsX10 : GoodIn lw_tbl wsX10 := goodIn_r _ [119, 121, 123, 125, 127, 129, 131] (by decide +kernel) (by decide +kernel)
set_option maxRecDepth 100000 in
theorem my_wsX00 : GoodIn lw_tbl wsX00 := goodIn_r _ [351, 353, 355, 357, 359, 361, 363, 365, 367, 369, 371] (by decide +kernel) (by decide +kernel)
set_option maxRecDepth 100000 in
theorem my_law0 : GoodIn lw_tbl wsL_law0 := goodIn_app (goodIn_app (goodIn_app (goodIn_app (goodIn_app (goodIn_app (goodIn_app my_wsL_law0_r1 (goodIn_app my_wsL_law0_r2 (goodIn_app my_wsL_law0_r3 (goodIn_app my_wsL_law0_r4 (goodIn_app my_wsL_law0_r5 (goodIn_app my_wsL_law0_r6 (goodIn_app my_wsL_law0_r7 (goodIn_app my_wsL_law0_r8 (goodIn_app my_wsL_law0_r9 (goodIn_app my_wsL_law0_r10 (goodIn_app my_wsL_law0_r11 (goodIn_app my_wsL_law0_r12 (goodIn_app my_wsL_law0_r13 (goodIn_app my_wsL_law0_r14 (goodIn_app my_wsL_law0_r15 (goodIn_app my_wsL_law0_r16 (goodIn_app my_wsL_law0_r17 (goodIn_app my_wsL_law0_r18 (goodIn_app my_wsL_law0_r19 (goodIn_app my_wsL_law0_r20 (goodIn_app my_wsL_law0_r21 (goodIn_app my_wsL_law0_r22 (goodIn_app my_wsL_law0_r23 (goodIn_app my_wsL_law0_r24 (goodIn_app my_wsL_law0_r25 (goodIn_app my_wsL_law0_r26 (goodIn_app my_wsL_law0_r27 (my_wsL_law0_r28)))))))))))))))))))))))))))) my_wsX20) my_wsX30) my_wsJx4a65c0) my_wsX10) my_wsX00) (fun _ h => absurd h List.not_mem_nil)
set_option maxRecDepth 100000 in
theorem wsL_law_in0 : ∀ w ∈ wsL_law0, w ∈ lw_tbl := fun w h => (my_law0 w h).1
theorem wsL_law_x0 : ∀ w ∈ (vx_atS RX2 48 "java/lang/IndexOutOfBoundsException" ["java/lang/RuntimeException", "java/lang/Exception"]).filter goodWord, w ∈ lw_tbl := by decide +kernel
theorem wsL_law_x1 : ∀ w ∈ (vx_atS RX2 59 "java/lang/IllegalArgumentException" ["java/lang/RuntimeException", "java/lang/Exception"]).filter goodWord, w ∈ lw_tbl := by decide +kernel
theorem wsL_law_x2 : ∀ w ∈ (vx_atS RX2 68 "java/lang/IllegalStateException" ["java/lang/RuntimeException", "java/lang/Exception"]).filter goodWord, w ∈ lw_tbl := by decide +kernel
theorem wsL_law_in : ∀ w ∈ wsL_law, w ∈ lw_tbl := fun w h => (List.mem_append.mp h).elim (fun h => (List.mem_append.mp h).elim (fun h => (List.mem_append.mp h).elim (fun h => wsL_law_in0 w h) (fun h => wsL_law_x0 w h)) (fun h => wsL_law_x1 w h)) (fun h => wsL_law_x2 w h)
theorem inlX0 : ∀ w ∈ wsX00, w ∈ wsL_law := fun _ h => List.mem_append_left _ (List.mem_append_left _ (List.mem_append_left _ (List.mem_append_left _ (List.mem_append_right _ h))))
theorem inX0 : ∀ w ∈ wsX00, w ∈ lw_tbl := fun w h => wsL_law_in w (inlX0 w h)
theorem inlX1 : ∀ w ∈ wsX10, w ∈ wsL_law := fun _ h => List.mem_append_left _ (List.mem_append_left _ (List.mem_append_left _ (List.mem_append_left _ (List.mem_append_left _ (List.mem_append_right _ h)))))
theorem inX1 : ∀ w ∈ wsX10, w ∈ lw_tbl := fun w h => wsL_law_in w (inlX1 w h)
theorem inlX2 : ∀ w ∈ wsX20, w ∈ wsL_law := fun _ h => List.mem_append_left _ (List.mem_append_left _ (List.mem_append_left _ (List.mem_append_left _ (List.mem_append_left _ (List.mem_append_left _ (List.mem_append_left _ (List.mem_append_left _ (List.mem_append_right _ h))))))))
theorem inX2 : ∀ w ∈ wsX20, w ∈ lw_tbl := fun w h => wsL_law_in w (inlX2 w h)
theorem inlX3 : ∀ w ∈ wsX30, w ∈ wsL_law := fun _ h => List.mem_append_left _ (List.mem_append_left _ (List.mem_append_left _ (List.mem_append_left _ (List.mem_append_left _ (List.mem_append_left _ (List.mem_append_left _ (List.mem_append_right _ h)))))))
theorem inX3 : ∀ w ∈ wsX30, w ∈ lw_tbl := fun w h => wsL_law_in w (inlX3 w h)
theorem inJx145de : ∀ w ∈ wsJx145de0, w ∈ lw_tbl := by decide +kernel
theorem inJ5 : ∀ w ∈ wsJ50, w ∈ lw_tbl := by decide +kernel
theorem inJx2cfe8 : ∀ w ∈ wsJx2cfe80, w ∈ lw_tbl := by decide +kernel
theorem inJx9f9b0 : ∀ w ∈ wsJx9f9b00, w ∈ lw_tbl := by decide +kernel
theorem inJx8e188 : ∀ w ∈ wsJx8e1880, w ∈ lw_tbl := by decide +kernel
theorem inJxb160c : ∀ w ∈ wsJxb160c0, w ∈ lw_tbl := by decide +kernel
theorem inJ6 : ∀ w ∈ wsJ60, w ∈ lw_tbl := by decide +kernel
theorem inJxab1ab : ∀ w ∈ wsJxab1ab0, w ∈ lw_tbl := by decide +kernel
theorem inJ9 : ∀ w ∈ wsJ90, w ∈ lw_tbl := by decide +kernel
theorem inJxd2413 : ∀ w ∈ wsJxd24130, w ∈ lw_tbl := by decide +kernel
theorem inJ0 : ∀ w ∈ wsJ00, w ∈ lw_tbl := by decide +kernel
theorem inJ4 : ∀ w ∈ wsJ40, w ∈ lw_tbl := by decide +kernel
theorem inJ1 : ∀ w ∈ wsJ10, w ∈ lw_tbl := by decide +kernel
theorem inJ2 : ∀ w ∈ wsJ20, w ∈ lw_tbl := by decide +kernel
theorem inJ10 : ∀ w ∈ wsJ100, w ∈ lw_tbl := by decide +kernel
theorem inJxfd54e : ∀ w ∈ wsJxfd54e0, w ∈ lw_tbl := by decide +kernel
theorem inJx3cf43 : ∀ w ∈ wsJx3cf430, w ∈ lw_tbl := by decide +kernel
theorem inJxa1e45 : ∀ w ∈ wsJxa1e450, w ∈ lw_tbl := by decide +kernel
theorem inJxc12de : ∀ w ∈ wsJxc12de0, w ∈ lw_tbl := by decide +kernel
theorem inlJx4a65c : ∀ w ∈ wsJx4a65c0, w ∈ wsL_law := fun _ h => List.mem_append_left _ (List.mem_append_left _ (List.mem_append_left _ (List.mem_append_left _ (List.mem_append_left _ (List.mem_append_left _ (List.mem_append_right _ h))))))
theorem inJx4a65c : ∀ w ∈ wsJx4a65c0, w ∈ lw_tbl := fun w h => wsL_law_in w (inlJx4a65c w h)
theorem inJ7 : ∀ w ∈ wsJ70, w ∈ lw_tbl := by decide +kernel
theorem inJx5ef63 : ∀ w ∈ wsJx5ef630, w ∈ lw_tbl := by decide +kernel
theorem inJxbd725 : ∀ w ∈ wsJxbd7250, w ∈ lw_tbl := by decide +kernel
theorem inJ15 : ∀ w ∈ wsJ150, w ∈ lw_tbl := by decide +kernel
theorem inJxf0a74 : ∀ w ∈ wsJxf0a740, w ∈ lw_tbl := by decide +kernel
theorem inJxa66e6 : ∀ w ∈ wsJxa66e60, w ∈ lw_tbl := by decide +kernel
theorem inJ8 : ∀ w ∈ wsJ80, w ∈ lw_tbl := by decide +kernel
theorem inJ3 : ∀ w ∈ wsJ30, w ∈ lw_tbl := by decide +kernel
abbrev vwCl : List vw_C := [(RJ0, TJ0, 4), (RJ4, TJ4, 4), (RJx4a65c, TJx4a65c, 3), (RX0, TX0, 11), (RX1, TX1, 7), (RX2, TX2, 7), (RX3, TX3, 21)]
end
section
theorem dJ9_max_7cf53_0 : decode cJ9_max_7cf53 0 = .ok (.iload_n 0, 1) := by decide +kernel
theorem dJ9_max_7cf53_1 : decode cJ9_max_7cf53 1 = .ok (.iload_n 1, 1) := by decide +kernel
theorem dJ9_max_7cf53_2 : decode cJ9_max_7cf53 2 = .ok (.if_icmp .lt 7, 3) := by decide +kernel
theorem dJ9_max_7cf53_5 : decode cJ9_max_7cf53 5 = .ok (.iload_n 0, 1) := by decide +kernel
theorem dJ9_max_7cf53_6 : decode cJ9_max_7cf53 6 = .ok (.goto 4, 3) := by decide +kernel
theorem dJ9_max_7cf53_9 : decode cJ9_max_7cf53 9 = .ok (.iload_n 1, 1) := by decide +kernel
theorem dJ9_max_7cf53_10 : decode cJ9_max_7cf53 10 = .ok (.ireturn, 1) := by decide +kernel
theorem dJ9_min_7cf53_0 : decode cJ9_min_7cf53 0 = .ok (.iload_n 0, 1) := by decide +kernel
theorem dJ9_min_7cf53_1 : decode cJ9_min_7cf53 1 = .ok (.iload_n 1, 1) := by decide +kernel
theorem dJ9_min_7cf53_2 : decode cJ9_min_7cf53 2 = .ok (.if_icmp .gt 7, 3) := by decide +kernel
theorem dJ9_min_7cf53_5 : decode cJ9_min_7cf53 5 = .ok (.iload_n 0, 1) := by decide +kernel
theorem dJ9_min_7cf53_6 : decode cJ9_min_7cf53 6 = .ok (.goto 4, 3) := by decide +kernel
theorem dJ9_min_7cf53_9 : decode cJ9_min_7cf53 9 = .ok (.iload_n 1, 1) := by decide +kernel
theorem dJ9_min_7cf53_10 : decode cJ9_min_7cf53 10 = .ok (.ireturn, 1) := by decide +kernel
theorem dJxa1e45_init_da8c8_0 : decode cJxa1e45_init_da8c8 0 = .ok (.aload_n 0, 1) := by decide +kernel
theorem dJxa1e45_init_da8c8_1 : decode cJxa1e45_init_da8c8 1 = .ok (.invokespecial 1, 3) := by decide +kernel
theorem dJxa1e45_init_da8c8_4 : decode cJxa1e45_init_da8c8 4 = .ok (.return_, 1) := by decide +kernel
set_option maxRecDepth 20000 in
theorem ggJxc12de_init_da8c8_Jxa1e45_init_da8c8 : GoodIn wsJxc12de_init_da8c8 wsJxa1e45_init_da8c8 := goodIn_r _ [5, 6, 7, 8] (by decide +kernel) (by decide +kernel)
set_option maxRecDepth 20000 in
theorem gJxc12de_init_da8c8_Jxa1e45_init_da8c8 : GoodIn wsJxc12de_init_da8c8 (wsJxa1e45_init_da8c8) := ggJxc12de_init_da8c8_Jxa1e45_init_da8c8
theorem dJxc12de_init_da8c8_0 : decode cJxc12de_init_da8c8 0 = .ok (.aload_n 0, 1) := by decide +kernel
theorem dJxc12de_init_da8c8_1 : decode cJxc12de_init_da8c8 1 = .ok (.invokespecial 1, 3) := by decide +kernel
theorem dJxc12de_init_da8c8_4 : decode cJxc12de_init_da8c8 4 = .ok (.aload_n 0, 1) := by decide +kernel
theorem dJxc12de_init_da8c8_5 : decode cJxc12de_init_da8c8 5 = .ok (.iconst 0, 1) := by decide +kernel
theorem dJxc12de_init_da8c8_6 : decode cJxc12de_init_da8c8 6 = .ok (.putfield 7, 3) := by decide +kernel
theorem dJxc12de_init_da8c8_9 : decode cJxc12de_init_da8c8 9 = .ok (.return_, 1) := by decide +kernel
set_option maxRecDepth 20000 in
theorem ggJx4a65c_init_da8c8_Jxc12de_init_da8c8 : GoodIn wsJx4a65c_init_da8c8 wsJxc12de_init_da8c8 := goodIn_r _ [6, 7, 8, 9, 10, 11, 12, 13, 14, 15, 16, 17] (by decide +kernel) (by decide +kernel)
set_option maxRecDepth 20000 in
theorem gJx4a65c_init_da8c8_Jxc12de_init_da8c8 : GoodIn wsJx4a65c_init_da8c8 (wsJxc12de_init_da8c8) := ggJx4a65c_init_da8c8_Jxc12de_init_da8c8
theorem dJx4a65c_init_da8c8_0 : decode cJx4a65c_init_da8c8 0 = .ok (.aload_n 0, 1) := by decide +kernel
theorem dJx4a65c_init_da8c8_1 : decode cJx4a65c_init_da8c8 1 = .ok (.invokespecial 1, 3) := by decide +kernel
theorem dJx4a65c_init_da8c8_4 : decode cJx4a65c_init_da8c8 4 = .ok (.aload_n 0, 1) := by decide +kernel
theorem dJx4a65c_init_da8c8_5 : decode cJx4a65c_init_da8c8 5 = .ok (.getstatic 39, 3) := by decide +kernel
theorem dJx4a65c_init_da8c8_8 : decode cJx4a65c_init_da8c8 8 = .ok (.putfield 9, 3) := by decide +kernel
theorem dJx4a65c_init_da8c8_11 : decode cJx4a65c_init_da8c8 11 = .ok (.return_, 1) := by decide +kernel
set_option maxRecDepth 20000 in
theorem ggJx4a65c_grow_92f84_J8_newLength_cabcc : GoodIn wsJx4a65c_grow_92f84 wsJ8_newLength_cabcc := goodIn_r _ [11, 12, 4, 5, 6, 13, 14, 15, 10, 16] (by decide +kernel) (by decide +kernel)
set_option maxRecDepth 20000 in
theorem gJx4a65c_grow_92f84_J8_newLength_cabcc : GoodIn wsJx4a65c_grow_92f84 (va_wsS RJx4a65c 73 yJ8_newLength_cabcc wsJ8_newLength_cabcc) := goodIn_app (goodIn_of _ (by decide +kernel)) ggJx4a65c_grow_92f84_J8_newLength_cabcc
set_option maxRecDepth 20000 in
theorem ggJx4a65c_grow_92f84_J7_copyOf_1904c : GoodIn wsJx4a65c_grow_92f84 wsJ7_copyOf_1904c := goodIn_r _ [20, 21, 22, 23, 24, 25, 26, 19, 27, 28, 29, 30, 31, 5, 32, 33, 34, 35, 36] (by decide +kernel) (by decide +kernel)
set_option maxRecDepth 20000 in
theorem gJx4a65c_grow_92f84_J7_copyOf_1904c : GoodIn wsJx4a65c_grow_92f84 (va_wsS RJx4a65c 66 yJ7_copyOf_1904c wsJ7_copyOf_1904c) := goodIn_app (goodIn_of _ (by decide +kernel)) ggJx4a65c_grow_92f84_J7_copyOf_1904c
theorem dJx4a65c_grow_92f84_0 : decode cJx4a65c_grow_92f84 0 = .ok (.aload_n 0, 1) := by decide +kernel
theorem dJx4a65c_grow_92f84_1 : decode cJx4a65c_grow_92f84 1 = .ok (.getfield 9, 3) := by decide +kernel
theorem dJx4a65c_grow_92f84_4 : decode cJx4a65c_grow_92f84 4 = .ok (.arraylength, 1) := by decide +kernel
theorem dJx4a65c_grow_92f84_5 : decode cJx4a65c_grow_92f84 5 = .ok (.istore_n 2, 1) := by decide +kernel
theorem dJx4a65c_grow_92f84_6 : decode cJx4a65c_grow_92f84 6 = .ok (.iload_n 2, 1) := by decide +kernel
theorem dJx4a65c_grow_92f84_7 : decode cJx4a65c_grow_92f84 7 = .ok (.ifCond .gt 13, 3) := by decide +kernel
theorem dJx4a65c_grow_92f84_10 : decode cJx4a65c_grow_92f84 10 = .ok (.aload_n 0, 1) := by decide +kernel
theorem dJx4a65c_grow_92f84_11 : decode cJx4a65c_grow_92f84 11 = .ok (.getfield 9, 3) := by decide +kernel
theorem dJx4a65c_grow_92f84_14 : decode cJx4a65c_grow_92f84 14 = .ok (.getstatic 39, 3) := by decide +kernel
theorem dJx4a65c_grow_92f84_17 : decode cJx4a65c_grow_92f84 17 = .ok (.if_acmp .eq 28, 3) := by decide +kernel
theorem dJx4a65c_grow_92f84_20 : decode cJx4a65c_grow_92f84 20 = .ok (.iload_n 2, 1) := by decide +kernel
theorem dJx4a65c_grow_92f84_21 : decode cJx4a65c_grow_92f84 21 = .ok (.iload_n 1, 1) := by decide +kernel
theorem dJx4a65c_grow_92f84_22 : decode cJx4a65c_grow_92f84 22 = .ok (.iload_n 2, 1) := by decide +kernel
theorem dJx4a65c_grow_92f84_23 : decode cJx4a65c_grow_92f84 23 = .ok (.isub, 1) := by decide +kernel
theorem dJx4a65c_grow_92f84_24 : decode cJx4a65c_grow_92f84 24 = .ok (.iload_n 2, 1) := by decide +kernel
theorem dJx4a65c_grow_92f84_25 : decode cJx4a65c_grow_92f84 25 = .ok (.iconst 1, 1) := by decide +kernel
theorem dJx4a65c_grow_92f84_26 : decode cJx4a65c_grow_92f84 26 = .ok (.ishr, 1) := by decide +kernel
theorem dJx4a65c_grow_92f84_27 : decode cJx4a65c_grow_92f84 27 = .ok (.invokestatic 73, 3) := by decide +kernel
theorem dJx4a65c_grow_92f84_30 : decode cJx4a65c_grow_92f84 30 = .ok (.istore_n 3, 1) := by decide +kernel
theorem dJx4a65c_grow_92f84_31 : decode cJx4a65c_grow_92f84 31 = .ok (.aload_n 0, 1) := by decide +kernel
theorem dJx4a65c_grow_92f84_32 : decode cJx4a65c_grow_92f84 32 = .ok (.aload_n 0, 1) := by decide +kernel
theorem dJx4a65c_grow_92f84_33 : decode cJx4a65c_grow_92f84 33 = .ok (.getfield 9, 3) := by decide +kernel
theorem dJx4a65c_grow_92f84_36 : decode cJx4a65c_grow_92f84 36 = .ok (.iload_n 3, 1) := by decide +kernel
theorem dJx4a65c_grow_92f84_37 : decode cJx4a65c_grow_92f84 37 = .ok (.invokestatic 66, 3) := by decide +kernel
theorem dJx4a65c_grow_92f84_40 : decode cJx4a65c_grow_92f84 40 = .ok (.dup_x1, 1) := by decide +kernel
theorem dJx4a65c_grow_92f84_41 : decode cJx4a65c_grow_92f84 41 = .ok (.putfield 9, 3) := by decide +kernel
theorem dJx4a65c_grow_92f84_44 : decode cJx4a65c_grow_92f84 44 = .ok (.areturn, 1) := by decide +kernel
theorem dJx4a65c_grow_92f84_45 : decode cJx4a65c_grow_92f84 45 = .ok (.aload_n 0, 1) := by decide +kernel
theorem dJx4a65c_grow_92f84_46 : decode cJx4a65c_grow_92f84 46 = .ok (.bipush 10, 2) := by decide +kernel
theorem dJx4a65c_grow_92f84_48 : decode cJx4a65c_grow_92f84 48 = .ok (.iload_n 1, 1) := by decide +kernel
theorem dJx4a65c_grow_92f84_49 : decode cJx4a65c_grow_92f84 49 = .ok (.invokestatic 79, 3) := by decide +kernel
theorem dJx4a65c_grow_92f84_52 : decode cJx4a65c_grow_92f84 52 = .ok (.anewarray 7, 3) := by decide +kernel
theorem dJx4a65c_grow_92f84_55 : decode cJx4a65c_grow_92f84 55 = .ok (.dup_x1, 1) := by decide +kernel
theorem dJx4a65c_grow_92f84_56 : decode cJx4a65c_grow_92f84 56 = .ok (.putfield 9, 3) := by decide +kernel
theorem dJx4a65c_grow_92f84_59 : decode cJx4a65c_grow_92f84 59 = .ok (.areturn, 1) := by decide +kernel
set_option maxRecDepth 20000 in
theorem ggJx4a65c_grow_d5877_Jx4a65c_grow_92f84 : GoodIn wsJx4a65c_grow_d5877 wsJx4a65c_grow_92f84 := goodIn_r _ [6, 7, 8, 9, 10, 11, 12, 13, 14, 15, 16, 17, 18, 19, 20, 21, 22, 23, 24, 25, 26, 27, 28, 29, 30, 31, 32, 33, 34, 35, 36, 37, 38, 39, 40, 41, 42, 43, 44, 45] (by decide +kernel) (by decide +kernel)
set_option maxRecDepth 20000 in
theorem gJx4a65c_grow_d5877_Jx4a65c_grow_92f84 : GoodIn wsJx4a65c_grow_d5877 (wsV RJx4a65c 69 RJx4a65c yJx4a65c_grow_92f84 wsJx4a65c_grow_92f84) := goodIn_app (goodIn_of _ (by decide +kernel)) ggJx4a65c_grow_d5877_Jx4a65c_grow_92f84
theorem dJx4a65c_grow_d5877_0 : decode cJx4a65c_grow_d5877 0 = .ok (.aload_n 0, 1) := by decide +kernel
theorem dJx4a65c_grow_d5877_1 : decode cJx4a65c_grow_d5877 1 = .ok (.aload_n 0, 1) := by decide +kernel
theorem dJx4a65c_grow_d5877_2 : decode cJx4a65c_grow_d5877 2 = .ok (.getfield 48, 3) := by decide +kernel
theorem dJx4a65c_grow_d5877_5 : decode cJx4a65c_grow_d5877 5 = .ok (.iconst 1, 1) := by decide +kernel
theorem dJx4a65c_grow_d5877_6 : decode cJx4a65c_grow_d5877 6 = .ok (.iadd, 1) := by decide +kernel
theorem dJx4a65c_grow_d5877_7 : decode cJx4a65c_grow_d5877 7 = .ok (.invokevirtual 69, 3) := by decide +kernel
theorem dJx4a65c_grow_d5877_10 : decode cJx4a65c_grow_d5877 10 = .ok (.areturn, 1) := by decide +kernel
theorem dJx4a65c_size_8abf5_0 : decode cJx4a65c_size_8abf5 0 = .ok (.aload_n 0, 1) := by decide +kernel
theorem dJx4a65c_size_8abf5_1 : decode cJx4a65c_size_8abf5 1 = .ok (.getfield 48, 3) := by decide +kernel
theorem dJx4a65c_size_8abf5_4 : decode cJx4a65c_size_8abf5 4 = .ok (.ireturn, 1) := by decide +kernel
theorem dJx4a65c_elementData_915e3_0 : decode cJx4a65c_elementData_915e3 0 = .ok (.aload_n 0, 1) := by decide +kernel
theorem dJx4a65c_elementData_915e3_1 : decode cJx4a65c_elementData_915e3 1 = .ok (.getfield 9, 3) := by decide +kernel
theorem dJx4a65c_elementData_915e3_4 : decode cJx4a65c_elementData_915e3 4 = .ok (.iload_n 1, 1) := by decide +kernel
theorem dJx4a65c_elementData_915e3_5 : decode cJx4a65c_elementData_915e3 5 = .ok (.aaload, 1) := by decide +kernel
theorem dJx4a65c_elementData_915e3_6 : decode cJx4a65c_elementData_915e3 6 = .ok (.areturn, 1) := by decide +kernel
set_option maxRecDepth 20000 in
theorem ggJx4a65c_get_915e3_J15_checkIndex_7cf53 : GoodIn wsJx4a65c_get_915e3 wsJ15_checkIndex_7cf53 := goodIn_r _ [5, 6, 7, 8, 9] (by decide +kernel) (by decide +kernel)
set_option maxRecDepth 20000 in
theorem gJx4a65c_get_915e3_J15_checkIndex_7cf53 : GoodIn wsJx4a65c_get_915e3 (va_wsS RJx4a65c 118 yJ15_checkIndex_7cf53 wsJ15_checkIndex_7cf53) := goodIn_app (goodIn_of _ (by decide +kernel)) ggJx4a65c_get_915e3_J15_checkIndex_7cf53
set_option maxRecDepth 20000 in
theorem ggJx4a65c_get_915e3_Jx4a65c_elementData_915e3 : GoodIn wsJx4a65c_get_915e3 wsJx4a65c_elementData_915e3 := goodIn_r _ [14, 15, 16, 17, 18] (by decide +kernel) (by decide +kernel)
set_option maxRecDepth 20000 in
theorem gJx4a65c_get_915e3_Jx4a65c_elementData_915e3 : GoodIn wsJx4a65c_get_915e3 (wsV RJx4a65c 123 RJx4a65c yJx4a65c_elementData_915e3 wsJx4a65c_elementData_915e3) := goodIn_app (goodIn_of _ (by decide +kernel)) ggJx4a65c_get_915e3_Jx4a65c_elementData_915e3
theorem dJx4a65c_get_915e3_0 : decode cJx4a65c_get_915e3 0 = .ok (.iload_n 1, 1) := by decide +kernel
theorem dJx4a65c_get_915e3_1 : decode cJx4a65c_get_915e3 1 = .ok (.aload_n 0, 1) := by decide +kernel
theorem dJx4a65c_get_915e3_2 : decode cJx4a65c_get_915e3 2 = .ok (.getfield 48, 3) := by decide +kernel
theorem dJx4a65c_get_915e3_5 : decode cJx4a65c_get_915e3 5 = .ok (.invokestatic 118, 3) := by decide +kernel
theorem dJx4a65c_get_915e3_8 : decode cJx4a65c_get_915e3 8 = .ok (.pop, 1) := by decide +kernel
theorem dJx4a65c_get_915e3_9 : decode cJx4a65c_get_915e3 9 = .ok (.aload_n 0, 1) := by decide +kernel
theorem dJx4a65c_get_915e3_10 : decode cJx4a65c_get_915e3 10 = .ok (.iload_n 1, 1) := by decide +kernel
theorem dJx4a65c_get_915e3_11 : decode cJx4a65c_get_915e3 11 = .ok (.invokevirtual 123, 3) := by decide +kernel
theorem dJx4a65c_get_915e3_14 : decode cJx4a65c_get_915e3 14 = .ok (.areturn, 1) := by decide +kernel
set_option maxRecDepth 20000 in
theorem ggJx4a65c_add_72be8_Jx4a65c_grow_d5877 : GoodIn wsJx4a65c_add_72be8 wsJx4a65c_grow_d5877 := goodIn_r _ [6, 1, 7, 8, 9, 5, 10, 11, 12, 13, 14, 15, 16, 17, 18, 19, 20, 21, 22, 23, 24, 25, 26, 27, 28, 29, 30, 31, 32, 33, 34, 35, 36, 37, 38, 39, 40, 41, 42, 43, 44, 45, 46, 47, 48, 49] (by decide +kernel) (by decide +kernel)
set_option maxRecDepth 20000 in
theorem gJx4a65c_add_72be8_Jx4a65c_grow_d5877 : GoodIn wsJx4a65c_add_72be8 (wsV RJx4a65c 129 RJx4a65c yJx4a65c_grow_d5877 wsJx4a65c_grow_d5877) := goodIn_app (goodIn_of _ (by decide +kernel)) ggJx4a65c_add_72be8_Jx4a65c_grow_d5877
theorem dJx4a65c_add_72be8_0 : decode cJx4a65c_add_72be8 0 = .ok (.iload_n 3, 1) := by decide +kernel
theorem dJx4a65c_add_72be8_1 : decode cJx4a65c_add_72be8 1 = .ok (.aload_n 2, 1) := by decide +kernel
theorem dJx4a65c_add_72be8_2 : decode cJx4a65c_add_72be8 2 = .ok (.arraylength, 1) := by decide +kernel
theorem dJx4a65c_add_72be8_3 : decode cJx4a65c_add_72be8 3 = .ok (.if_icmp .ne 8, 3) := by decide +kernel
theorem dJx4a65c_add_72be8_6 : decode cJx4a65c_add_72be8 6 = .ok (.aload_n 0, 1) := by decide +kernel
theorem dJx4a65c_add_72be8_7 : decode cJx4a65c_add_72be8 7 = .ok (.invokevirtual 129, 3) := by decide +kernel
theorem dJx4a65c_add_72be8_10 : decode cJx4a65c_add_72be8 10 = .ok (.astore_n 2, 1) := by decide +kernel
theorem dJx4a65c_add_72be8_11 : decode cJx4a65c_add_72be8 11 = .ok (.aload_n 2, 1) := by decide +kernel
theorem dJx4a65c_add_72be8_12 : decode cJx4a65c_add_72be8 12 = .ok (.iload_n 3, 1) := by decide +kernel
theorem dJx4a65c_add_72be8_13 : decode cJx4a65c_add_72be8 13 = .ok (.aload_n 1, 1) := by decide +kernel
theorem dJx4a65c_add_72be8_14 : decode cJx4a65c_add_72be8 14 = .ok (.aastore, 1) := by decide +kernel
theorem dJx4a65c_add_72be8_15 : decode cJx4a65c_add_72be8 15 = .ok (.aload_n 0, 1) := by decide +kernel
theorem dJx4a65c_add_72be8_16 : decode cJx4a65c_add_72be8 16 = .ok (.iload_n 3, 1) := by decide +kernel
theorem dJx4a65c_add_72be8_17 : decode cJx4a65c_add_72be8 17 = .ok (.iconst 1, 1) := by decide +kernel
theorem dJx4a65c_add_72be8_18 : decode cJx4a65c_add_72be8 18 = .ok (.iadd, 1) := by decide +kernel
theorem dJx4a65c_add_72be8_19 : decode cJx4a65c_add_72be8 19 = .ok (.putfield 48, 3) := by decide +kernel
theorem dJx4a65c_add_72be8_22 : decode cJx4a65c_add_72be8 22 = .ok (.return_, 1) := by decide +kernel
set_option maxRecDepth 20000 in
theorem ggJx4a65c_add_9ea2d_Jx4a65c_add_72be8 : GoodIn wsJx4a65c_add_9ea2d wsJx4a65c_add_72be8 := goodIn_r _ [9, 4, 10, 11, 12, 8, 13, 14, 15, 16, 17, 3, 18, 19, 20, 21, 22, 23, 24, 25, 26, 27, 28, 29, 30, 31, 32, 33, 34, 35, 36, 37, 38, 39, 40, 41, 42, 43, 44, 45, 46, 47, 48, 49, 50, 51, 52, 53, 54, 55] (by decide +kernel) (by decide +kernel)
set_option maxRecDepth 20000 in
theorem gJx4a65c_add_9ea2d_Jx4a65c_add_72be8 : GoodIn wsJx4a65c_add_9ea2d (wsV RJx4a65c 131 RJx4a65c yJx4a65c_add_72be8 wsJx4a65c_add_72be8) := goodIn_app (goodIn_of _ (by decide +kernel)) ggJx4a65c_add_9ea2d_Jx4a65c_add_72be8
theorem dJx4a65c_add_9ea2d_0 : decode cJx4a65c_add_9ea2d 0 = .ok (.aload_n 0, 1) := by decide +kernel
theorem dJx4a65c_add_9ea2d_1 : decode cJx4a65c_add_9ea2d 1 = .ok (.dup, 1) := by decide +kernel
theorem dJx4a65c_add_9ea2d_2 : decode cJx4a65c_add_9ea2d 2 = .ok (.getfield 63, 3) := by decide +kernel
theorem dJx4a65c_add_9ea2d_5 : decode cJx4a65c_add_9ea2d 5 = .ok (.iconst 1, 1) := by decide +kernel
theorem dJx4a65c_add_9ea2d_6 : decode cJx4a65c_add_9ea2d 6 = .ok (.iadd, 1) := by decide +kernel
theorem dJx4a65c_add_9ea2d_7 : decode cJx4a65c_add_9ea2d 7 = .ok (.putfield 63, 3) := by decide +kernel
theorem dJx4a65c_add_9ea2d_10 : decode cJx4a65c_add_9ea2d 10 = .ok (.aload_n 0, 1) := by decide +kernel
theorem dJx4a65c_add_9ea2d_11 : decode cJx4a65c_add_9ea2d 11 = .ok (.aload_n 1, 1) := by decide +kernel
theorem dJx4a65c_add_9ea2d_12 : decode cJx4a65c_add_9ea2d 12 = .ok (.aload_n 0, 1) := by decide +kernel
theorem dJx4a65c_add_9ea2d_13 : decode cJx4a65c_add_9ea2d 13 = .ok (.getfield 9, 3) := by decide +kernel
theorem dJx4a65c_add_9ea2d_16 : decode cJx4a65c_add_9ea2d 16 = .ok (.aload_n 0, 1) := by decide +kernel
theorem dJx4a65c_add_9ea2d_17 : decode cJx4a65c_add_9ea2d 17 = .ok (.getfield 48, 3) := by decide +kernel
theorem dJx4a65c_add_9ea2d_20 : decode cJx4a65c_add_9ea2d 20 = .ok (.invokevirtual 131, 3) := by decide +kernel
theorem dJx4a65c_add_9ea2d_23 : decode cJx4a65c_add_9ea2d 23 = .ok (.iconst 1, 1) := by decide +kernel
theorem dJx4a65c_add_9ea2d_24 : decode cJx4a65c_add_9ea2d 24 = .ok (.ireturn, 1) := by decide +kernel
set_option maxRecDepth 20000 in
theorem ggJx4a65c_add_7a177_Jx4a65c_rangeCheckForAdd_d00df : GoodIn wsJx4a65c_add_7a177 wsJx4a65c_rangeCheckForAdd_d00df := goodIn_r _ [13, 3, 54, 55, 56] (by decide +kernel) (by decide +kernel)
set_option maxRecDepth 20000 in
theorem gJx4a65c_add_7a177_Jx4a65c_rangeCheckForAdd_d00df : GoodIn wsJx4a65c_add_7a177 (wsV RJx4a65c 135 RJx4a65c yJx4a65c_rangeCheckForAdd_d00df wsJx4a65c_rangeCheckForAdd_d00df) := goodIn_app (goodIn_of _ (by decide +kernel)) ggJx4a65c_add_7a177_Jx4a65c_rangeCheckForAdd_d00df
set_option maxRecDepth 20000 in
theorem ggJx4a65c_add_7a177_Jx4a65c_grow_d5877 : GoodIn wsJx4a65c_add_7a177 wsJx4a65c_grow_d5877 := goodIn_r _ [17, 3, 18, 19, 20, 12, 21, 4, 22, 23, 24, 25, 26, 27, 28, 29, 30, 31, 32, 33, 34, 35, 36, 37, 38, 39, 40, 41, 42, 43, 44, 45, 46, 47, 48, 49, 50, 51, 52, 53, 6, 7, 8, 54, 55, 56] (by decide +kernel) (by decide +kernel)
set_option maxRecDepth 20000 in
theorem gJx4a65c_add_7a177_Jx4a65c_grow_d5877 : GoodIn wsJx4a65c_add_7a177 (wsV RJx4a65c 129 RJx4a65c yJx4a65c_grow_d5877 wsJx4a65c_grow_d5877) := goodIn_app (goodIn_of _ (by decide +kernel)) ggJx4a65c_add_7a177_Jx4a65c_grow_d5877
theorem dJx4a65c_add_7a177_0 : decode cJx4a65c_add_7a177 0 = .ok (.aload_n 0, 1) := by decide +kernel
theorem dJx4a65c_add_7a177_1 : decode cJx4a65c_add_7a177 1 = .ok (.iload_n 1, 1) := by decide +kernel
theorem dJx4a65c_add_7a177_2 : decode cJx4a65c_add_7a177 2 = .ok (.invokevirtual 135, 3) := by decide +kernel
theorem dJx4a65c_add_7a177_5 : decode cJx4a65c_add_7a177 5 = .ok (.aload_n 0, 1) := by decide +kernel
theorem dJx4a65c_add_7a177_6 : decode cJx4a65c_add_7a177 6 = .ok (.dup, 1) := by decide +kernel
theorem dJx4a65c_add_7a177_7 : decode cJx4a65c_add_7a177 7 = .ok (.getfield 63, 3) := by decide +kernel
theorem dJx4a65c_add_7a177_10 : decode cJx4a65c_add_7a177 10 = .ok (.iconst 1, 1) := by decide +kernel
theorem dJx4a65c_add_7a177_11 : decode cJx4a65c_add_7a177 11 = .ok (.iadd, 1) := by decide +kernel
theorem dJx4a65c_add_7a177_12 : decode cJx4a65c_add_7a177 12 = .ok (.putfield 63, 3) := by decide +kernel
theorem dJx4a65c_add_7a177_15 : decode cJx4a65c_add_7a177 15 = .ok (.aload_n 0, 1) := by decide +kernel
theorem dJx4a65c_add_7a177_16 : decode cJx4a65c_add_7a177 16 = .ok (.getfield 48, 3) := by decide +kernel
theorem dJx4a65c_add_7a177_19 : decode cJx4a65c_add_7a177 19 = .ok (.dup, 1) := by decide +kernel
theorem dJx4a65c_add_7a177_20 : decode cJx4a65c_add_7a177 20 = .ok (.istore_n 3, 1) := by decide +kernel
theorem dJx4a65c_add_7a177_21 : decode cJx4a65c_add_7a177 21 = .ok (.aload_n 0, 1) := by decide +kernel
theorem dJx4a65c_add_7a177_22 : decode cJx4a65c_add_7a177 22 = .ok (.getfield 9, 3) := by decide +kernel
theorem dJx4a65c_add_7a177_25 : decode cJx4a65c_add_7a177 25 = .ok (.dup, 1) := by decide +kernel
theorem dJx4a65c_add_7a177_26 : decode cJx4a65c_add_7a177 26 = .ok (.astore 4, 2) := by decide +kernel
theorem dJx4a65c_add_7a177_28 : decode cJx4a65c_add_7a177 28 = .ok (.arraylength, 1) := by decide +kernel
theorem dJx4a65c_add_7a177_29 : decode cJx4a65c_add_7a177 29 = .ok (.if_icmp .ne 9, 3) := by decide +kernel
theorem dJx4a65c_add_7a177_32 : decode cJx4a65c_add_7a177 32 = .ok (.aload_n 0, 1) := by decide +kernel
theorem dJx4a65c_add_7a177_33 : decode cJx4a65c_add_7a177 33 = .ok (.invokevirtual 129, 3) := by decide +kernel
theorem dJx4a65c_add_7a177_36 : decode cJx4a65c_add_7a177 36 = .ok (.astore 4, 2) := by decide +kernel
theorem dJx4a65c_add_7a177_38 : decode cJx4a65c_add_7a177 38 = .ok (.aload 4, 2) := by decide +kernel
theorem dJx4a65c_add_7a177_40 : decode cJx4a65c_add_7a177 40 = .ok (.iload_n 1, 1) := by decide +kernel
theorem dJx4a65c_add_7a177_41 : decode cJx4a65c_add_7a177 41 = .ok (.aload 4, 2) := by decide +kernel
theorem dJx4a65c_add_7a177_43 : decode cJx4a65c_add_7a177 43 = .ok (.iload_n 1, 1) := by decide +kernel
theorem dJx4a65c_add_7a177_44 : decode cJx4a65c_add_7a177 44 = .ok (.iconst 1, 1) := by decide +kernel
theorem dJx4a65c_add_7a177_45 : decode cJx4a65c_add_7a177 45 = .ok (.iadd, 1) := by decide +kernel
theorem dJx4a65c_add_7a177_46 : decode cJx4a65c_add_7a177 46 = .ok (.iload_n 3, 1) := by decide +kernel
theorem dJx4a65c_add_7a177_47 : decode cJx4a65c_add_7a177 47 = .ok (.iload_n 1, 1) := by decide +kernel
theorem dJx4a65c_add_7a177_48 : decode cJx4a65c_add_7a177 48 = .ok (.isub, 1) := by decide +kernel
theorem dJx4a65c_add_7a177_49 : decode cJx4a65c_add_7a177 49 = .ok (.invokestatic 112, 3) := by decide +kernel
theorem dJx4a65c_add_7a177_52 : decode cJx4a65c_add_7a177 52 = .ok (.aload 4, 2) := by decide +kernel
theorem dJx4a65c_add_7a177_54 : decode cJx4a65c_add_7a177 54 = .ok (.iload_n 1, 1) := by decide +kernel
theorem dJx4a65c_add_7a177_55 : decode cJx4a65c_add_7a177 55 = .ok (.aload_n 2, 1) := by decide +kernel
theorem dJx4a65c_add_7a177_56 : decode cJx4a65c_add_7a177 56 = .ok (.aastore, 1) := by decide +kernel
theorem dJx4a65c_add_7a177_57 : decode cJx4a65c_add_7a177 57 = .ok (.aload_n 0, 1) := by decide +kernel
theorem dJx4a65c_add_7a177_58 : decode cJx4a65c_add_7a177 58 = .ok (.iload_n 3, 1) := by decide +kernel
theorem dJx4a65c_add_7a177_59 : decode cJx4a65c_add_7a177 59 = .ok (.iconst 1, 1) := by decide +kernel
theorem dJx4a65c_add_7a177_60 : decode cJx4a65c_add_7a177 60 = .ok (.iadd, 1) := by decide +kernel
theorem dJx4a65c_add_7a177_61 : decode cJx4a65c_add_7a177 61 = .ok (.putfield 48, 3) := by decide +kernel
theorem dJx4a65c_add_7a177_64 : decode cJx4a65c_add_7a177 64 = .ok (.return_, 1) := by decide +kernel
theorem dJx4a65c_rangeCheckForAdd_d00df_0 : decode cJx4a65c_rangeCheckForAdd_d00df 0 = .ok (.iload_n 1, 1) := by decide +kernel
theorem dJx4a65c_rangeCheckForAdd_d00df_1 : decode cJx4a65c_rangeCheckForAdd_d00df 1 = .ok (.aload_n 0, 1) := by decide +kernel
theorem dJx4a65c_rangeCheckForAdd_d00df_2 : decode cJx4a65c_rangeCheckForAdd_d00df 2 = .ok (.getfield 48, 3) := by decide +kernel
theorem dJx4a65c_rangeCheckForAdd_d00df_5 : decode cJx4a65c_rangeCheckForAdd_d00df 5 = .ok (.if_icmp .gt 7, 3) := by decide +kernel
theorem dJx4a65c_rangeCheckForAdd_d00df_8 : decode cJx4a65c_rangeCheckForAdd_d00df 8 = .ok (.iload_n 1, 1) := by decide +kernel
theorem dJx4a65c_rangeCheckForAdd_d00df_9 : decode cJx4a65c_rangeCheckForAdd_d00df 9 = .ok (.ifCond .ge 16, 3) := by decide +kernel
theorem dJx4a65c_rangeCheckForAdd_d00df_12 : decode cJx4a65c_rangeCheckForAdd_d00df 12 = .ok (.new 187, 3) := by decide +kernel
theorem dJx4a65c_rangeCheckForAdd_d00df_15 : decode cJx4a65c_rangeCheckForAdd_d00df 15 = .ok (.dup, 1) := by decide +kernel
theorem dJx4a65c_rangeCheckForAdd_d00df_16 : decode cJx4a65c_rangeCheckForAdd_d00df 16 = .ok (.aload_n 0, 1) := by decide +kernel
theorem dJx4a65c_rangeCheckForAdd_d00df_17 : decode cJx4a65c_rangeCheckForAdd_d00df 17 = .ok (.iload_n 1, 1) := by decide +kernel
theorem dJx4a65c_rangeCheckForAdd_d00df_18 : decode cJx4a65c_rangeCheckForAdd_d00df 18 = .ok (.invokevirtual 198, 3) := by decide +kernel
theorem dJx4a65c_rangeCheckForAdd_d00df_21 : decode cJx4a65c_rangeCheckForAdd_d00df 21 = .ok (.invokespecial 193, 3) := by decide +kernel
theorem dJx4a65c_rangeCheckForAdd_d00df_24 : decode cJx4a65c_rangeCheckForAdd_d00df 24 = .ok (.athrow, 1) := by decide +kernel
theorem dJx4a65c_rangeCheckForAdd_d00df_25 : decode cJx4a65c_rangeCheckForAdd_d00df 25 = .ok (.return_, 1) := by decide +kernel
set_option maxRecDepth 20000 in
theorem ggJx4a65c_outOfBoundsMsg_b52d3_J4_init_da8c8 : GoodIn wsJx4a65c_outOfBoundsMsg_b52d3 wsJ4_init_da8c8 := goodIn_r _ [7, 8, 9, 10, 11, 12, 13, 14, 15, 16, 17, 18, 19, 20, 21, 22, 23, 24, 25, 26, 237, 238, 239, 240] (by decide +kernel) (by decide +kernel)
set_option maxRecDepth 20000 in
theorem gJx4a65c_outOfBoundsMsg_b52d3_J4_init_da8c8 : GoodIn wsJx4a65c_outOfBoundsMsg_b52d3 (wsJ4_init_da8c8) := ggJx4a65c_outOfBoundsMsg_b52d3_J4_init_da8c8
set_option maxRecDepth 20000 in
theorem ggJx4a65c_outOfBoundsMsg_b52d3_J4_append_15ec4 : GoodIn wsJx4a65c_outOfBoundsMsg_b52d3 wsJ4_append_15ec4 := goodIn_r _ [30, 31, 32, 33, 34, 10, 35, 36, 37, 38, 39, 40, 41, 17, 42, 43, 44, 45, 46, 18, 47, 48, 49, 50, 51, 52, 53, 54, 55, 56, 57, 58, 59, 60, 61, 62, 63, 64, 65, 66, 67, 68, 69, 70, 71, 72, 73, 74, 16, 75, 76, 77, 78, 79, 80, 81, 82, 83, 84, 85, 86, 15, 87, 88, 21, 89, 90, 91, 92, 93, 94, 95, 96, 97, 98, 99, 100, 101, 102, 103, 104, 105, 106, 107, 108, 109, 110, 111, 112, 113, 114, 115, 116, 117, 118, 119, 120, 121, 122, 123, 124, 125, 126, 127, 128, 129, 130, 131, 132, 133, 134, 135, 136, 137, 19, 20, 22, 23, 24, 25, 26, 138, 139, 140, 141, 142, 143, 144, 145, 146, 147, 148, 149, 150, 151, 152, 153, 154, 155, 156, 157, 158, 159, 237, 238, 239, 240, 244, 245, 246, 247] (by decide +kernel) (by decide +kernel)
set_option maxRecDepth 20000 in
theorem gJx4a65c_outOfBoundsMsg_b52d3_J4_append_15ec4 : GoodIn wsJx4a65c_outOfBoundsMsg_b52d3 (wsV RJx4a65c 25 RJ4 yJ4_append_15ec4 wsJ4_append_15ec4) := goodIn_app (goodIn_of _ (by decide +kernel)) ggJx4a65c_outOfBoundsMsg_b52d3_J4_append_15ec4
set_option maxRecDepth 20000 in
theorem ggJx4a65c_outOfBoundsMsg_b52d3_J4_append_bf812 : GoodIn wsJx4a65c_outOfBoundsMsg_b52d3 wsJ4_append_bf812 := goodIn_r _ [163, 164, 165, 33, 166, 10, 167, 36, 17, 168, 169, 170, 171, 42, 43, 44, 45, 46, 18, 47, 48, 49, 50, 51, 52, 53, 54, 55, 56, 57, 58, 59, 60, 61, 62, 63, 64, 65, 66, 67, 68, 69, 70, 71, 72, 73, 74, 16, 75, 76, 77, 78, 79, 80, 81, 82, 83, 84, 85, 86, 15, 172, 173, 174, 175, 176, 177, 178, 21, 179, 90, 91, 92, 93, 94, 95, 96, 97, 98, 99, 100, 101, 102, 103, 104, 105, 180, 181, 182, 183, 184, 106, 107, 108, 109, 110, 237, 238, 239, 240] (by decide +kernel) (by decide +kernel)
set_option maxRecDepth 20000 in
theorem gJx4a65c_outOfBoundsMsg_b52d3_J4_append_bf812 : GoodIn wsJx4a65c_outOfBoundsMsg_b52d3 (wsV RJx4a65c 29 RJ4 yJ4_append_bf812 wsJ4_append_bf812) := goodIn_app (goodIn_of _ (by decide +kernel)) ggJx4a65c_outOfBoundsMsg_b52d3_J4_append_bf812
set_option maxRecDepth 20000 in
theorem ggJx4a65c_outOfBoundsMsg_b52d3_J4_toString_0e30d : GoodIn wsJx4a65c_outOfBoundsMsg_b52d3 wsJ4_toString_0e30d := goodIn_r _ [188, 189, 190, 99, 191, 192, 193, 194, 195, 196, 197, 13, 14, 121, 115, 120, 198, 199, 200, 201, 202, 10, 203, 17, 204, 205, 206, 207, 208, 3, 209, 210, 33, 211, 212, 36, 213, 83, 84, 85, 86, 15, 18, 214, 215, 67, 216, 69, 70, 71, 72, 73, 74, 217, 218, 219, 16, 75, 76, 59, 77, 78, 79, 80, 81, 220, 221, 222, 223, 2, 224, 225, 21, 226, 227, 228, 229, 145, 146, 147, 94, 95, 96, 148, 149, 150, 101, 151, 152, 104, 153, 230, 231, 232, 90, 109, 110, 23, 24, 25, 26, 233, 234, 235, 236, 244, 245, 246, 247, 237, 238, 239, 240] (by decide +kernel) (by decide +kernel)
set_option maxRecDepth 20000 in
theorem gJx4a65c_outOfBoundsMsg_b52d3_J4_toString_0e30d : GoodIn wsJx4a65c_outOfBoundsMsg_b52d3 (wsV RJx4a65c 32 RJ4 yJ4_toString_0e30d wsJ4_toString_0e30d) := goodIn_app (goodIn_of _ (by decide +kernel)) ggJx4a65c_outOfBoundsMsg_b52d3_J4_toString_0e30d
theorem dJx4a65c_outOfBoundsMsg_b52d3_0 : decode cJx4a65c_outOfBoundsMsg_b52d3 0 = .ok (.new 20, 3) := by decide +kernel
theorem dJx4a65c_outOfBoundsMsg_b52d3_3 : decode cJx4a65c_outOfBoundsMsg_b52d3 3 = .ok (.dup, 1) := by decide +kernel
theorem dJx4a65c_outOfBoundsMsg_b52d3_4 : decode cJx4a65c_outOfBoundsMsg_b52d3 4 = .ok (.invokespecial 22, 3) := by decide +kernel
theorem dJx4a65c_outOfBoundsMsg_b52d3_7 : decode cJx4a65c_outOfBoundsMsg_b52d3 7 = .ok (.ldc 201, 2) := by decide +kernel
theorem dJx4a65c_outOfBoundsMsg_b52d3_9 : decode cJx4a65c_outOfBoundsMsg_b52d3 9 = .ok (.invokevirtual 25, 3) := by decide +kernel
theorem dJx4a65c_outOfBoundsMsg_b52d3_12 : decode cJx4a65c_outOfBoundsMsg_b52d3 12 = .ok (.iload_n 1, 1) := by decide +kernel
theorem dJx4a65c_outOfBoundsMsg_b52d3_13 : decode cJx4a65c_outOfBoundsMsg_b52d3 13 = .ok (.invokevirtual 29, 3) := by decide +kernel
theorem dJx4a65c_outOfBoundsMsg_b52d3_16 : decode cJx4a65c_outOfBoundsMsg_b52d3 16 = .ok (.ldc 203, 2) := by decide +kernel
theorem dJx4a65c_outOfBoundsMsg_b52d3_18 : decode cJx4a65c_outOfBoundsMsg_b52d3 18 = .ok (.invokevirtual 25, 3) := by decide +kernel
theorem dJx4a65c_outOfBoundsMsg_b52d3_21 : decode cJx4a65c_outOfBoundsMsg_b52d3 21 = .ok (.aload_n 0, 1) := by decide +kernel
theorem dJx4a65c_outOfBoundsMsg_b52d3_22 : decode cJx4a65c_outOfBoundsMsg_b52d3 22 = .ok (.getfield 48, 3) := by decide +kernel
theorem dJx4a65c_outOfBoundsMsg_b52d3_25 : decode cJx4a65c_outOfBoundsMsg_b52d3 25 = .ok (.invokevirtual 29, 3) := by decide +kernel
theorem dJx4a65c_outOfBoundsMsg_b52d3_28 : decode cJx4a65c_outOfBoundsMsg_b52d3 28 = .ok (.invokevirtual 32, 3) := by decide +kernel
theorem dJx4a65c_outOfBoundsMsg_b52d3_31 : decode cJx4a65c_outOfBoundsMsg_b52d3 31 = .ok (.areturn, 1) := by decide +kernel
set_option maxRecDepth 20000 in
theorem ggJ7_copyOf_1904c_J7_copyOf_6403c : GoodIn wsJ7_copyOf_1904c wsJ7_copyOf_6403c := goodIn_r _ [8, 9, 10, 11, 12, 13, 14, 15, 16, 17, 18] (by decide +kernel) (by decide +kernel)
set_option maxRecDepth 20000 in
theorem gJ7_copyOf_1904c_J7_copyOf_6403c : GoodIn wsJ7_copyOf_1904c (va_wsS RJ7 300 yJ7_copyOf_6403c wsJ7_copyOf_6403c) := goodIn_app (goodIn_of _ (by decide +kernel)) ggJ7_copyOf_1904c_J7_copyOf_6403c
theorem dJ7_copyOf_1904c_0 : decode cJ7_copyOf_1904c 0 = .ok (.aload_n 0, 1) := by decide +kernel
theorem dJ7_copyOf_1904c_1 : decode cJ7_copyOf_1904c 1 = .ok (.iload_n 1, 1) := by decide +kernel
theorem dJ7_copyOf_1904c_2 : decode cJ7_copyOf_1904c 2 = .ok (.aload_n 0, 1) := by decide +kernel
theorem dJ7_copyOf_1904c_3 : decode cJ7_copyOf_1904c 3 = .ok (.invokevirtual 86, 3) := by decide +kernel
theorem dJ7_copyOf_1904c_6 : decode cJ7_copyOf_1904c 6 = .ok (.invokestatic 300, 3) := by decide +kernel
theorem dJ7_copyOf_1904c_9 : decode cJ7_copyOf_1904c 9 = .ok (.areturn, 1) := by decide +kernel
theorem dJ7_copyOf_6403c_0 : decode cJ7_copyOf_6403c 0 = .ok (.aload_n 2, 1) := by decide +kernel
theorem dJ7_copyOf_6403c_1 : decode cJ7_copyOf_6403c 1 = .ok (.ldc 110, 2) := by decide +kernel
theorem dJ7_copyOf_6403c_3 : decode cJ7_copyOf_6403c 3 = .ok (.if_acmp .ne 10, 3) := by decide +kernel
theorem dJ7_copyOf_6403c_6 : decode cJ7_copyOf_6403c 6 = .ok (.iload_n 1, 1) := by decide +kernel
theorem dJ7_copyOf_6403c_7 : decode cJ7_copyOf_6403c 7 = .ok (.anewarray 2, 3) := by decide +kernel
theorem dJ7_copyOf_6403c_10 : decode cJ7_copyOf_6403c 10 = .ok (.goto 14, 3) := by decide +kernel
theorem dJ7_copyOf_6403c_13 : decode cJ7_copyOf_6403c 13 = .ok (.aload_n 2, 1) := by decide +kernel
theorem dJ7_copyOf_6403c_14 : decode cJ7_copyOf_6403c 14 = .ok (.invokevirtual 90, 3) := by decide +kernel
theorem dJ7_copyOf_6403c_17 : decode cJ7_copyOf_6403c 17 = .ok (.iload_n 1, 1) := by decide +kernel
theorem dJ7_copyOf_6403c_18 : decode cJ7_copyOf_6403c 18 = .ok (.invokestatic 95, 3) := by decide +kernel
theorem dJ7_copyOf_6403c_21 : decode cJ7_copyOf_6403c 21 = .ok (.checkcast 110, 3) := by decide +kernel
theorem dJ7_copyOf_6403c_24 : decode cJ7_copyOf_6403c 24 = .ok (.astore_n 3, 1) := by decide +kernel
theorem dJ7_copyOf_6403c_25 : decode cJ7_copyOf_6403c 25 = .ok (.aload_n 0, 1) := by decide +kernel
theorem dJ7_copyOf_6403c_26 : decode cJ7_copyOf_6403c 26 = .ok (.iconst 0, 1) := by decide +kernel
theorem dJ7_copyOf_6403c_27 : decode cJ7_copyOf_6403c 27 = .ok (.aload_n 3, 1) := by decide +kernel
theorem dJ7_copyOf_6403c_28 : decode cJ7_copyOf_6403c 28 = .ok (.iconst 0, 1) := by decide +kernel
theorem dJ7_copyOf_6403c_29 : decode cJ7_copyOf_6403c 29 = .ok (.aload_n 0, 1) := by decide +kernel
theorem dJ7_copyOf_6403c_30 : decode cJ7_copyOf_6403c 30 = .ok (.arraylength, 1) := by decide +kernel
theorem dJ7_copyOf_6403c_31 : decode cJ7_copyOf_6403c 31 = .ok (.iload_n 1, 1) := by decide +kernel
theorem dJ7_copyOf_6403c_32 : decode cJ7_copyOf_6403c 32 = .ok (.invokestatic 304, 3) := by decide +kernel
theorem dJ7_copyOf_6403c_35 : decode cJ7_copyOf_6403c 35 = .ok (.invokestatic 150, 3) := by decide +kernel
theorem dJ7_copyOf_6403c_38 : decode cJ7_copyOf_6403c 38 = .ok (.aload_n 3, 1) := by decide +kernel
theorem dJ7_copyOf_6403c_39 : decode cJ7_copyOf_6403c 39 = .ok (.areturn, 1) := by decide +kernel
theorem dJ7_copyOf_9075b_0 : decode cJ7_copyOf_9075b 0 = .ok (.iload_n 1, 1) := by decide +kernel
theorem dJ7_copyOf_9075b_1 : decode cJ7_copyOf_9075b 1 = .ok (.aload_n 0, 1) := by decide +kernel
theorem dJ7_copyOf_9075b_2 : decode cJ7_copyOf_9075b 2 = .ok (.arraylength, 1) := by decide +kernel
theorem dJ7_copyOf_9075b_3 : decode cJ7_copyOf_9075b 3 = .ok (.if_icmp .ne 11, 3) := by decide +kernel
theorem dJ7_copyOf_9075b_6 : decode cJ7_copyOf_9075b 6 = .ok (.aload_n 0, 1) := by decide +kernel
theorem dJ7_copyOf_9075b_7 : decode cJ7_copyOf_9075b 7 = .ok (.invokevirtual 310, 3) := by decide +kernel
theorem dJ7_copyOf_9075b_10 : decode cJ7_copyOf_9075b 10 = .ok (.checkcast 311, 3) := by decide +kernel
theorem dJ7_copyOf_9075b_13 : decode cJ7_copyOf_9075b 13 = .ok (.areturn, 1) := by decide +kernel
theorem dJ7_copyOf_9075b_14 : decode cJ7_copyOf_9075b 14 = .ok (.iload_n 1, 1) := by decide +kernel
theorem dJ7_copyOf_9075b_15 : decode cJ7_copyOf_9075b 15 = .ok (.newarray .byte, 2) := by decide +kernel
theorem dJ7_copyOf_9075b_17 : decode cJ7_copyOf_9075b 17 = .ok (.astore_n 2, 1) := by decide +kernel
theorem dJ7_copyOf_9075b_18 : decode cJ7_copyOf_9075b 18 = .ok (.aload_n 0, 1) := by decide +kernel
theorem dJ7_copyOf_9075b_19 : decode cJ7_copyOf_9075b 19 = .ok (.iconst 0, 1) := by decide +kernel
theorem dJ7_copyOf_9075b_20 : decode cJ7_copyOf_9075b 20 = .ok (.aload_n 2, 1) := by decide +kernel
theorem dJ7_copyOf_9075b_21 : decode cJ7_copyOf_9075b 21 = .ok (.iconst 0, 1) := by decide +kernel
theorem dJ7_copyOf_9075b_22 : decode cJ7_copyOf_9075b 22 = .ok (.aload_n 0, 1) := by decide +kernel
theorem dJ7_copyOf_9075b_23 : decode cJ7_copyOf_9075b 23 = .ok (.arraylength, 1) := by decide +kernel
theorem dJ7_copyOf_9075b_24 : decode cJ7_copyOf_9075b 24 = .ok (.iload_n 1, 1) := by decide +kernel
theorem dJ7_copyOf_9075b_25 : decode cJ7_copyOf_9075b 25 = .ok (.invokestatic 304, 3) := by decide +kernel
theorem dJ7_copyOf_9075b_28 : decode cJ7_copyOf_9075b 28 = .ok (.invokestatic 150, 3) := by decide +kernel
theorem dJ7_copyOf_9075b_31 : decode cJ7_copyOf_9075b 31 = .ok (.aload_n 2, 1) := by decide +kernel
theorem dJ7_copyOf_9075b_32 : decode cJ7_copyOf_9075b 32 = .ok (.areturn, 1) := by decide +kernel
theorem dJ7_checkLength_df160_0 : decode cJ7_checkLength_df160 0 = .ok (.iload_n 1, 1) := by decide +kernel
theorem dJ7_checkLength_df160_1 : decode cJ7_checkLength_df160 1 = .ok (.iload_n 0, 1) := by decide +kernel
theorem dJ7_checkLength_df160_2 : decode cJ7_checkLength_df160 2 = .ok (.if_icmp .ge 35, 3) := by decide +kernel
theorem dJ7_checkLength_df160_5 : decode cJ7_checkLength_df160 5 = .ok (.new 43, 3) := by decide +kernel
theorem dJ7_checkLength_df160_8 : decode cJ7_checkLength_df160 8 = .ok (.dup, 1) := by decide +kernel
theorem dJ7_checkLength_df160_9 : decode cJ7_checkLength_df160 9 = .ok (.new 45, 3) := by decide +kernel
theorem dJ7_checkLength_df160_12 : decode cJ7_checkLength_df160 12 = .ok (.dup, 1) := by decide +kernel
theorem dJ7_checkLength_df160_13 : decode cJ7_checkLength_df160 13 = .ok (.invokespecial 47, 3) := by decide +kernel
theorem dJ7_checkLength_df160_16 : decode cJ7_checkLength_df160 16 = .ok (.iload_n 0, 1) := by decide +kernel
theorem dJ7_checkLength_df160_17 : decode cJ7_checkLength_df160 17 = .ok (.invokevirtual 54, 3) := by decide +kernel
theorem dJ7_checkLength_df160_20 : decode cJ7_checkLength_df160 20 = .ok (.ldc_w 337, 3) := by decide +kernel
theorem dJ7_checkLength_df160_23 : decode cJ7_checkLength_df160 23 = .ok (.invokevirtual 50, 3) := by decide +kernel
theorem dJ7_checkLength_df160_26 : decode cJ7_checkLength_df160 26 = .ok (.iload_n 1, 1) := by decide +kernel
theorem dJ7_checkLength_df160_27 : decode cJ7_checkLength_df160 27 = .ok (.invokevirtual 54, 3) := by decide +kernel
theorem dJ7_checkLength_df160_30 : decode cJ7_checkLength_df160 30 = .ok (.invokevirtual 61, 3) := by decide +kernel
theorem dJ7_checkLength_df160_33 : decode cJ7_checkLength_df160 33 = .ok (.invokespecial 65, 3) := by decide +kernel
theorem dJ7_checkLength_df160_36 : decode cJ7_checkLength_df160 36 = .ok (.athrow, 1) := by decide +kernel
theorem dJ7_checkLength_df160_37 : decode cJ7_checkLength_df160 37 = .ok (.return_, 1) := by decide +kernel
set_option maxRecDepth 20000 in
theorem ggJ7_copyOfRange_39247_J7_copyOfRangeByte_39247 : GoodIn wsJ7_copyOfRange_39247 wsJ7_copyOfRangeByte_39247 := goodIn_r _ [10, 11, 12, 13, 14, 15, 16, 17, 18, 19, 20, 21, 9, 22, 23, 24, 25, 26, 27, 28, 29] (by decide +kernel) (by decide +kernel)
set_option maxRecDepth 20000 in
theorem gJ7_copyOfRange_39247_J7_copyOfRangeByte_39247 : GoodIn wsJ7_copyOfRange_39247 (va_wsS RJ7 339 yJ7_copyOfRangeByte_39247 wsJ7_copyOfRangeByte_39247) := goodIn_app (goodIn_of _ (by decide +kernel)) ggJ7_copyOfRange_39247_J7_copyOfRangeByte_39247
theorem dJ7_copyOfRange_39247_0 : decode cJ7_copyOfRange_39247 0 = .ok (.iload_n 1, 1) := by decide +kernel
theorem dJ7_copyOfRange_39247_1 : decode cJ7_copyOfRange_39247 1 = .ok (.ifCond .ne 9, 3) := by decide +kernel
theorem dJ7_copyOfRange_39247_4 : decode cJ7_copyOfRange_39247 4 = .ok (.iload_n 2, 1) := by decide +kernel
theorem dJ7_copyOfRange_39247_5 : decode cJ7_copyOfRange_39247 5 = .ok (.aload_n 0, 1) := by decide +kernel
theorem dJ7_copyOfRange_39247_6 : decode cJ7_copyOfRange_39247 6 = .ok (.arraylength, 1) := by decide +kernel
theorem dJ7_copyOfRange_39247_7 : decode cJ7_copyOfRange_39247 7 = .ok (.if_icmp .eq 10, 3) := by decide +kernel
theorem dJ7_copyOfRange_39247_10 : decode cJ7_copyOfRange_39247 10 = .ok (.aload_n 0, 1) := by decide +kernel
theorem dJ7_copyOfRange_39247_11 : decode cJ7_copyOfRange_39247 11 = .ok (.iload_n 1, 1) := by decide +kernel
theorem dJ7_copyOfRange_39247_12 : decode cJ7_copyOfRange_39247 12 = .ok (.iload_n 2, 1) := by decide +kernel
theorem dJ7_copyOfRange_39247_13 : decode cJ7_copyOfRange_39247 13 = .ok (.invokestatic 339, 3) := by decide +kernel
theorem dJ7_copyOfRange_39247_16 : decode cJ7_copyOfRange_39247 16 = .ok (.areturn, 1) := by decide +kernel
theorem dJ7_copyOfRange_39247_17 : decode cJ7_copyOfRange_39247 17 = .ok (.aload_n 0, 1) := by decide +kernel
theorem dJ7_copyOfRange_39247_18 : decode cJ7_copyOfRange_39247 18 = .ok (.invokevirtual 310, 3) := by decide +kernel
theorem dJ7_copyOfRange_39247_21 : decode cJ7_copyOfRange_39247 21 = .ok (.checkcast 311, 3) := by decide +kernel
theorem dJ7_copyOfRange_39247_24 : decode cJ7_copyOfRange_39247 24 = .ok (.areturn, 1) := by decide +kernel
set_option maxRecDepth 20000 in
theorem ggJ7_copyOfRangeByte_39247_J7_checkLength_df160 : GoodIn wsJ7_copyOfRangeByte_39247 wsJ7_checkLength_df160 := goodIn_r _ [13, 14, 15, 16, 17, 18, 19, 20] (by decide +kernel) (by decide +kernel)
set_option maxRecDepth 20000 in
theorem gJ7_copyOfRangeByte_39247_J7_checkLength_df160 : GoodIn wsJ7_copyOfRangeByte_39247 (va_wsS RJ7 343 yJ7_checkLength_df160 wsJ7_checkLength_df160) := goodIn_app (goodIn_of _ (by decide +kernel)) ggJ7_copyOfRangeByte_39247_J7_checkLength_df160
theorem dJ7_copyOfRangeByte_39247_0 : decode cJ7_copyOfRangeByte_39247 0 = .ok (.iload_n 1, 1) := by decide +kernel
theorem dJ7_copyOfRangeByte_39247_1 : decode cJ7_copyOfRangeByte_39247 1 = .ok (.iload_n 2, 1) := by decide +kernel
theorem dJ7_copyOfRangeByte_39247_2 : decode cJ7_copyOfRangeByte_39247 2 = .ok (.invokestatic 343, 3) := by decide +kernel
theorem dJ7_copyOfRangeByte_39247_5 : decode cJ7_copyOfRangeByte_39247 5 = .ok (.iload_n 2, 1) := by decide +kernel
theorem dJ7_copyOfRangeByte_39247_6 : decode cJ7_copyOfRangeByte_39247 6 = .ok (.iload_n 1, 1) := by decide +kernel
theorem dJ7_copyOfRangeByte_39247_7 : decode cJ7_copyOfRangeByte_39247 7 = .ok (.isub, 1) := by decide +kernel
theorem dJ7_copyOfRangeByte_39247_8 : decode cJ7_copyOfRangeByte_39247 8 = .ok (.istore_n 3, 1) := by decide +kernel
theorem dJ7_copyOfRangeByte_39247_9 : decode cJ7_copyOfRangeByte_39247 9 = .ok (.iload_n 3, 1) := by decide +kernel
theorem dJ7_copyOfRangeByte_39247_10 : decode cJ7_copyOfRangeByte_39247 10 = .ok (.newarray .byte, 2) := by decide +kernel
theorem dJ7_copyOfRangeByte_39247_12 : decode cJ7_copyOfRangeByte_39247 12 = .ok (.astore 4, 2) := by decide +kernel
theorem dJ7_copyOfRangeByte_39247_14 : decode cJ7_copyOfRangeByte_39247 14 = .ok (.aload_n 0, 1) := by decide +kernel
theorem dJ7_copyOfRangeByte_39247_15 : decode cJ7_copyOfRangeByte_39247 15 = .ok (.iload_n 1, 1) := by decide +kernel
theorem dJ7_copyOfRangeByte_39247_16 : decode cJ7_copyOfRangeByte_39247 16 = .ok (.aload 4, 2) := by decide +kernel
theorem dJ7_copyOfRangeByte_39247_18 : decode cJ7_copyOfRangeByte_39247 18 = .ok (.iconst 0, 1) := by decide +kernel
theorem dJ7_copyOfRangeByte_39247_19 : decode cJ7_copyOfRangeByte_39247 19 = .ok (.aload_n 0, 1) := by decide +kernel
theorem dJ7_copyOfRangeByte_39247_20 : decode cJ7_copyOfRangeByte_39247 20 = .ok (.arraylength, 1) := by decide +kernel
theorem dJ7_copyOfRangeByte_39247_21 : decode cJ7_copyOfRangeByte_39247 21 = .ok (.iload_n 1, 1) := by decide +kernel
theorem dJ7_copyOfRangeByte_39247_22 : decode cJ7_copyOfRangeByte_39247 22 = .ok (.isub, 1) := by decide +kernel
theorem dJ7_copyOfRangeByte_39247_23 : decode cJ7_copyOfRangeByte_39247 23 = .ok (.iload_n 3, 1) := by decide +kernel
theorem dJ7_copyOfRangeByte_39247_24 : decode cJ7_copyOfRangeByte_39247 24 = .ok (.invokestatic 304, 3) := by decide +kernel
theorem dJ7_copyOfRangeByte_39247_27 : decode cJ7_copyOfRangeByte_39247 27 = .ok (.invokestatic 150, 3) := by decide +kernel
theorem dJ7_copyOfRangeByte_39247_30 : decode cJ7_copyOfRangeByte_39247 30 = .ok (.aload 4, 2) := by decide +kernel
theorem dJ7_copyOfRangeByte_39247_32 : decode cJ7_copyOfRangeByte_39247 32 = .ok (.areturn, 1) := by decide +kernel
set_option maxRecDepth 20000 in
theorem ggJ15_checkIndex_7cf53_J3_checkIndex_8e157 : GoodIn wsJ15_checkIndex_7cf53 wsJ3_checkIndex_8e157 := goodIn_r _ [4] (by decide +kernel) (by decide +kernel)
set_option maxRecDepth 20000 in
theorem gJ15_checkIndex_7cf53_J3_checkIndex_8e157 : GoodIn wsJ15_checkIndex_7cf53 (va_wsS RJ15 105 yJ3_checkIndex_8e157 wsJ3_checkIndex_8e157) := goodIn_app (goodIn_of _ (by decide +kernel)) ggJ15_checkIndex_7cf53_J3_checkIndex_8e157
theorem dJ15_checkIndex_7cf53_0 : decode cJ15_checkIndex_7cf53 0 = .ok (.iload_n 0, 1) := by decide +kernel
theorem dJ15_checkIndex_7cf53_1 : decode cJ15_checkIndex_7cf53 1 = .ok (.iload_n 1, 1) := by decide +kernel
theorem dJ15_checkIndex_7cf53_2 : decode cJ15_checkIndex_7cf53 2 = .ok (.aconst_null, 1) := by decide +kernel
theorem dJ15_checkIndex_7cf53_3 : decode cJ15_checkIndex_7cf53 3 = .ok (.invokestatic 105, 3) := by decide +kernel
theorem dJ15_checkIndex_7cf53_6 : decode cJ15_checkIndex_7cf53 6 = .ok (.ireturn, 1) := by decide +kernel
set_option maxRecDepth 20000 in
theorem ggJ8_newLength_cabcc_J8_hugeLength_7cf53 : GoodIn wsJ8_newLength_cabcc wsJ8_hugeLength_7cf53 := goodIn_r _ [9, 5] (by decide +kernel) (by decide +kernel)
set_option maxRecDepth 20000 in
theorem gJ8_newLength_cabcc_J8_hugeLength_7cf53 : GoodIn wsJ8_newLength_cabcc (va_wsS RJ8 201 yJ8_hugeLength_7cf53 wsJ8_hugeLength_7cf53) := goodIn_app (goodIn_of _ (by decide +kernel)) ggJ8_newLength_cabcc_J8_hugeLength_7cf53
theorem dJ8_newLength_cabcc_0 : decode cJ8_newLength_cabcc 0 = .ok (.iload_n 0, 1) := by decide +kernel
theorem dJ8_newLength_cabcc_1 : decode cJ8_newLength_cabcc 1 = .ok (.iload_n 1, 1) := by decide +kernel
theorem dJ8_newLength_cabcc_2 : decode cJ8_newLength_cabcc 2 = .ok (.iload_n 2, 1) := by decide +kernel
theorem dJ8_newLength_cabcc_3 : decode cJ8_newLength_cabcc 3 = .ok (.invokestatic 194, 3) := by decide +kernel
theorem dJ8_newLength_cabcc_6 : decode cJ8_newLength_cabcc 6 = .ok (.iadd, 1) := by decide +kernel
theorem dJ8_newLength_cabcc_7 : decode cJ8_newLength_cabcc 7 = .ok (.istore_n 3, 1) := by decide +kernel
theorem dJ8_newLength_cabcc_8 : decode cJ8_newLength_cabcc 8 = .ok (.iconst 0, 1) := by decide +kernel
theorem dJ8_newLength_cabcc_9 : decode cJ8_newLength_cabcc 9 = .ok (.iload_n 3, 1) := by decide +kernel
theorem dJ8_newLength_cabcc_10 : decode cJ8_newLength_cabcc 10 = .ok (.if_icmp .ge 11, 3) := by decide +kernel
theorem dJ8_newLength_cabcc_13 : decode cJ8_newLength_cabcc 13 = .ok (.iload_n 3, 1) := by decide +kernel
theorem dJ8_newLength_cabcc_14 : decode cJ8_newLength_cabcc 14 = .ok (.ldc 200, 2) := by decide +kernel
theorem dJ8_newLength_cabcc_16 : decode cJ8_newLength_cabcc 16 = .ok (.if_icmp .gt 5, 3) := by decide +kernel
theorem dJ8_newLength_cabcc_19 : decode cJ8_newLength_cabcc 19 = .ok (.iload_n 3, 1) := by decide +kernel
theorem dJ8_newLength_cabcc_20 : decode cJ8_newLength_cabcc 20 = .ok (.ireturn, 1) := by decide +kernel
theorem dJ8_newLength_cabcc_21 : decode cJ8_newLength_cabcc 21 = .ok (.iload_n 0, 1) := by decide +kernel
theorem dJ8_newLength_cabcc_22 : decode cJ8_newLength_cabcc 22 = .ok (.iload_n 1, 1) := by decide +kernel
theorem dJ8_newLength_cabcc_23 : decode cJ8_newLength_cabcc 23 = .ok (.invokestatic 201, 3) := by decide +kernel
theorem dJ8_newLength_cabcc_26 : decode cJ8_newLength_cabcc 26 = .ok (.ireturn, 1) := by decide +kernel
theorem dJ8_hugeLength_7cf53_0 : decode cJ8_hugeLength_7cf53 0 = .ok (.iload_n 0, 1) := by decide +kernel
theorem dJ8_hugeLength_7cf53_1 : decode cJ8_hugeLength_7cf53 1 = .ok (.iload_n 1, 1) := by decide +kernel
theorem dJ8_hugeLength_7cf53_2 : decode cJ8_hugeLength_7cf53 2 = .ok (.iadd, 1) := by decide +kernel
theorem dJ8_hugeLength_7cf53_3 : decode cJ8_hugeLength_7cf53 3 = .ok (.istore_n 2, 1) := by decide +kernel
theorem dJ8_hugeLength_7cf53_4 : decode cJ8_hugeLength_7cf53 4 = .ok (.iload_n 2, 1) := by decide +kernel
theorem dJ8_hugeLength_7cf53_5 : decode cJ8_hugeLength_7cf53 5 = .ok (.ifCond .ge 44, 3) := by decide +kernel
theorem dJ8_hugeLength_7cf53_8 : decode cJ8_hugeLength_7cf53 8 = .ok (.new 204, 3) := by decide +kernel
theorem dJ8_hugeLength_7cf53_11 : decode cJ8_hugeLength_7cf53 11 = .ok (.dup, 1) := by decide +kernel
theorem dJ8_hugeLength_7cf53_12 : decode cJ8_hugeLength_7cf53 12 = .ok (.new 89, 3) := by decide +kernel
theorem dJ8_hugeLength_7cf53_15 : decode cJ8_hugeLength_7cf53 15 = .ok (.dup, 1) := by decide +kernel
theorem dJ8_hugeLength_7cf53_16 : decode cJ8_hugeLength_7cf53 16 = .ok (.invokespecial 91, 3) := by decide +kernel
theorem dJ8_hugeLength_7cf53_19 : decode cJ8_hugeLength_7cf53 19 = .ok (.ldc 206, 2) := by decide +kernel
theorem dJ8_hugeLength_7cf53_21 : decode cJ8_hugeLength_7cf53 21 = .ok (.invokevirtual 94, 3) := by decide +kernel
theorem dJ8_hugeLength_7cf53_24 : decode cJ8_hugeLength_7cf53 24 = .ok (.iload_n 0, 1) := by decide +kernel
theorem dJ8_hugeLength_7cf53_25 : decode cJ8_hugeLength_7cf53 25 = .ok (.invokevirtual 98, 3) := by decide +kernel
theorem dJ8_hugeLength_7cf53_28 : decode cJ8_hugeLength_7cf53 28 = .ok (.ldc 208, 2) := by decide +kernel
theorem dJ8_hugeLength_7cf53_30 : decode cJ8_hugeLength_7cf53 30 = .ok (.invokevirtual 94, 3) := by decide +kernel
theorem dJ8_hugeLength_7cf53_33 : decode cJ8_hugeLength_7cf53 33 = .ok (.iload_n 1, 1) := by decide +kernel
theorem dJ8_hugeLength_7cf53_34 : decode cJ8_hugeLength_7cf53 34 = .ok (.invokevirtual 98, 3) := by decide +kernel
theorem dJ8_hugeLength_7cf53_37 : decode cJ8_hugeLength_7cf53 37 = .ok (.ldc 210, 2) := by decide +kernel
theorem dJ8_hugeLength_7cf53_39 : decode cJ8_hugeLength_7cf53 39 = .ok (.invokevirtual 94, 3) := by decide +kernel
theorem dJ8_hugeLength_7cf53_42 : decode cJ8_hugeLength_7cf53 42 = .ok (.invokevirtual 101, 3) := by decide +kernel
theorem dJ8_hugeLength_7cf53_45 : decode cJ8_hugeLength_7cf53 45 = .ok (.invokespecial 212, 3) := by decide +kernel
theorem dJ8_hugeLength_7cf53_48 : decode cJ8_hugeLength_7cf53 48 = .ok (.athrow, 1) := by decide +kernel
theorem dJ8_hugeLength_7cf53_49 : decode cJ8_hugeLength_7cf53 49 = .ok (.iload_n 2, 1) := by decide +kernel
theorem dJ8_hugeLength_7cf53_50 : decode cJ8_hugeLength_7cf53 50 = .ok (.ldc 200, 2) := by decide +kernel
theorem dJ8_hugeLength_7cf53_52 : decode cJ8_hugeLength_7cf53 52 = .ok (.if_icmp .gt 6, 3) := by decide +kernel
theorem dJ8_hugeLength_7cf53_55 : decode cJ8_hugeLength_7cf53 55 = .ok (.ldc 200, 2) := by decide +kernel
theorem dJ8_hugeLength_7cf53_57 : decode cJ8_hugeLength_7cf53 57 = .ok (.ireturn, 1) := by decide +kernel
theorem dJ8_hugeLength_7cf53_58 : decode cJ8_hugeLength_7cf53 58 = .ok (.iload_n 2, 1) := by decide +kernel
theorem dJ8_hugeLength_7cf53_59 : decode cJ8_hugeLength_7cf53 59 = .ok (.ireturn, 1) := by decide +kernel
theorem dJ3_checkIndex_8e157_0 : decode cJ3_checkIndex_8e157 0 = .ok (.iload_n 0, 1) := by decide +kernel
theorem dJ3_checkIndex_8e157_1 : decode cJ3_checkIndex_8e157 1 = .ok (.ifCond .lt 8, 3) := by decide +kernel
theorem dJ3_checkIndex_8e157_4 : decode cJ3_checkIndex_8e157 4 = .ok (.iload_n 0, 1) := by decide +kernel
theorem dJ3_checkIndex_8e157_5 : decode cJ3_checkIndex_8e157 5 = .ok (.iload_n 1, 1) := by decide +kernel
theorem dJ3_checkIndex_8e157_6 : decode cJ3_checkIndex_8e157 6 = .ok (.if_icmp .lt 10, 3) := by decide +kernel
theorem dJ3_checkIndex_8e157_9 : decode cJ3_checkIndex_8e157 9 = .ok (.aload_n 2, 1) := by decide +kernel
theorem dJ3_checkIndex_8e157_10 : decode cJ3_checkIndex_8e157 10 = .ok (.iload_n 0, 1) := by decide +kernel
theorem dJ3_checkIndex_8e157_11 : decode cJ3_checkIndex_8e157 11 = .ok (.iload_n 1, 1) := by decide +kernel
theorem dJ3_checkIndex_8e157_12 : decode cJ3_checkIndex_8e157 12 = .ok (.invokestatic 95, 3) := by decide +kernel
theorem dJ3_checkIndex_8e157_15 : decode cJ3_checkIndex_8e157 15 = .ok (.athrow, 1) := by decide +kernel
theorem dJ3_checkIndex_8e157_16 : decode cJ3_checkIndex_8e157 16 = .ok (.iload_n 0, 1) := by decide +kernel
theorem dJ3_checkIndex_8e157_17 : decode cJ3_checkIndex_8e157 17 = .ok (.ireturn, 1) := by decide +kernel
theorem dJ3_checkFromToIndex_8c36e_0 : decode cJ3_checkFromToIndex_8c36e 0 = .ok (.iload_n 0, 1) := by decide +kernel
theorem dJ3_checkFromToIndex_8c36e_1 : decode cJ3_checkFromToIndex_8c36e 1 = .ok (.ifCond .lt 13, 3) := by decide +kernel
theorem dJ3_checkFromToIndex_8c36e_4 : decode cJ3_checkFromToIndex_8c36e 4 = .ok (.iload_n 0, 1) := by decide +kernel
theorem dJ3_checkFromToIndex_8c36e_5 : decode cJ3_checkFromToIndex_8c36e 5 = .ok (.iload_n 1, 1) := by decide +kernel
theorem dJ3_checkFromToIndex_8c36e_6 : decode cJ3_checkFromToIndex_8c36e 6 = .ok (.if_icmp .gt 8, 3) := by decide +kernel
theorem dJ3_checkFromToIndex_8c36e_9 : decode cJ3_checkFromToIndex_8c36e 9 = .ok (.iload_n 1, 1) := by decide +kernel
theorem dJ3_checkFromToIndex_8c36e_10 : decode cJ3_checkFromToIndex_8c36e 10 = .ok (.iload_n 2, 1) := by decide +kernel
theorem dJ3_checkFromToIndex_8c36e_11 : decode cJ3_checkFromToIndex_8c36e 11 = .ok (.if_icmp .le 11, 3) := by decide +kernel
theorem dJ3_checkFromToIndex_8c36e_14 : decode cJ3_checkFromToIndex_8c36e 14 = .ok (.aload_n 3, 1) := by decide +kernel
theorem dJ3_checkFromToIndex_8c36e_15 : decode cJ3_checkFromToIndex_8c36e 15 = .ok (.iload_n 0, 1) := by decide +kernel
theorem dJ3_checkFromToIndex_8c36e_16 : decode cJ3_checkFromToIndex_8c36e 16 = .ok (.iload_n 1, 1) := by decide +kernel
theorem dJ3_checkFromToIndex_8c36e_17 : decode cJ3_checkFromToIndex_8c36e 17 = .ok (.iload_n 2, 1) := by decide +kernel
theorem dJ3_checkFromToIndex_8c36e_18 : decode cJ3_checkFromToIndex_8c36e 18 = .ok (.invokestatic 99, 3) := by decide +kernel
theorem dJ3_checkFromToIndex_8c36e_21 : decode cJ3_checkFromToIndex_8c36e 21 = .ok (.athrow, 1) := by decide +kernel
theorem dJ3_checkFromToIndex_8c36e_22 : decode cJ3_checkFromToIndex_8c36e 22 = .ok (.iload_n 0, 1) := by decide +kernel
theorem dJ3_checkFromToIndex_8c36e_23 : decode cJ3_checkFromToIndex_8c36e 23 = .ok (.ireturn, 1) := by decide +kernel
theorem dJ3_checkFromIndexSize_8c36e_0 : decode cJ3_checkFromIndexSize_8c36e 0 = .ok (.iload_n 2, 1) := by decide +kernel
theorem dJ3_checkFromIndexSize_8c36e_1 : decode cJ3_checkFromIndexSize_8c36e 1 = .ok (.iload_n 0, 1) := by decide +kernel
theorem dJ3_checkFromIndexSize_8c36e_2 : decode cJ3_checkFromIndexSize_8c36e 2 = .ok (.ior, 1) := by decide +kernel
theorem dJ3_checkFromIndexSize_8c36e_3 : decode cJ3_checkFromIndexSize_8c36e 3 = .ok (.iload_n 1, 1) := by decide +kernel
theorem dJ3_checkFromIndexSize_8c36e_4 : decode cJ3_checkFromIndexSize_8c36e 4 = .ok (.ior, 1) := by decide +kernel
theorem dJ3_checkFromIndexSize_8c36e_5 : decode cJ3_checkFromIndexSize_8c36e 5 = .ok (.ifCond .lt 10, 3) := by decide +kernel
theorem dJ3_checkFromIndexSize_8c36e_8 : decode cJ3_checkFromIndexSize_8c36e 8 = .ok (.iload_n 1, 1) := by decide +kernel
theorem dJ3_checkFromIndexSize_8c36e_9 : decode cJ3_checkFromIndexSize_8c36e 9 = .ok (.iload_n 2, 1) := by decide +kernel
theorem dJ3_checkFromIndexSize_8c36e_10 : decode cJ3_checkFromIndexSize_8c36e 10 = .ok (.iload_n 0, 1) := by decide +kernel
theorem dJ3_checkFromIndexSize_8c36e_11 : decode cJ3_checkFromIndexSize_8c36e 11 = .ok (.isub, 1) := by decide +kernel
theorem dJ3_checkFromIndexSize_8c36e_12 : decode cJ3_checkFromIndexSize_8c36e 12 = .ok (.if_icmp .le 11, 3) := by decide +kernel
theorem dJ3_checkFromIndexSize_8c36e_15 : decode cJ3_checkFromIndexSize_8c36e 15 = .ok (.aload_n 3, 1) := by decide +kernel
theorem dJ3_checkFromIndexSize_8c36e_16 : decode cJ3_checkFromIndexSize_8c36e 16 = .ok (.iload_n 0, 1) := by decide +kernel
theorem dJ3_checkFromIndexSize_8c36e_17 : decode cJ3_checkFromIndexSize_8c36e 17 = .ok (.iload_n 1, 1) := by decide +kernel
theorem dJ3_checkFromIndexSize_8c36e_18 : decode cJ3_checkFromIndexSize_8c36e 18 = .ok (.iload_n 2, 1) := by decide +kernel
theorem dJ3_checkFromIndexSize_8c36e_19 : decode cJ3_checkFromIndexSize_8c36e 19 = .ok (.invokestatic 103, 3) := by decide +kernel
theorem dJ3_checkFromIndexSize_8c36e_22 : decode cJ3_checkFromIndexSize_8c36e 22 = .ok (.athrow, 1) := by decide +kernel
theorem dJ3_checkFromIndexSize_8c36e_23 : decode cJ3_checkFromIndexSize_8c36e 23 = .ok (.iload_n 0, 1) := by decide +kernel
theorem dJ3_checkFromIndexSize_8c36e_24 : decode cJ3_checkFromIndexSize_8c36e 24 = .ok (.ireturn, 1) := by decide +kernel
end
section
theorem dX0_init_0 : decode cX0_init 0 = .ok (.aload_n 0, 1) := by decide +kernel
theorem dX0_init_1 : decode cX0_init 1 = .ok (.invokespecial 3, 3) := by decide +kernel
theorem dX0_init_4 : decode cX0_init 4 = .ok (.aload_n 0, 1) := by decide +kernel
theorem dX0_init_5 : decode cX0_init 5 = .ok (.iload_n 1, 1) := by decide +kernel
theorem dX0_init_6 : decode cX0_init 6 = .ok (.putfield 9, 3) := by decide +kernel
theorem dX0_init_9 : decode cX0_init 9 = .ok (.aload_n 0, 1) := by decide +kernel
theorem dX0_init_10 : decode cX0_init 10 = .ok (.iload_n 2, 1) := by decide +kernel
theorem dX0_init_11 : decode cX0_init 11 = .ok (.putfield 15, 3) := by decide +kernel
theorem dX0_init_14 : decode cX0_init 14 = .ok (.aload_n 0, 1) := by decide +kernel
theorem dX0_init_15 : decode cX0_init 15 = .ok (.iload_n 3, 1) := by decide +kernel
theorem dX0_init_16 : decode cX0_init 16 = .ok (.putfield 18, 3) := by decide +kernel
theorem dX0_init_19 : decode cX0_init 19 = .ok (.aload_n 0, 1) := by decide +kernel
theorem dX0_init_20 : decode cX0_init 20 = .ok (.iload 4, 2) := by decide +kernel
theorem dX0_init_22 : decode cX0_init 22 = .ok (.putfield 21, 3) := by decide +kernel
theorem dX0_init_25 : decode cX0_init 25 = .ok (.aload_n 0, 1) := by decide +kernel
theorem dX0_init_26 : decode cX0_init 26 = .ok (.bipush 8, 2) := by decide +kernel
theorem dX0_init_28 : decode cX0_init 28 = .ok (.newarray .int, 2) := by decide +kernel
theorem dX0_init_30 : decode cX0_init 30 = .ok (.putfield 24, 3) := by decide +kernel
theorem dX0_init_33 : decode cX0_init 33 = .ok (.aload_n 0, 1) := by decide +kernel
theorem dX0_init_34 : decode cX0_init 34 = .ok (.bipush 8, 2) := by decide +kernel
theorem dX0_init_36 : decode cX0_init 36 = .ok (.newarray .int, 2) := by decide +kernel
theorem dX0_init_38 : decode cX0_init 38 = .ok (.putfield 28, 3) := by decide +kernel
theorem dX0_init_41 : decode cX0_init 41 = .ok (.aload_n 0, 1) := by decide +kernel
theorem dX0_init_42 : decode cX0_init 42 = .ok (.bipush 8, 2) := by decide +kernel
theorem dX0_init_44 : decode cX0_init 44 = .ok (.newarray .boolean, 2) := by decide +kernel
theorem dX0_init_46 : decode cX0_init 46 = .ok (.putfield 31, 3) := by decide +kernel
theorem dX0_init_49 : decode cX0_init 49 = .ok (.aload_n 0, 1) := by decide +kernel
theorem dX0_init_50 : decode cX0_init 50 = .ok (.iconst (-1), 1) := by decide +kernel
theorem dX0_init_51 : decode cX0_init 51 = .ok (.putfield 35, 3) := by decide +kernel
theorem dX0_init_54 : decode cX0_init 54 = .ok (.aload_n 0, 1) := by decide +kernel
theorem dX0_init_55 : decode cX0_init 55 = .ok (.iconst (-1), 1) := by decide +kernel
theorem dX0_init_56 : decode cX0_init 56 = .ok (.putfield 38, 3) := by decide +kernel
theorem dX0_init_59 : decode cX0_init 59 = .ok (.aload_n 0, 1) := by decide +kernel
theorem dX0_init_60 : decode cX0_init 60 = .ok (.iconst 0, 1) := by decide +kernel
theorem dX0_init_61 : decode cX0_init 61 = .ok (.putfield 41, 3) := by decide +kernel
theorem dX0_init_64 : decode cX0_init 64 = .ok (.aload_n 0, 1) := by decide +kernel
theorem dX0_init_65 : decode cX0_init 65 = .ok (.iconst (-1), 1) := by decide +kernel
theorem dX0_init_66 : decode cX0_init 66 = .ok (.putfield 44, 3) := by decide +kernel
theorem dX0_init_69 : decode cX0_init 69 = .ok (.return_, 1) := by decide +kernel
theorem dX0_isBefore_0 : decode cX0_isBefore 0 = .ok (.aload_n 0, 1) := by decide +kernel
theorem dX0_isBefore_1 : decode cX0_isBefore 1 = .ok (.getfield 18, 3) := by decide +kernel
theorem dX0_isBefore_4 : decode cX0_isBefore 4 = .ok (.aload_n 1, 1) := by decide +kernel
theorem dX0_isBefore_5 : decode cX0_isBefore 5 = .ok (.getfield 18, 3) := by decide +kernel
theorem dX0_isBefore_8 : decode cX0_isBefore 8 = .ok (.if_icmp .eq 20, 3) := by decide +kernel
theorem dX0_isBefore_11 : decode cX0_isBefore 11 = .ok (.aload_n 0, 1) := by decide +kernel
theorem dX0_isBefore_12 : decode cX0_isBefore 12 = .ok (.getfield 18, 3) := by decide +kernel
theorem dX0_isBefore_15 : decode cX0_isBefore 15 = .ok (.aload_n 1, 1) := by decide +kernel
theorem dX0_isBefore_16 : decode cX0_isBefore 16 = .ok (.getfield 18, 3) := by decide +kernel
theorem dX0_isBefore_19 : decode cX0_isBefore 19 = .ok (.if_icmp .le 7, 3) := by decide +kernel
theorem dX0_isBefore_22 : decode cX0_isBefore 22 = .ok (.iconst 1, 1) := by decide +kernel
theorem dX0_isBefore_23 : decode cX0_isBefore 23 = .ok (.goto 4, 3) := by decide +kernel
theorem dX0_isBefore_26 : decode cX0_isBefore 26 = .ok (.iconst 0, 1) := by decide +kernel
theorem dX0_isBefore_27 : decode cX0_isBefore 27 = .ok (.ireturn, 1) := by decide +kernel
theorem dX0_isBefore_28 : decode cX0_isBefore 28 = .ok (.aload_n 0, 1) := by decide +kernel
theorem dX0_isBefore_29 : decode cX0_isBefore 29 = .ok (.getfield 21, 3) := by decide +kernel
theorem dX0_isBefore_32 : decode cX0_isBefore 32 = .ok (.aload_n 1, 1) := by decide +kernel
theorem dX0_isBefore_33 : decode cX0_isBefore 33 = .ok (.getfield 21, 3) := by decide +kernel
theorem dX0_isBefore_36 : decode cX0_isBefore 36 = .ok (.if_icmp .eq 20, 3) := by decide +kernel
theorem dX0_isBefore_39 : decode cX0_isBefore 39 = .ok (.aload_n 0, 1) := by decide +kernel
theorem dX0_isBefore_40 : decode cX0_isBefore 40 = .ok (.getfield 21, 3) := by decide +kernel
theorem dX0_isBefore_43 : decode cX0_isBefore 43 = .ok (.aload_n 1, 1) := by decide +kernel
theorem dX0_isBefore_44 : decode cX0_isBefore 44 = .ok (.getfield 21, 3) := by decide +kernel
theorem dX0_isBefore_47 : decode cX0_isBefore 47 = .ok (.if_icmp .ge 7, 3) := by decide +kernel
theorem dX0_isBefore_50 : decode cX0_isBefore 50 = .ok (.iconst 1, 1) := by decide +kernel
theorem dX0_isBefore_51 : decode cX0_isBefore 51 = .ok (.goto 4, 3) := by decide +kernel
theorem dX0_isBefore_54 : decode cX0_isBefore 54 = .ok (.iconst 0, 1) := by decide +kernel
theorem dX0_isBefore_55 : decode cX0_isBefore 55 = .ok (.ireturn, 1) := by decide +kernel
theorem dX0_isBefore_56 : decode cX0_isBefore 56 = .ok (.aload_n 0, 1) := by decide +kernel
theorem dX0_isBefore_57 : decode cX0_isBefore 57 = .ok (.getfield 9, 3) := by decide +kernel
theorem dX0_isBefore_60 : decode cX0_isBefore 60 = .ok (.aload_n 1, 1) := by decide +kernel
theorem dX0_isBefore_61 : decode cX0_isBefore 61 = .ok (.getfield 9, 3) := by decide +kernel
theorem dX0_isBefore_64 : decode cX0_isBefore 64 = .ok (.if_icmp .ge 7, 3) := by decide +kernel
theorem dX0_isBefore_67 : decode cX0_isBefore 67 = .ok (.iconst 1, 1) := by decide +kernel
theorem dX0_isBefore_68 : decode cX0_isBefore 68 = .ok (.goto 4, 3) := by decide +kernel
theorem dX0_isBefore_71 : decode cX0_isBefore 71 = .ok (.iconst 0, 1) := by decide +kernel
theorem dX0_isBefore_72 : decode cX0_isBefore 72 = .ok (.ireturn, 1) := by decide +kernel
theorem dX0_isAt_0 : decode cX0_isAt 0 = .ok (.aload_n 0, 1) := by decide +kernel
theorem dX0_isAt_1 : decode cX0_isAt 1 = .ok (.getfield 24, 3) := by decide +kernel
theorem dX0_isAt_4 : decode cX0_isAt 4 = .ok (.iload_n 1, 1) := by decide +kernel
theorem dX0_isAt_5 : decode cX0_isAt 5 = .ok (.iaload, 1) := by decide +kernel
theorem dX0_isAt_6 : decode cX0_isAt 6 = .ok (.ifCond .le 7, 3) := by decide +kernel
theorem dX0_isAt_9 : decode cX0_isAt 9 = .ok (.iconst 1, 1) := by decide +kernel
theorem dX0_isAt_10 : decode cX0_isAt 10 = .ok (.goto 4, 3) := by decide +kernel
theorem dX0_isAt_13 : decode cX0_isAt 13 = .ok (.iconst 0, 1) := by decide +kernel
theorem dX0_isAt_14 : decode cX0_isAt 14 = .ok (.ireturn, 1) := by decide +kernel
set_option maxRecDepth 20000 in
theorem ggX0_canDeliver_X0_isAt : GoodIn wsX0_canDeliver wsX0_isAt := goodIn_r _ [6, 7, 8, 9, 10, 11, 12, 13, 14, 15, 16, 17, 18] (by decide +kernel) (by decide +kernel)
set_option maxRecDepth 20000 in
theorem gX0_canDeliver_X0_isAt : GoodIn wsX0_canDeliver (wsV RX0 47 RX0 yX0_isAt wsX0_isAt) := goodIn_app (goodIn_of _ (by decide +kernel)) ggX0_canDeliver_X0_isAt
theorem dX0_canDeliver_0 : decode cX0_canDeliver 0 = .ok (.aload_n 0, 1) := by decide +kernel
theorem dX0_canDeliver_1 : decode cX0_canDeliver 1 = .ok (.iload_n 1, 1) := by decide +kernel
theorem dX0_canDeliver_2 : decode cX0_canDeliver 2 = .ok (.invokevirtual 47, 3) := by decide +kernel
theorem dX0_canDeliver_5 : decode cX0_canDeliver 5 = .ok (.ifCond .eq 15, 3) := by decide +kernel
theorem dX0_canDeliver_8 : decode cX0_canDeliver 8 = .ok (.aload_n 0, 1) := by decide +kernel
theorem dX0_canDeliver_9 : decode cX0_canDeliver 9 = .ok (.getfield 15, 3) := by decide +kernel
theorem dX0_canDeliver_12 : decode cX0_canDeliver 12 = .ok (.iload_n 2, 1) := by decide +kernel
theorem dX0_canDeliver_13 : decode cX0_canDeliver 13 = .ok (.if_icmp .ne 7, 3) := by decide +kernel
theorem dX0_canDeliver_16 : decode cX0_canDeliver 16 = .ok (.iconst 1, 1) := by decide +kernel
theorem dX0_canDeliver_17 : decode cX0_canDeliver 17 = .ok (.goto 4, 3) := by decide +kernel
theorem dX0_canDeliver_20 : decode cX0_canDeliver 20 = .ok (.iconst 0, 1) := by decide +kernel
theorem dX0_canDeliver_21 : decode cX0_canDeliver 21 = .ok (.ireturn, 1) := by decide +kernel
set_option maxRecDepth 20000 in
theorem ggX0_canSpray_X0_isAt : GoodIn wsX0_canSpray wsX0_isAt := goodIn_r _ [7, 2, 8, 9, 10, 11, 12, 13, 14, 15, 16, 17, 18] (by decide +kernel) (by decide +kernel)
set_option maxRecDepth 20000 in
theorem gX0_canSpray_X0_isAt : GoodIn wsX0_canSpray (wsV RX0 47 RX0 yX0_isAt wsX0_isAt) := goodIn_app (goodIn_of _ (by decide +kernel)) ggX0_canSpray_X0_isAt
theorem dX0_canSpray_0 : decode cX0_canSpray 0 = .ok (.aload_n 0, 1) := by decide +kernel
theorem dX0_canSpray_1 : decode cX0_canSpray 1 = .ok (.getfield 15, 3) := by decide +kernel
theorem dX0_canSpray_4 : decode cX0_canSpray 4 = .ok (.iload_n 1, 1) := by decide +kernel
theorem dX0_canSpray_5 : decode cX0_canSpray 5 = .ok (.if_icmp .eq 33, 3) := by decide +kernel
theorem dX0_canSpray_8 : decode cX0_canSpray 8 = .ok (.aload_n 0, 1) := by decide +kernel
theorem dX0_canSpray_9 : decode cX0_canSpray 9 = .ok (.getfield 15, 3) := by decide +kernel
theorem dX0_canSpray_12 : decode cX0_canSpray 12 = .ok (.iload_n 2, 1) := by decide +kernel
theorem dX0_canSpray_13 : decode cX0_canSpray 13 = .ok (.if_icmp .eq 25, 3) := by decide +kernel
theorem dX0_canSpray_16 : decode cX0_canSpray 16 = .ok (.aload_n 0, 1) := by decide +kernel
theorem dX0_canSpray_17 : decode cX0_canSpray 17 = .ok (.getfield 24, 3) := by decide +kernel
theorem dX0_canSpray_20 : decode cX0_canSpray 20 = .ok (.iload_n 1, 1) := by decide +kernel
theorem dX0_canSpray_21 : decode cX0_canSpray 21 = .ok (.iaload, 1) := by decide +kernel
theorem dX0_canSpray_22 : decode cX0_canSpray 22 = .ok (.iconst 2, 1) := by decide +kernel
theorem dX0_canSpray_23 : decode cX0_canSpray 23 = .ok (.if_icmp .lt 15, 3) := by decide +kernel
theorem dX0_canSpray_26 : decode cX0_canSpray 26 = .ok (.aload_n 0, 1) := by decide +kernel
theorem dX0_canSpray_27 : decode cX0_canSpray 27 = .ok (.iload_n 2, 1) := by decide +kernel
theorem dX0_canSpray_28 : decode cX0_canSpray 28 = .ok (.invokevirtual 47, 3) := by decide +kernel
theorem dX0_canSpray_31 : decode cX0_canSpray 31 = .ok (.ifCond .ne 7, 3) := by decide +kernel
theorem dX0_canSpray_34 : decode cX0_canSpray 34 = .ok (.iconst 1, 1) := by decide +kernel
theorem dX0_canSpray_35 : decode cX0_canSpray 35 = .ok (.goto 4, 3) := by decide +kernel
theorem dX0_canSpray_38 : decode cX0_canSpray 38 = .ok (.iconst 0, 1) := by decide +kernel
theorem dX0_canSpray_39 : decode cX0_canSpray 39 = .ok (.ireturn, 1) := by decide +kernel
theorem dX0_put_0 : decode cX0_put 0 = .ok (.aload_n 0, 1) := by decide +kernel
theorem dX0_put_1 : decode cX0_put 1 = .ok (.getfield 24, 3) := by decide +kernel
theorem dX0_put_4 : decode cX0_put 4 = .ok (.iload_n 1, 1) := by decide +kernel
theorem dX0_put_5 : decode cX0_put 5 = .ok (.iload_n 2, 1) := by decide +kernel
theorem dX0_put_6 : decode cX0_put 6 = .ok (.iastore, 1) := by decide +kernel
theorem dX0_put_7 : decode cX0_put 7 = .ok (.aload_n 0, 1) := by decide +kernel
theorem dX0_put_8 : decode cX0_put 8 = .ok (.getfield 28, 3) := by decide +kernel
theorem dX0_put_11 : decode cX0_put 11 = .ok (.iload_n 1, 1) := by decide +kernel
theorem dX0_put_12 : decode cX0_put 12 = .ok (.iload_n 3, 1) := by decide +kernel
theorem dX0_put_13 : decode cX0_put 13 = .ok (.iastore, 1) := by decide +kernel
theorem dX0_put_14 : decode cX0_put 14 = .ok (.return_, 1) := by decide +kernel
set_option maxRecDepth 20000 in
theorem ggX0_leave_X0_put : GoodIn wsX0_leave wsX0_put := goodIn_r _ [5, 6, 7, 8, 9, 10, 11, 12, 13, 14, 15, 16, 17, 18] (by decide +kernel) (by decide +kernel)
set_option maxRecDepth 20000 in
theorem gX0_leave_X0_put : GoodIn wsX0_leave (wsV RX0 51 RX0 yX0_put wsX0_put) := goodIn_app (goodIn_of _ (by decide +kernel)) ggX0_leave_X0_put
theorem dX0_leave_0 : decode cX0_leave 0 = .ok (.aload_n 0, 1) := by decide +kernel
theorem dX0_leave_1 : decode cX0_leave 1 = .ok (.iload_n 1, 1) := by decide +kernel
theorem dX0_leave_2 : decode cX0_leave 2 = .ok (.iconst 0, 1) := by decide +kernel
theorem dX0_leave_3 : decode cX0_leave 3 = .ok (.iconst 0, 1) := by decide +kernel
theorem dX0_leave_4 : decode cX0_leave 4 = .ok (.invokevirtual 51, 3) := by decide +kernel
theorem dX0_leave_7 : decode cX0_leave 7 = .ok (.return_, 1) := by decide +kernel
set_option maxRecDepth 20000 in
theorem ggX0_halve_X0_put : GoodIn wsX0_halve wsX0_put := goodIn_r _ [7, 1, 2, 8, 9, 10, 11, 12, 13, 14, 15, 16, 17, 18] (by decide +kernel) (by decide +kernel)
set_option maxRecDepth 20000 in
theorem gX0_halve_X0_put : GoodIn wsX0_halve (wsV RX0 51 RX0 yX0_put wsX0_put) := goodIn_app (goodIn_of _ (by decide +kernel)) ggX0_halve_X0_put
theorem dX0_halve_0 : decode cX0_halve 0 = .ok (.aload_n 0, 1) := by decide +kernel
theorem dX0_halve_1 : decode cX0_halve 1 = .ok (.getfield 24, 3) := by decide +kernel
theorem dX0_halve_4 : decode cX0_halve 4 = .ok (.iload_n 1, 1) := by decide +kernel
theorem dX0_halve_5 : decode cX0_halve 5 = .ok (.iaload, 1) := by decide +kernel
theorem dX0_halve_6 : decode cX0_halve 6 = .ok (.iconst 2, 1) := by decide +kernel
theorem dX0_halve_7 : decode cX0_halve 7 = .ok (.idiv, 1) := by decide +kernel
theorem dX0_halve_8 : decode cX0_halve 8 = .ok (.istore_n 3, 1) := by decide +kernel
theorem dX0_halve_9 : decode cX0_halve 9 = .ok (.aload_n 0, 1) := by decide +kernel
theorem dX0_halve_10 : decode cX0_halve 10 = .ok (.getfield 24, 3) := by decide +kernel
theorem dX0_halve_13 : decode cX0_halve 13 = .ok (.iload_n 1, 1) := by decide +kernel
theorem dX0_halve_14 : decode cX0_halve 14 = .ok (.dup2, 1) := by decide +kernel
theorem dX0_halve_15 : decode cX0_halve 15 = .ok (.iaload, 1) := by decide +kernel
theorem dX0_halve_16 : decode cX0_halve 16 = .ok (.iload_n 3, 1) := by decide +kernel
theorem dX0_halve_17 : decode cX0_halve 17 = .ok (.isub, 1) := by decide +kernel
theorem dX0_halve_18 : decode cX0_halve 18 = .ok (.iastore, 1) := by decide +kernel
theorem dX0_halve_19 : decode cX0_halve 19 = .ok (.aload_n 0, 1) := by decide +kernel
theorem dX0_halve_20 : decode cX0_halve 20 = .ok (.iload_n 2, 1) := by decide +kernel
theorem dX0_halve_21 : decode cX0_halve 21 = .ok (.iload_n 3, 1) := by decide +kernel
theorem dX0_halve_22 : decode cX0_halve 22 = .ok (.aload_n 0, 1) := by decide +kernel
theorem dX0_halve_23 : decode cX0_halve 23 = .ok (.getfield 28, 3) := by decide +kernel
theorem dX0_halve_26 : decode cX0_halve 26 = .ok (.iload_n 1, 1) := by decide +kernel
theorem dX0_halve_27 : decode cX0_halve 27 = .ok (.iaload, 1) := by decide +kernel
theorem dX0_halve_28 : decode cX0_halve 28 = .ok (.iconst 1, 1) := by decide +kernel
theorem dX0_halve_29 : decode cX0_halve 29 = .ok (.iadd, 1) := by decide +kernel
theorem dX0_halve_30 : decode cX0_halve 30 = .ok (.invokevirtual 51, 3) := by decide +kernel
theorem dX0_halve_33 : decode cX0_halve 33 = .ok (.return_, 1) := by decide +kernel
set_option maxRecDepth 20000 in
theorem ggX0_deliver_X0_learn : GoodIn wsX0_deliver wsX0_learn := goodIn_r _ [9, 10, 11, 12, 13, 14, 8, 15, 16, 17, 18, 19, 20, 2, 21, 22, 23, 24, 25, 26, 27, 28, 29, 30, 31] (by decide +kernel) (by decide +kernel)
set_option maxRecDepth 20000 in
theorem gX0_deliver_X0_learn : GoodIn wsX0_deliver (wsV RX0 55 RX0 yX0_learn wsX0_learn) := goodIn_app (goodIn_of _ (by decide +kernel)) ggX0_deliver_X0_learn
theorem dX0_deliver_0 : decode cX0_deliver 0 = .ok (.aload_n 0, 1) := by decide +kernel
theorem dX0_deliver_1 : decode cX0_deliver 1 = .ok (.iload_n 2, 1) := by decide +kernel
theorem dX0_deliver_2 : decode cX0_deliver 2 = .ok (.putfield 38, 3) := by decide +kernel
theorem dX0_deliver_5 : decode cX0_deliver 5 = .ok (.aload_n 0, 1) := by decide +kernel
theorem dX0_deliver_6 : decode cX0_deliver 6 = .ok (.aload_n 0, 1) := by decide +kernel
theorem dX0_deliver_7 : decode cX0_deliver 7 = .ok (.getfield 28, 3) := by decide +kernel
theorem dX0_deliver_10 : decode cX0_deliver 10 = .ok (.iload_n 1, 1) := by decide +kernel
theorem dX0_deliver_11 : decode cX0_deliver 11 = .ok (.iaload, 1) := by decide +kernel
theorem dX0_deliver_12 : decode cX0_deliver 12 = .ok (.iconst 1, 1) := by decide +kernel
theorem dX0_deliver_13 : decode cX0_deliver 13 = .ok (.iadd, 1) := by decide +kernel
theorem dX0_deliver_14 : decode cX0_deliver 14 = .ok (.putfield 41, 3) := by decide +kernel
theorem dX0_deliver_17 : decode cX0_deliver 17 = .ok (.aload_n 0, 1) := by decide +kernel
theorem dX0_deliver_18 : decode cX0_deliver 18 = .ok (.iload_n 1, 1) := by decide +kernel
theorem dX0_deliver_19 : decode cX0_deliver 19 = .ok (.invokevirtual 55, 3) := by decide +kernel
theorem dX0_deliver_22 : decode cX0_deliver 22 = .ok (.aload_n 0, 1) := by decide +kernel
theorem dX0_deliver_23 : decode cX0_deliver 23 = .ok (.aload_n 0, 1) := by decide +kernel
theorem dX0_deliver_24 : decode cX0_deliver 24 = .ok (.getfield 15, 3) := by decide +kernel
theorem dX0_deliver_27 : decode cX0_deliver 27 = .ok (.invokevirtual 55, 3) := by decide +kernel
theorem dX0_deliver_30 : decode cX0_deliver 30 = .ok (.return_, 1) := by decide +kernel
set_option maxRecDepth 20000 in
theorem ggX0_learn_X0_leave : GoodIn wsX0_learn wsX0_leave := goodIn_r _ [7, 8, 9, 10, 6, 11, 12, 13, 14, 15, 16, 17, 18, 19, 20, 21, 22, 23, 24] (by decide +kernel) (by decide +kernel)
set_option maxRecDepth 20000 in
theorem gX0_learn_X0_leave : GoodIn wsX0_learn (wsV RX0 59 RX0 yX0_leave wsX0_leave) := goodIn_app (goodIn_of _ (by decide +kernel)) ggX0_learn_X0_leave
theorem dX0_learn_0 : decode cX0_learn 0 = .ok (.aload_n 0, 1) := by decide +kernel
theorem dX0_learn_1 : decode cX0_learn 1 = .ok (.getfield 31, 3) := by decide +kernel
theorem dX0_learn_4 : decode cX0_learn 4 = .ok (.iload_n 1, 1) := by decide +kernel
theorem dX0_learn_5 : decode cX0_learn 5 = .ok (.iconst 1, 1) := by decide +kernel
theorem dX0_learn_6 : decode cX0_learn 6 = .ok (.bastore, 1) := by decide +kernel
theorem dX0_learn_7 : decode cX0_learn 7 = .ok (.aload_n 0, 1) := by decide +kernel
theorem dX0_learn_8 : decode cX0_learn 8 = .ok (.iload_n 1, 1) := by decide +kernel
theorem dX0_learn_9 : decode cX0_learn 9 = .ok (.invokevirtual 59, 3) := by decide +kernel
theorem dX0_learn_12 : decode cX0_learn 12 = .ok (.aload_n 0, 1) := by decide +kernel
theorem dX0_learn_13 : decode cX0_learn 13 = .ok (.getfield 35, 3) := by decide +kernel
theorem dX0_learn_16 : decode cX0_learn 16 = .ok (.iload_n 1, 1) := by decide +kernel
theorem dX0_learn_17 : decode cX0_learn 17 = .ok (.if_icmp .ne 8, 3) := by decide +kernel
theorem dX0_learn_20 : decode cX0_learn 20 = .ok (.aload_n 0, 1) := by decide +kernel
theorem dX0_learn_21 : decode cX0_learn 21 = .ok (.iconst (-1), 1) := by decide +kernel
theorem dX0_learn_22 : decode cX0_learn 22 = .ok (.putfield 35, 3) := by decide +kernel
theorem dX0_learn_25 : decode cX0_learn 25 = .ok (.return_, 1) := by decide +kernel
set_option maxRecDepth 20000 in
theorem ggX0_vanish_X0_leave : GoodIn wsX0_vanish wsX0_leave := goodIn_r _ [6, 7, 8, 9, 5, 10, 11, 12, 13, 14, 15, 16, 17, 18, 19, 20, 21, 22, 23] (by decide +kernel) (by decide +kernel)
set_option maxRecDepth 20000 in
theorem gX0_vanish_X0_leave : GoodIn wsX0_vanish (wsV RX0 59 RX0 yX0_leave wsX0_leave) := goodIn_app (goodIn_of _ (by decide +kernel)) ggX0_vanish_X0_leave
theorem dX0_vanish_0 : decode cX0_vanish 0 = .ok (.iconst 0, 1) := by decide +kernel
theorem dX0_vanish_1 : decode cX0_vanish 1 = .ok (.istore_n 1, 1) := by decide +kernel
theorem dX0_vanish_2 : decode cX0_vanish 2 = .ok (.iload_n 1, 1) := by decide +kernel
theorem dX0_vanish_3 : decode cX0_vanish 3 = .ok (.bipush 8, 2) := by decide +kernel
theorem dX0_vanish_5 : decode cX0_vanish 5 = .ok (.if_icmp .ge 14, 3) := by decide +kernel
theorem dX0_vanish_8 : decode cX0_vanish 8 = .ok (.aload_n 0, 1) := by decide +kernel
theorem dX0_vanish_9 : decode cX0_vanish 9 = .ok (.iload_n 1, 1) := by decide +kernel
theorem dX0_vanish_10 : decode cX0_vanish 10 = .ok (.invokevirtual 59, 3) := by decide +kernel
theorem dX0_vanish_13 : decode cX0_vanish 13 = .ok (.iinc 1 1, 3) := by decide +kernel
theorem dX0_vanish_16 : decode cX0_vanish 16 = .ok (.goto (-14), 3) := by decide +kernel
theorem dX0_vanish_19 : decode cX0_vanish 19 = .ok (.aload_n 0, 1) := by decide +kernel
theorem dX0_vanish_20 : decode cX0_vanish 20 = .ok (.iconst (-1), 1) := by decide +kernel
theorem dX0_vanish_21 : decode cX0_vanish 21 = .ok (.putfield 35, 3) := by decide +kernel
theorem dX0_vanish_24 : decode cX0_vanish 24 = .ok (.return_, 1) := by decide +kernel
theorem dX1_init_0 : decode cX1_init 0 = .ok (.aload_n 0, 1) := by decide +kernel
theorem dX1_init_1 : decode cX1_init 1 = .ok (.invokespecial 3, 3) := by decide +kernel
theorem dX1_init_4 : decode cX1_init 4 = .ok (.aload_n 0, 1) := by decide +kernel
theorem dX1_init_5 : decode cX1_init 5 = .ok (.bipush 30, 2) := by decide +kernel
theorem dX1_init_7 : decode cX1_init 7 = .ok (.newarray .int, 2) := by decide +kernel
theorem dX1_init_9 : decode cX1_init 9 = .ok (.putfield 9, 3) := by decide +kernel
theorem dX1_init_12 : decode cX1_init 12 = .ok (.aload_n 0, 1) := by decide +kernel
theorem dX1_init_13 : decode cX1_init 13 = .ok (.bipush 30, 2) := by decide +kernel
theorem dX1_init_15 : decode cX1_init 15 = .ok (.newarray .int, 2) := by decide +kernel
theorem dX1_init_17 : decode cX1_init 17 = .ok (.putfield 15, 3) := by decide +kernel
theorem dX1_init_20 : decode cX1_init 20 = .ok (.aload_n 0, 1) := by decide +kernel
theorem dX1_init_21 : decode cX1_init 21 = .ok (.bipush 30, 2) := by decide +kernel
theorem dX1_init_23 : decode cX1_init 23 = .ok (.newarray .int, 2) := by decide +kernel
theorem dX1_init_25 : decode cX1_init 25 = .ok (.putfield 18, 3) := by decide +kernel
theorem dX1_init_28 : decode cX1_init 28 = .ok (.aload_n 0, 1) := by decide +kernel
theorem dX1_init_29 : decode cX1_init 29 = .ok (.bipush 30, 2) := by decide +kernel
theorem dX1_init_31 : decode cX1_init 31 = .ok (.newarray .int, 2) := by decide +kernel
theorem dX1_init_33 : decode cX1_init 33 = .ok (.putfield 21, 3) := by decide +kernel
theorem dX1_init_36 : decode cX1_init 36 = .ok (.aload_n 0, 1) := by decide +kernel
theorem dX1_init_37 : decode cX1_init 37 = .ok (.bipush 8, 2) := by decide +kernel
theorem dX1_init_39 : decode cX1_init 39 = .ok (.newarray .int, 2) := by decide +kernel
theorem dX1_init_41 : decode cX1_init 41 = .ok (.putfield 24, 3) := by decide +kernel
theorem dX1_init_44 : decode cX1_init 44 = .ok (.aload_n 0, 1) := by decide +kernel
theorem dX1_init_45 : decode cX1_init 45 = .ok (.bipush 8, 2) := by decide +kernel
theorem dX1_init_47 : decode cX1_init 47 = .ok (.newarray .boolean, 2) := by decide +kernel
theorem dX1_init_49 : decode cX1_init 49 = .ok (.putfield 27, 3) := by decide +kernel
theorem dX1_init_52 : decode cX1_init 52 = .ok (.aload_n 0, 1) := by decide +kernel
theorem dX1_init_53 : decode cX1_init 53 = .ok (.iconst 0, 1) := by decide +kernel
theorem dX1_init_54 : decode cX1_init 54 = .ok (.putfield 31, 3) := by decide +kernel
theorem dX1_init_57 : decode cX1_init 57 = .ok (.return_, 1) := by decide +kernel
theorem dX1_add_0 : decode cX1_add 0 = .ok (.aload_n 0, 1) := by decide +kernel
theorem dX1_add_1 : decode cX1_add 1 = .ok (.getfield 31, 3) := by decide +kernel
theorem dX1_add_4 : decode cX1_add 4 = .ok (.bipush 30, 2) := by decide +kernel
theorem dX1_add_6 : decode cX1_add 6 = .ok (.if_icmp .lt 5, 3) := by decide +kernel
theorem dX1_add_9 : decode cX1_add 9 = .ok (.iconst 0, 1) := by decide +kernel
theorem dX1_add_10 : decode cX1_add 10 = .ok (.ireturn, 1) := by decide +kernel
theorem dX1_add_11 : decode cX1_add 11 = .ok (.aload_n 0, 1) := by decide +kernel
theorem dX1_add_12 : decode cX1_add 12 = .ok (.getfield 9, 3) := by decide +kernel
theorem dX1_add_15 : decode cX1_add 15 = .ok (.aload_n 0, 1) := by decide +kernel
theorem dX1_add_16 : decode cX1_add 16 = .ok (.getfield 31, 3) := by decide +kernel
theorem dX1_add_19 : decode cX1_add 19 = .ok (.iload_n 1, 1) := by decide +kernel
theorem dX1_add_20 : decode cX1_add 20 = .ok (.iastore, 1) := by decide +kernel
theorem dX1_add_21 : decode cX1_add 21 = .ok (.aload_n 0, 1) := by decide +kernel
theorem dX1_add_22 : decode cX1_add 22 = .ok (.getfield 15, 3) := by decide +kernel
theorem dX1_add_25 : decode cX1_add 25 = .ok (.aload_n 0, 1) := by decide +kernel
theorem dX1_add_26 : decode cX1_add 26 = .ok (.getfield 31, 3) := by decide +kernel
theorem dX1_add_29 : decode cX1_add 29 = .ok (.iload_n 2, 1) := by decide +kernel
theorem dX1_add_30 : decode cX1_add 30 = .ok (.iastore, 1) := by decide +kernel
theorem dX1_add_31 : decode cX1_add 31 = .ok (.aload_n 0, 1) := by decide +kernel
theorem dX1_add_32 : decode cX1_add 32 = .ok (.getfield 18, 3) := by decide +kernel
theorem dX1_add_35 : decode cX1_add 35 = .ok (.aload_n 0, 1) := by decide +kernel
theorem dX1_add_36 : decode cX1_add 36 = .ok (.getfield 31, 3) := by decide +kernel
theorem dX1_add_39 : decode cX1_add 39 = .ok (.iload_n 3, 1) := by decide +kernel
theorem dX1_add_40 : decode cX1_add 40 = .ok (.iastore, 1) := by decide +kernel
theorem dX1_add_41 : decode cX1_add 41 = .ok (.aload_n 0, 1) := by decide +kernel
theorem dX1_add_42 : decode cX1_add 42 = .ok (.getfield 21, 3) := by decide +kernel
theorem dX1_add_45 : decode cX1_add 45 = .ok (.aload_n 0, 1) := by decide +kernel
theorem dX1_add_46 : decode cX1_add 46 = .ok (.getfield 31, 3) := by decide +kernel
theorem dX1_add_49 : decode cX1_add 49 = .ok (.iload 4, 2) := by decide +kernel
theorem dX1_add_51 : decode cX1_add 51 = .ok (.iastore, 1) := by decide +kernel
theorem dX1_add_52 : decode cX1_add 52 = .ok (.aload_n 0, 1) := by decide +kernel
theorem dX1_add_53 : decode cX1_add 53 = .ok (.dup, 1) := by decide +kernel
theorem dX1_add_54 : decode cX1_add 54 = .ok (.getfield 31, 3) := by decide +kernel
theorem dX1_add_57 : decode cX1_add 57 = .ok (.iconst 1, 1) := by decide +kernel
theorem dX1_add_58 : decode cX1_add 58 = .ok (.iadd, 1) := by decide +kernel
theorem dX1_add_59 : decode cX1_add 59 = .ok (.putfield 31, 3) := by decide +kernel
theorem dX1_add_62 : decode cX1_add 62 = .ok (.iconst 1, 1) := by decide +kernel
theorem dX1_add_63 : decode cX1_add 63 = .ok (.ireturn, 1) := by decide +kernel
set_option maxRecDepth 20000 in
theorem ggX1_arrivalByNodes_X1_start : GoodIn wsX1_arrivalByNodes wsX1_start := goodIn_r _ [7, 2, 8, 1, 30, 31, 32, 33, 34, 35, 36] (by decide +kernel) (by decide +kernel)
set_option maxRecDepth 20000 in
theorem gX1_arrivalByNodes_X1_start : GoodIn wsX1_arrivalByNodes (wsV RX1 35 RX1 yX1_start wsX1_start) := goodIn_app (goodIn_of _ (by decide +kernel)) ggX1_arrivalByNodes_X1_start
set_option maxRecDepth 20000 in
theorem ggX1_arrivalByNodes_X1_nearestUnsettled : GoodIn wsX1_arrivalByNodes wsX1_nearestUnsettled := goodIn_r _ [12, 8, 1, 2, 30, 31, 32, 33, 34, 35, 36] (by decide +kernel) (by decide +kernel)
set_option maxRecDepth 20000 in
theorem gX1_arrivalByNodes_X1_nearestUnsettled : GoodIn wsX1_arrivalByNodes (wsV RX1 39 RX1 yX1_nearestUnsettled wsX1_nearestUnsettled) := goodIn_app (goodIn_of _ (by decide +kernel)) ggX1_arrivalByNodes_X1_nearestUnsettled
set_option maxRecDepth 20000 in
theorem ggX1_arrivalByNodes_X1_spread : GoodIn wsX1_arrivalByNodes wsX1_spread := goodIn_r _ [16, 17, 18, 19, 20, 21, 22, 6, 23, 2, 24, 25, 26, 27, 28, 29, 30, 31, 32, 33, 34, 35, 36] (by decide +kernel) (by decide +kernel)
set_option maxRecDepth 20000 in
theorem gX1_arrivalByNodes_X1_spread : GoodIn wsX1_arrivalByNodes (wsV RX1 43 RX1 yX1_spread wsX1_spread) := goodIn_app (goodIn_of _ (by decide +kernel)) ggX1_arrivalByNodes_X1_spread
theorem dX1_arrivalByNodes_0 : decode cX1_arrivalByNodes 0 = .ok (.aload_n 0, 1) := by decide +kernel
theorem dX1_arrivalByNodes_1 : decode cX1_arrivalByNodes 1 = .ok (.iload_n 1, 1) := by decide +kernel
theorem dX1_arrivalByNodes_2 : decode cX1_arrivalByNodes 2 = .ok (.iload_n 3, 1) := by decide +kernel
theorem dX1_arrivalByNodes_3 : decode cX1_arrivalByNodes 3 = .ok (.invokevirtual 35, 3) := by decide +kernel
theorem dX1_arrivalByNodes_6 : decode cX1_arrivalByNodes 6 = .ok (.iconst 0, 1) := by decide +kernel
theorem dX1_arrivalByNodes_7 : decode cX1_arrivalByNodes 7 = .ok (.istore 4, 2) := by decide +kernel
theorem dX1_arrivalByNodes_9 : decode cX1_arrivalByNodes 9 = .ok (.iload 4, 2) := by decide +kernel
theorem dX1_arrivalByNodes_11 : decode cX1_arrivalByNodes 11 = .ok (.bipush 8, 2) := by decide +kernel
theorem dX1_arrivalByNodes_13 : decode cX1_arrivalByNodes 13 = .ok (.if_icmp .ge 44, 3) := by decide +kernel
theorem dX1_arrivalByNodes_16 : decode cX1_arrivalByNodes 16 = .ok (.aload_n 0, 1) := by decide +kernel
theorem dX1_arrivalByNodes_17 : decode cX1_arrivalByNodes 17 = .ok (.invokevirtual 39, 3) := by decide +kernel
theorem dX1_arrivalByNodes_20 : decode cX1_arrivalByNodes 20 = .ok (.istore 5, 2) := by decide +kernel
theorem dX1_arrivalByNodes_22 : decode cX1_arrivalByNodes 22 = .ok (.iload 5, 2) := by decide +kernel
theorem dX1_arrivalByNodes_24 : decode cX1_arrivalByNodes 24 = .ok (.iconst (-1), 1) := by decide +kernel
theorem dX1_arrivalByNodes_25 : decode cX1_arrivalByNodes 25 = .ok (.if_icmp .eq 32, 3) := by decide +kernel
theorem dX1_arrivalByNodes_28 : decode cX1_arrivalByNodes 28 = .ok (.iload 5, 2) := by decide +kernel
theorem dX1_arrivalByNodes_30 : decode cX1_arrivalByNodes 30 = .ok (.iload_n 2, 1) := by decide +kernel
theorem dX1_arrivalByNodes_31 : decode cX1_arrivalByNodes 31 = .ok (.if_icmp .ne 6, 3) := by decide +kernel
theorem dX1_arrivalByNodes_34 : decode cX1_arrivalByNodes 34 = .ok (.goto 23, 3) := by decide +kernel
theorem dX1_arrivalByNodes_37 : decode cX1_arrivalByNodes 37 = .ok (.aload_n 0, 1) := by decide +kernel
theorem dX1_arrivalByNodes_38 : decode cX1_arrivalByNodes 38 = .ok (.getfield 27, 3) := by decide +kernel
theorem dX1_arrivalByNodes_41 : decode cX1_arrivalByNodes 41 = .ok (.iload 5, 2) := by decide +kernel
theorem dX1_arrivalByNodes_43 : decode cX1_arrivalByNodes 43 = .ok (.iconst 1, 1) := by decide +kernel
theorem dX1_arrivalByNodes_44 : decode cX1_arrivalByNodes 44 = .ok (.bastore, 1) := by decide +kernel
theorem dX1_arrivalByNodes_45 : decode cX1_arrivalByNodes 45 = .ok (.aload_n 0, 1) := by decide +kernel
theorem dX1_arrivalByNodes_46 : decode cX1_arrivalByNodes 46 = .ok (.iload 5, 2) := by decide +kernel
theorem dX1_arrivalByNodes_48 : decode cX1_arrivalByNodes 48 = .ok (.invokevirtual 43, 3) := by decide +kernel
theorem dX1_arrivalByNodes_51 : decode cX1_arrivalByNodes 51 = .ok (.iinc 4 1, 3) := by decide +kernel
theorem dX1_arrivalByNodes_54 : decode cX1_arrivalByNodes 54 = .ok (.goto (-45), 3) := by decide +kernel
theorem dX1_arrivalByNodes_57 : decode cX1_arrivalByNodes 57 = .ok (.aload_n 0, 1) := by decide +kernel
theorem dX1_arrivalByNodes_58 : decode cX1_arrivalByNodes 58 = .ok (.getfield 24, 3) := by decide +kernel
theorem dX1_arrivalByNodes_61 : decode cX1_arrivalByNodes 61 = .ok (.iload_n 2, 1) := by decide +kernel
theorem dX1_arrivalByNodes_62 : decode cX1_arrivalByNodes 62 = .ok (.iaload, 1) := by decide +kernel
theorem dX1_arrivalByNodes_63 : decode cX1_arrivalByNodes 63 = .ok (.ireturn, 1) := by decide +kernel
set_option maxRecDepth 20000 in
theorem ggX1_arrivalByContacts_X1_start : GoodIn wsX1_arrivalByContacts wsX1_start := goodIn_r _ [9, 4, 10, 11, 22, 23, 24, 25, 26, 27, 28] (by decide +kernel) (by decide +kernel)
set_option maxRecDepth 20000 in
theorem gX1_arrivalByContacts_X1_start : GoodIn wsX1_arrivalByContacts (wsV RX1 35 RX1 yX1_start wsX1_start) := goodIn_app (goodIn_of _ (by decide +kernel)) ggX1_arrivalByContacts_X1_start
set_option maxRecDepth 20000 in
theorem ggX1_arrivalByContacts_X1_carry : GoodIn wsX1_arrivalByContacts wsX1_carry := goodIn_r _ [15, 4, 16, 17, 18, 19, 20, 21, 22, 23, 24, 25, 26, 27, 28] (by decide +kernel) (by decide +kernel)
set_option maxRecDepth 20000 in
theorem gX1_arrivalByContacts_X1_carry : GoodIn wsX1_arrivalByContacts (wsV RX1 47 RX1 yX1_carry wsX1_carry) := goodIn_app (goodIn_of _ (by decide +kernel)) ggX1_arrivalByContacts_X1_carry
theorem dX1_arrivalByContacts_0 : decode cX1_arrivalByContacts 0 = .ok (.aload_n 0, 1) := by decide +kernel
theorem dX1_arrivalByContacts_1 : decode cX1_arrivalByContacts 1 = .ok (.iload_n 1, 1) := by decide +kernel
theorem dX1_arrivalByContacts_2 : decode cX1_arrivalByContacts 2 = .ok (.iload_n 3, 1) := by decide +kernel
theorem dX1_arrivalByContacts_3 : decode cX1_arrivalByContacts 3 = .ok (.invokevirtual 35, 3) := by decide +kernel
theorem dX1_arrivalByContacts_6 : decode cX1_arrivalByContacts 6 = .ok (.iconst 1, 1) := by decide +kernel
theorem dX1_arrivalByContacts_7 : decode cX1_arrivalByContacts 7 = .ok (.istore 4, 2) := by decide +kernel
theorem dX1_arrivalByContacts_9 : decode cX1_arrivalByContacts 9 = .ok (.iconst 0, 1) := by decide +kernel
theorem dX1_arrivalByContacts_10 : decode cX1_arrivalByContacts 10 = .ok (.istore 5, 2) := by decide +kernel
theorem dX1_arrivalByContacts_12 : decode cX1_arrivalByContacts 12 = .ok (.iload 5, 2) := by decide +kernel
theorem dX1_arrivalByContacts_14 : decode cX1_arrivalByContacts 14 = .ok (.bipush 8, 2) := by decide +kernel
theorem dX1_arrivalByContacts_16 : decode cX1_arrivalByContacts 16 = .ok (.if_icmp .ge 84, 3) := by decide +kernel
theorem dX1_arrivalByContacts_19 : decode cX1_arrivalByContacts 19 = .ok (.iload 4, 2) := by decide +kernel
theorem dX1_arrivalByContacts_21 : decode cX1_arrivalByContacts 21 = .ok (.ifCond .eq 79, 3) := by decide +kernel
theorem dX1_arrivalByContacts_24 : decode cX1_arrivalByContacts 24 = .ok (.iconst 0, 1) := by decide +kernel
theorem dX1_arrivalByContacts_25 : decode cX1_arrivalByContacts 25 = .ok (.istore 4, 2) := by decide +kernel
theorem dX1_arrivalByContacts_27 : decode cX1_arrivalByContacts 27 = .ok (.iconst 0, 1) := by decide +kernel
theorem dX1_arrivalByContacts_28 : decode cX1_arrivalByContacts 28 = .ok (.istore 6, 2) := by decide +kernel
theorem dX1_arrivalByContacts_30 : decode cX1_arrivalByContacts 30 = .ok (.iload 6, 2) := by decide +kernel
theorem dX1_arrivalByContacts_32 : decode cX1_arrivalByContacts 32 = .ok (.aload_n 0, 1) := by decide +kernel
theorem dX1_arrivalByContacts_33 : decode cX1_arrivalByContacts 33 = .ok (.getfield 31, 3) := by decide +kernel
theorem dX1_arrivalByContacts_36 : decode cX1_arrivalByContacts 36 = .ok (.if_icmp .ge 58, 3) := by decide +kernel
theorem dX1_arrivalByContacts_39 : decode cX1_arrivalByContacts 39 = .ok (.aload_n 0, 1) := by decide +kernel
theorem dX1_arrivalByContacts_40 : decode cX1_arrivalByContacts 40 = .ok (.iload 6, 2) := by decide +kernel
theorem dX1_arrivalByContacts_42 : decode cX1_arrivalByContacts 42 = .ok (.aload_n 0, 1) := by decide +kernel
theorem dX1_arrivalByContacts_43 : decode cX1_arrivalByContacts 43 = .ok (.getfield 9, 3) := by decide +kernel
theorem dX1_arrivalByContacts_46 : decode cX1_arrivalByContacts 46 = .ok (.iload 6, 2) := by decide +kernel
theorem dX1_arrivalByContacts_48 : decode cX1_arrivalByContacts 48 = .ok (.iaload, 1) := by decide +kernel
theorem dX1_arrivalByContacts_49 : decode cX1_arrivalByContacts 49 = .ok (.aload_n 0, 1) := by decide +kernel
theorem dX1_arrivalByContacts_50 : decode cX1_arrivalByContacts 50 = .ok (.getfield 15, 3) := by decide +kernel
theorem dX1_arrivalByContacts_53 : decode cX1_arrivalByContacts 53 = .ok (.iload 6, 2) := by decide +kernel
theorem dX1_arrivalByContacts_55 : decode cX1_arrivalByContacts 55 = .ok (.iaload, 1) := by decide +kernel
theorem dX1_arrivalByContacts_56 : decode cX1_arrivalByContacts 56 = .ok (.invokevirtual 47, 3) := by decide +kernel
theorem dX1_arrivalByContacts_59 : decode cX1_arrivalByContacts 59 = .ok (.ifCond .ne 26, 3) := by decide +kernel
theorem dX1_arrivalByContacts_62 : decode cX1_arrivalByContacts 62 = .ok (.aload_n 0, 1) := by decide +kernel
theorem dX1_arrivalByContacts_63 : decode cX1_arrivalByContacts 63 = .ok (.iload 6, 2) := by decide +kernel
theorem dX1_arrivalByContacts_65 : decode cX1_arrivalByContacts 65 = .ok (.aload_n 0, 1) := by decide +kernel
theorem dX1_arrivalByContacts_66 : decode cX1_arrivalByContacts 66 = .ok (.getfield 15, 3) := by decide +kernel
theorem dX1_arrivalByContacts_69 : decode cX1_arrivalByContacts 69 = .ok (.iload 6, 2) := by decide +kernel
theorem dX1_arrivalByContacts_71 : decode cX1_arrivalByContacts 71 = .ok (.iaload, 1) := by decide +kernel
theorem dX1_arrivalByContacts_72 : decode cX1_arrivalByContacts 72 = .ok (.aload_n 0, 1) := by decide +kernel
theorem dX1_arrivalByContacts_73 : decode cX1_arrivalByContacts 73 = .ok (.getfield 9, 3) := by decide +kernel
theorem dX1_arrivalByContacts_76 : decode cX1_arrivalByContacts 76 = .ok (.iload 6, 2) := by decide +kernel
theorem dX1_arrivalByContacts_78 : decode cX1_arrivalByContacts 78 = .ok (.iaload, 1) := by decide +kernel
theorem dX1_arrivalByContacts_79 : decode cX1_arrivalByContacts 79 = .ok (.invokevirtual 47, 3) := by decide +kernel
theorem dX1_arrivalByContacts_82 : decode cX1_arrivalByContacts 82 = .ok (.ifCond .eq 6, 3) := by decide +kernel
theorem dX1_arrivalByContacts_85 : decode cX1_arrivalByContacts 85 = .ok (.iconst 1, 1) := by decide +kernel
theorem dX1_arrivalByContacts_86 : decode cX1_arrivalByContacts 86 = .ok (.istore 4, 2) := by decide +kernel
theorem dX1_arrivalByContacts_88 : decode cX1_arrivalByContacts 88 = .ok (.iinc 6 1, 3) := by decide +kernel
theorem dX1_arrivalByContacts_91 : decode cX1_arrivalByContacts 91 = .ok (.goto (-61), 3) := by decide +kernel
theorem dX1_arrivalByContacts_94 : decode cX1_arrivalByContacts 94 = .ok (.iinc 5 1, 3) := by decide +kernel
theorem dX1_arrivalByContacts_97 : decode cX1_arrivalByContacts 97 = .ok (.goto (-85), 3) := by decide +kernel
theorem dX1_arrivalByContacts_100 : decode cX1_arrivalByContacts 100 = .ok (.aload_n 0, 1) := by decide +kernel
theorem dX1_arrivalByContacts_101 : decode cX1_arrivalByContacts 101 = .ok (.getfield 24, 3) := by decide +kernel
theorem dX1_arrivalByContacts_104 : decode cX1_arrivalByContacts 104 = .ok (.iload_n 2, 1) := by decide +kernel
theorem dX1_arrivalByContacts_105 : decode cX1_arrivalByContacts 105 = .ok (.iaload, 1) := by decide +kernel
theorem dX1_arrivalByContacts_106 : decode cX1_arrivalByContacts 106 = .ok (.ireturn, 1) := by decide +kernel
theorem dX1_start_0 : decode cX1_start 0 = .ok (.iconst 0, 1) := by decide +kernel
theorem dX1_start_1 : decode cX1_start 1 = .ok (.istore_n 3, 1) := by decide +kernel
theorem dX1_start_2 : decode cX1_start 2 = .ok (.iload_n 3, 1) := by decide +kernel
theorem dX1_start_3 : decode cX1_start 3 = .ok (.bipush 8, 2) := by decide +kernel
theorem dX1_start_5 : decode cX1_start 5 = .ok (.if_icmp .ge 24, 3) := by decide +kernel
theorem dX1_start_8 : decode cX1_start 8 = .ok (.aload_n 0, 1) := by decide +kernel
theorem dX1_start_9 : decode cX1_start 9 = .ok (.getfield 24, 3) := by decide +kernel
theorem dX1_start_12 : decode cX1_start 12 = .ok (.iload_n 3, 1) := by decide +kernel
theorem dX1_start_13 : decode cX1_start 13 = .ok (.ldc 51, 2) := by decide +kernel
theorem dX1_start_15 : decode cX1_start 15 = .ok (.iastore, 1) := by decide +kernel
theorem dX1_start_16 : decode cX1_start 16 = .ok (.aload_n 0, 1) := by decide +kernel
theorem dX1_start_17 : decode cX1_start 17 = .ok (.getfield 27, 3) := by decide +kernel
theorem dX1_start_20 : decode cX1_start 20 = .ok (.iload_n 3, 1) := by decide +kernel
theorem dX1_start_21 : decode cX1_start 21 = .ok (.iconst 0, 1) := by decide +kernel
theorem dX1_start_22 : decode cX1_start 22 = .ok (.bastore, 1) := by decide +kernel
theorem dX1_start_23 : decode cX1_start 23 = .ok (.iinc 3 1, 3) := by decide +kernel
theorem dX1_start_26 : decode cX1_start 26 = .ok (.goto (-24), 3) := by decide +kernel
theorem dX1_start_29 : decode cX1_start 29 = .ok (.aload_n 0, 1) := by decide +kernel
theorem dX1_start_30 : decode cX1_start 30 = .ok (.getfield 24, 3) := by decide +kernel
theorem dX1_start_33 : decode cX1_start 33 = .ok (.iload_n 1, 1) := by decide +kernel
theorem dX1_start_34 : decode cX1_start 34 = .ok (.iload_n 2, 1) := by decide +kernel
theorem dX1_start_35 : decode cX1_start 35 = .ok (.iastore, 1) := by decide +kernel
theorem dX1_start_36 : decode cX1_start 36 = .ok (.return_, 1) := by decide +kernel
theorem dX1_nearestUnsettled_0 : decode cX1_nearestUnsettled 0 = .ok (.iconst (-1), 1) := by decide +kernel
theorem dX1_nearestUnsettled_1 : decode cX1_nearestUnsettled 1 = .ok (.istore_n 1, 1) := by decide +kernel
theorem dX1_nearestUnsettled_2 : decode cX1_nearestUnsettled 2 = .ok (.ldc 51, 2) := by decide +kernel
theorem dX1_nearestUnsettled_4 : decode cX1_nearestUnsettled 4 = .ok (.istore_n 2, 1) := by decide +kernel
theorem dX1_nearestUnsettled_5 : decode cX1_nearestUnsettled 5 = .ok (.iconst 0, 1) := by decide +kernel
theorem dX1_nearestUnsettled_6 : decode cX1_nearestUnsettled 6 = .ok (.istore_n 3, 1) := by decide +kernel
theorem dX1_nearestUnsettled_7 : decode cX1_nearestUnsettled 7 = .ok (.iload_n 3, 1) := by decide +kernel
theorem dX1_nearestUnsettled_8 : decode cX1_nearestUnsettled 8 = .ok (.bipush 8, 2) := by decide +kernel
theorem dX1_nearestUnsettled_10 : decode cX1_nearestUnsettled 10 = .ok (.if_icmp .ge 37, 3) := by decide +kernel
theorem dX1_nearestUnsettled_13 : decode cX1_nearestUnsettled 13 = .ok (.aload_n 0, 1) := by decide +kernel
theorem dX1_nearestUnsettled_14 : decode cX1_nearestUnsettled 14 = .ok (.getfield 27, 3) := by decide +kernel
theorem dX1_nearestUnsettled_17 : decode cX1_nearestUnsettled 17 = .ok (.iload_n 3, 1) := by decide +kernel
theorem dX1_nearestUnsettled_18 : decode cX1_nearestUnsettled 18 = .ok (.baload, 1) := by decide +kernel
theorem dX1_nearestUnsettled_19 : decode cX1_nearestUnsettled 19 = .ok (.ifCond .ne 22, 3) := by decide +kernel
theorem dX1_nearestUnsettled_22 : decode cX1_nearestUnsettled 22 = .ok (.aload_n 0, 1) := by decide +kernel
theorem dX1_nearestUnsettled_23 : decode cX1_nearestUnsettled 23 = .ok (.getfield 24, 3) := by decide +kernel
theorem dX1_nearestUnsettled_26 : decode cX1_nearestUnsettled 26 = .ok (.iload_n 3, 1) := by decide +kernel
theorem dX1_nearestUnsettled_27 : decode cX1_nearestUnsettled 27 = .ok (.iaload, 1) := by decide +kernel
theorem dX1_nearestUnsettled_28 : decode cX1_nearestUnsettled 28 = .ok (.iload_n 2, 1) := by decide +kernel
theorem dX1_nearestUnsettled_29 : decode cX1_nearestUnsettled 29 = .ok (.if_icmp .ge 12, 3) := by decide +kernel
theorem dX1_nearestUnsettled_32 : decode cX1_nearestUnsettled 32 = .ok (.iload_n 3, 1) := by decide +kernel
theorem dX1_nearestUnsettled_33 : decode cX1_nearestUnsettled 33 = .ok (.istore_n 1, 1) := by decide +kernel
theorem dX1_nearestUnsettled_34 : decode cX1_nearestUnsettled 34 = .ok (.aload_n 0, 1) := by decide +kernel
theorem dX1_nearestUnsettled_35 : decode cX1_nearestUnsettled 35 = .ok (.getfield 24, 3) := by decide +kernel
theorem dX1_nearestUnsettled_38 : decode cX1_nearestUnsettled 38 = .ok (.iload_n 3, 1) := by decide +kernel
theorem dX1_nearestUnsettled_39 : decode cX1_nearestUnsettled 39 = .ok (.iaload, 1) := by decide +kernel
theorem dX1_nearestUnsettled_40 : decode cX1_nearestUnsettled 40 = .ok (.istore_n 2, 1) := by decide +kernel
theorem dX1_nearestUnsettled_41 : decode cX1_nearestUnsettled 41 = .ok (.iinc 3 1, 3) := by decide +kernel
theorem dX1_nearestUnsettled_44 : decode cX1_nearestUnsettled 44 = .ok (.goto (-37), 3) := by decide +kernel
theorem dX1_nearestUnsettled_47 : decode cX1_nearestUnsettled 47 = .ok (.iload_n 1, 1) := by decide +kernel
theorem dX1_nearestUnsettled_48 : decode cX1_nearestUnsettled 48 = .ok (.ireturn, 1) := by decide +kernel
set_option maxRecDepth 20000 in
theorem ggX1_spread_X1_carry : GoodIn wsX1_spread wsX1_carry := goodIn_r _ [8, 9, 10, 11, 12, 13, 14, 15, 16, 17, 18, 19, 20, 21, 22] (by decide +kernel) (by decide +kernel)
set_option maxRecDepth 20000 in
theorem gX1_spread_X1_carry : GoodIn wsX1_spread (wsV RX1 47 RX1 yX1_carry wsX1_carry) := goodIn_app (goodIn_of _ (by decide +kernel)) ggX1_spread_X1_carry
theorem dX1_spread_0 : decode cX1_spread 0 = .ok (.iconst 0, 1) := by decide +kernel
theorem dX1_spread_1 : decode cX1_spread 1 = .ok (.istore_n 2, 1) := by decide +kernel
theorem dX1_spread_2 : decode cX1_spread 2 = .ok (.iload_n 2, 1) := by decide +kernel
theorem dX1_spread_3 : decode cX1_spread 3 = .ok (.aload_n 0, 1) := by decide +kernel
theorem dX1_spread_4 : decode cX1_spread 4 = .ok (.getfield 31, 3) := by decide +kernel
theorem dX1_spread_7 : decode cX1_spread 7 = .ok (.if_icmp .ge 58, 3) := by decide +kernel
theorem dX1_spread_10 : decode cX1_spread 10 = .ok (.aload_n 0, 1) := by decide +kernel
theorem dX1_spread_11 : decode cX1_spread 11 = .ok (.getfield 9, 3) := by decide +kernel
theorem dX1_spread_14 : decode cX1_spread 14 = .ok (.iload_n 2, 1) := by decide +kernel
theorem dX1_spread_15 : decode cX1_spread 15 = .ok (.iaload, 1) := by decide +kernel
theorem dX1_spread_16 : decode cX1_spread 16 = .ok (.iload_n 1, 1) := by decide +kernel
theorem dX1_spread_17 : decode cX1_spread 17 = .ok (.if_icmp .ne 19, 3) := by decide +kernel
theorem dX1_spread_20 : decode cX1_spread 20 = .ok (.aload_n 0, 1) := by decide +kernel
theorem dX1_spread_21 : decode cX1_spread 21 = .ok (.iload_n 2, 1) := by decide +kernel
theorem dX1_spread_22 : decode cX1_spread 22 = .ok (.iload_n 1, 1) := by decide +kernel
theorem dX1_spread_23 : decode cX1_spread 23 = .ok (.aload_n 0, 1) := by decide +kernel
theorem dX1_spread_24 : decode cX1_spread 24 = .ok (.getfield 15, 3) := by decide +kernel
theorem dX1_spread_27 : decode cX1_spread 27 = .ok (.iload_n 2, 1) := by decide +kernel
theorem dX1_spread_28 : decode cX1_spread 28 = .ok (.iaload, 1) := by decide +kernel
theorem dX1_spread_29 : decode cX1_spread 29 = .ok (.invokevirtual 47, 3) := by decide +kernel
theorem dX1_spread_32 : decode cX1_spread 32 = .ok (.pop, 1) := by decide +kernel
theorem dX1_spread_33 : decode cX1_spread 33 = .ok (.goto 26, 3) := by decide +kernel
theorem dX1_spread_36 : decode cX1_spread 36 = .ok (.aload_n 0, 1) := by decide +kernel
theorem dX1_spread_37 : decode cX1_spread 37 = .ok (.getfield 15, 3) := by decide +kernel
theorem dX1_spread_40 : decode cX1_spread 40 = .ok (.iload_n 2, 1) := by decide +kernel
theorem dX1_spread_41 : decode cX1_spread 41 = .ok (.iaload, 1) := by decide +kernel
theorem dX1_spread_42 : decode cX1_spread 42 = .ok (.iload_n 1, 1) := by decide +kernel
theorem dX1_spread_43 : decode cX1_spread 43 = .ok (.if_icmp .ne 16, 3) := by decide +kernel
theorem dX1_spread_46 : decode cX1_spread 46 = .ok (.aload_n 0, 1) := by decide +kernel
theorem dX1_spread_47 : decode cX1_spread 47 = .ok (.iload_n 2, 1) := by decide +kernel
theorem dX1_spread_48 : decode cX1_spread 48 = .ok (.iload_n 1, 1) := by decide +kernel
theorem dX1_spread_49 : decode cX1_spread 49 = .ok (.aload_n 0, 1) := by decide +kernel
theorem dX1_spread_50 : decode cX1_spread 50 = .ok (.getfield 9, 3) := by decide +kernel
theorem dX1_spread_53 : decode cX1_spread 53 = .ok (.iload_n 2, 1) := by decide +kernel
theorem dX1_spread_54 : decode cX1_spread 54 = .ok (.iaload, 1) := by decide +kernel
theorem dX1_spread_55 : decode cX1_spread 55 = .ok (.invokevirtual 47, 3) := by decide +kernel
theorem dX1_spread_58 : decode cX1_spread 58 = .ok (.pop, 1) := by decide +kernel
theorem dX1_spread_59 : decode cX1_spread 59 = .ok (.iinc 2 1, 3) := by decide +kernel
theorem dX1_spread_62 : decode cX1_spread 62 = .ok (.goto (-60), 3) := by decide +kernel
theorem dX1_spread_65 : decode cX1_spread 65 = .ok (.return_, 1) := by decide +kernel
theorem dX1_carry_0 : decode cX1_carry 0 = .ok (.aload_n 0, 1) := by decide +kernel
theorem dX1_carry_1 : decode cX1_carry 1 = .ok (.getfield 24, 3) := by decide +kernel
theorem dX1_carry_4 : decode cX1_carry 4 = .ok (.iload_n 2, 1) := by decide +kernel
theorem dX1_carry_5 : decode cX1_carry 5 = .ok (.iaload, 1) := by decide +kernel
theorem dX1_carry_6 : decode cX1_carry 6 = .ok (.aload_n 0, 1) := by decide +kernel
theorem dX1_carry_7 : decode cX1_carry 7 = .ok (.getfield 21, 3) := by decide +kernel
theorem dX1_carry_10 : decode cX1_carry 10 = .ok (.iload_n 1, 1) := by decide +kernel
theorem dX1_carry_11 : decode cX1_carry 11 = .ok (.iaload, 1) := by decide +kernel
theorem dX1_carry_12 : decode cX1_carry 12 = .ok (.if_icmp .le 5, 3) := by decide +kernel
theorem dX1_carry_15 : decode cX1_carry 15 = .ok (.iconst 0, 1) := by decide +kernel
theorem dX1_carry_16 : decode cX1_carry 16 = .ok (.ireturn, 1) := by decide +kernel
theorem dX1_carry_17 : decode cX1_carry 17 = .ok (.aload_n 0, 1) := by decide +kernel
theorem dX1_carry_18 : decode cX1_carry 18 = .ok (.getfield 24, 3) := by decide +kernel
theorem dX1_carry_21 : decode cX1_carry 21 = .ok (.iload_n 2, 1) := by decide +kernel
theorem dX1_carry_22 : decode cX1_carry 22 = .ok (.iaload, 1) := by decide +kernel
theorem dX1_carry_23 : decode cX1_carry 23 = .ok (.aload_n 0, 1) := by decide +kernel
theorem dX1_carry_24 : decode cX1_carry 24 = .ok (.getfield 18, 3) := by decide +kernel
theorem dX1_carry_27 : decode cX1_carry 27 = .ok (.iload_n 1, 1) := by decide +kernel
theorem dX1_carry_28 : decode cX1_carry 28 = .ok (.iaload, 1) := by decide +kernel
theorem dX1_carry_29 : decode cX1_carry 29 = .ok (.invokestatic 52, 3) := by decide +kernel
theorem dX1_carry_32 : decode cX1_carry 32 = .ok (.istore 4, 2) := by decide +kernel
theorem dX1_carry_34 : decode cX1_carry 34 = .ok (.iload 4, 2) := by decide +kernel
theorem dX1_carry_36 : decode cX1_carry 36 = .ok (.aload_n 0, 1) := by decide +kernel
theorem dX1_carry_37 : decode cX1_carry 37 = .ok (.getfield 24, 3) := by decide +kernel
theorem dX1_carry_40 : decode cX1_carry 40 = .ok (.iload_n 3, 1) := by decide +kernel
theorem dX1_carry_41 : decode cX1_carry 41 = .ok (.iaload, 1) := by decide +kernel
theorem dX1_carry_42 : decode cX1_carry 42 = .ok (.if_icmp .lt 5, 3) := by decide +kernel
theorem dX1_carry_45 : decode cX1_carry 45 = .ok (.iconst 0, 1) := by decide +kernel
theorem dX1_carry_46 : decode cX1_carry 46 = .ok (.ireturn, 1) := by decide +kernel
theorem dX1_carry_47 : decode cX1_carry 47 = .ok (.aload_n 0, 1) := by decide +kernel
theorem dX1_carry_48 : decode cX1_carry 48 = .ok (.getfield 24, 3) := by decide +kernel
theorem dX1_carry_51 : decode cX1_carry 51 = .ok (.iload_n 3, 1) := by decide +kernel
theorem dX1_carry_52 : decode cX1_carry 52 = .ok (.iload 4, 2) := by decide +kernel
theorem dX1_carry_54 : decode cX1_carry 54 = .ok (.iastore, 1) := by decide +kernel
theorem dX1_carry_55 : decode cX1_carry 55 = .ok (.iconst 1, 1) := by decide +kernel
theorem dX1_carry_56 : decode cX1_carry 56 = .ok (.ireturn, 1) := by decide +kernel
end
section
set_option maxRecDepth 20000 in
theorem ggX2_init_Jx4a65c_init_da8c8 : GoodIn wsX2_init wsJx4a65c_init_da8c8 := goodIn_r _ [20, 21, 22, 23, 24, 25, 26, 27, 28, 29, 30, 31, 32, 2, 3, 52, 53, 54] (by decide +kernel) (by decide +kernel)
set_option maxRecDepth 20000 in
theorem gX2_init_Jx4a65c_init_da8c8 : GoodIn wsX2_init (wsJx4a65c_init_da8c8) := ggX2_init_Jx4a65c_init_da8c8
set_option maxRecDepth 20000 in
theorem ggX2_init_X1_init : GoodIn wsX2_init wsX1_init := goodIn_r _ [35, 36, 2, 3, 5, 37, 38, 39, 40, 41, 42, 43, 44, 55, 56, 57, 58, 59, 60, 61] (by decide +kernel) (by decide +kernel)
set_option maxRecDepth 20000 in
theorem gX2_init_X1_init : GoodIn wsX2_init (wsX1_init) := ggX2_init_X1_init
theorem dX2_init_0 : decode cX2_init 0 = .ok (.aload_n 0, 1) := by decide +kernel
theorem dX2_init_1 : decode cX2_init 1 = .ok (.invokespecial 1, 3) := by decide +kernel
theorem dX2_init_4 : decode cX2_init 4 = .ok (.aload_n 0, 1) := by decide +kernel
theorem dX2_init_5 : decode cX2_init 5 = .ok (.iconst 0, 1) := by decide +kernel
theorem dX2_init_6 : decode cX2_init 6 = .ok (.putfield 7, 3) := by decide +kernel
theorem dX2_init_9 : decode cX2_init 9 = .ok (.aload_n 0, 1) := by decide +kernel
theorem dX2_init_10 : decode cX2_init 10 = .ok (.bipush 8, 2) := by decide +kernel
theorem dX2_init_12 : decode cX2_init 12 = .ok (.newarray .int, 2) := by decide +kernel
theorem dX2_init_14 : decode cX2_init 14 = .ok (.putfield 13, 3) := by decide +kernel
theorem dX2_init_17 : decode cX2_init 17 = .ok (.aload_n 0, 1) := by decide +kernel
theorem dX2_init_18 : decode cX2_init 18 = .ok (.bipush 8, 2) := by decide +kernel
theorem dX2_init_20 : decode cX2_init 20 = .ok (.newarray .int, 2) := by decide +kernel
theorem dX2_init_22 : decode cX2_init 22 = .ok (.putfield 17, 3) := by decide +kernel
theorem dX2_init_25 : decode cX2_init 25 = .ok (.aload_n 0, 1) := by decide +kernel
theorem dX2_init_26 : decode cX2_init 26 = .ok (.bipush 8, 2) := by decide +kernel
theorem dX2_init_28 : decode cX2_init 28 = .ok (.newarray .int, 2) := by decide +kernel
theorem dX2_init_30 : decode cX2_init 30 = .ok (.putfield 20, 3) := by decide +kernel
theorem dX2_init_33 : decode cX2_init 33 = .ok (.aload_n 0, 1) := by decide +kernel
theorem dX2_init_34 : decode cX2_init 34 = .ok (.new 23, 3) := by decide +kernel
theorem dX2_init_37 : decode cX2_init 37 = .ok (.dup, 1) := by decide +kernel
theorem dX2_init_38 : decode cX2_init 38 = .ok (.invokespecial 25, 3) := by decide +kernel
theorem dX2_init_41 : decode cX2_init 41 = .ok (.putfield 26, 3) := by decide +kernel
theorem dX2_init_44 : decode cX2_init 44 = .ok (.aload_n 0, 1) := by decide +kernel
theorem dX2_init_45 : decode cX2_init 45 = .ok (.new 23, 3) := by decide +kernel
theorem dX2_init_48 : decode cX2_init 48 = .ok (.dup, 1) := by decide +kernel
theorem dX2_init_49 : decode cX2_init 49 = .ok (.invokespecial 25, 3) := by decide +kernel
theorem dX2_init_52 : decode cX2_init 52 = .ok (.putfield 30, 3) := by decide +kernel
theorem dX2_init_55 : decode cX2_init 55 = .ok (.aload_n 0, 1) := by decide +kernel
theorem dX2_init_56 : decode cX2_init 56 = .ok (.new 33, 3) := by decide +kernel
theorem dX2_init_59 : decode cX2_init 59 = .ok (.dup, 1) := by decide +kernel
theorem dX2_init_60 : decode cX2_init 60 = .ok (.invokespecial 35, 3) := by decide +kernel
theorem dX2_init_63 : decode cX2_init 63 = .ok (.putfield 36, 3) := by decide +kernel
theorem dX2_init_66 : decode cX2_init 66 = .ok (.iconst 0, 1) := by decide +kernel
theorem dX2_init_67 : decode cX2_init 67 = .ok (.istore_n 1, 1) := by decide +kernel
theorem dX2_init_68 : decode cX2_init 68 = .ok (.iload_n 1, 1) := by decide +kernel
theorem dX2_init_69 : decode cX2_init 69 = .ok (.bipush 8, 2) := by decide +kernel
theorem dX2_init_71 : decode cX2_init 71 = .ok (.if_icmp .ge 16, 3) := by decide +kernel
theorem dX2_init_74 : decode cX2_init 74 = .ok (.aload_n 0, 1) := by decide +kernel
theorem dX2_init_75 : decode cX2_init 75 = .ok (.getfield 13, 3) := by decide +kernel
theorem dX2_init_78 : decode cX2_init 78 = .ok (.iload_n 1, 1) := by decide +kernel
theorem dX2_init_79 : decode cX2_init 79 = .ok (.iconst 4, 1) := by decide +kernel
theorem dX2_init_80 : decode cX2_init 80 = .ok (.iastore, 1) := by decide +kernel
theorem dX2_init_81 : decode cX2_init 81 = .ok (.iinc 1 1, 3) := by decide +kernel
theorem dX2_init_84 : decode cX2_init 84 = .ok (.goto (-16), 3) := by decide +kernel
theorem dX2_init_87 : decode cX2_init 87 = .ok (.return_, 1) := by decide +kernel
set_option maxRecDepth 20000 in
theorem ggX2_send_X2_isNode : GoodIn wsX2_send wsX2_isNode := goodIn_r _ [18, 19, 20, 17, 21] (by decide +kernel) (by decide +kernel)
set_option maxRecDepth 20000 in
theorem gX2_send_X2_isNode : GoodIn wsX2_send (va_wsS RX2 40 yX2_isNode wsX2_isNode) := goodIn_app (goodIn_of _ (by decide +kernel)) ggX2_send_X2_isNode
set_option maxRecDepth 20000 in
theorem ggX2_send_X2_isWithin : GoodIn wsX2_send wsX2_isWithin := goodIn_r _ [21] (by decide +kernel) (by decide +kernel)
set_option maxRecDepth 20000 in
theorem gX2_send_X2_isWithin : GoodIn wsX2_send (va_wsS RX2 51 yX2_isWithin wsX2_isWithin) := goodIn_app (goodIn_of _ (by decide +kernel)) ggX2_send_X2_isWithin
set_option maxRecDepth 20000 in
theorem ggX2_send_Jx4a65c_size_8abf5 : GoodIn wsX2_send wsJx4a65c_size_8abf5 := goodIn_r _ [26, 27, 181, 182, 183] (by decide +kernel) (by decide +kernel)
set_option maxRecDepth 20000 in
theorem gX2_send_Jx4a65c_size_8abf5 : GoodIn wsX2_send (wsV RX2 60 RJx4a65c yJx4a65c_size_8abf5 wsJx4a65c_size_8abf5) := goodIn_app (goodIn_of _ (by decide +kernel)) ggX2_send_Jx4a65c_size_8abf5
set_option maxRecDepth 20000 in
theorem ggX2_send_X2_makeRoom : GoodIn wsX2_send wsX2_makeRoom := goodIn_r _ [31, 32, 33, 34, 35, 36, 37, 17, 38, 7, 39, 22, 23, 24, 25, 26, 27, 40, 41, 42, 43, 44, 45, 46, 47, 48, 49, 50, 51, 52, 53, 54, 55, 56, 57, 58, 59, 10, 60, 61, 62, 63, 64, 65, 13, 12, 66, 67, 68, 69, 70, 71, 72, 73, 74, 163, 164, 165, 166, 167, 168, 169, 170, 171, 172, 173, 174, 175, 176, 177, 178, 179, 180, 181, 182, 183] (by decide +kernel) (by decide +kernel)
set_option maxRecDepth 20000 in
theorem gX2_send_X2_makeRoom : GoodIn wsX2_send (wsV RX2 69 RX2 yX2_makeRoom wsX2_makeRoom) := goodIn_app (goodIn_of _ (by decide +kernel)) ggX2_send_X2_makeRoom
set_option maxRecDepth 20000 in
theorem ggX2_send_X0_init : GoodIn wsX2_send wsX0_init := goodIn_r _ [77, 78, 79, 80, 81, 82, 83, 84, 85, 61, 74, 86, 87, 88, 89, 90, 91, 170, 171, 172, 173, 174, 175, 176, 177, 178, 179, 180] (by decide +kernel) (by decide +kernel)
set_option maxRecDepth 20000 in
theorem gX2_send_X0_init : GoodIn wsX2_send (wsX0_init) := ggX2_send_X0_init
set_option maxRecDepth 20000 in
theorem ggX2_send_X0_put : GoodIn wsX2_send wsX0_put := goodIn_r _ [73, 61, 74, 170, 171, 172, 173, 174, 175, 176, 177, 178, 179, 180] (by decide +kernel) (by decide +kernel)
set_option maxRecDepth 20000 in
theorem gX2_send_X0_put : GoodIn wsX2_send (wsV RX2 83 RX0 yX0_put wsX0_put) := goodIn_app (goodIn_of _ (by decide +kernel)) ggX2_send_X0_put
set_option maxRecDepth 20000 in
theorem ggX2_send_X2_placeInOrder : GoodIn wsX2_send wsX2_placeInOrder := goodIn_r _ [96, 13, 39, 22, 23, 24, 25, 26, 27, 40, 41, 42, 43, 44, 45, 46, 47, 48, 49, 50, 51, 52, 53, 54, 55, 56, 97, 98, 99, 10, 100, 83, 84, 81, 163, 164, 165, 166, 167, 168, 169, 181, 182, 183, 170, 171, 172, 173, 174, 175, 176, 177, 178, 179, 180] (by decide +kernel) (by decide +kernel)
set_option maxRecDepth 20000 in
theorem gX2_send_X2_placeInOrder : GoodIn wsX2_send (wsV RX2 87 RX2 yX2_placeInOrder wsX2_placeInOrder) := goodIn_app (goodIn_of _ (by decide +kernel)) ggX2_send_X2_placeInOrder
set_option maxRecDepth 20000 in
theorem ggX2_send_Jx4a65c_add_7a177 : GoodIn wsX2_send wsJx4a65c_add_7a177 := goodIn_r _ [104, 105, 106, 27, 56, 107, 108, 109, 110, 111, 112, 113, 25, 114, 115, 116, 117, 118, 119, 120, 121, 122, 123, 124, 125, 126, 127, 128, 129, 130, 131, 132, 133, 134, 135, 136, 137, 138, 139, 140, 141, 142, 143, 144, 145, 146, 147, 148, 149, 150, 151, 152, 153, 154, 181, 182, 183] (by decide +kernel) (by decide +kernel)
set_option maxRecDepth 20000 in
theorem gX2_send_Jx4a65c_add_7a177 : GoodIn wsX2_send (wsV RX2 91 RJx4a65c yJx4a65c_add_7a177 wsJx4a65c_add_7a177) := goodIn_app (goodIn_of _ (by decide +kernel)) ggX2_send_Jx4a65c_add_7a177
set_option maxRecDepth 20000 in
theorem ggX2_send_Jx4a65c_add_9ea2d : GoodIn wsX2_send wsJx4a65c_add_9ea2d := goodIn_r _ [158, 105, 106, 56, 27, 159, 160, 161, 25, 162, 115, 116, 117, 118, 119, 120, 121, 122, 123, 124, 125, 126, 127, 128, 129, 130, 131, 132, 133, 134, 135, 136, 137, 138, 139, 140, 141, 142, 143, 144, 145, 146, 147, 148, 149, 150, 151, 152, 153, 154, 108, 109, 110, 181, 182, 183] (by decide +kernel) (by decide +kernel)
set_option maxRecDepth 20000 in
theorem gX2_send_Jx4a65c_add_9ea2d : GoodIn wsX2_send (wsV RX2 95 RJx4a65c yJx4a65c_add_9ea2d wsJx4a65c_add_9ea2d) := goodIn_app (goodIn_of _ (by decide +kernel)) ggX2_send_Jx4a65c_add_9ea2d
theorem dX2_send_0 : decode cX2_send 0 = .ok (.iload_n 1, 1) := by decide +kernel
theorem dX2_send_1 : decode cX2_send 1 = .ok (.invokestatic 40, 3) := by decide +kernel
theorem dX2_send_4 : decode cX2_send 4 = .ok (.ifCond .eq 10, 3) := by decide +kernel
theorem dX2_send_7 : decode cX2_send 7 = .ok (.iload_n 2, 1) := by decide +kernel
theorem dX2_send_8 : decode cX2_send 8 = .ok (.invokestatic 40, 3) := by decide +kernel
theorem dX2_send_11 : decode cX2_send 11 = .ok (.ifCond .ne 13, 3) := by decide +kernel
theorem dX2_send_14 : decode cX2_send 14 = .ok (.new 44, 3) := by decide +kernel
theorem dX2_send_17 : decode cX2_send 17 = .ok (.dup, 1) := by decide +kernel
theorem dX2_send_18 : decode cX2_send 18 = .ok (.ldc 46, 2) := by decide +kernel
theorem dX2_send_20 : decode cX2_send 20 = .ok (.invokespecial 48, 3) := by decide +kernel
theorem dX2_send_23 : decode cX2_send 23 = .ok (.athrow, 1) := by decide +kernel
theorem dX2_send_24 : decode cX2_send 24 = .ok (.iload_n 1, 1) := by decide +kernel
theorem dX2_send_25 : decode cX2_send 25 = .ok (.iload_n 2, 1) := by decide +kernel
theorem dX2_send_26 : decode cX2_send 26 = .ok (.if_icmp .eq 35, 3) := by decide +kernel
theorem dX2_send_29 : decode cX2_send 29 = .ok (.iload_n 3, 1) := by decide +kernel
theorem dX2_send_30 : decode cX2_send 30 = .ok (.iconst 0, 1) := by decide +kernel
theorem dX2_send_31 : decode cX2_send 31 = .ok (.iconst 2, 1) := by decide +kernel
theorem dX2_send_32 : decode cX2_send 32 = .ok (.invokestatic 51, 3) := by decide +kernel
theorem dX2_send_35 : decode cX2_send 35 = .ok (.ifCond .eq 26, 3) := by decide +kernel
theorem dX2_send_38 : decode cX2_send 38 = .ok (.iload 4, 2) := by decide +kernel
theorem dX2_send_40 : decode cX2_send 40 = .ok (.iconst 1, 1) := by decide +kernel
theorem dX2_send_41 : decode cX2_send 41 = .ok (.bipush 64, 2) := by decide +kernel
theorem dX2_send_43 : decode cX2_send 43 = .ok (.invokestatic 51, 3) := by decide +kernel
theorem dX2_send_46 : decode cX2_send 46 = .ok (.ifCond .eq 15, 3) := by decide +kernel
theorem dX2_send_49 : decode cX2_send 49 = .ok (.iload 5, 2) := by decide +kernel
theorem dX2_send_51 : decode cX2_send 51 = .ok (.iconst 1, 1) := by decide +kernel
theorem dX2_send_52 : decode cX2_send 52 = .ok (.sipush 10000, 3) := by decide +kernel
theorem dX2_send_55 : decode cX2_send 55 = .ok (.invokestatic 51, 3) := by decide +kernel
theorem dX2_send_58 : decode cX2_send 58 = .ok (.ifCond .ne 13, 3) := by decide +kernel
theorem dX2_send_61 : decode cX2_send 61 = .ok (.new 55, 3) := by decide +kernel
theorem dX2_send_64 : decode cX2_send 64 = .ok (.dup, 1) := by decide +kernel
theorem dX2_send_65 : decode cX2_send 65 = .ok (.ldc 57, 2) := by decide +kernel
theorem dX2_send_67 : decode cX2_send 67 = .ok (.invokespecial 59, 3) := by decide +kernel
theorem dX2_send_70 : decode cX2_send 70 = .ok (.athrow, 1) := by decide +kernel
theorem dX2_send_71 : decode cX2_send 71 = .ok (.aload_n 0, 1) := by decide +kernel
theorem dX2_send_72 : decode cX2_send 72 = .ok (.getfield 26, 3) := by decide +kernel
theorem dX2_send_75 : decode cX2_send 75 = .ok (.invokevirtual 60, 3) := by decide +kernel
theorem dX2_send_78 : decode cX2_send 78 = .ok (.bipush 40, 2) := by decide +kernel
theorem dX2_send_80 : decode cX2_send 80 = .ok (.if_icmp .lt 13, 3) := by decide +kernel
theorem dX2_send_83 : decode cX2_send 83 = .ok (.new 64, 3) := by decide +kernel
theorem dX2_send_86 : decode cX2_send 86 = .ok (.dup, 1) := by decide +kernel
theorem dX2_send_87 : decode cX2_send 87 = .ok (.ldc 66, 2) := by decide +kernel
theorem dX2_send_89 : decode cX2_send 89 = .ok (.invokespecial 68, 3) := by decide +kernel
theorem dX2_send_92 : decode cX2_send 92 = .ok (.athrow, 1) := by decide +kernel
theorem dX2_send_93 : decode cX2_send 93 = .ok (.aload_n 0, 1) := by decide +kernel
theorem dX2_send_94 : decode cX2_send 94 = .ok (.iload_n 1, 1) := by decide +kernel
theorem dX2_send_95 : decode cX2_send 95 = .ok (.iload_n 3, 1) := by decide +kernel
theorem dX2_send_96 : decode cX2_send 96 = .ok (.invokevirtual 69, 3) := by decide +kernel
theorem dX2_send_99 : decode cX2_send 99 = .ok (.ifCond .ne 13, 3) := by decide +kernel
theorem dX2_send_102 : decode cX2_send 102 = .ok (.new 64, 3) := by decide +kernel
theorem dX2_send_105 : decode cX2_send 105 = .ok (.dup, 1) := by decide +kernel
theorem dX2_send_106 : decode cX2_send 106 = .ok (.ldc 73, 2) := by decide +kernel
theorem dX2_send_108 : decode cX2_send 108 = .ok (.invokespecial 68, 3) := by decide +kernel
theorem dX2_send_111 : decode cX2_send 111 = .ok (.athrow, 1) := by decide +kernel
theorem dX2_send_112 : decode cX2_send 112 = .ok (.new 75, 3) := by decide +kernel
theorem dX2_send_115 : decode cX2_send 115 = .ok (.dup, 1) := by decide +kernel
theorem dX2_send_116 : decode cX2_send 116 = .ok (.aload_n 0, 1) := by decide +kernel
theorem dX2_send_117 : decode cX2_send 117 = .ok (.getfield 26, 3) := by decide +kernel
theorem dX2_send_120 : decode cX2_send 120 = .ok (.invokevirtual 60, 3) := by decide +kernel
theorem dX2_send_123 : decode cX2_send 123 = .ok (.iload_n 2, 1) := by decide +kernel
theorem dX2_send_124 : decode cX2_send 124 = .ok (.iload_n 3, 1) := by decide +kernel
theorem dX2_send_125 : decode cX2_send 125 = .ok (.aload_n 0, 1) := by decide +kernel
theorem dX2_send_126 : decode cX2_send 126 = .ok (.getfield 7, 3) := by decide +kernel
theorem dX2_send_129 : decode cX2_send 129 = .ok (.iload 5, 2) := by decide +kernel
theorem dX2_send_131 : decode cX2_send 131 = .ok (.iadd, 1) := by decide +kernel
theorem dX2_send_132 : decode cX2_send 132 = .ok (.invokespecial 77, 3) := by decide +kernel
theorem dX2_send_135 : decode cX2_send 135 = .ok (.astore 6, 2) := by decide +kernel
theorem dX2_send_137 : decode cX2_send 137 = .ok (.aload 6, 2) := by decide +kernel
theorem dX2_send_139 : decode cX2_send 139 = .ok (.iload_n 1, 1) := by decide +kernel
theorem dX2_send_140 : decode cX2_send 140 = .ok (.putfield 80, 3) := by decide +kernel
theorem dX2_send_143 : decode cX2_send 143 = .ok (.aload 6, 2) := by decide +kernel
theorem dX2_send_145 : decode cX2_send 145 = .ok (.iload_n 1, 1) := by decide +kernel
theorem dX2_send_146 : decode cX2_send 146 = .ok (.iload 4, 2) := by decide +kernel
theorem dX2_send_148 : decode cX2_send 148 = .ok (.iconst 0, 1) := by decide +kernel
theorem dX2_send_149 : decode cX2_send 149 = .ok (.invokevirtual 83, 3) := by decide +kernel
theorem dX2_send_152 : decode cX2_send 152 = .ok (.aload_n 0, 1) := by decide +kernel
theorem dX2_send_153 : decode cX2_send 153 = .ok (.getfield 30, 3) := by decide +kernel
theorem dX2_send_156 : decode cX2_send 156 = .ok (.aload_n 0, 1) := by decide +kernel
theorem dX2_send_157 : decode cX2_send 157 = .ok (.aload 6, 2) := by decide +kernel
theorem dX2_send_159 : decode cX2_send 159 = .ok (.invokevirtual 87, 3) := by decide +kernel
theorem dX2_send_162 : decode cX2_send 162 = .ok (.aload 6, 2) := by decide +kernel
theorem dX2_send_164 : decode cX2_send 164 = .ok (.invokevirtual 91, 3) := by decide +kernel
theorem dX2_send_167 : decode cX2_send 167 = .ok (.aload_n 0, 1) := by decide +kernel
theorem dX2_send_168 : decode cX2_send 168 = .ok (.getfield 26, 3) := by decide +kernel
theorem dX2_send_171 : decode cX2_send 171 = .ok (.aload 6, 2) := by decide +kernel
theorem dX2_send_173 : decode cX2_send 173 = .ok (.invokevirtual 95, 3) := by decide +kernel
theorem dX2_send_176 : decode cX2_send 176 = .ok (.pop, 1) := by decide +kernel
theorem dX2_send_177 : decode cX2_send 177 = .ok (.aload 6, 2) := by decide +kernel
theorem dX2_send_179 : decode cX2_send 179 = .ok (.getfield 98, 3) := by decide +kernel
theorem dX2_send_182 : decode cX2_send 182 = .ok (.ireturn, 1) := by decide +kernel
set_option maxRecDepth 20000 in
theorem ggX2_meet_X2_isNode : GoodIn wsX2_meet wsX2_isNode := goodIn_r _ [8, 9, 10, 7, 11] (by decide +kernel) (by decide +kernel)
set_option maxRecDepth 20000 in
theorem gX2_meet_X2_isNode : GoodIn wsX2_meet (va_wsS RX2 40 yX2_isNode wsX2_isNode) := goodIn_app (goodIn_of _ (by decide +kernel)) ggX2_meet_X2_isNode
set_option maxRecDepth 20000 in
theorem ggX2_meet_X2_isWithin : GoodIn wsX2_meet wsX2_isWithin := goodIn_r _ [11] (by decide +kernel) (by decide +kernel)
set_option maxRecDepth 20000 in
theorem gX2_meet_X2_isWithin : GoodIn wsX2_meet (va_wsS RX2 51 yX2_isWithin wsX2_isWithin) := goodIn_app (goodIn_of _ (by decide +kernel)) ggX2_meet_X2_isWithin
set_option maxRecDepth 20000 in
theorem ggX2_meet_X2_exchangeReceipts : GoodIn wsX2_meet wsX2_exchangeReceipts := goodIn_r _ [15, 16, 17, 18, 19, 20, 21, 22, 23, 24, 25, 26, 27, 28, 29, 30, 31, 32, 33, 34, 35, 36, 37, 38, 39, 40, 41, 42, 43, 44, 45, 46, 47, 48, 49, 50, 51, 52, 53, 54, 55, 56, 57, 58, 164, 165, 166, 167, 168, 169, 170, 171, 172, 173, 174, 175, 176, 177, 178, 179, 180, 181, 182, 183, 184] (by decide +kernel) (by decide +kernel)
set_option maxRecDepth 20000 in
theorem gX2_meet_X2_exchangeReceipts : GoodIn wsX2_meet (wsV RX2 103 RX2 yX2_exchangeReceipts wsX2_exchangeReceipts) := goodIn_app (goodIn_of _ (by decide +kernel)) ggX2_meet_X2_exchangeReceipts
set_option maxRecDepth 20000 in
theorem ggX2_meet_X2_findSprays : GoodIn wsX2_meet wsX2_findSprays := goodIn_r _ [62, 16, 17, 63, 19, 20, 21, 22, 23, 24, 25, 26, 27, 28, 29, 30, 31, 32, 33, 34, 35, 36, 37, 38, 39, 40, 41, 64, 65, 66, 45, 67, 68, 57, 69, 70, 71, 72, 164, 165, 166, 167, 168, 169, 170, 171, 172, 173, 174, 175, 176, 177, 178, 179, 180, 181, 182, 183, 184] (by decide +kernel) (by decide +kernel)
set_option maxRecDepth 20000 in
theorem gX2_meet_X2_findSprays : GoodIn wsX2_meet (wsV RX2 107 RX2 yX2_findSprays wsX2_findSprays) := goodIn_app (goodIn_of _ (by decide +kernel)) ggX2_meet_X2_findSprays
set_option maxRecDepth 20000 in
theorem ggX2_meet_X2_deliverSome : GoodIn wsX2_meet wsX2_deliverSome := goodIn_r _ [76, 77, 17, 78, 19, 20, 21, 22, 23, 24, 25, 26, 27, 28, 29, 30, 31, 32, 33, 34, 35, 36, 37, 38, 39, 40, 41, 79, 80, 81, 45, 82, 68, 69, 70, 71, 72, 57, 83, 84, 85, 86, 87, 58, 88, 89, 43, 44, 46, 47, 48, 49, 50, 51, 52, 53, 54, 55, 56, 164, 165, 166, 167, 168, 169, 170, 182, 183, 184, 171, 172, 173, 174, 175, 176, 177, 178, 179, 180, 181] (by decide +kernel) (by decide +kernel)
set_option maxRecDepth 20000 in
theorem gX2_meet_X2_deliverSome : GoodIn wsX2_meet (wsV RX2 110 RX2 yX2_deliverSome wsX2_deliverSome) := goodIn_app (goodIn_of _ (by decide +kernel)) ggX2_meet_X2_deliverSome
set_option maxRecDepth 20000 in
theorem ggX2_meet_X2_spraySome : GoodIn wsX2_meet wsX2_spraySome := goodIn_r _ [93, 77, 17, 63, 19, 20, 21, 22, 23, 24, 25, 26, 27, 28, 29, 30, 31, 32, 33, 34, 35, 36, 37, 38, 39, 40, 41, 94, 95, 96, 7, 97, 98, 99, 100, 70, 71, 45, 72, 57, 101, 102, 103, 104, 105, 106, 107, 108, 109, 110, 16, 111, 112, 113, 114, 115, 116, 50, 51, 52, 53, 54, 55, 56, 58, 117, 118, 119, 120, 164, 165, 166, 167, 168, 169, 170, 171, 172, 173, 174, 175, 176, 177, 178, 179, 180, 181, 182, 183, 184] (by decide +kernel) (by decide +kernel)
set_option maxRecDepth 20000 in
theorem gX2_meet_X2_spraySome : GoodIn wsX2_meet (wsV RX2 114 RX2 yX2_spraySome wsX2_spraySome) := goodIn_app (goodIn_of _ (by decide +kernel)) ggX2_meet_X2_spraySome
set_option maxRecDepth 20000 in
theorem ggX2_meet_X2_moveCustody : GoodIn wsX2_meet wsX2_moveCustody := goodIn_r _ [124, 16, 17, 115, 19, 20, 21, 22, 23, 24, 25, 26, 27, 28, 29, 30, 31, 32, 33, 34, 35, 36, 37, 38, 39, 40, 41, 100, 70, 71, 45, 72, 57, 125, 126, 127, 7, 128, 129, 130, 78, 131, 132, 133, 134, 135, 136, 137, 138, 139, 140, 141, 142, 143, 144, 145, 146, 147, 148, 149, 150, 151, 152, 153, 154, 155, 156, 157, 158, 159, 160, 161, 162, 163, 164, 165, 166, 167, 168, 169, 170, 171, 172, 173, 174, 175, 176, 177, 178, 179, 180, 181, 182, 183, 184, 185, 186, 187, 188, 189, 190, 191] (by decide +kernel) (by decide +kernel)
set_option maxRecDepth 20000 in
theorem gX2_meet_X2_moveCustody : GoodIn wsX2_meet (wsV RX2 117 RX2 yX2_moveCustody wsX2_moveCustody) := goodIn_app (goodIn_of _ (by decide +kernel)) ggX2_meet_X2_moveCustody
theorem dX2_meet_0 : decode cX2_meet 0 = .ok (.iload_n 1, 1) := by decide +kernel
theorem dX2_meet_1 : decode cX2_meet 1 = .ok (.invokestatic 40, 3) := by decide +kernel
theorem dX2_meet_4 : decode cX2_meet 4 = .ok (.ifCond .eq 10, 3) := by decide +kernel
theorem dX2_meet_7 : decode cX2_meet 7 = .ok (.iload_n 2, 1) := by decide +kernel
theorem dX2_meet_8 : decode cX2_meet 8 = .ok (.invokestatic 40, 3) := by decide +kernel
theorem dX2_meet_11 : decode cX2_meet 11 = .ok (.ifCond .ne 13, 3) := by decide +kernel
theorem dX2_meet_14 : decode cX2_meet 14 = .ok (.new 44, 3) := by decide +kernel
theorem dX2_meet_17 : decode cX2_meet 17 = .ok (.dup, 1) := by decide +kernel
theorem dX2_meet_18 : decode cX2_meet 18 = .ok (.ldc 46, 2) := by decide +kernel
theorem dX2_meet_20 : decode cX2_meet 20 = .ok (.invokespecial 48, 3) := by decide +kernel
theorem dX2_meet_23 : decode cX2_meet 23 = .ok (.athrow, 1) := by decide +kernel
theorem dX2_meet_24 : decode cX2_meet 24 = .ok (.iload_n 1, 1) := by decide +kernel
theorem dX2_meet_25 : decode cX2_meet 25 = .ok (.iload_n 2, 1) := by decide +kernel
theorem dX2_meet_26 : decode cX2_meet 26 = .ok (.if_icmp .eq 13, 3) := by decide +kernel
theorem dX2_meet_29 : decode cX2_meet 29 = .ok (.iload_n 3, 1) := by decide +kernel
theorem dX2_meet_30 : decode cX2_meet 30 = .ok (.iconst 0, 1) := by decide +kernel
theorem dX2_meet_31 : decode cX2_meet 31 = .ok (.bipush 20, 2) := by decide +kernel
theorem dX2_meet_33 : decode cX2_meet 33 = .ok (.invokestatic 51, 3) := by decide +kernel
theorem dX2_meet_36 : decode cX2_meet 36 = .ok (.ifCond .ne 13, 3) := by decide +kernel
theorem dX2_meet_39 : decode cX2_meet 39 = .ok (.new 55, 3) := by decide +kernel
theorem dX2_meet_42 : decode cX2_meet 42 = .ok (.dup, 1) := by decide +kernel
theorem dX2_meet_43 : decode cX2_meet 43 = .ok (.ldc 101, 2) := by decide +kernel
theorem dX2_meet_45 : decode cX2_meet 45 = .ok (.invokespecial 59, 3) := by decide +kernel
theorem dX2_meet_48 : decode cX2_meet 48 = .ok (.athrow, 1) := by decide +kernel
theorem dX2_meet_49 : decode cX2_meet 49 = .ok (.aload_n 0, 1) := by decide +kernel
theorem dX2_meet_50 : decode cX2_meet 50 = .ok (.iload_n 1, 1) := by decide +kernel
theorem dX2_meet_51 : decode cX2_meet 51 = .ok (.iload_n 2, 1) := by decide +kernel
theorem dX2_meet_52 : decode cX2_meet 52 = .ok (.invokevirtual 103, 3) := by decide +kernel
theorem dX2_meet_55 : decode cX2_meet 55 = .ok (.aload_n 0, 1) := by decide +kernel
theorem dX2_meet_56 : decode cX2_meet 56 = .ok (.iload_n 1, 1) := by decide +kernel
theorem dX2_meet_57 : decode cX2_meet 57 = .ok (.iload_n 2, 1) := by decide +kernel
theorem dX2_meet_58 : decode cX2_meet 58 = .ok (.invokevirtual 107, 3) := by decide +kernel
theorem dX2_meet_61 : decode cX2_meet 61 = .ok (.aload_n 0, 1) := by decide +kernel
theorem dX2_meet_62 : decode cX2_meet 62 = .ok (.iload_n 1, 1) := by decide +kernel
theorem dX2_meet_63 : decode cX2_meet 63 = .ok (.iload_n 2, 1) := by decide +kernel
theorem dX2_meet_64 : decode cX2_meet 64 = .ok (.iload_n 3, 1) := by decide +kernel
theorem dX2_meet_65 : decode cX2_meet 65 = .ok (.invokevirtual 110, 3) := by decide +kernel
theorem dX2_meet_68 : decode cX2_meet 68 = .ok (.istore 4, 2) := by decide +kernel
theorem dX2_meet_70 : decode cX2_meet 70 = .ok (.aload_n 0, 1) := by decide +kernel
theorem dX2_meet_71 : decode cX2_meet 71 = .ok (.iload_n 1, 1) := by decide +kernel
theorem dX2_meet_72 : decode cX2_meet 72 = .ok (.iload_n 2, 1) := by decide +kernel
theorem dX2_meet_73 : decode cX2_meet 73 = .ok (.iload_n 3, 1) := by decide +kernel
theorem dX2_meet_74 : decode cX2_meet 74 = .ok (.iload 4, 2) := by decide +kernel
theorem dX2_meet_76 : decode cX2_meet 76 = .ok (.isub, 1) := by decide +kernel
theorem dX2_meet_77 : decode cX2_meet 77 = .ok (.invokevirtual 114, 3) := by decide +kernel
theorem dX2_meet_80 : decode cX2_meet 80 = .ok (.istore 5, 2) := by decide +kernel
theorem dX2_meet_82 : decode cX2_meet 82 = .ok (.aload_n 0, 1) := by decide +kernel
theorem dX2_meet_83 : decode cX2_meet 83 = .ok (.iload_n 1, 1) := by decide +kernel
theorem dX2_meet_84 : decode cX2_meet 84 = .ok (.iload_n 2, 1) := by decide +kernel
theorem dX2_meet_85 : decode cX2_meet 85 = .ok (.invokevirtual 117, 3) := by decide +kernel
theorem dX2_meet_88 : decode cX2_meet 88 = .ok (.iload 4, 2) := by decide +kernel
theorem dX2_meet_90 : decode cX2_meet 90 = .ok (.iload 5, 2) := by decide +kernel
theorem dX2_meet_92 : decode cX2_meet 92 = .ok (.iadd, 1) := by decide +kernel
theorem dX2_meet_93 : decode cX2_meet 93 = .ok (.ireturn, 1) := by decide +kernel
set_option maxRecDepth 20000 in
theorem ggX2_pass_X2_isWithin : GoodIn wsX2_pass wsX2_isWithin := goodIn_r _ [11] (by decide +kernel) (by decide +kernel)
set_option maxRecDepth 20000 in
theorem gX2_pass_X2_isWithin : GoodIn wsX2_pass (va_wsS RX2 51 yX2_isWithin wsX2_isWithin) := goodIn_app (goodIn_of _ (by decide +kernel)) ggX2_pass_X2_isWithin
set_option maxRecDepth 20000 in
theorem ggX2_pass_Jx4a65c_size_8abf5 : GoodIn wsX2_pass wsJx4a65c_size_8abf5 := goodIn_r _ [16, 17, 69, 70, 71] (by decide +kernel) (by decide +kernel)
set_option maxRecDepth 20000 in
theorem gX2_pass_Jx4a65c_size_8abf5 : GoodIn wsX2_pass (wsV RX2 60 RJx4a65c yJx4a65c_size_8abf5 wsJx4a65c_size_8abf5) := goodIn_app (goodIn_of _ (by decide +kernel)) ggX2_pass_Jx4a65c_size_8abf5
set_option maxRecDepth 20000 in
theorem ggX2_pass_Jx4a65c_get_915e3 : GoodIn wsX2_pass wsJx4a65c_get_915e3 := goodIn_r _ [21, 17, 22, 23, 24, 25, 26, 27, 28, 29, 30, 31, 32, 15, 33, 34, 69, 70, 71] (by decide +kernel) (by decide +kernel)
set_option maxRecDepth 20000 in
theorem gX2_pass_Jx4a65c_get_915e3 : GoodIn wsX2_pass (wsV RX2 122 RJx4a65c yJx4a65c_get_915e3 wsJx4a65c_get_915e3) := goodIn_app (goodIn_of _ (by decide +kernel)) ggX2_pass_Jx4a65c_get_915e3
set_option maxRecDepth 20000 in
theorem ggX2_pass_X0_vanish : GoodIn wsX2_pass wsX0_vanish := goodIn_r _ [39, 40, 41, 42, 43, 38, 44, 45, 46, 47, 48, 49, 50, 58, 59, 60, 61, 62, 63, 64, 65, 66, 67, 68] (by decide +kernel) (by decide +kernel)
set_option maxRecDepth 20000 in
theorem gX2_pass_X0_vanish : GoodIn wsX2_pass (wsV RX2 129 RX0 yX0_vanish wsX0_vanish) := goodIn_app (goodIn_of _ (by decide +kernel)) ggX2_pass_X0_vanish
theorem dX2_pass_0 : decode cX2_pass 0 = .ok (.iload_n 1, 1) := by decide +kernel
theorem dX2_pass_1 : decode cX2_pass 1 = .ok (.iconst 1, 1) := by decide +kernel
theorem dX2_pass_2 : decode cX2_pass 2 = .ok (.sipush 10000, 3) := by decide +kernel
theorem dX2_pass_5 : decode cX2_pass 5 = .ok (.invokestatic 51, 3) := by decide +kernel
theorem dX2_pass_8 : decode cX2_pass 8 = .ok (.ifCond .ne 13, 3) := by decide +kernel
theorem dX2_pass_11 : decode cX2_pass 11 = .ok (.new 55, 3) := by decide +kernel
theorem dX2_pass_14 : decode cX2_pass 14 = .ok (.dup, 1) := by decide +kernel
theorem dX2_pass_15 : decode cX2_pass 15 = .ok (.ldc 120, 2) := by decide +kernel
theorem dX2_pass_17 : decode cX2_pass 17 = .ok (.invokespecial 59, 3) := by decide +kernel
theorem dX2_pass_20 : decode cX2_pass 20 = .ok (.athrow, 1) := by decide +kernel
theorem dX2_pass_21 : decode cX2_pass 21 = .ok (.aload_n 0, 1) := by decide +kernel
theorem dX2_pass_22 : decode cX2_pass 22 = .ok (.getfield 7, 3) := by decide +kernel
theorem dX2_pass_25 : decode cX2_pass 25 = .ok (.istore_n 2, 1) := by decide +kernel
theorem dX2_pass_26 : decode cX2_pass 26 = .ok (.aload_n 0, 1) := by decide +kernel
theorem dX2_pass_27 : decode cX2_pass 27 = .ok (.dup, 1) := by decide +kernel
theorem dX2_pass_28 : decode cX2_pass 28 = .ok (.getfield 7, 3) := by decide +kernel
theorem dX2_pass_31 : decode cX2_pass 31 = .ok (.iload_n 1, 1) := by decide +kernel
theorem dX2_pass_32 : decode cX2_pass 32 = .ok (.iadd, 1) := by decide +kernel
theorem dX2_pass_33 : decode cX2_pass 33 = .ok (.putfield 7, 3) := by decide +kernel
theorem dX2_pass_36 : decode cX2_pass 36 = .ok (.iconst 0, 1) := by decide +kernel
theorem dX2_pass_37 : decode cX2_pass 37 = .ok (.istore_n 3, 1) := by decide +kernel
theorem dX2_pass_38 : decode cX2_pass 38 = .ok (.iconst 0, 1) := by decide +kernel
theorem dX2_pass_39 : decode cX2_pass 39 = .ok (.istore 4, 2) := by decide +kernel
theorem dX2_pass_41 : decode cX2_pass 41 = .ok (.iload 4, 2) := by decide +kernel
theorem dX2_pass_43 : decode cX2_pass 43 = .ok (.aload_n 0, 1) := by decide +kernel
theorem dX2_pass_44 : decode cX2_pass 44 = .ok (.getfield 26, 3) := by decide +kernel
theorem dX2_pass_47 : decode cX2_pass 47 = .ok (.invokevirtual 60, 3) := by decide +kernel
theorem dX2_pass_50 : decode cX2_pass 50 = .ok (.if_icmp .ge 61, 3) := by decide +kernel
theorem dX2_pass_53 : decode cX2_pass 53 = .ok (.aload_n 0, 1) := by decide +kernel
theorem dX2_pass_54 : decode cX2_pass 54 = .ok (.getfield 26, 3) := by decide +kernel
theorem dX2_pass_57 : decode cX2_pass 57 = .ok (.iload 4, 2) := by decide +kernel
theorem dX2_pass_59 : decode cX2_pass 59 = .ok (.invokevirtual 122, 3) := by decide +kernel
theorem dX2_pass_62 : decode cX2_pass 62 = .ok (.checkcast 75, 3) := by decide +kernel
theorem dX2_pass_65 : decode cX2_pass 65 = .ok (.astore 5, 2) := by decide +kernel
theorem dX2_pass_67 : decode cX2_pass 67 = .ok (.aload 5, 2) := by decide +kernel
theorem dX2_pass_69 : decode cX2_pass 69 = .ok (.getfield 126, 3) := by decide +kernel
theorem dX2_pass_72 : decode cX2_pass 72 = .ok (.iload_n 2, 1) := by decide +kernel
theorem dX2_pass_73 : decode cX2_pass 73 = .ok (.if_icmp .le 32, 3) := by decide +kernel
theorem dX2_pass_76 : decode cX2_pass 76 = .ok (.aload 5, 2) := by decide +kernel
theorem dX2_pass_78 : decode cX2_pass 78 = .ok (.getfield 126, 3) := by decide +kernel
theorem dX2_pass_81 : decode cX2_pass 81 = .ok (.aload_n 0, 1) := by decide +kernel
theorem dX2_pass_82 : decode cX2_pass 82 = .ok (.getfield 7, 3) := by decide +kernel
theorem dX2_pass_85 : decode cX2_pass 85 = .ok (.if_icmp .gt 20, 3) := by decide +kernel
theorem dX2_pass_88 : decode cX2_pass 88 = .ok (.aload 5, 2) := by decide +kernel
theorem dX2_pass_90 : decode cX2_pass 90 = .ok (.invokevirtual 129, 3) := by decide +kernel
theorem dX2_pass_93 : decode cX2_pass 93 = .ok (.aload 5, 2) := by decide +kernel
theorem dX2_pass_95 : decode cX2_pass 95 = .ok (.getfield 132, 3) := by decide +kernel
theorem dX2_pass_98 : decode cX2_pass 98 = .ok (.iconst (-1), 1) := by decide +kernel
theorem dX2_pass_99 : decode cX2_pass 99 = .ok (.if_icmp .ne 6, 3) := by decide +kernel
theorem dX2_pass_102 : decode cX2_pass 102 = .ok (.iinc 3 1, 3) := by decide +kernel
theorem dX2_pass_105 : decode cX2_pass 105 = .ok (.iinc 4 1, 3) := by decide +kernel
theorem dX2_pass_108 : decode cX2_pass 108 = .ok (.goto (-67), 3) := by decide +kernel
theorem dX2_pass_111 : decode cX2_pass 111 = .ok (.iload_n 3, 1) := by decide +kernel
theorem dX2_pass_112 : decode cX2_pass 112 = .ok (.ireturn, 1) := by decide +kernel
set_option maxRecDepth 20000 in
theorem ggX2_setBuffer_X2_isNode : GoodIn wsX2_setBuffer wsX2_isNode := goodIn_r _ [11, 12, 13, 10, 14] (by decide +kernel) (by decide +kernel)
set_option maxRecDepth 20000 in
theorem gX2_setBuffer_X2_isNode : GoodIn wsX2_setBuffer (va_wsS RX2 40 yX2_isNode wsX2_isNode) := goodIn_app (goodIn_of _ (by decide +kernel)) ggX2_setBuffer_X2_isNode
set_option maxRecDepth 20000 in
theorem ggX2_setBuffer_X2_isWithin : GoodIn wsX2_setBuffer wsX2_isWithin := goodIn_r _ [14] (by decide +kernel) (by decide +kernel)
set_option maxRecDepth 20000 in
theorem gX2_setBuffer_X2_isWithin : GoodIn wsX2_setBuffer (va_wsS RX2 51 yX2_isWithin wsX2_isWithin) := goodIn_app (goodIn_of _ (by decide +kernel)) ggX2_setBuffer_X2_isWithin
set_option maxRecDepth 20000 in
theorem ggX2_setBuffer_X2_countAt : GoodIn wsX2_setBuffer wsX2_countAt := goodIn_r _ [18, 19, 20, 21, 22, 23, 24, 25, 26, 27, 28, 29, 30, 31, 32, 33, 34, 35, 36, 37, 38, 39, 40, 41, 42, 43, 44, 45, 46, 47, 48, 49, 50, 51, 52, 53, 54, 55, 56, 57, 58, 59, 60, 61, 62, 63, 64, 65, 66, 67, 68, 69, 70] (by decide +kernel) (by decide +kernel)
set_option maxRecDepth 20000 in
theorem gX2_setBuffer_X2_countAt : GoodIn wsX2_setBuffer (wsV RX2 137 RX2 yX2_countAt wsX2_countAt) := goodIn_app (goodIn_of _ (by decide +kernel)) ggX2_setBuffer_X2_countAt
theorem dX2_setBuffer_0 : decode cX2_setBuffer 0 = .ok (.iload_n 1, 1) := by decide +kernel
theorem dX2_setBuffer_1 : decode cX2_setBuffer 1 = .ok (.invokestatic 40, 3) := by decide +kernel
theorem dX2_setBuffer_4 : decode cX2_setBuffer 4 = .ok (.ifCond .ne 13, 3) := by decide +kernel
theorem dX2_setBuffer_7 : decode cX2_setBuffer 7 = .ok (.new 44, 3) := by decide +kernel
theorem dX2_setBuffer_10 : decode cX2_setBuffer 10 = .ok (.dup, 1) := by decide +kernel
theorem dX2_setBuffer_11 : decode cX2_setBuffer 11 = .ok (.ldc 46, 2) := by decide +kernel
theorem dX2_setBuffer_13 : decode cX2_setBuffer 13 = .ok (.invokespecial 48, 3) := by decide +kernel
theorem dX2_setBuffer_16 : decode cX2_setBuffer 16 = .ok (.athrow, 1) := by decide +kernel
theorem dX2_setBuffer_17 : decode cX2_setBuffer 17 = .ok (.iload_n 2, 1) := by decide +kernel
theorem dX2_setBuffer_18 : decode cX2_setBuffer 18 = .ok (.iconst 1, 1) := by decide +kernel
theorem dX2_setBuffer_19 : decode cX2_setBuffer 19 = .ok (.bipush 8, 2) := by decide +kernel
theorem dX2_setBuffer_21 : decode cX2_setBuffer 21 = .ok (.invokestatic 51, 3) := by decide +kernel
theorem dX2_setBuffer_24 : decode cX2_setBuffer 24 = .ok (.ifCond .ne 13, 3) := by decide +kernel
theorem dX2_setBuffer_27 : decode cX2_setBuffer 27 = .ok (.new 55, 3) := by decide +kernel
theorem dX2_setBuffer_30 : decode cX2_setBuffer 30 = .ok (.dup, 1) := by decide +kernel
theorem dX2_setBuffer_31 : decode cX2_setBuffer 31 = .ok (.ldc 135, 2) := by decide +kernel
theorem dX2_setBuffer_33 : decode cX2_setBuffer 33 = .ok (.invokespecial 59, 3) := by decide +kernel
theorem dX2_setBuffer_36 : decode cX2_setBuffer 36 = .ok (.athrow, 1) := by decide +kernel
theorem dX2_setBuffer_37 : decode cX2_setBuffer 37 = .ok (.aload_n 0, 1) := by decide +kernel
theorem dX2_setBuffer_38 : decode cX2_setBuffer 38 = .ok (.iload_n 1, 1) := by decide +kernel
theorem dX2_setBuffer_39 : decode cX2_setBuffer 39 = .ok (.invokevirtual 137, 3) := by decide +kernel
theorem dX2_setBuffer_42 : decode cX2_setBuffer 42 = .ok (.iload_n 2, 1) := by decide +kernel
theorem dX2_setBuffer_43 : decode cX2_setBuffer 43 = .ok (.if_icmp .le 13, 3) := by decide +kernel
theorem dX2_setBuffer_46 : decode cX2_setBuffer 46 = .ok (.new 64, 3) := by decide +kernel
theorem dX2_setBuffer_49 : decode cX2_setBuffer 49 = .ok (.dup, 1) := by decide +kernel
theorem dX2_setBuffer_50 : decode cX2_setBuffer 50 = .ok (.ldc 141, 2) := by decide +kernel
theorem dX2_setBuffer_52 : decode cX2_setBuffer 52 = .ok (.invokespecial 68, 3) := by decide +kernel
theorem dX2_setBuffer_55 : decode cX2_setBuffer 55 = .ok (.athrow, 1) := by decide +kernel
theorem dX2_setBuffer_56 : decode cX2_setBuffer 56 = .ok (.aload_n 0, 1) := by decide +kernel
theorem dX2_setBuffer_57 : decode cX2_setBuffer 57 = .ok (.getfield 13, 3) := by decide +kernel
theorem dX2_setBuffer_60 : decode cX2_setBuffer 60 = .ok (.iload_n 1, 1) := by decide +kernel
theorem dX2_setBuffer_61 : decode cX2_setBuffer 61 = .ok (.iaload, 1) := by decide +kernel
theorem dX2_setBuffer_62 : decode cX2_setBuffer 62 = .ok (.istore_n 3, 1) := by decide +kernel
theorem dX2_setBuffer_63 : decode cX2_setBuffer 63 = .ok (.aload_n 0, 1) := by decide +kernel
theorem dX2_setBuffer_64 : decode cX2_setBuffer 64 = .ok (.getfield 13, 3) := by decide +kernel
theorem dX2_setBuffer_67 : decode cX2_setBuffer 67 = .ok (.iload_n 1, 1) := by decide +kernel
theorem dX2_setBuffer_68 : decode cX2_setBuffer 68 = .ok (.iload_n 2, 1) := by decide +kernel
theorem dX2_setBuffer_69 : decode cX2_setBuffer 69 = .ok (.iastore, 1) := by decide +kernel
theorem dX2_setBuffer_70 : decode cX2_setBuffer 70 = .ok (.iload_n 3, 1) := by decide +kernel
theorem dX2_setBuffer_71 : decode cX2_setBuffer 71 = .ok (.ireturn, 1) := by decide +kernel
set_option maxRecDepth 20000 in
theorem ggX2_addContact_X2_isNode : GoodIn wsX2_addContact wsX2_isNode := goodIn_r _ [13, 14, 15, 12, 16] (by decide +kernel) (by decide +kernel)
set_option maxRecDepth 20000 in
theorem gX2_addContact_X2_isNode : GoodIn wsX2_addContact (va_wsS RX2 40 yX2_isNode wsX2_isNode) := goodIn_app (goodIn_of _ (by decide +kernel)) ggX2_addContact_X2_isNode
set_option maxRecDepth 20000 in
theorem ggX2_addContact_X2_isWithin : GoodIn wsX2_addContact wsX2_isWithin := goodIn_r _ [16] (by decide +kernel) (by decide +kernel)
set_option maxRecDepth 20000 in
theorem gX2_addContact_X2_isWithin : GoodIn wsX2_addContact (va_wsS RX2 51 yX2_isWithin wsX2_isWithin) := goodIn_app (goodIn_of _ (by decide +kernel)) ggX2_addContact_X2_isWithin
set_option maxRecDepth 20000 in
theorem ggX2_addContact_X1_add : GoodIn wsX2_addContact wsX1_add := goodIn_r _ [21, 22, 23, 24, 25, 26, 34, 35, 36, 37, 38, 39, 40] (by decide +kernel) (by decide +kernel)
set_option maxRecDepth 20000 in
theorem gX2_addContact_X1_add : GoodIn wsX2_addContact (wsV RX2 146 RX1 yX1_add wsX1_add) := goodIn_app (goodIn_of _ (by decide +kernel)) ggX2_addContact_X1_add
theorem dX2_addContact_0 : decode cX2_addContact 0 = .ok (.iload_n 1, 1) := by decide +kernel
theorem dX2_addContact_1 : decode cX2_addContact 1 = .ok (.invokestatic 40, 3) := by decide +kernel
theorem dX2_addContact_4 : decode cX2_addContact 4 = .ok (.ifCond .eq 10, 3) := by decide +kernel
theorem dX2_addContact_7 : decode cX2_addContact 7 = .ok (.iload_n 2, 1) := by decide +kernel
theorem dX2_addContact_8 : decode cX2_addContact 8 = .ok (.invokestatic 40, 3) := by decide +kernel
theorem dX2_addContact_11 : decode cX2_addContact 11 = .ok (.ifCond .ne 13, 3) := by decide +kernel
theorem dX2_addContact_14 : decode cX2_addContact 14 = .ok (.new 44, 3) := by decide +kernel
theorem dX2_addContact_17 : decode cX2_addContact 17 = .ok (.dup, 1) := by decide +kernel
theorem dX2_addContact_18 : decode cX2_addContact 18 = .ok (.ldc 46, 2) := by decide +kernel
theorem dX2_addContact_20 : decode cX2_addContact 20 = .ok (.invokespecial 48, 3) := by decide +kernel
theorem dX2_addContact_23 : decode cX2_addContact 23 = .ok (.athrow, 1) := by decide +kernel
theorem dX2_addContact_24 : decode cX2_addContact 24 = .ok (.iload_n 1, 1) := by decide +kernel
theorem dX2_addContact_25 : decode cX2_addContact 25 = .ok (.iload_n 2, 1) := by decide +kernel
theorem dX2_addContact_26 : decode cX2_addContact 26 = .ok (.if_icmp .eq 24, 3) := by decide +kernel
theorem dX2_addContact_29 : decode cX2_addContact 29 = .ok (.iload_n 3, 1) := by decide +kernel
theorem dX2_addContact_30 : decode cX2_addContact 30 = .ok (.iconst 0, 1) := by decide +kernel
theorem dX2_addContact_31 : decode cX2_addContact 31 = .ok (.ldc 143, 2) := by decide +kernel
theorem dX2_addContact_33 : decode cX2_addContact 33 = .ok (.invokestatic 51, 3) := by decide +kernel
theorem dX2_addContact_36 : decode cX2_addContact 36 = .ok (.ifCond .eq 14, 3) := by decide +kernel
theorem dX2_addContact_39 : decode cX2_addContact 39 = .ok (.iload 4, 2) := by decide +kernel
theorem dX2_addContact_41 : decode cX2_addContact 41 = .ok (.iload_n 3, 1) := by decide +kernel
theorem dX2_addContact_42 : decode cX2_addContact 42 = .ok (.ldc 143, 2) := by decide +kernel
theorem dX2_addContact_44 : decode cX2_addContact 44 = .ok (.invokestatic 51, 3) := by decide +kernel
theorem dX2_addContact_47 : decode cX2_addContact 47 = .ok (.ifCond .ne 13, 3) := by decide +kernel
theorem dX2_addContact_50 : decode cX2_addContact 50 = .ok (.new 55, 3) := by decide +kernel
theorem dX2_addContact_53 : decode cX2_addContact 53 = .ok (.dup, 1) := by decide +kernel
theorem dX2_addContact_54 : decode cX2_addContact 54 = .ok (.ldc 144, 2) := by decide +kernel
theorem dX2_addContact_56 : decode cX2_addContact 56 = .ok (.invokespecial 59, 3) := by decide +kernel
theorem dX2_addContact_59 : decode cX2_addContact 59 = .ok (.athrow, 1) := by decide +kernel
theorem dX2_addContact_60 : decode cX2_addContact 60 = .ok (.aload_n 0, 1) := by decide +kernel
theorem dX2_addContact_61 : decode cX2_addContact 61 = .ok (.getfield 36, 3) := by decide +kernel
theorem dX2_addContact_64 : decode cX2_addContact 64 = .ok (.iload_n 1, 1) := by decide +kernel
theorem dX2_addContact_65 : decode cX2_addContact 65 = .ok (.iload_n 2, 1) := by decide +kernel
theorem dX2_addContact_66 : decode cX2_addContact 66 = .ok (.iload_n 3, 1) := by decide +kernel
theorem dX2_addContact_67 : decode cX2_addContact 67 = .ok (.iload 4, 2) := by decide +kernel
theorem dX2_addContact_69 : decode cX2_addContact 69 = .ok (.invokevirtual 146, 3) := by decide +kernel
theorem dX2_addContact_72 : decode cX2_addContact 72 = .ok (.ifCond .ne 13, 3) := by decide +kernel
theorem dX2_addContact_75 : decode cX2_addContact 75 = .ok (.new 64, 3) := by decide +kernel
theorem dX2_addContact_78 : decode cX2_addContact 78 = .ok (.dup, 1) := by decide +kernel
theorem dX2_addContact_79 : decode cX2_addContact 79 = .ok (.ldc 149, 2) := by decide +kernel
theorem dX2_addContact_81 : decode cX2_addContact 81 = .ok (.invokespecial 68, 3) := by decide +kernel
theorem dX2_addContact_84 : decode cX2_addContact 84 = .ok (.athrow, 1) := by decide +kernel
theorem dX2_addContact_85 : decode cX2_addContact 85 = .ok (.aload_n 0, 1) := by decide +kernel
theorem dX2_addContact_86 : decode cX2_addContact 86 = .ok (.getfield 36, 3) := by decide +kernel
theorem dX2_addContact_89 : decode cX2_addContact 89 = .ok (.getfield 151, 3) := by decide +kernel
theorem dX2_addContact_92 : decode cX2_addContact 92 = .ok (.ireturn, 1) := by decide +kernel
theorem dX2_clock_0 : decode cX2_clock 0 = .ok (.aload_n 0, 1) := by decide +kernel
theorem dX2_clock_1 : decode cX2_clock 1 = .ok (.getfield 7, 3) := by decide +kernel
theorem dX2_clock_4 : decode cX2_clock 4 = .ok (.ireturn, 1) := by decide +kernel
set_option maxRecDepth 20000 in
theorem ggX2_bundles_Jx4a65c_size_8abf5 : GoodIn wsX2_bundles wsJx4a65c_size_8abf5 := goodIn_r _ [6, 7, 15, 16, 17] (by decide +kernel) (by decide +kernel)
set_option maxRecDepth 20000 in
theorem gX2_bundles_Jx4a65c_size_8abf5 : GoodIn wsX2_bundles (wsV RX2 60 RJx4a65c yJx4a65c_size_8abf5 wsJx4a65c_size_8abf5) := goodIn_app (goodIn_of _ (by decide +kernel)) ggX2_bundles_Jx4a65c_size_8abf5
theorem dX2_bundles_0 : decode cX2_bundles 0 = .ok (.aload_n 0, 1) := by decide +kernel
theorem dX2_bundles_1 : decode cX2_bundles 1 = .ok (.getfield 26, 3) := by decide +kernel
theorem dX2_bundles_4 : decode cX2_bundles 4 = .ok (.invokevirtual 60, 3) := by decide +kernel
theorem dX2_bundles_7 : decode cX2_bundles 7 = .ok (.ireturn, 1) := by decide +kernel
set_option maxRecDepth 20000 in
theorem ggX2_endOf_X2_numbered : GoodIn wsX2_endOf wsX2_numbered := goodIn_ca (goodIn_r _ [6, 7, 8, 9, 10, 11, 12, 13, 14, 15, 16, 17, 18, 19, 20, 21, 22, 23, 24, 25, 26, 27, 28, 29, 30, 31, 32, 33, 45, 46, 47, 48, 49, 50, 51, 52, 53, 54] (by decide +kernel) (by decide +kernel)) (goodIn_sub (fun _ h => List.mem_cons_of_mem _ (List.mem_append_right _ h)) (by decide +kernel))
set_option maxRecDepth 20000 in
theorem gX2_endOf_X2_numbered : GoodIn wsX2_endOf (wsV RX2 153 RX2 yX2_numbered wsX2_numbered) := goodIn_app (goodIn_of _ (by decide +kernel)) ggX2_endOf_X2_numbered
theorem dX2_endOf_0 : decode cX2_endOf 0 = .ok (.aload_n 0, 1) := by decide +kernel
theorem dX2_endOf_1 : decode cX2_endOf 1 = .ok (.iload_n 1, 1) := by decide +kernel
theorem dX2_endOf_2 : decode cX2_endOf 2 = .ok (.invokevirtual 153, 3) := by decide +kernel
theorem dX2_endOf_5 : decode cX2_endOf 5 = .ok (.getfield 126, 3) := by decide +kernel
theorem dX2_endOf_8 : decode cX2_endOf 8 = .ok (.ireturn, 1) := by decide +kernel
set_option maxRecDepth 20000 in
theorem ggX2_deliveredAt_X2_numbered : GoodIn wsX2_deliveredAt wsX2_numbered := goodIn_ca (goodIn_r _ [6, 7, 8, 9, 10, 11, 12, 13, 14, 15, 16, 17, 18, 19, 20, 21, 22, 23, 24, 25, 26, 27, 28, 29, 30, 31, 32, 33, 45, 46, 47, 48, 49, 50, 51, 52, 53, 54] (by decide +kernel) (by decide +kernel)) (goodIn_sub (fun _ h => List.mem_cons_of_mem _ (List.mem_append_right _ h)) (by decide +kernel))
set_option maxRecDepth 20000 in
theorem gX2_deliveredAt_X2_numbered : GoodIn wsX2_deliveredAt (wsV RX2 153 RX2 yX2_numbered wsX2_numbered) := goodIn_app (goodIn_of _ (by decide +kernel)) ggX2_deliveredAt_X2_numbered
theorem dX2_deliveredAt_0 : decode cX2_deliveredAt 0 = .ok (.aload_n 0, 1) := by decide +kernel
theorem dX2_deliveredAt_1 : decode cX2_deliveredAt 1 = .ok (.iload_n 1, 1) := by decide +kernel
theorem dX2_deliveredAt_2 : decode cX2_deliveredAt 2 = .ok (.invokevirtual 153, 3) := by decide +kernel
theorem dX2_deliveredAt_5 : decode cX2_deliveredAt 5 = .ok (.getfield 132, 3) := by decide +kernel
theorem dX2_deliveredAt_8 : decode cX2_deliveredAt 8 = .ok (.ireturn, 1) := by decide +kernel
set_option maxRecDepth 20000 in
theorem ggX2_hops_X2_numbered : GoodIn wsX2_hops wsX2_numbered := goodIn_ca (goodIn_r _ [6, 7, 8, 9, 10, 11, 12, 13, 14, 15, 16, 17, 18, 19, 20, 21, 22, 23, 24, 25, 26, 27, 28, 29, 30, 31, 32, 33, 45, 46, 47, 48, 49, 50, 51, 52, 53, 54] (by decide +kernel) (by decide +kernel)) (goodIn_sub (fun _ h => List.mem_cons_of_mem _ (List.mem_append_right _ h)) (by decide +kernel))
set_option maxRecDepth 20000 in
theorem gX2_hops_X2_numbered : GoodIn wsX2_hops (wsV RX2 153 RX2 yX2_numbered wsX2_numbered) := goodIn_app (goodIn_of _ (by decide +kernel)) ggX2_hops_X2_numbered
theorem dX2_hops_0 : decode cX2_hops 0 = .ok (.aload_n 0, 1) := by decide +kernel
theorem dX2_hops_1 : decode cX2_hops 1 = .ok (.iload_n 1, 1) := by decide +kernel
theorem dX2_hops_2 : decode cX2_hops 2 = .ok (.invokevirtual 153, 3) := by decide +kernel
theorem dX2_hops_5 : decode cX2_hops 5 = .ok (.getfield 157, 3) := by decide +kernel
theorem dX2_hops_8 : decode cX2_hops 8 = .ok (.ireturn, 1) := by decide +kernel
set_option maxRecDepth 20000 in
theorem ggX2_custodian_X2_numbered : GoodIn wsX2_custodian wsX2_numbered := goodIn_ca (goodIn_r _ [6, 7, 8, 9, 10, 11, 12, 13, 14, 15, 16, 17, 18, 19, 20, 21, 22, 23, 24, 25, 26, 27, 28, 29, 30, 31, 32, 33, 45, 46, 47, 48, 49, 50, 51, 52, 53, 54] (by decide +kernel) (by decide +kernel)) (goodIn_sub (fun _ h => List.mem_cons_of_mem _ (List.mem_append_right _ h)) (by decide +kernel))
set_option maxRecDepth 20000 in
theorem gX2_custodian_X2_numbered : GoodIn wsX2_custodian (wsV RX2 153 RX2 yX2_numbered wsX2_numbered) := goodIn_app (goodIn_of _ (by decide +kernel)) ggX2_custodian_X2_numbered
theorem dX2_custodian_0 : decode cX2_custodian 0 = .ok (.aload_n 0, 1) := by decide +kernel
theorem dX2_custodian_1 : decode cX2_custodian 1 = .ok (.iload_n 1, 1) := by decide +kernel
theorem dX2_custodian_2 : decode cX2_custodian 2 = .ok (.invokevirtual 153, 3) := by decide +kernel
theorem dX2_custodian_5 : decode cX2_custodian 5 = .ok (.getfield 80, 3) := by decide +kernel
theorem dX2_custodian_8 : decode cX2_custodian 8 = .ok (.ireturn, 1) := by decide +kernel
set_option maxRecDepth 20000 in
theorem ggX2_holders_X2_numbered : GoodIn wsX2_holders wsX2_numbered := goodIn_ca (goodIn_r _ [5, 6, 7, 8, 9, 10, 11, 12, 13, 14, 15, 16, 17, 18, 19, 20, 21, 22, 23, 24, 25, 26, 27, 28, 29, 30, 31, 32, 39, 40, 41, 42, 43, 44, 45, 46, 47, 48] (by decide +kernel) (by decide +kernel)) (goodIn_sub (fun _ h => List.mem_cons_of_mem _ (List.mem_append_right _ h)) (by decide +kernel))
set_option maxRecDepth 20000 in
theorem gX2_holders_X2_numbered : GoodIn wsX2_holders (wsV RX2 153 RX2 yX2_numbered wsX2_numbered) := goodIn_app (goodIn_of _ (by decide +kernel)) ggX2_holders_X2_numbered
set_option maxRecDepth 20000 in
theorem ggX2_holders_X0_isAt : GoodIn wsX2_holders wsX0_isAt := goodIn_r _ [37, 38, 49, 50, 51, 52, 53, 54, 55, 56, 57, 58, 59] (by decide +kernel) (by decide +kernel)
set_option maxRecDepth 20000 in
theorem gX2_holders_X0_isAt : GoodIn wsX2_holders (wsV RX2 160 RX0 yX0_isAt wsX0_isAt) := goodIn_app (goodIn_of _ (by decide +kernel)) ggX2_holders_X0_isAt
theorem dX2_holders_0 : decode cX2_holders 0 = .ok (.aload_n 0, 1) := by decide +kernel
theorem dX2_holders_1 : decode cX2_holders 1 = .ok (.iload_n 1, 1) := by decide +kernel
theorem dX2_holders_2 : decode cX2_holders 2 = .ok (.invokevirtual 153, 3) := by decide +kernel
theorem dX2_holders_5 : decode cX2_holders 5 = .ok (.astore_n 2, 1) := by decide +kernel
theorem dX2_holders_6 : decode cX2_holders 6 = .ok (.iconst 0, 1) := by decide +kernel
theorem dX2_holders_7 : decode cX2_holders 7 = .ok (.istore_n 3, 1) := by decide +kernel
theorem dX2_holders_8 : decode cX2_holders 8 = .ok (.iconst 0, 1) := by decide +kernel
theorem dX2_holders_9 : decode cX2_holders 9 = .ok (.istore 4, 2) := by decide +kernel
theorem dX2_holders_11 : decode cX2_holders 11 = .ok (.iload 4, 2) := by decide +kernel
theorem dX2_holders_13 : decode cX2_holders 13 = .ok (.bipush 8, 2) := by decide +kernel
theorem dX2_holders_15 : decode cX2_holders 15 = .ok (.if_icmp .ge 25, 3) := by decide +kernel
theorem dX2_holders_18 : decode cX2_holders 18 = .ok (.aload_n 2, 1) := by decide +kernel
theorem dX2_holders_19 : decode cX2_holders 19 = .ok (.iload 4, 2) := by decide +kernel
theorem dX2_holders_21 : decode cX2_holders 21 = .ok (.invokevirtual 160, 3) := by decide +kernel
theorem dX2_holders_24 : decode cX2_holders 24 = .ok (.ifCond .eq 10, 3) := by decide +kernel
theorem dX2_holders_27 : decode cX2_holders 27 = .ok (.iload_n 3, 1) := by decide +kernel
theorem dX2_holders_28 : decode cX2_holders 28 = .ok (.iconst 1, 1) := by decide +kernel
theorem dX2_holders_29 : decode cX2_holders 29 = .ok (.iload 4, 2) := by decide +kernel
theorem dX2_holders_31 : decode cX2_holders 31 = .ok (.ishl, 1) := by decide +kernel
theorem dX2_holders_32 : decode cX2_holders 32 = .ok (.ior, 1) := by decide +kernel
theorem dX2_holders_33 : decode cX2_holders 33 = .ok (.istore_n 3, 1) := by decide +kernel
theorem dX2_holders_34 : decode cX2_holders 34 = .ok (.iinc 4 1, 3) := by decide +kernel
theorem dX2_holders_37 : decode cX2_holders 37 = .ok (.goto (-26), 3) := by decide +kernel
theorem dX2_holders_40 : decode cX2_holders 40 = .ok (.iload_n 3, 1) := by decide +kernel
theorem dX2_holders_41 : decode cX2_holders 41 = .ok (.ireturn, 1) := by decide +kernel
set_option maxRecDepth 20000 in
theorem ggX2_copies_X2_checkNode : GoodIn wsX2_copies wsX2_checkNode := goodIn_ca (goodIn_r _ [5, 6, 7, 8, 9, 4, 10, 11, 12, 13] (by decide +kernel) (by decide +kernel)) (goodIn_sub (fun _ h => List.mem_cons_of_mem _ (List.mem_append_right _ h)) (by decide +kernel))
set_option maxRecDepth 20000 in
theorem gX2_copies_X2_checkNode : GoodIn wsX2_copies (va_wsS RX2 163 yX2_checkNode wsX2_checkNode) := goodIn_app (goodIn_of _ (by decide +kernel)) ggX2_copies_X2_checkNode
set_option maxRecDepth 20000 in
theorem ggX2_copies_X2_numbered : GoodIn wsX2_copies wsX2_numbered := goodIn_ca (goodIn_r _ [17, 6, 7, 18, 19, 20, 21, 22, 23, 24, 25, 26, 27, 28, 29, 30, 31, 32, 33, 34, 35, 36, 37, 38, 39, 40, 41, 42, 54, 55, 56, 57, 58, 59, 60, 61, 62, 63] (by decide +kernel) (by decide +kernel)) (goodIn_sub (fun _ h => List.mem_cons_of_mem _ (List.mem_append_right _ h)) (by decide +kernel))
set_option maxRecDepth 20000 in
theorem gX2_copies_X2_numbered : GoodIn wsX2_copies (wsV RX2 153 RX2 yX2_numbered wsX2_numbered) := goodIn_app (goodIn_of _ (by decide +kernel)) ggX2_copies_X2_numbered
theorem dX2_copies_0 : decode cX2_copies 0 = .ok (.iload_n 1, 1) := by decide +kernel
theorem dX2_copies_1 : decode cX2_copies 1 = .ok (.invokestatic 163, 3) := by decide +kernel
theorem dX2_copies_4 : decode cX2_copies 4 = .ok (.aload_n 0, 1) := by decide +kernel
theorem dX2_copies_5 : decode cX2_copies 5 = .ok (.iload_n 2, 1) := by decide +kernel
theorem dX2_copies_6 : decode cX2_copies 6 = .ok (.invokevirtual 153, 3) := by decide +kernel
theorem dX2_copies_9 : decode cX2_copies 9 = .ok (.getfield 167, 3) := by decide +kernel
theorem dX2_copies_12 : decode cX2_copies 12 = .ok (.iload_n 1, 1) := by decide +kernel
theorem dX2_copies_13 : decode cX2_copies 13 = .ok (.iaload, 1) := by decide +kernel
theorem dX2_copies_14 : decode cX2_copies 14 = .ok (.ireturn, 1) := by decide +kernel
set_option maxRecDepth 20000 in
theorem ggX2_knows_X2_checkNode : GoodIn wsX2_knows wsX2_checkNode := goodIn_ca (goodIn_r _ [5, 6, 7, 8, 9, 4, 10, 11, 12, 13] (by decide +kernel) (by decide +kernel)) (goodIn_sub (fun _ h => List.mem_cons_of_mem _ (List.mem_append_right _ h)) (by decide +kernel))
set_option maxRecDepth 20000 in
theorem gX2_knows_X2_checkNode : GoodIn wsX2_knows (va_wsS RX2 163 yX2_checkNode wsX2_checkNode) := goodIn_app (goodIn_of _ (by decide +kernel)) ggX2_knows_X2_checkNode
set_option maxRecDepth 20000 in
theorem ggX2_knows_X2_numbered : GoodIn wsX2_knows wsX2_numbered := goodIn_ca (goodIn_r _ [17, 6, 7, 18, 19, 20, 21, 22, 23, 24, 25, 26, 27, 28, 29, 30, 31, 32, 33, 34, 35, 36, 37, 38, 39, 40, 41, 42, 54, 55, 56, 57, 58, 59, 60, 61, 62, 63] (by decide +kernel) (by decide +kernel)) (goodIn_sub (fun _ h => List.mem_cons_of_mem _ (List.mem_append_right _ h)) (by decide +kernel))
set_option maxRecDepth 20000 in
theorem gX2_knows_X2_numbered : GoodIn wsX2_knows (wsV RX2 153 RX2 yX2_numbered wsX2_numbered) := goodIn_app (goodIn_of _ (by decide +kernel)) ggX2_knows_X2_numbered
theorem dX2_knows_0 : decode cX2_knows 0 = .ok (.iload_n 1, 1) := by decide +kernel
theorem dX2_knows_1 : decode cX2_knows 1 = .ok (.invokestatic 163, 3) := by decide +kernel
theorem dX2_knows_4 : decode cX2_knows 4 = .ok (.aload_n 0, 1) := by decide +kernel
theorem dX2_knows_5 : decode cX2_knows 5 = .ok (.iload_n 2, 1) := by decide +kernel
theorem dX2_knows_6 : decode cX2_knows 6 = .ok (.invokevirtual 153, 3) := by decide +kernel
theorem dX2_knows_9 : decode cX2_knows 9 = .ok (.getfield 170, 3) := by decide +kernel
theorem dX2_knows_12 : decode cX2_knows 12 = .ok (.iload_n 1, 1) := by decide +kernel
theorem dX2_knows_13 : decode cX2_knows 13 = .ok (.baload, 1) := by decide +kernel
theorem dX2_knows_14 : decode cX2_knows 14 = .ok (.ireturn, 1) := by decide +kernel
set_option maxRecDepth 20000 in
theorem ggX2_held_X2_checkNode : GoodIn wsX2_held wsX2_checkNode := goodIn_ca (goodIn_r _ [4, 5, 6, 7, 8, 3, 9, 10, 11, 12] (by decide +kernel) (by decide +kernel)) (goodIn_sub (fun _ h => List.mem_cons_of_mem _ (List.mem_append_right _ h)) (by decide +kernel))
set_option maxRecDepth 20000 in
theorem gX2_held_X2_checkNode : GoodIn wsX2_held (va_wsS RX2 163 yX2_checkNode wsX2_checkNode) := goodIn_app (goodIn_of _ (by decide +kernel)) ggX2_held_X2_checkNode
set_option maxRecDepth 20000 in
theorem ggX2_held_X2_countAt : GoodIn wsX2_held wsX2_countAt := goodIn_r _ [16, 17, 18, 19, 20, 21, 22, 23, 24, 25, 26, 27, 28, 29, 30, 31, 32, 33, 34, 35, 36, 37, 38, 39, 40, 41, 42, 43, 44, 45, 46, 47, 48, 49, 50, 51, 52, 53, 54, 55, 56, 57, 58, 59, 60, 61, 62, 63, 64, 65, 66, 67, 68] (by decide +kernel) (by decide +kernel)
set_option maxRecDepth 20000 in
theorem gX2_held_X2_countAt : GoodIn wsX2_held (wsV RX2 137 RX2 yX2_countAt wsX2_countAt) := goodIn_app (goodIn_of _ (by decide +kernel)) ggX2_held_X2_countAt
theorem dX2_held_0 : decode cX2_held 0 = .ok (.iload_n 1, 1) := by decide +kernel
theorem dX2_held_1 : decode cX2_held 1 = .ok (.invokestatic 163, 3) := by decide +kernel
theorem dX2_held_4 : decode cX2_held 4 = .ok (.aload_n 0, 1) := by decide +kernel
theorem dX2_held_5 : decode cX2_held 5 = .ok (.iload_n 1, 1) := by decide +kernel
theorem dX2_held_6 : decode cX2_held 6 = .ok (.invokevirtual 137, 3) := by decide +kernel
theorem dX2_held_9 : decode cX2_held 9 = .ok (.ireturn, 1) := by decide +kernel
set_option maxRecDepth 20000 in
theorem ggX2_heldAt_X2_checkNode : GoodIn wsX2_heldAt wsX2_checkNode := goodIn_ca (goodIn_r _ [9, 1, 2, 10, 11, 8, 12, 13, 14, 15] (by decide +kernel) (by decide +kernel)) (goodIn_sub (fun _ h => List.mem_cons_of_mem _ (List.mem_append_right _ h)) (by decide +kernel))
set_option maxRecDepth 20000 in
theorem gX2_heldAt_X2_checkNode : GoodIn wsX2_heldAt (va_wsS RX2 163 yX2_checkNode wsX2_checkNode) := goodIn_app (goodIn_of _ (by decide +kernel)) ggX2_heldAt_X2_checkNode
set_option maxRecDepth 20000 in
theorem ggX2_heldAt_Jx4a65c_size_8abf5 : GoodIn wsX2_heldAt wsJx4a65c_size_8abf5 := goodIn_r _ [20, 21, 63, 64, 65] (by decide +kernel) (by decide +kernel)
set_option maxRecDepth 20000 in
theorem gX2_heldAt_Jx4a65c_size_8abf5 : GoodIn wsX2_heldAt (wsV RX2 60 RJx4a65c yJx4a65c_size_8abf5 wsJx4a65c_size_8abf5) := goodIn_app (goodIn_of _ (by decide +kernel)) ggX2_heldAt_Jx4a65c_size_8abf5
set_option maxRecDepth 20000 in
theorem ggX2_heldAt_Jx4a65c_get_915e3 : GoodIn wsX2_heldAt wsJx4a65c_get_915e3 := goodIn_r _ [25, 21, 26, 27, 28, 29, 30, 31, 32, 33, 34, 35, 36, 19, 37, 38, 63, 64, 65] (by decide +kernel) (by decide +kernel)
set_option maxRecDepth 20000 in
theorem gX2_heldAt_Jx4a65c_get_915e3 : GoodIn wsX2_heldAt (wsV RX2 122 RJx4a65c yJx4a65c_get_915e3 wsJx4a65c_get_915e3) := goodIn_app (goodIn_of _ (by decide +kernel)) ggX2_heldAt_Jx4a65c_get_915e3
set_option maxRecDepth 20000 in
theorem ggX2_heldAt_X0_isAt : GoodIn wsX2_heldAt wsX0_isAt := goodIn_r _ [43, 44, 52, 53, 54, 55, 56, 57, 58, 59, 60, 61, 62] (by decide +kernel) (by decide +kernel)
set_option maxRecDepth 20000 in
theorem gX2_heldAt_X0_isAt : GoodIn wsX2_heldAt (wsV RX2 160 RX0 yX0_isAt wsX0_isAt) := goodIn_app (goodIn_of _ (by decide +kernel)) ggX2_heldAt_X0_isAt
theorem dX2_heldAt_0 : decode cX2_heldAt 0 = .ok (.iload_n 1, 1) := by decide +kernel
theorem dX2_heldAt_1 : decode cX2_heldAt 1 = .ok (.invokestatic 163, 3) := by decide +kernel
theorem dX2_heldAt_4 : decode cX2_heldAt 4 = .ok (.iconst 0, 1) := by decide +kernel
theorem dX2_heldAt_5 : decode cX2_heldAt 5 = .ok (.istore_n 3, 1) := by decide +kernel
theorem dX2_heldAt_6 : decode cX2_heldAt 6 = .ok (.iconst 0, 1) := by decide +kernel
theorem dX2_heldAt_7 : decode cX2_heldAt 7 = .ok (.istore 4, 2) := by decide +kernel
theorem dX2_heldAt_9 : decode cX2_heldAt 9 = .ok (.iload 4, 2) := by decide +kernel
theorem dX2_heldAt_11 : decode cX2_heldAt 11 = .ok (.aload_n 0, 1) := by decide +kernel
theorem dX2_heldAt_12 : decode cX2_heldAt 12 = .ok (.getfield 30, 3) := by decide +kernel
theorem dX2_heldAt_15 : decode cX2_heldAt 15 = .ok (.invokevirtual 60, 3) := by decide +kernel
theorem dX2_heldAt_18 : decode cX2_heldAt 18 = .ok (.if_icmp .ge 46, 3) := by decide +kernel
theorem dX2_heldAt_21 : decode cX2_heldAt 21 = .ok (.aload_n 0, 1) := by decide +kernel
theorem dX2_heldAt_22 : decode cX2_heldAt 22 = .ok (.getfield 30, 3) := by decide +kernel
theorem dX2_heldAt_25 : decode cX2_heldAt 25 = .ok (.iload 4, 2) := by decide +kernel
theorem dX2_heldAt_27 : decode cX2_heldAt 27 = .ok (.invokevirtual 122, 3) := by decide +kernel
theorem dX2_heldAt_30 : decode cX2_heldAt 30 = .ok (.checkcast 75, 3) := by decide +kernel
theorem dX2_heldAt_33 : decode cX2_heldAt 33 = .ok (.astore 5, 2) := by decide +kernel
theorem dX2_heldAt_35 : decode cX2_heldAt 35 = .ok (.aload 5, 2) := by decide +kernel
theorem dX2_heldAt_37 : decode cX2_heldAt 37 = .ok (.iload_n 1, 1) := by decide +kernel
theorem dX2_heldAt_38 : decode cX2_heldAt 38 = .ok (.invokevirtual 160, 3) := by decide +kernel
theorem dX2_heldAt_41 : decode cX2_heldAt 41 = .ok (.ifCond .eq 17, 3) := by decide +kernel
theorem dX2_heldAt_44 : decode cX2_heldAt 44 = .ok (.iload_n 3, 1) := by decide +kernel
theorem dX2_heldAt_45 : decode cX2_heldAt 45 = .ok (.iload_n 2, 1) := by decide +kernel
theorem dX2_heldAt_46 : decode cX2_heldAt 46 = .ok (.if_icmp .ne 9, 3) := by decide +kernel
theorem dX2_heldAt_49 : decode cX2_heldAt 49 = .ok (.aload 5, 2) := by decide +kernel
theorem dX2_heldAt_51 : decode cX2_heldAt 51 = .ok (.getfield 98, 3) := by decide +kernel
theorem dX2_heldAt_54 : decode cX2_heldAt 54 = .ok (.ireturn, 1) := by decide +kernel
theorem dX2_heldAt_55 : decode cX2_heldAt 55 = .ok (.iinc 3 1, 3) := by decide +kernel
theorem dX2_heldAt_58 : decode cX2_heldAt 58 = .ok (.iinc 4 1, 3) := by decide +kernel
theorem dX2_heldAt_61 : decode cX2_heldAt 61 = .ok (.goto (-52), 3) := by decide +kernel
theorem dX2_heldAt_64 : decode cX2_heldAt 64 = .ok (.new 44, 3) := by decide +kernel
theorem dX2_heldAt_67 : decode cX2_heldAt 67 = .ok (.dup, 1) := by decide +kernel
theorem dX2_heldAt_68 : decode cX2_heldAt 68 = .ok (.ldc 174, 2) := by decide +kernel
theorem dX2_heldAt_70 : decode cX2_heldAt 70 = .ok (.invokespecial 48, 3) := by decide +kernel
theorem dX2_heldAt_73 : decode cX2_heldAt 73 = .ok (.athrow, 1) := by decide +kernel
set_option maxRecDepth 20000 in
theorem ggX2_dropped_X2_checkNode : GoodIn wsX2_dropped wsX2_checkNode := goodIn_ca (goodIn_r _ [5, 6, 7, 8, 9, 4, 10, 11, 12, 13] (by decide +kernel) (by decide +kernel)) (goodIn_sub (fun _ h => List.mem_cons_of_mem _ (List.mem_append_right _ h)) (by decide +kernel))
set_option maxRecDepth 20000 in
theorem gX2_dropped_X2_checkNode : GoodIn wsX2_dropped (va_wsS RX2 163 yX2_checkNode wsX2_checkNode) := goodIn_app (goodIn_of _ (by decide +kernel)) ggX2_dropped_X2_checkNode
theorem dX2_dropped_0 : decode cX2_dropped 0 = .ok (.iload_n 1, 1) := by decide +kernel
theorem dX2_dropped_1 : decode cX2_dropped 1 = .ok (.invokestatic 163, 3) := by decide +kernel
theorem dX2_dropped_4 : decode cX2_dropped 4 = .ok (.aload_n 0, 1) := by decide +kernel
theorem dX2_dropped_5 : decode cX2_dropped 5 = .ok (.getfield 17, 3) := by decide +kernel
theorem dX2_dropped_8 : decode cX2_dropped 8 = .ok (.iload_n 1, 1) := by decide +kernel
theorem dX2_dropped_9 : decode cX2_dropped 9 = .ok (.iaload, 1) := by decide +kernel
theorem dX2_dropped_10 : decode cX2_dropped 10 = .ok (.ireturn, 1) := by decide +kernel
set_option maxRecDepth 20000 in
theorem ggX2_refused_X2_checkNode : GoodIn wsX2_refused wsX2_checkNode := goodIn_ca (goodIn_r _ [5, 6, 7, 8, 9, 4, 10, 11, 12, 13] (by decide +kernel) (by decide +kernel)) (goodIn_sub (fun _ h => List.mem_cons_of_mem _ (List.mem_append_right _ h)) (by decide +kernel))
set_option maxRecDepth 20000 in
theorem gX2_refused_X2_checkNode : GoodIn wsX2_refused (va_wsS RX2 163 yX2_checkNode wsX2_checkNode) := goodIn_app (goodIn_of _ (by decide +kernel)) ggX2_refused_X2_checkNode
theorem dX2_refused_0 : decode cX2_refused 0 = .ok (.iload_n 1, 1) := by decide +kernel
theorem dX2_refused_1 : decode cX2_refused 1 = .ok (.invokestatic 163, 3) := by decide +kernel
theorem dX2_refused_4 : decode cX2_refused 4 = .ok (.aload_n 0, 1) := by decide +kernel
theorem dX2_refused_5 : decode cX2_refused 5 = .ok (.getfield 20, 3) := by decide +kernel
theorem dX2_refused_8 : decode cX2_refused 8 = .ok (.iload_n 1, 1) := by decide +kernel
theorem dX2_refused_9 : decode cX2_refused 9 = .ok (.iaload, 1) := by decide +kernel
theorem dX2_refused_10 : decode cX2_refused 10 = .ok (.ireturn, 1) := by decide +kernel
set_option maxRecDepth 20000 in
theorem ggX2_arrival_X2_checkNode : GoodIn wsX2_arrival wsX2_checkNode := goodIn_ca (goodIn_r _ [6, 7, 8, 9, 10, 5, 11, 12, 13, 14] (by decide +kernel) (by decide +kernel)) (goodIn_sub (fun _ h => List.mem_cons_of_mem _ (List.mem_append_right _ h)) (by decide +kernel))
set_option maxRecDepth 20000 in
theorem gX2_arrival_X2_checkNode : GoodIn wsX2_arrival (va_wsS RX2 163 yX2_checkNode wsX2_checkNode) := goodIn_app (goodIn_of _ (by decide +kernel)) ggX2_arrival_X2_checkNode
set_option maxRecDepth 20000 in
theorem ggX2_arrival_X1_arrivalByNodes : GoodIn wsX2_arrival wsX1_arrivalByNodes := goodIn_r _ [19, 20, 21, 22, 23, 24, 18, 25, 26, 27, 28, 29, 30, 31, 32, 33, 34, 35, 36, 37, 38, 39, 40, 41, 42, 43, 44, 45, 46, 47, 59, 60, 61, 62, 63, 64, 65] (by decide +kernel) (by decide +kernel)
set_option maxRecDepth 20000 in
theorem gX2_arrival_X1_arrivalByNodes : GoodIn wsX2_arrival (wsV RX2 176 RX1 yX1_arrivalByNodes wsX1_arrivalByNodes) := goodIn_app (goodIn_of _ (by decide +kernel)) ggX2_arrival_X1_arrivalByNodes
set_option maxRecDepth 20000 in
theorem ggX2_arrival_X2_secondOrNone : GoodIn wsX2_arrival wsX2_secondOrNone := goodIn_r _ [50, 51] (by decide +kernel) (by decide +kernel)
set_option maxRecDepth 20000 in
theorem gX2_arrival_X2_secondOrNone : GoodIn wsX2_arrival (va_wsS RX2 179 yX2_secondOrNone wsX2_secondOrNone) := goodIn_app (goodIn_of _ (by decide +kernel)) ggX2_arrival_X2_secondOrNone
theorem dX2_arrival_0 : decode cX2_arrival 0 = .ok (.iload_n 1, 1) := by decide +kernel
theorem dX2_arrival_1 : decode cX2_arrival 1 = .ok (.invokestatic 163, 3) := by decide +kernel
theorem dX2_arrival_4 : decode cX2_arrival 4 = .ok (.iload_n 2, 1) := by decide +kernel
theorem dX2_arrival_5 : decode cX2_arrival 5 = .ok (.invokestatic 163, 3) := by decide +kernel
theorem dX2_arrival_8 : decode cX2_arrival 8 = .ok (.aload_n 0, 1) := by decide +kernel
theorem dX2_arrival_9 : decode cX2_arrival 9 = .ok (.getfield 36, 3) := by decide +kernel
theorem dX2_arrival_12 : decode cX2_arrival 12 = .ok (.iload_n 1, 1) := by decide +kernel
theorem dX2_arrival_13 : decode cX2_arrival 13 = .ok (.iload_n 2, 1) := by decide +kernel
theorem dX2_arrival_14 : decode cX2_arrival 14 = .ok (.aload_n 0, 1) := by decide +kernel
theorem dX2_arrival_15 : decode cX2_arrival 15 = .ok (.getfield 7, 3) := by decide +kernel
theorem dX2_arrival_18 : decode cX2_arrival 18 = .ok (.invokevirtual 176, 3) := by decide +kernel
theorem dX2_arrival_21 : decode cX2_arrival 21 = .ok (.invokestatic 179, 3) := by decide +kernel
theorem dX2_arrival_24 : decode cX2_arrival 24 = .ok (.ireturn, 1) := by decide +kernel
set_option maxRecDepth 20000 in
theorem ggX2_arrivalByRounds_X2_checkNode : GoodIn wsX2_arrivalByRounds wsX2_checkNode := goodIn_ca (goodIn_r _ [6, 7, 8, 9, 10, 5, 11, 12, 13, 14] (by decide +kernel) (by decide +kernel)) (goodIn_sub (fun _ h => List.mem_cons_of_mem _ (List.mem_append_right _ h)) (by decide +kernel))
set_option maxRecDepth 20000 in
theorem gX2_arrivalByRounds_X2_checkNode : GoodIn wsX2_arrivalByRounds (va_wsS RX2 163 yX2_checkNode wsX2_checkNode) := goodIn_app (goodIn_of _ (by decide +kernel)) ggX2_arrivalByRounds_X2_checkNode
set_option maxRecDepth 20000 in
theorem ggX2_arrivalByRounds_X1_arrivalByContacts : GoodIn wsX2_arrivalByRounds wsX1_arrivalByContacts := goodIn_r _ [19, 20, 21, 22, 23, 24, 25, 26, 18, 27, 28, 29, 30, 31, 32, 33, 34, 35, 36, 37, 38, 39, 51, 52, 53, 54, 55, 56, 57] (by decide +kernel) (by decide +kernel)
set_option maxRecDepth 20000 in
theorem gX2_arrivalByRounds_X1_arrivalByContacts : GoodIn wsX2_arrivalByRounds (wsV RX2 182 RX1 yX1_arrivalByContacts wsX1_arrivalByContacts) := goodIn_app (goodIn_of _ (by decide +kernel)) ggX2_arrivalByRounds_X1_arrivalByContacts
set_option maxRecDepth 20000 in
theorem ggX2_arrivalByRounds_X2_secondOrNone : GoodIn wsX2_arrivalByRounds wsX2_secondOrNone := goodIn_r _ [42, 43] (by decide +kernel) (by decide +kernel)
set_option maxRecDepth 20000 in
theorem gX2_arrivalByRounds_X2_secondOrNone : GoodIn wsX2_arrivalByRounds (va_wsS RX2 179 yX2_secondOrNone wsX2_secondOrNone) := goodIn_app (goodIn_of _ (by decide +kernel)) ggX2_arrivalByRounds_X2_secondOrNone
theorem dX2_arrivalByRounds_0 : decode cX2_arrivalByRounds 0 = .ok (.iload_n 1, 1) := by decide +kernel
theorem dX2_arrivalByRounds_1 : decode cX2_arrivalByRounds 1 = .ok (.invokestatic 163, 3) := by decide +kernel
theorem dX2_arrivalByRounds_4 : decode cX2_arrivalByRounds 4 = .ok (.iload_n 2, 1) := by decide +kernel
theorem dX2_arrivalByRounds_5 : decode cX2_arrivalByRounds 5 = .ok (.invokestatic 163, 3) := by decide +kernel
theorem dX2_arrivalByRounds_8 : decode cX2_arrivalByRounds 8 = .ok (.aload_n 0, 1) := by decide +kernel
theorem dX2_arrivalByRounds_9 : decode cX2_arrivalByRounds 9 = .ok (.getfield 36, 3) := by decide +kernel
theorem dX2_arrivalByRounds_12 : decode cX2_arrivalByRounds 12 = .ok (.iload_n 1, 1) := by decide +kernel
theorem dX2_arrivalByRounds_13 : decode cX2_arrivalByRounds 13 = .ok (.iload_n 2, 1) := by decide +kernel
theorem dX2_arrivalByRounds_14 : decode cX2_arrivalByRounds 14 = .ok (.aload_n 0, 1) := by decide +kernel
theorem dX2_arrivalByRounds_15 : decode cX2_arrivalByRounds 15 = .ok (.getfield 7, 3) := by decide +kernel
theorem dX2_arrivalByRounds_18 : decode cX2_arrivalByRounds 18 = .ok (.invokevirtual 182, 3) := by decide +kernel
theorem dX2_arrivalByRounds_21 : decode cX2_arrivalByRounds 21 = .ok (.invokestatic 179, 3) := by decide +kernel
theorem dX2_arrivalByRounds_24 : decode cX2_arrivalByRounds 24 = .ok (.ireturn, 1) := by decide +kernel
set_option maxRecDepth 20000 in
theorem ggX2_promised_X2_numbered : GoodIn wsX2_promised wsX2_numbered := goodIn_ca (goodIn_r _ [14, 15, 16, 17, 18, 19, 20, 21, 22, 23, 24, 25, 26, 27, 28, 29, 30, 31, 32, 33, 34, 35, 36, 37, 38, 39, 40, 41, 83, 84, 85, 86, 87, 88, 89, 101, 102, 103] (by decide +kernel) (by decide +kernel)) (goodIn_sub (fun _ h => List.mem_cons_of_mem _ (List.mem_append_right _ h)) (by decide +kernel))
set_option maxRecDepth 20000 in
theorem gX2_promised_X2_numbered : GoodIn wsX2_promised (wsV RX2 153 RX2 yX2_numbered wsX2_numbered) := goodIn_app (goodIn_of _ (by decide +kernel)) ggX2_promised_X2_numbered
set_option maxRecDepth 20000 in
theorem ggX2_promised_X0_isAt : GoodIn wsX2_promised wsX0_isAt := goodIn_r _ [46, 47, 90, 91, 92, 93, 94, 95, 96, 97, 98, 99, 100] (by decide +kernel) (by decide +kernel)
set_option maxRecDepth 20000 in
theorem gX2_promised_X0_isAt : GoodIn wsX2_promised (wsV RX2 160 RX0 yX0_isAt wsX0_isAt) := goodIn_app (goodIn_of _ (by decide +kernel)) ggX2_promised_X0_isAt
set_option maxRecDepth 20000 in
theorem ggX2_promised_X1_arrivalByNodes : GoodIn wsX2_promised wsX1_arrivalByNodes := goodIn_r _ [52, 53, 54, 55, 56, 57, 51, 58, 59, 60, 61, 62, 63, 64, 65, 66, 67, 68, 69, 70, 71, 72, 73, 74, 75, 76, 77, 78, 7, 79, 104, 105, 106, 107, 108, 109, 110] (by decide +kernel) (by decide +kernel)
set_option maxRecDepth 20000 in
theorem gX2_promised_X1_arrivalByNodes : GoodIn wsX2_promised (wsV RX2 176 RX1 yX1_arrivalByNodes wsX1_arrivalByNodes) := goodIn_app (goodIn_of _ (by decide +kernel)) ggX2_promised_X1_arrivalByNodes
set_option maxRecDepth 20000 in
theorem ggX2_promised_X2_secondOrNone : GoodIn wsX2_promised wsX2_secondOrNone := goodIn_r _ [82, 1] (by decide +kernel) (by decide +kernel)
set_option maxRecDepth 20000 in
theorem gX2_promised_X2_secondOrNone : GoodIn wsX2_promised (va_wsS RX2 179 yX2_secondOrNone wsX2_secondOrNone) := goodIn_app (goodIn_of _ (by decide +kernel)) ggX2_promised_X2_secondOrNone
theorem dX2_promised_0 : decode cX2_promised 0 = .ok (.aload_n 0, 1) := by decide +kernel
theorem dX2_promised_1 : decode cX2_promised 1 = .ok (.iload_n 1, 1) := by decide +kernel
theorem dX2_promised_2 : decode cX2_promised 2 = .ok (.invokevirtual 153, 3) := by decide +kernel
theorem dX2_promised_5 : decode cX2_promised 5 = .ok (.astore_n 2, 1) := by decide +kernel
theorem dX2_promised_6 : decode cX2_promised 6 = .ok (.ldc 185, 2) := by decide +kernel
theorem dX2_promised_8 : decode cX2_promised 8 = .ok (.istore_n 3, 1) := by decide +kernel
theorem dX2_promised_9 : decode cX2_promised 9 = .ok (.iconst 0, 1) := by decide +kernel
theorem dX2_promised_10 : decode cX2_promised 10 = .ok (.istore 4, 2) := by decide +kernel
theorem dX2_promised_12 : decode cX2_promised 12 = .ok (.iload 4, 2) := by decide +kernel
theorem dX2_promised_14 : decode cX2_promised 14 = .ok (.bipush 8, 2) := by decide +kernel
theorem dX2_promised_16 : decode cX2_promised 16 = .ok (.if_icmp .ge 40, 3) := by decide +kernel
theorem dX2_promised_19 : decode cX2_promised 19 = .ok (.aload_n 2, 1) := by decide +kernel
theorem dX2_promised_20 : decode cX2_promised 20 = .ok (.iload 4, 2) := by decide +kernel
theorem dX2_promised_22 : decode cX2_promised 22 = .ok (.invokevirtual 160, 3) := by decide +kernel
theorem dX2_promised_25 : decode cX2_promised 25 = .ok (.ifCond .eq 25, 3) := by decide +kernel
theorem dX2_promised_28 : decode cX2_promised 28 = .ok (.iload_n 3, 1) := by decide +kernel
theorem dX2_promised_29 : decode cX2_promised 29 = .ok (.aload_n 0, 1) := by decide +kernel
theorem dX2_promised_30 : decode cX2_promised 30 = .ok (.getfield 36, 3) := by decide +kernel
theorem dX2_promised_33 : decode cX2_promised 33 = .ok (.iload 4, 2) := by decide +kernel
theorem dX2_promised_35 : decode cX2_promised 35 = .ok (.aload_n 2, 1) := by decide +kernel
theorem dX2_promised_36 : decode cX2_promised 36 = .ok (.getfield 186, 3) := by decide +kernel
theorem dX2_promised_39 : decode cX2_promised 39 = .ok (.aload_n 0, 1) := by decide +kernel
theorem dX2_promised_40 : decode cX2_promised 40 = .ok (.getfield 7, 3) := by decide +kernel
theorem dX2_promised_43 : decode cX2_promised 43 = .ok (.invokevirtual 176, 3) := by decide +kernel
theorem dX2_promised_46 : decode cX2_promised 46 = .ok (.invokestatic 189, 3) := by decide +kernel
theorem dX2_promised_49 : decode cX2_promised 49 = .ok (.istore_n 3, 1) := by decide +kernel
theorem dX2_promised_50 : decode cX2_promised 50 = .ok (.iinc 4 1, 3) := by decide +kernel
theorem dX2_promised_53 : decode cX2_promised 53 = .ok (.goto (-41), 3) := by decide +kernel
theorem dX2_promised_56 : decode cX2_promised 56 = .ok (.iload_n 3, 1) := by decide +kernel
theorem dX2_promised_57 : decode cX2_promised 57 = .ok (.aload_n 2, 1) := by decide +kernel
theorem dX2_promised_58 : decode cX2_promised 58 = .ok (.getfield 126, 3) := by decide +kernel
theorem dX2_promised_61 : decode cX2_promised 61 = .ok (.if_icmp .ge 10, 3) := by decide +kernel
theorem dX2_promised_64 : decode cX2_promised 64 = .ok (.iload_n 3, 1) := by decide +kernel
theorem dX2_promised_65 : decode cX2_promised 65 = .ok (.invokestatic 179, 3) := by decide +kernel
theorem dX2_promised_68 : decode cX2_promised 68 = .ok (.goto 4, 3) := by decide +kernel
theorem dX2_promised_71 : decode cX2_promised 71 = .ok (.iconst (-1), 1) := by decide +kernel
theorem dX2_promised_72 : decode cX2_promised 72 = .ok (.ireturn, 1) := by decide +kernel
theorem dX2_isWithin_0 : decode cX2_isWithin 0 = .ok (.iload_n 1, 1) := by decide +kernel
theorem dX2_isWithin_1 : decode cX2_isWithin 1 = .ok (.iload_n 0, 1) := by decide +kernel
theorem dX2_isWithin_2 : decode cX2_isWithin 2 = .ok (.if_icmp .gt 12, 3) := by decide +kernel
theorem dX2_isWithin_5 : decode cX2_isWithin 5 = .ok (.iload_n 0, 1) := by decide +kernel
theorem dX2_isWithin_6 : decode cX2_isWithin 6 = .ok (.iload_n 2, 1) := by decide +kernel
theorem dX2_isWithin_7 : decode cX2_isWithin 7 = .ok (.if_icmp .gt 7, 3) := by decide +kernel
theorem dX2_isWithin_10 : decode cX2_isWithin 10 = .ok (.iconst 1, 1) := by decide +kernel
theorem dX2_isWithin_11 : decode cX2_isWithin 11 = .ok (.goto 4, 3) := by decide +kernel
theorem dX2_isWithin_14 : decode cX2_isWithin 14 = .ok (.iconst 0, 1) := by decide +kernel
theorem dX2_isWithin_15 : decode cX2_isWithin 15 = .ok (.ireturn, 1) := by decide +kernel
set_option maxRecDepth 20000 in
theorem ggX2_isNode_X2_isWithin : GoodIn wsX2_isNode wsX2_isWithin := goodIn_r _ [4] (by decide +kernel) (by decide +kernel)
set_option maxRecDepth 20000 in
theorem gX2_isNode_X2_isWithin : GoodIn wsX2_isNode (va_wsS RX2 51 yX2_isWithin wsX2_isWithin) := goodIn_app (goodIn_of _ (by decide +kernel)) ggX2_isNode_X2_isWithin
theorem dX2_isNode_0 : decode cX2_isNode 0 = .ok (.iload_n 0, 1) := by decide +kernel
theorem dX2_isNode_1 : decode cX2_isNode 1 = .ok (.iconst 0, 1) := by decide +kernel
theorem dX2_isNode_2 : decode cX2_isNode 2 = .ok (.bipush 7, 2) := by decide +kernel
theorem dX2_isNode_4 : decode cX2_isNode 4 = .ok (.invokestatic 51, 3) := by decide +kernel
theorem dX2_isNode_7 : decode cX2_isNode 7 = .ok (.ireturn, 1) := by decide +kernel
set_option maxRecDepth 20000 in
theorem ggX2_checkNode_X2_isNode : GoodIn wsX2_checkNode wsX2_isNode := goodIn_r _ [6, 7, 8, 5, 9] (by decide +kernel) (by decide +kernel)
set_option maxRecDepth 20000 in
theorem gX2_checkNode_X2_isNode : GoodIn wsX2_checkNode (va_wsS RX2 40 yX2_isNode wsX2_isNode) := goodIn_app (goodIn_of _ (by decide +kernel)) ggX2_checkNode_X2_isNode
theorem dX2_checkNode_0 : decode cX2_checkNode 0 = .ok (.iload_n 0, 1) := by decide +kernel
theorem dX2_checkNode_1 : decode cX2_checkNode 1 = .ok (.invokestatic 40, 3) := by decide +kernel
theorem dX2_checkNode_4 : decode cX2_checkNode 4 = .ok (.ifCond .ne 13, 3) := by decide +kernel
theorem dX2_checkNode_7 : decode cX2_checkNode 7 = .ok (.new 44, 3) := by decide +kernel
theorem dX2_checkNode_10 : decode cX2_checkNode 10 = .ok (.dup, 1) := by decide +kernel
theorem dX2_checkNode_11 : decode cX2_checkNode 11 = .ok (.ldc 46, 2) := by decide +kernel
theorem dX2_checkNode_13 : decode cX2_checkNode 13 = .ok (.invokespecial 48, 3) := by decide +kernel
theorem dX2_checkNode_16 : decode cX2_checkNode 16 = .ok (.athrow, 1) := by decide +kernel
theorem dX2_checkNode_17 : decode cX2_checkNode 17 = .ok (.return_, 1) := by decide +kernel
set_option maxRecDepth 20000 in
theorem ggX2_numbered_Jx4a65c_size_8abf5 : GoodIn wsX2_numbered wsJx4a65c_size_8abf5 := goodIn_r _ [9, 10, 35, 36, 37] (by decide +kernel) (by decide +kernel)
set_option maxRecDepth 20000 in
theorem gX2_numbered_Jx4a65c_size_8abf5 : GoodIn wsX2_numbered (wsV RX2 60 RJx4a65c yJx4a65c_size_8abf5 wsJx4a65c_size_8abf5) := goodIn_app (goodIn_of _ (by decide +kernel)) ggX2_numbered_Jx4a65c_size_8abf5
set_option maxRecDepth 20000 in
theorem ggX2_numbered_Jx4a65c_get_915e3 : GoodIn wsX2_numbered wsJx4a65c_get_915e3 := goodIn_r _ [14, 10, 15, 16, 17, 18, 19, 20, 21, 22, 23, 24, 25, 8, 26, 27, 35, 36, 37] (by decide +kernel) (by decide +kernel)
set_option maxRecDepth 20000 in
theorem gX2_numbered_Jx4a65c_get_915e3 : GoodIn wsX2_numbered (wsV RX2 122 RJx4a65c yJx4a65c_get_915e3 wsJx4a65c_get_915e3) := goodIn_app (goodIn_of _ (by decide +kernel)) ggX2_numbered_Jx4a65c_get_915e3
theorem dX2_numbered_0 : decode cX2_numbered 0 = .ok (.iload_n 1, 1) := by decide +kernel
theorem dX2_numbered_1 : decode cX2_numbered 1 = .ok (.ifCond .lt 14, 3) := by decide +kernel
theorem dX2_numbered_4 : decode cX2_numbered 4 = .ok (.iload_n 1, 1) := by decide +kernel
theorem dX2_numbered_5 : decode cX2_numbered 5 = .ok (.aload_n 0, 1) := by decide +kernel
theorem dX2_numbered_6 : decode cX2_numbered 6 = .ok (.getfield 26, 3) := by decide +kernel
theorem dX2_numbered_9 : decode cX2_numbered 9 = .ok (.invokevirtual 60, 3) := by decide +kernel
theorem dX2_numbered_12 : decode cX2_numbered 12 = .ok (.if_icmp .lt 13, 3) := by decide +kernel
theorem dX2_numbered_15 : decode cX2_numbered 15 = .ok (.new 44, 3) := by decide +kernel
theorem dX2_numbered_18 : decode cX2_numbered 18 = .ok (.dup, 1) := by decide +kernel
theorem dX2_numbered_19 : decode cX2_numbered 19 = .ok (.ldc 195, 2) := by decide +kernel
theorem dX2_numbered_21 : decode cX2_numbered 21 = .ok (.invokespecial 48, 3) := by decide +kernel
theorem dX2_numbered_24 : decode cX2_numbered 24 = .ok (.athrow, 1) := by decide +kernel
theorem dX2_numbered_25 : decode cX2_numbered 25 = .ok (.aload_n 0, 1) := by decide +kernel
theorem dX2_numbered_26 : decode cX2_numbered 26 = .ok (.getfield 26, 3) := by decide +kernel
theorem dX2_numbered_29 : decode cX2_numbered 29 = .ok (.iload_n 1, 1) := by decide +kernel
theorem dX2_numbered_30 : decode cX2_numbered 30 = .ok (.invokevirtual 122, 3) := by decide +kernel
theorem dX2_numbered_33 : decode cX2_numbered 33 = .ok (.checkcast 75, 3) := by decide +kernel
theorem dX2_numbered_36 : decode cX2_numbered 36 = .ok (.areturn, 1) := by decide +kernel
theorem dX2_secondOrNone_0 : decode cX2_secondOrNone 0 = .ok (.iload_n 0, 1) := by decide +kernel
theorem dX2_secondOrNone_1 : decode cX2_secondOrNone 1 = .ok (.ldc 185, 2) := by decide +kernel
theorem dX2_secondOrNone_3 : decode cX2_secondOrNone 3 = .ok (.if_icmp .ne 7, 3) := by decide +kernel
theorem dX2_secondOrNone_6 : decode cX2_secondOrNone 6 = .ok (.iconst (-1), 1) := by decide +kernel
theorem dX2_secondOrNone_7 : decode cX2_secondOrNone 7 = .ok (.goto 4, 3) := by decide +kernel
theorem dX2_secondOrNone_10 : decode cX2_secondOrNone 10 = .ok (.iload_n 0, 1) := by decide +kernel
theorem dX2_secondOrNone_11 : decode cX2_secondOrNone 11 = .ok (.ireturn, 1) := by decide +kernel
set_option maxRecDepth 20000 in
theorem ggX2_placeInOrder_Jx4a65c_size_8abf5 : GoodIn wsX2_placeInOrder wsJx4a65c_size_8abf5 := goodIn_r _ [7, 8, 41, 42, 43] (by decide +kernel) (by decide +kernel)
set_option maxRecDepth 20000 in
theorem gX2_placeInOrder_Jx4a65c_size_8abf5 : GoodIn wsX2_placeInOrder (wsV RX2 60 RJx4a65c yJx4a65c_size_8abf5 wsJx4a65c_size_8abf5) := goodIn_app (goodIn_of _ (by decide +kernel)) ggX2_placeInOrder_Jx4a65c_size_8abf5
set_option maxRecDepth 20000 in
theorem ggX2_placeInOrder_Jx4a65c_get_915e3 : GoodIn wsX2_placeInOrder wsJx4a65c_get_915e3 := goodIn_r _ [12, 8, 13, 14, 15, 16, 17, 18, 19, 20, 21, 22, 23, 6, 24, 25, 41, 42, 43] (by decide +kernel) (by decide +kernel)
set_option maxRecDepth 20000 in
theorem gX2_placeInOrder_Jx4a65c_get_915e3 : GoodIn wsX2_placeInOrder (wsV RX2 122 RJx4a65c yJx4a65c_get_915e3 wsJx4a65c_get_915e3) := goodIn_app (goodIn_of _ (by decide +kernel)) ggX2_placeInOrder_Jx4a65c_get_915e3
set_option maxRecDepth 20000 in
theorem ggX2_placeInOrder_X0_isBefore : GoodIn wsX2_placeInOrder wsX0_isBefore := goodIn_r _ [30, 31, 32, 33, 44, 45, 46, 47, 48, 49, 50, 51, 52, 53, 54] (by decide +kernel) (by decide +kernel)
set_option maxRecDepth 20000 in
theorem gX2_placeInOrder_X0_isBefore : GoodIn wsX2_placeInOrder (wsV RX2 197 RX0 yX0_isBefore wsX0_isBefore) := goodIn_app (goodIn_of _ (by decide +kernel)) ggX2_placeInOrder_X0_isBefore
theorem dX2_placeInOrder_0 : decode cX2_placeInOrder 0 = .ok (.iconst 0, 1) := by decide +kernel
theorem dX2_placeInOrder_1 : decode cX2_placeInOrder 1 = .ok (.istore_n 2, 1) := by decide +kernel
theorem dX2_placeInOrder_2 : decode cX2_placeInOrder 2 = .ok (.iload_n 2, 1) := by decide +kernel
theorem dX2_placeInOrder_3 : decode cX2_placeInOrder 3 = .ok (.aload_n 0, 1) := by decide +kernel
theorem dX2_placeInOrder_4 : decode cX2_placeInOrder 4 = .ok (.getfield 30, 3) := by decide +kernel
theorem dX2_placeInOrder_7 : decode cX2_placeInOrder 7 = .ok (.invokevirtual 60, 3) := by decide +kernel
theorem dX2_placeInOrder_10 : decode cX2_placeInOrder 10 = .ok (.if_icmp .ge 27, 3) := by decide +kernel
theorem dX2_placeInOrder_13 : decode cX2_placeInOrder 13 = .ok (.aload_n 1, 1) := by decide +kernel
theorem dX2_placeInOrder_14 : decode cX2_placeInOrder 14 = .ok (.aload_n 0, 1) := by decide +kernel
theorem dX2_placeInOrder_15 : decode cX2_placeInOrder 15 = .ok (.getfield 30, 3) := by decide +kernel
theorem dX2_placeInOrder_18 : decode cX2_placeInOrder 18 = .ok (.iload_n 2, 1) := by decide +kernel
theorem dX2_placeInOrder_19 : decode cX2_placeInOrder 19 = .ok (.invokevirtual 122, 3) := by decide +kernel
theorem dX2_placeInOrder_22 : decode cX2_placeInOrder 22 = .ok (.checkcast 75, 3) := by decide +kernel
theorem dX2_placeInOrder_25 : decode cX2_placeInOrder 25 = .ok (.invokevirtual 197, 3) := by decide +kernel
theorem dX2_placeInOrder_28 : decode cX2_placeInOrder 28 = .ok (.ifCond .ne 9, 3) := by decide +kernel
theorem dX2_placeInOrder_31 : decode cX2_placeInOrder 31 = .ok (.iinc 2 1, 3) := by decide +kernel
theorem dX2_placeInOrder_34 : decode cX2_placeInOrder 34 = .ok (.goto (-32), 3) := by decide +kernel
theorem dX2_placeInOrder_37 : decode cX2_placeInOrder 37 = .ok (.iload_n 2, 1) := by decide +kernel
theorem dX2_placeInOrder_38 : decode cX2_placeInOrder 38 = .ok (.ireturn, 1) := by decide +kernel
set_option maxRecDepth 20000 in
theorem ggX2_countAt_Jx4a65c_size_8abf5 : GoodIn wsX2_countAt wsJx4a65c_size_8abf5 := goodIn_r _ [7, 8, 39, 40, 41] (by decide +kernel) (by decide +kernel)
set_option maxRecDepth 20000 in
theorem gX2_countAt_Jx4a65c_size_8abf5 : GoodIn wsX2_countAt (wsV RX2 60 RJx4a65c yJx4a65c_size_8abf5 wsJx4a65c_size_8abf5) := goodIn_app (goodIn_of _ (by decide +kernel)) ggX2_countAt_Jx4a65c_size_8abf5
set_option maxRecDepth 20000 in
theorem ggX2_countAt_Jx4a65c_get_915e3 : GoodIn wsX2_countAt wsJx4a65c_get_915e3 := goodIn_r _ [12, 8, 13, 14, 15, 16, 17, 18, 19, 20, 21, 22, 23, 6, 24, 25, 39, 40, 41] (by decide +kernel) (by decide +kernel)
set_option maxRecDepth 20000 in
theorem gX2_countAt_Jx4a65c_get_915e3 : GoodIn wsX2_countAt (wsV RX2 122 RJx4a65c yJx4a65c_get_915e3 wsJx4a65c_get_915e3) := goodIn_app (goodIn_of _ (by decide +kernel)) ggX2_countAt_Jx4a65c_get_915e3
set_option maxRecDepth 20000 in
theorem ggX2_countAt_X0_isAt : GoodIn wsX2_countAt wsX0_isAt := goodIn_r _ [30, 31, 42, 43, 44, 45, 46, 47, 48, 49, 50, 51, 52] (by decide +kernel) (by decide +kernel)
set_option maxRecDepth 20000 in
theorem gX2_countAt_X0_isAt : GoodIn wsX2_countAt (wsV RX2 160 RX0 yX0_isAt wsX0_isAt) := goodIn_app (goodIn_of _ (by decide +kernel)) ggX2_countAt_X0_isAt
theorem dX2_countAt_0 : decode cX2_countAt 0 = .ok (.iconst 0, 1) := by decide +kernel
theorem dX2_countAt_1 : decode cX2_countAt 1 = .ok (.istore_n 2, 1) := by decide +kernel
theorem dX2_countAt_2 : decode cX2_countAt 2 = .ok (.iconst 0, 1) := by decide +kernel
theorem dX2_countAt_3 : decode cX2_countAt 3 = .ok (.istore_n 3, 1) := by decide +kernel
theorem dX2_countAt_4 : decode cX2_countAt 4 = .ok (.iload_n 3, 1) := by decide +kernel
theorem dX2_countAt_5 : decode cX2_countAt 5 = .ok (.aload_n 0, 1) := by decide +kernel
theorem dX2_countAt_6 : decode cX2_countAt 6 = .ok (.getfield 26, 3) := by decide +kernel
theorem dX2_countAt_9 : decode cX2_countAt 9 = .ok (.invokevirtual 60, 3) := by decide +kernel
theorem dX2_countAt_12 : decode cX2_countAt 12 = .ok (.if_icmp .ge 30, 3) := by decide +kernel
theorem dX2_countAt_15 : decode cX2_countAt 15 = .ok (.aload_n 0, 1) := by decide +kernel
theorem dX2_countAt_16 : decode cX2_countAt 16 = .ok (.getfield 26, 3) := by decide +kernel
theorem dX2_countAt_19 : decode cX2_countAt 19 = .ok (.iload_n 3, 1) := by decide +kernel
theorem dX2_countAt_20 : decode cX2_countAt 20 = .ok (.invokevirtual 122, 3) := by decide +kernel
theorem dX2_countAt_23 : decode cX2_countAt 23 = .ok (.checkcast 75, 3) := by decide +kernel
theorem dX2_countAt_26 : decode cX2_countAt 26 = .ok (.iload_n 1, 1) := by decide +kernel
theorem dX2_countAt_27 : decode cX2_countAt 27 = .ok (.invokevirtual 160, 3) := by decide +kernel
theorem dX2_countAt_30 : decode cX2_countAt 30 = .ok (.ifCond .eq 6, 3) := by decide +kernel
theorem dX2_countAt_33 : decode cX2_countAt 33 = .ok (.iinc 2 1, 3) := by decide +kernel
theorem dX2_countAt_36 : decode cX2_countAt 36 = .ok (.iinc 3 1, 3) := by decide +kernel
theorem dX2_countAt_39 : decode cX2_countAt 39 = .ok (.goto (-35), 3) := by decide +kernel
theorem dX2_countAt_42 : decode cX2_countAt 42 = .ok (.iload_n 2, 1) := by decide +kernel
theorem dX2_countAt_43 : decode cX2_countAt 43 = .ok (.ireturn, 1) := by decide +kernel
set_option maxRecDepth 20000 in
theorem ggX2_makeRoom_X2_countAt : GoodIn wsX2_makeRoom wsX2_countAt := goodIn_r _ [8, 9, 10, 11, 12, 13, 14, 15, 16, 17, 18, 19, 20, 21, 22, 23, 24, 25, 26, 27, 28, 29, 30, 31, 32, 33, 34, 35, 36, 37, 38, 39, 55, 56, 57, 58, 59, 60, 61, 73, 74, 75, 62, 63, 64, 65, 66, 67, 68, 69, 70, 71, 72] (by decide +kernel) (by decide +kernel)
set_option maxRecDepth 20000 in
theorem gX2_makeRoom_X2_countAt : GoodIn wsX2_makeRoom (wsV RX2 137 RX2 yX2_countAt wsX2_countAt) := goodIn_app (goodIn_of _ (by decide +kernel)) ggX2_makeRoom_X2_countAt
set_option maxRecDepth 20000 in
theorem ggX2_makeRoom_X2_lastWithoutCustody : GoodIn wsX2_makeRoom wsX2_lastWithoutCustody := goodIn_r _ [43, 44, 10, 45, 11, 12, 13, 14, 15, 16, 17, 18, 19, 20, 21, 22, 23, 24, 25, 26, 27, 28, 29, 30, 31, 32, 33, 34, 35, 36, 37, 38, 39, 55, 56, 57, 58, 59, 60, 61, 62, 63, 64, 65, 66, 67, 68, 69, 70, 71, 72, 73, 74, 75] (by decide +kernel) (by decide +kernel)
set_option maxRecDepth 20000 in
theorem gX2_makeRoom_X2_lastWithoutCustody : GoodIn wsX2_makeRoom (wsV RX2 201 RX2 yX2_lastWithoutCustody wsX2_lastWithoutCustody) := goodIn_app (goodIn_of _ (by decide +kernel)) ggX2_makeRoom_X2_lastWithoutCustody
set_option maxRecDepth 20000 in
theorem ggX2_makeRoom_X0_leave : GoodIn wsX2_makeRoom wsX0_leave := goodIn_r _ [49, 50, 51, 52, 37, 53, 39, 54, 62, 63, 64, 65, 66, 67, 68, 69, 70, 71, 72] (by decide +kernel) (by decide +kernel)
set_option maxRecDepth 20000 in
theorem gX2_makeRoom_X0_leave : GoodIn wsX2_makeRoom (wsV RX2 207 RX0 yX0_leave wsX0_leave) := goodIn_app (goodIn_of _ (by decide +kernel)) ggX2_makeRoom_X0_leave
theorem dX2_makeRoom_0 : decode cX2_makeRoom 0 = .ok (.aload_n 0, 1) := by decide +kernel
theorem dX2_makeRoom_1 : decode cX2_makeRoom 1 = .ok (.iload_n 1, 1) := by decide +kernel
theorem dX2_makeRoom_2 : decode cX2_makeRoom 2 = .ok (.invokevirtual 137, 3) := by decide +kernel
theorem dX2_makeRoom_5 : decode cX2_makeRoom 5 = .ok (.aload_n 0, 1) := by decide +kernel
theorem dX2_makeRoom_6 : decode cX2_makeRoom 6 = .ok (.getfield 13, 3) := by decide +kernel
theorem dX2_makeRoom_9 : decode cX2_makeRoom 9 = .ok (.iload_n 1, 1) := by decide +kernel
theorem dX2_makeRoom_10 : decode cX2_makeRoom 10 = .ok (.iaload, 1) := by decide +kernel
theorem dX2_makeRoom_11 : decode cX2_makeRoom 11 = .ok (.if_icmp .ge 5, 3) := by decide +kernel
theorem dX2_makeRoom_14 : decode cX2_makeRoom 14 = .ok (.iconst 1, 1) := by decide +kernel
theorem dX2_makeRoom_15 : decode cX2_makeRoom 15 = .ok (.ireturn, 1) := by decide +kernel
theorem dX2_makeRoom_16 : decode cX2_makeRoom 16 = .ok (.aload_n 0, 1) := by decide +kernel
theorem dX2_makeRoom_17 : decode cX2_makeRoom 17 = .ok (.iload_n 1, 1) := by decide +kernel
theorem dX2_makeRoom_18 : decode cX2_makeRoom 18 = .ok (.invokevirtual 201, 3) := by decide +kernel
theorem dX2_makeRoom_21 : decode cX2_makeRoom 21 = .ok (.astore_n 3, 1) := by decide +kernel
theorem dX2_makeRoom_22 : decode cX2_makeRoom 22 = .ok (.aload_n 3, 1) := by decide +kernel
theorem dX2_makeRoom_23 : decode cX2_makeRoom 23 = .ok (.ifnull 11, 3) := by decide +kernel
theorem dX2_makeRoom_26 : decode cX2_makeRoom 26 = .ok (.aload_n 3, 1) := by decide +kernel
theorem dX2_makeRoom_27 : decode cX2_makeRoom 27 = .ok (.getfield 204, 3) := by decide +kernel
theorem dX2_makeRoom_30 : decode cX2_makeRoom 30 = .ok (.iload_n 2, 1) := by decide +kernel
theorem dX2_makeRoom_31 : decode cX2_makeRoom 31 = .ok (.if_icmp .lt 5, 3) := by decide +kernel
theorem dX2_makeRoom_34 : decode cX2_makeRoom 34 = .ok (.iconst 0, 1) := by decide +kernel
theorem dX2_makeRoom_35 : decode cX2_makeRoom 35 = .ok (.ireturn, 1) := by decide +kernel
theorem dX2_makeRoom_36 : decode cX2_makeRoom 36 = .ok (.aload_n 3, 1) := by decide +kernel
theorem dX2_makeRoom_37 : decode cX2_makeRoom 37 = .ok (.iload_n 1, 1) := by decide +kernel
theorem dX2_makeRoom_38 : decode cX2_makeRoom 38 = .ok (.invokevirtual 207, 3) := by decide +kernel
theorem dX2_makeRoom_41 : decode cX2_makeRoom 41 = .ok (.aload_n 0, 1) := by decide +kernel
theorem dX2_makeRoom_42 : decode cX2_makeRoom 42 = .ok (.getfield 17, 3) := by decide +kernel
theorem dX2_makeRoom_45 : decode cX2_makeRoom 45 = .ok (.iload_n 1, 1) := by decide +kernel
theorem dX2_makeRoom_46 : decode cX2_makeRoom 46 = .ok (.dup2, 1) := by decide +kernel
theorem dX2_makeRoom_47 : decode cX2_makeRoom 47 = .ok (.iaload, 1) := by decide +kernel
theorem dX2_makeRoom_48 : decode cX2_makeRoom 48 = .ok (.iconst 1, 1) := by decide +kernel
theorem dX2_makeRoom_49 : decode cX2_makeRoom 49 = .ok (.iadd, 1) := by decide +kernel
theorem dX2_makeRoom_50 : decode cX2_makeRoom 50 = .ok (.iastore, 1) := by decide +kernel
theorem dX2_makeRoom_51 : decode cX2_makeRoom 51 = .ok (.iconst 1, 1) := by decide +kernel
theorem dX2_makeRoom_52 : decode cX2_makeRoom 52 = .ok (.ireturn, 1) := by decide +kernel
set_option maxRecDepth 20000 in
theorem ggX2_lastWithoutCustody_Jx4a65c_size_8abf5 : GoodIn wsX2_lastWithoutCustody wsJx4a65c_size_8abf5 := goodIn_r _ [8, 9, 51, 52, 53] (by decide +kernel) (by decide +kernel)
set_option maxRecDepth 20000 in
theorem gX2_lastWithoutCustody_Jx4a65c_size_8abf5 : GoodIn wsX2_lastWithoutCustody (wsV RX2 60 RJx4a65c yJx4a65c_size_8abf5 wsJx4a65c_size_8abf5) := goodIn_app (goodIn_of _ (by decide +kernel)) ggX2_lastWithoutCustody_Jx4a65c_size_8abf5
set_option maxRecDepth 20000 in
theorem ggX2_lastWithoutCustody_Jx4a65c_get_915e3 : GoodIn wsX2_lastWithoutCustody wsJx4a65c_get_915e3 := goodIn_r _ [13, 9, 14, 15, 16, 17, 18, 19, 20, 21, 22, 23, 24, 7, 25, 26, 51, 52, 53] (by decide +kernel) (by decide +kernel)
set_option maxRecDepth 20000 in
theorem gX2_lastWithoutCustody_Jx4a65c_get_915e3 : GoodIn wsX2_lastWithoutCustody (wsV RX2 122 RJx4a65c yJx4a65c_get_915e3 wsJx4a65c_get_915e3) := goodIn_app (goodIn_of _ (by decide +kernel)) ggX2_lastWithoutCustody_Jx4a65c_get_915e3
set_option maxRecDepth 20000 in
theorem ggX2_lastWithoutCustody_X0_isAt : GoodIn wsX2_lastWithoutCustody wsX0_isAt := goodIn_r _ [31, 32, 40, 41, 42, 43, 44, 45, 46, 47, 48, 49, 50] (by decide +kernel) (by decide +kernel)
set_option maxRecDepth 20000 in
theorem gX2_lastWithoutCustody_X0_isAt : GoodIn wsX2_lastWithoutCustody (wsV RX2 160 RX0 yX0_isAt wsX0_isAt) := goodIn_app (goodIn_of _ (by decide +kernel)) ggX2_lastWithoutCustody_X0_isAt
theorem dX2_lastWithoutCustody_0 : decode cX2_lastWithoutCustody 0 = .ok (.aconst_null, 1) := by decide +kernel
theorem dX2_lastWithoutCustody_1 : decode cX2_lastWithoutCustody 1 = .ok (.astore_n 2, 1) := by decide +kernel
theorem dX2_lastWithoutCustody_2 : decode cX2_lastWithoutCustody 2 = .ok (.iconst 0, 1) := by decide +kernel
theorem dX2_lastWithoutCustody_3 : decode cX2_lastWithoutCustody 3 = .ok (.istore_n 3, 1) := by decide +kernel
theorem dX2_lastWithoutCustody_4 : decode cX2_lastWithoutCustody 4 = .ok (.iload_n 3, 1) := by decide +kernel
theorem dX2_lastWithoutCustody_5 : decode cX2_lastWithoutCustody 5 = .ok (.aload_n 0, 1) := by decide +kernel
theorem dX2_lastWithoutCustody_6 : decode cX2_lastWithoutCustody 6 = .ok (.getfield 30, 3) := by decide +kernel
theorem dX2_lastWithoutCustody_9 : decode cX2_lastWithoutCustody 9 = .ok (.invokevirtual 60, 3) := by decide +kernel
theorem dX2_lastWithoutCustody_12 : decode cX2_lastWithoutCustody 12 = .ok (.if_icmp .ge 43, 3) := by decide +kernel
theorem dX2_lastWithoutCustody_15 : decode cX2_lastWithoutCustody 15 = .ok (.aload_n 0, 1) := by decide +kernel
theorem dX2_lastWithoutCustody_16 : decode cX2_lastWithoutCustody 16 = .ok (.getfield 30, 3) := by decide +kernel
theorem dX2_lastWithoutCustody_19 : decode cX2_lastWithoutCustody 19 = .ok (.iload_n 3, 1) := by decide +kernel
theorem dX2_lastWithoutCustody_20 : decode cX2_lastWithoutCustody 20 = .ok (.invokevirtual 122, 3) := by decide +kernel
theorem dX2_lastWithoutCustody_23 : decode cX2_lastWithoutCustody 23 = .ok (.checkcast 75, 3) := by decide +kernel
theorem dX2_lastWithoutCustody_26 : decode cX2_lastWithoutCustody 26 = .ok (.astore 4, 2) := by decide +kernel
theorem dX2_lastWithoutCustody_28 : decode cX2_lastWithoutCustody 28 = .ok (.aload 4, 2) := by decide +kernel
theorem dX2_lastWithoutCustody_30 : decode cX2_lastWithoutCustody 30 = .ok (.iload_n 1, 1) := by decide +kernel
theorem dX2_lastWithoutCustody_31 : decode cX2_lastWithoutCustody 31 = .ok (.invokevirtual 160, 3) := by decide +kernel
theorem dX2_lastWithoutCustody_34 : decode cX2_lastWithoutCustody 34 = .ok (.ifCond .eq 15, 3) := by decide +kernel
theorem dX2_lastWithoutCustody_37 : decode cX2_lastWithoutCustody 37 = .ok (.aload 4, 2) := by decide +kernel
theorem dX2_lastWithoutCustody_39 : decode cX2_lastWithoutCustody 39 = .ok (.getfield 80, 3) := by decide +kernel
theorem dX2_lastWithoutCustody_42 : decode cX2_lastWithoutCustody 42 = .ok (.iload_n 1, 1) := by decide +kernel
theorem dX2_lastWithoutCustody_43 : decode cX2_lastWithoutCustody 43 = .ok (.if_icmp .eq 6, 3) := by decide +kernel
theorem dX2_lastWithoutCustody_46 : decode cX2_lastWithoutCustody 46 = .ok (.aload 4, 2) := by decide +kernel
theorem dX2_lastWithoutCustody_48 : decode cX2_lastWithoutCustody 48 = .ok (.astore_n 2, 1) := by decide +kernel
theorem dX2_lastWithoutCustody_49 : decode cX2_lastWithoutCustody 49 = .ok (.iinc 3 1, 3) := by decide +kernel
theorem dX2_lastWithoutCustody_52 : decode cX2_lastWithoutCustody 52 = .ok (.goto (-48), 3) := by decide +kernel
theorem dX2_lastWithoutCustody_55 : decode cX2_lastWithoutCustody 55 = .ok (.aload_n 2, 1) := by decide +kernel
theorem dX2_lastWithoutCustody_56 : decode cX2_lastWithoutCustody 56 = .ok (.areturn, 1) := by decide +kernel
set_option maxRecDepth 20000 in
theorem ggX2_exchangeReceipts_Jx4a65c_size_8abf5 : GoodIn wsX2_exchangeReceipts wsJx4a65c_size_8abf5 := goodIn_r _ [8, 9, 62, 63, 64] (by decide +kernel) (by decide +kernel)
set_option maxRecDepth 20000 in
theorem gX2_exchangeReceipts_Jx4a65c_size_8abf5 : GoodIn wsX2_exchangeReceipts (wsV RX2 60 RJx4a65c yJx4a65c_size_8abf5 wsJx4a65c_size_8abf5) := goodIn_app (goodIn_of _ (by decide +kernel)) ggX2_exchangeReceipts_Jx4a65c_size_8abf5
set_option maxRecDepth 20000 in
theorem ggX2_exchangeReceipts_Jx4a65c_get_915e3 : GoodIn wsX2_exchangeReceipts wsJx4a65c_get_915e3 := goodIn_r _ [13, 9, 14, 15, 16, 17, 18, 19, 20, 21, 22, 23, 24, 7, 25, 26, 62, 63, 64] (by decide +kernel) (by decide +kernel)
set_option maxRecDepth 20000 in
theorem gX2_exchangeReceipts_Jx4a65c_get_915e3 : GoodIn wsX2_exchangeReceipts (wsV RX2 122 RJx4a65c yJx4a65c_get_915e3 wsJx4a65c_get_915e3) := goodIn_app (goodIn_of _ (by decide +kernel)) ggX2_exchangeReceipts_Jx4a65c_get_915e3
set_option maxRecDepth 20000 in
theorem ggX2_exchangeReceipts_X0_learn : GoodIn wsX2_exchangeReceipts wsX0_learn := goodIn_r _ [31, 32, 33, 34, 35, 36, 30, 37, 38, 39, 40, 41, 42, 43, 51, 52, 53, 54, 55, 56, 57, 58, 59, 60, 61] (by decide +kernel) (by decide +kernel)
set_option maxRecDepth 20000 in
theorem gX2_exchangeReceipts_X0_learn : GoodIn wsX2_exchangeReceipts (wsV RX2 210 RX0 yX0_learn wsX0_learn) := goodIn_app (goodIn_of _ (by decide +kernel)) ggX2_exchangeReceipts_X0_learn
theorem dX2_exchangeReceipts_0 : decode cX2_exchangeReceipts 0 = .ok (.iconst 0, 1) := by decide +kernel
theorem dX2_exchangeReceipts_1 : decode cX2_exchangeReceipts 1 = .ok (.istore_n 3, 1) := by decide +kernel
theorem dX2_exchangeReceipts_2 : decode cX2_exchangeReceipts 2 = .ok (.iload_n 3, 1) := by decide +kernel
theorem dX2_exchangeReceipts_3 : decode cX2_exchangeReceipts 3 = .ok (.aload_n 0, 1) := by decide +kernel
theorem dX2_exchangeReceipts_4 : decode cX2_exchangeReceipts 4 = .ok (.getfield 26, 3) := by decide +kernel
theorem dX2_exchangeReceipts_7 : decode cX2_exchangeReceipts 7 = .ok (.invokevirtual 60, 3) := by decide +kernel
theorem dX2_exchangeReceipts_10 : decode cX2_exchangeReceipts 10 = .ok (.if_icmp .ge 54, 3) := by decide +kernel
theorem dX2_exchangeReceipts_13 : decode cX2_exchangeReceipts 13 = .ok (.aload_n 0, 1) := by decide +kernel
theorem dX2_exchangeReceipts_14 : decode cX2_exchangeReceipts 14 = .ok (.getfield 26, 3) := by decide +kernel
theorem dX2_exchangeReceipts_17 : decode cX2_exchangeReceipts 17 = .ok (.iload_n 3, 1) := by decide +kernel
theorem dX2_exchangeReceipts_18 : decode cX2_exchangeReceipts 18 = .ok (.invokevirtual 122, 3) := by decide +kernel
theorem dX2_exchangeReceipts_21 : decode cX2_exchangeReceipts 21 = .ok (.checkcast 75, 3) := by decide +kernel
theorem dX2_exchangeReceipts_24 : decode cX2_exchangeReceipts 24 = .ok (.astore 4, 2) := by decide +kernel
theorem dX2_exchangeReceipts_26 : decode cX2_exchangeReceipts 26 = .ok (.aload 4, 2) := by decide +kernel
theorem dX2_exchangeReceipts_28 : decode cX2_exchangeReceipts 28 = .ok (.getfield 170, 3) := by decide +kernel
theorem dX2_exchangeReceipts_31 : decode cX2_exchangeReceipts 31 = .ok (.iload_n 1, 1) := by decide +kernel
theorem dX2_exchangeReceipts_32 : decode cX2_exchangeReceipts 32 = .ok (.baload, 1) := by decide +kernel
theorem dX2_exchangeReceipts_33 : decode cX2_exchangeReceipts 33 = .ok (.ifCond .ne 13, 3) := by decide +kernel
theorem dX2_exchangeReceipts_36 : decode cX2_exchangeReceipts 36 = .ok (.aload 4, 2) := by decide +kernel
theorem dX2_exchangeReceipts_38 : decode cX2_exchangeReceipts 38 = .ok (.getfield 170, 3) := by decide +kernel
theorem dX2_exchangeReceipts_41 : decode cX2_exchangeReceipts 41 = .ok (.iload_n 2, 1) := by decide +kernel
theorem dX2_exchangeReceipts_42 : decode cX2_exchangeReceipts 42 = .ok (.baload, 1) := by decide +kernel
theorem dX2_exchangeReceipts_43 : decode cX2_exchangeReceipts 43 = .ok (.ifCond .eq 15, 3) := by decide +kernel
theorem dX2_exchangeReceipts_46 : decode cX2_exchangeReceipts 46 = .ok (.aload 4, 2) := by decide +kernel
theorem dX2_exchangeReceipts_48 : decode cX2_exchangeReceipts 48 = .ok (.iload_n 1, 1) := by decide +kernel
theorem dX2_exchangeReceipts_49 : decode cX2_exchangeReceipts 49 = .ok (.invokevirtual 210, 3) := by decide +kernel
theorem dX2_exchangeReceipts_52 : decode cX2_exchangeReceipts 52 = .ok (.aload 4, 2) := by decide +kernel
theorem dX2_exchangeReceipts_54 : decode cX2_exchangeReceipts 54 = .ok (.iload_n 2, 1) := by decide +kernel
theorem dX2_exchangeReceipts_55 : decode cX2_exchangeReceipts 55 = .ok (.invokevirtual 210, 3) := by decide +kernel
theorem dX2_exchangeReceipts_58 : decode cX2_exchangeReceipts 58 = .ok (.iinc 3 1, 3) := by decide +kernel
theorem dX2_exchangeReceipts_61 : decode cX2_exchangeReceipts 61 = .ok (.goto (-59), 3) := by decide +kernel
theorem dX2_exchangeReceipts_64 : decode cX2_exchangeReceipts 64 = .ok (.return_, 1) := by decide +kernel
set_option maxRecDepth 20000 in
theorem ggX2_findSprays_Jx4a65c_size_8abf5 : GoodIn wsX2_findSprays wsJx4a65c_size_8abf5 := goodIn_r _ [8, 9, 56, 57, 58] (by decide +kernel) (by decide +kernel)
set_option maxRecDepth 20000 in
theorem gX2_findSprays_Jx4a65c_size_8abf5 : GoodIn wsX2_findSprays (wsV RX2 60 RJx4a65c yJx4a65c_size_8abf5 wsJx4a65c_size_8abf5) := goodIn_app (goodIn_of _ (by decide +kernel)) ggX2_findSprays_Jx4a65c_size_8abf5
set_option maxRecDepth 20000 in
theorem ggX2_findSprays_Jx4a65c_get_915e3 : GoodIn wsX2_findSprays wsJx4a65c_get_915e3 := goodIn_r _ [13, 9, 14, 15, 16, 17, 18, 19, 20, 21, 22, 23, 24, 7, 25, 26, 56, 57, 58] (by decide +kernel) (by decide +kernel)
set_option maxRecDepth 20000 in
theorem gX2_findSprays_Jx4a65c_get_915e3 : GoodIn wsX2_findSprays (wsV RX2 122 RJx4a65c yJx4a65c_get_915e3 wsJx4a65c_get_915e3) := goodIn_app (goodIn_of _ (by decide +kernel)) ggX2_findSprays_Jx4a65c_get_915e3
set_option maxRecDepth 20000 in
theorem ggX2_findSprays_X0_canSpray : GoodIn wsX2_findSprays wsX0_canSpray := goodIn_r _ [31, 32, 33, 34, 35, 36, 30, 37, 45, 46, 47, 48, 49, 50, 51, 52, 53, 54, 55] (by decide +kernel) (by decide +kernel)
set_option maxRecDepth 20000 in
theorem gX2_findSprays_X0_canSpray : GoodIn wsX2_findSprays (wsV RX2 216 RX0 yX0_canSpray wsX0_canSpray) := goodIn_app (goodIn_of _ (by decide +kernel)) ggX2_findSprays_X0_canSpray
theorem dX2_findSprays_0 : decode cX2_findSprays 0 = .ok (.iconst 0, 1) := by decide +kernel
theorem dX2_findSprays_1 : decode cX2_findSprays 1 = .ok (.istore_n 3, 1) := by decide +kernel
theorem dX2_findSprays_2 : decode cX2_findSprays 2 = .ok (.iload_n 3, 1) := by decide +kernel
theorem dX2_findSprays_3 : decode cX2_findSprays 3 = .ok (.aload_n 0, 1) := by decide +kernel
theorem dX2_findSprays_4 : decode cX2_findSprays 4 = .ok (.getfield 26, 3) := by decide +kernel
theorem dX2_findSprays_7 : decode cX2_findSprays 7 = .ok (.invokevirtual 60, 3) := by decide +kernel
theorem dX2_findSprays_10 : decode cX2_findSprays 10 = .ok (.if_icmp .ge 63, 3) := by decide +kernel
theorem dX2_findSprays_13 : decode cX2_findSprays 13 = .ok (.aload_n 0, 1) := by decide +kernel
theorem dX2_findSprays_14 : decode cX2_findSprays 14 = .ok (.getfield 26, 3) := by decide +kernel
theorem dX2_findSprays_17 : decode cX2_findSprays 17 = .ok (.iload_n 3, 1) := by decide +kernel
theorem dX2_findSprays_18 : decode cX2_findSprays 18 = .ok (.invokevirtual 122, 3) := by decide +kernel
theorem dX2_findSprays_21 : decode cX2_findSprays 21 = .ok (.checkcast 75, 3) := by decide +kernel
theorem dX2_findSprays_24 : decode cX2_findSprays 24 = .ok (.astore 4, 2) := by decide +kernel
theorem dX2_findSprays_26 : decode cX2_findSprays 26 = .ok (.aload 4, 2) := by decide +kernel
theorem dX2_findSprays_28 : decode cX2_findSprays 28 = .ok (.iconst (-1), 1) := by decide +kernel
theorem dX2_findSprays_29 : decode cX2_findSprays 29 = .ok (.putfield 213, 3) := by decide +kernel
theorem dX2_findSprays_32 : decode cX2_findSprays 32 = .ok (.aload 4, 2) := by decide +kernel
theorem dX2_findSprays_34 : decode cX2_findSprays 34 = .ok (.iload_n 1, 1) := by decide +kernel
theorem dX2_findSprays_35 : decode cX2_findSprays 35 = .ok (.iload_n 2, 1) := by decide +kernel
theorem dX2_findSprays_36 : decode cX2_findSprays 36 = .ok (.invokevirtual 216, 3) := by decide +kernel
theorem dX2_findSprays_39 : decode cX2_findSprays 39 = .ok (.ifCond .eq 12, 3) := by decide +kernel
theorem dX2_findSprays_42 : decode cX2_findSprays 42 = .ok (.aload 4, 2) := by decide +kernel
theorem dX2_findSprays_44 : decode cX2_findSprays 44 = .ok (.iload_n 1, 1) := by decide +kernel
theorem dX2_findSprays_45 : decode cX2_findSprays 45 = .ok (.putfield 213, 3) := by decide +kernel
theorem dX2_findSprays_48 : decode cX2_findSprays 48 = .ok (.goto 19, 3) := by decide +kernel
theorem dX2_findSprays_51 : decode cX2_findSprays 51 = .ok (.aload 4, 2) := by decide +kernel
theorem dX2_findSprays_53 : decode cX2_findSprays 53 = .ok (.iload_n 2, 1) := by decide +kernel
theorem dX2_findSprays_54 : decode cX2_findSprays 54 = .ok (.iload_n 1, 1) := by decide +kernel
theorem dX2_findSprays_55 : decode cX2_findSprays 55 = .ok (.invokevirtual 216, 3) := by decide +kernel
theorem dX2_findSprays_58 : decode cX2_findSprays 58 = .ok (.ifCond .eq 9, 3) := by decide +kernel
theorem dX2_findSprays_61 : decode cX2_findSprays 61 = .ok (.aload 4, 2) := by decide +kernel
theorem dX2_findSprays_63 : decode cX2_findSprays 63 = .ok (.iload_n 2, 1) := by decide +kernel
theorem dX2_findSprays_64 : decode cX2_findSprays 64 = .ok (.putfield 213, 3) := by decide +kernel
theorem dX2_findSprays_67 : decode cX2_findSprays 67 = .ok (.iinc 3 1, 3) := by decide +kernel
theorem dX2_findSprays_70 : decode cX2_findSprays 70 = .ok (.goto (-68), 3) := by decide +kernel
theorem dX2_findSprays_73 : decode cX2_findSprays 73 = .ok (.return_, 1) := by decide +kernel
set_option maxRecDepth 20000 in
theorem ggX2_deliverSome_Jx4a65c_size_8abf5 : GoodIn wsX2_deliverSome wsJx4a65c_size_8abf5 := goodIn_r _ [8, 9, 66, 67, 68] (by decide +kernel) (by decide +kernel)
set_option maxRecDepth 20000 in
theorem gX2_deliverSome_Jx4a65c_size_8abf5 : GoodIn wsX2_deliverSome (wsV RX2 60 RJx4a65c yJx4a65c_size_8abf5 wsJx4a65c_size_8abf5) := goodIn_app (goodIn_of _ (by decide +kernel)) ggX2_deliverSome_Jx4a65c_size_8abf5
set_option maxRecDepth 20000 in
theorem ggX2_deliverSome_Jx4a65c_get_915e3 : GoodIn wsX2_deliverSome wsJx4a65c_get_915e3 := goodIn_r _ [13, 9, 14, 15, 16, 17, 18, 19, 20, 21, 22, 23, 24, 7, 25, 26, 66, 67, 68] (by decide +kernel) (by decide +kernel)
set_option maxRecDepth 20000 in
theorem gX2_deliverSome_Jx4a65c_get_915e3 : GoodIn wsX2_deliverSome (wsV RX2 122 RJx4a65c yJx4a65c_get_915e3 wsJx4a65c_get_915e3) := goodIn_app (goodIn_of _ (by decide +kernel)) ggX2_deliverSome_Jx4a65c_get_915e3
set_option maxRecDepth 20000 in
theorem ggX2_deliverSome_X0_canDeliver : GoodIn wsX2_deliverSome wsX0_canDeliver := goodIn_r _ [31, 32, 33, 34, 35, 30, 36, 37, 69, 70, 71, 72, 73, 74, 75, 76, 77, 78, 79] (by decide +kernel) (by decide +kernel)
set_option maxRecDepth 20000 in
theorem gX2_deliverSome_X0_canDeliver : GoodIn wsX2_deliverSome (wsV RX2 219 RX0 yX0_canDeliver wsX0_canDeliver) := goodIn_app (goodIn_of _ (by decide +kernel)) ggX2_deliverSome_X0_canDeliver
set_option maxRecDepth 20000 in
theorem ggX2_deliverSome_X0_deliver : GoodIn wsX2_deliverSome wsX0_deliver := goodIn_r _ [41, 42, 43, 44, 32, 45, 46, 47, 30, 48, 49, 50, 51, 52, 53, 54, 55, 56, 57, 58, 37, 69, 70, 71, 72, 73, 74, 75, 76, 77, 78, 79] (by decide +kernel) (by decide +kernel)
set_option maxRecDepth 20000 in
theorem gX2_deliverSome_X0_deliver : GoodIn wsX2_deliverSome (wsV RX2 222 RX0 yX0_deliver wsX0_deliver) := goodIn_app (goodIn_of _ (by decide +kernel)) ggX2_deliverSome_X0_deliver
theorem dX2_deliverSome_0 : decode cX2_deliverSome 0 = .ok (.iconst 0, 1) := by decide +kernel
theorem dX2_deliverSome_1 : decode cX2_deliverSome 1 = .ok (.istore 4, 2) := by decide +kernel
theorem dX2_deliverSome_3 : decode cX2_deliverSome 3 = .ok (.iconst 0, 1) := by decide +kernel
theorem dX2_deliverSome_4 : decode cX2_deliverSome 4 = .ok (.istore 5, 2) := by decide +kernel
theorem dX2_deliverSome_6 : decode cX2_deliverSome 6 = .ok (.iload 5, 2) := by decide +kernel
theorem dX2_deliverSome_8 : decode cX2_deliverSome 8 = .ok (.aload_n 0, 1) := by decide +kernel
theorem dX2_deliverSome_9 : decode cX2_deliverSome 9 = .ok (.getfield 30, 3) := by decide +kernel
theorem dX2_deliverSome_12 : decode cX2_deliverSome 12 = .ok (.invokevirtual 60, 3) := by decide +kernel
theorem dX2_deliverSome_15 : decode cX2_deliverSome 15 = .ok (.if_icmp .ge 78, 3) := by decide +kernel
theorem dX2_deliverSome_18 : decode cX2_deliverSome 18 = .ok (.iload 4, 2) := by decide +kernel
theorem dX2_deliverSome_20 : decode cX2_deliverSome 20 = .ok (.iload_n 3, 1) := by decide +kernel
theorem dX2_deliverSome_21 : decode cX2_deliverSome 21 = .ok (.if_icmp .ge 72, 3) := by decide +kernel
theorem dX2_deliverSome_24 : decode cX2_deliverSome 24 = .ok (.aload_n 0, 1) := by decide +kernel
theorem dX2_deliverSome_25 : decode cX2_deliverSome 25 = .ok (.getfield 30, 3) := by decide +kernel
theorem dX2_deliverSome_28 : decode cX2_deliverSome 28 = .ok (.iload 5, 2) := by decide +kernel
theorem dX2_deliverSome_30 : decode cX2_deliverSome 30 = .ok (.invokevirtual 122, 3) := by decide +kernel
theorem dX2_deliverSome_33 : decode cX2_deliverSome 33 = .ok (.checkcast 75, 3) := by decide +kernel
theorem dX2_deliverSome_36 : decode cX2_deliverSome 36 = .ok (.astore 6, 2) := by decide +kernel
theorem dX2_deliverSome_38 : decode cX2_deliverSome 38 = .ok (.aload 6, 2) := by decide +kernel
theorem dX2_deliverSome_40 : decode cX2_deliverSome 40 = .ok (.iload_n 1, 1) := by decide +kernel
theorem dX2_deliverSome_41 : decode cX2_deliverSome 41 = .ok (.iload_n 2, 1) := by decide +kernel
theorem dX2_deliverSome_42 : decode cX2_deliverSome 42 = .ok (.invokevirtual 219, 3) := by decide +kernel
theorem dX2_deliverSome_45 : decode cX2_deliverSome 45 = .ok (.ifCond .eq 19, 3) := by decide +kernel
theorem dX2_deliverSome_48 : decode cX2_deliverSome 48 = .ok (.aload 6, 2) := by decide +kernel
theorem dX2_deliverSome_50 : decode cX2_deliverSome 50 = .ok (.iload_n 1, 1) := by decide +kernel
theorem dX2_deliverSome_51 : decode cX2_deliverSome 51 = .ok (.aload_n 0, 1) := by decide +kernel
theorem dX2_deliverSome_52 : decode cX2_deliverSome 52 = .ok (.getfield 7, 3) := by decide +kernel
theorem dX2_deliverSome_55 : decode cX2_deliverSome 55 = .ok (.invokevirtual 222, 3) := by decide +kernel
theorem dX2_deliverSome_58 : decode cX2_deliverSome 58 = .ok (.iinc 4 1, 3) := by decide +kernel
theorem dX2_deliverSome_61 : decode cX2_deliverSome 61 = .ok (.goto 26, 3) := by decide +kernel
theorem dX2_deliverSome_64 : decode cX2_deliverSome 64 = .ok (.aload 6, 2) := by decide +kernel
theorem dX2_deliverSome_66 : decode cX2_deliverSome 66 = .ok (.iload_n 2, 1) := by decide +kernel
theorem dX2_deliverSome_67 : decode cX2_deliverSome 67 = .ok (.iload_n 1, 1) := by decide +kernel
theorem dX2_deliverSome_68 : decode cX2_deliverSome 68 = .ok (.invokevirtual 219, 3) := by decide +kernel
theorem dX2_deliverSome_71 : decode cX2_deliverSome 71 = .ok (.ifCond .eq 16, 3) := by decide +kernel
theorem dX2_deliverSome_74 : decode cX2_deliverSome 74 = .ok (.aload 6, 2) := by decide +kernel
theorem dX2_deliverSome_76 : decode cX2_deliverSome 76 = .ok (.iload_n 2, 1) := by decide +kernel
theorem dX2_deliverSome_77 : decode cX2_deliverSome 77 = .ok (.aload_n 0, 1) := by decide +kernel
theorem dX2_deliverSome_78 : decode cX2_deliverSome 78 = .ok (.getfield 7, 3) := by decide +kernel
theorem dX2_deliverSome_81 : decode cX2_deliverSome 81 = .ok (.invokevirtual 222, 3) := by decide +kernel
theorem dX2_deliverSome_84 : decode cX2_deliverSome 84 = .ok (.iinc 4 1, 3) := by decide +kernel
theorem dX2_deliverSome_87 : decode cX2_deliverSome 87 = .ok (.iinc 5 1, 3) := by decide +kernel
theorem dX2_deliverSome_90 : decode cX2_deliverSome 90 = .ok (.goto (-84), 3) := by decide +kernel
theorem dX2_deliverSome_93 : decode cX2_deliverSome 93 = .ok (.iload 4, 2) := by decide +kernel
theorem dX2_deliverSome_95 : decode cX2_deliverSome 95 = .ok (.ireturn, 1) := by decide +kernel
set_option maxRecDepth 20000 in
theorem ggX2_spraySome_Jx4a65c_size_8abf5 : GoodIn wsX2_spraySome wsJx4a65c_size_8abf5 := goodIn_r _ [8, 9, 87, 88, 89] (by decide +kernel) (by decide +kernel)
set_option maxRecDepth 20000 in
theorem gX2_spraySome_Jx4a65c_size_8abf5 : GoodIn wsX2_spraySome (wsV RX2 60 RJx4a65c yJx4a65c_size_8abf5 wsJx4a65c_size_8abf5) := goodIn_app (goodIn_of _ (by decide +kernel)) ggX2_spraySome_Jx4a65c_size_8abf5
set_option maxRecDepth 20000 in
theorem ggX2_spraySome_Jx4a65c_get_915e3 : GoodIn wsX2_spraySome wsJx4a65c_get_915e3 := goodIn_r _ [13, 9, 14, 15, 16, 17, 18, 19, 20, 21, 22, 23, 24, 7, 25, 26, 87, 88, 89] (by decide +kernel) (by decide +kernel)
set_option maxRecDepth 20000 in
theorem gX2_spraySome_Jx4a65c_get_915e3 : GoodIn wsX2_spraySome (wsV RX2 122 RJx4a65c yJx4a65c_get_915e3 wsJx4a65c_get_915e3) := goodIn_app (goodIn_of _ (by decide +kernel)) ggX2_spraySome_Jx4a65c_get_915e3
set_option maxRecDepth 20000 in
theorem ggX2_spraySome_X2_spray : GoodIn wsX2_spraySome wsX2_spray := goodIn_r _ [31, 32, 33, 34, 35, 36, 37, 38, 39, 40, 41, 42, 30, 43, 44, 45, 46, 47, 48, 49, 50, 2, 4, 5, 6, 7, 8, 9, 10, 11, 12, 13, 14, 15, 16, 17, 18, 19, 20, 21, 22, 23, 24, 25, 26, 51, 52, 53, 54, 1, 55, 56, 57, 58, 59, 60, 61, 62, 63, 64, 65, 66, 67, 68, 76, 77, 78, 79, 80, 81, 82, 83, 84, 85, 86, 69, 70, 71, 72, 73, 74, 75, 87, 88, 89] (by decide +kernel) (by decide +kernel)
set_option maxRecDepth 20000 in
theorem gX2_spraySome_X2_spray : GoodIn wsX2_spraySome (wsV RX2 225 RX2 yX2_spray wsX2_spray) := goodIn_app (goodIn_of _ (by decide +kernel)) ggX2_spraySome_X2_spray
theorem dX2_spraySome_0 : decode cX2_spraySome 0 = .ok (.iconst 0, 1) := by decide +kernel
theorem dX2_spraySome_1 : decode cX2_spraySome 1 = .ok (.istore 4, 2) := by decide +kernel
theorem dX2_spraySome_3 : decode cX2_spraySome 3 = .ok (.iconst 0, 1) := by decide +kernel
theorem dX2_spraySome_4 : decode cX2_spraySome 4 = .ok (.istore 5, 2) := by decide +kernel
theorem dX2_spraySome_6 : decode cX2_spraySome 6 = .ok (.iload 5, 2) := by decide +kernel
theorem dX2_spraySome_8 : decode cX2_spraySome 8 = .ok (.aload_n 0, 1) := by decide +kernel
theorem dX2_spraySome_9 : decode cX2_spraySome 9 = .ok (.getfield 30, 3) := by decide +kernel
theorem dX2_spraySome_12 : decode cX2_spraySome 12 = .ok (.invokevirtual 60, 3) := by decide +kernel
theorem dX2_spraySome_15 : decode cX2_spraySome 15 = .ok (.if_icmp .ge 78, 3) := by decide +kernel
theorem dX2_spraySome_18 : decode cX2_spraySome 18 = .ok (.iload 4, 2) := by decide +kernel
theorem dX2_spraySome_20 : decode cX2_spraySome 20 = .ok (.iload_n 3, 1) := by decide +kernel
theorem dX2_spraySome_21 : decode cX2_spraySome 21 = .ok (.if_icmp .ge 72, 3) := by decide +kernel
theorem dX2_spraySome_24 : decode cX2_spraySome 24 = .ok (.aload_n 0, 1) := by decide +kernel
theorem dX2_spraySome_25 : decode cX2_spraySome 25 = .ok (.getfield 30, 3) := by decide +kernel
theorem dX2_spraySome_28 : decode cX2_spraySome 28 = .ok (.iload 5, 2) := by decide +kernel
theorem dX2_spraySome_30 : decode cX2_spraySome 30 = .ok (.invokevirtual 122, 3) := by decide +kernel
theorem dX2_spraySome_33 : decode cX2_spraySome 33 = .ok (.checkcast 75, 3) := by decide +kernel
theorem dX2_spraySome_36 : decode cX2_spraySome 36 = .ok (.astore 6, 2) := by decide +kernel
theorem dX2_spraySome_38 : decode cX2_spraySome 38 = .ok (.aload 6, 2) := by decide +kernel
theorem dX2_spraySome_40 : decode cX2_spraySome 40 = .ok (.getfield 213, 3) := by decide +kernel
theorem dX2_spraySome_43 : decode cX2_spraySome 43 = .ok (.iload_n 1, 1) := by decide +kernel
theorem dX2_spraySome_44 : decode cX2_spraySome 44 = .ok (.if_icmp .ne 20, 3) := by decide +kernel
theorem dX2_spraySome_47 : decode cX2_spraySome 47 = .ok (.aload_n 0, 1) := by decide +kernel
theorem dX2_spraySome_48 : decode cX2_spraySome 48 = .ok (.aload 6, 2) := by decide +kernel
theorem dX2_spraySome_50 : decode cX2_spraySome 50 = .ok (.iload_n 1, 1) := by decide +kernel
theorem dX2_spraySome_51 : decode cX2_spraySome 51 = .ok (.iload_n 2, 1) := by decide +kernel
theorem dX2_spraySome_52 : decode cX2_spraySome 52 = .ok (.invokevirtual 225, 3) := by decide +kernel
theorem dX2_spraySome_55 : decode cX2_spraySome 55 = .ok (.ifCond .eq 9, 3) := by decide +kernel
theorem dX2_spraySome_58 : decode cX2_spraySome 58 = .ok (.iinc 4 1, 3) := by decide +kernel
theorem dX2_spraySome_61 : decode cX2_spraySome 61 = .ok (.goto 26, 3) := by decide +kernel
theorem dX2_spraySome_64 : decode cX2_spraySome 64 = .ok (.aload 6, 2) := by decide +kernel
theorem dX2_spraySome_66 : decode cX2_spraySome 66 = .ok (.getfield 213, 3) := by decide +kernel
theorem dX2_spraySome_69 : decode cX2_spraySome 69 = .ok (.iload_n 2, 1) := by decide +kernel
theorem dX2_spraySome_70 : decode cX2_spraySome 70 = .ok (.if_icmp .ne 17, 3) := by decide +kernel
theorem dX2_spraySome_73 : decode cX2_spraySome 73 = .ok (.aload_n 0, 1) := by decide +kernel
theorem dX2_spraySome_74 : decode cX2_spraySome 74 = .ok (.aload 6, 2) := by decide +kernel
theorem dX2_spraySome_76 : decode cX2_spraySome 76 = .ok (.iload_n 2, 1) := by decide +kernel
theorem dX2_spraySome_77 : decode cX2_spraySome 77 = .ok (.iload_n 1, 1) := by decide +kernel
theorem dX2_spraySome_78 : decode cX2_spraySome 78 = .ok (.invokevirtual 225, 3) := by decide +kernel
theorem dX2_spraySome_81 : decode cX2_spraySome 81 = .ok (.ifCond .eq 6, 3) := by decide +kernel
theorem dX2_spraySome_84 : decode cX2_spraySome 84 = .ok (.iinc 4 1, 3) := by decide +kernel
theorem dX2_spraySome_87 : decode cX2_spraySome 87 = .ok (.iinc 5 1, 3) := by decide +kernel
theorem dX2_spraySome_90 : decode cX2_spraySome 90 = .ok (.goto (-84), 3) := by decide +kernel
theorem dX2_spraySome_93 : decode cX2_spraySome 93 = .ok (.iload 4, 2) := by decide +kernel
theorem dX2_spraySome_95 : decode cX2_spraySome 95 = .ok (.ireturn, 1) := by decide +kernel
set_option maxRecDepth 20000 in
theorem ggX2_spray_X0_isAt : GoodIn wsX2_spray wsX0_isAt := goodIn_r _ [7, 8, 64, 65, 66, 67, 68, 69, 70, 71, 72, 73, 74] (by decide +kernel) (by decide +kernel)
set_option maxRecDepth 20000 in
theorem gX2_spray_X0_isAt : GoodIn wsX2_spray (wsV RX2 160 RX0 yX0_isAt wsX0_isAt) := goodIn_app (goodIn_of _ (by decide +kernel)) ggX2_spray_X0_isAt
set_option maxRecDepth 20000 in
theorem ggX2_spray_X2_makeRoom : GoodIn wsX2_spray wsX2_makeRoom := goodIn_r _ [13, 14, 1, 15, 16, 17, 18, 12, 19, 20, 21, 22, 23, 24, 25, 26, 27, 28, 29, 30, 31, 32, 33, 34, 35, 36, 37, 38, 39, 40, 41, 42, 43, 44, 3, 4, 5, 6, 7, 8, 45, 46, 47, 48, 49, 50, 51, 52, 53, 54, 55, 56, 57, 58, 59, 75, 76, 77, 78, 79, 80, 81, 64, 65, 66, 67, 68, 69, 70, 71, 72, 73, 74, 82, 83, 84] (by decide +kernel) (by decide +kernel)
set_option maxRecDepth 20000 in
theorem gX2_spray_X2_makeRoom : GoodIn wsX2_spray (wsV RX2 69 RX2 yX2_makeRoom wsX2_makeRoom) := goodIn_app (goodIn_of _ (by decide +kernel)) ggX2_spray_X2_makeRoom
set_option maxRecDepth 20000 in
theorem ggX2_spray_X0_halve : GoodIn wsX2_spray wsX0_halve := goodIn_r _ [63, 8, 59, 55, 56, 57, 6, 58, 64, 65, 66, 67, 68, 69, 70, 71, 72, 73, 74] (by decide +kernel) (by decide +kernel)
set_option maxRecDepth 20000 in
theorem gX2_spray_X0_halve : GoodIn wsX2_spray (wsV RX2 229 RX0 yX0_halve wsX0_halve) := goodIn_app (goodIn_of _ (by decide +kernel)) ggX2_spray_X0_halve
theorem dX2_spray_0 : decode cX2_spray 0 = .ok (.aload_n 1, 1) := by decide +kernel
theorem dX2_spray_1 : decode cX2_spray 1 = .ok (.iload_n 2, 1) := by decide +kernel
theorem dX2_spray_2 : decode cX2_spray 2 = .ok (.invokevirtual 160, 3) := by decide +kernel
theorem dX2_spray_5 : decode cX2_spray 5 = .ok (.ifCond .ne 5, 3) := by decide +kernel
theorem dX2_spray_8 : decode cX2_spray 8 = .ok (.iconst 0, 1) := by decide +kernel
theorem dX2_spray_9 : decode cX2_spray 9 = .ok (.ireturn, 1) := by decide +kernel
theorem dX2_spray_10 : decode cX2_spray 10 = .ok (.aload_n 0, 1) := by decide +kernel
theorem dX2_spray_11 : decode cX2_spray 11 = .ok (.iload_n 3, 1) := by decide +kernel
theorem dX2_spray_12 : decode cX2_spray 12 = .ok (.aload_n 1, 1) := by decide +kernel
theorem dX2_spray_13 : decode cX2_spray 13 = .ok (.getfield 204, 3) := by decide +kernel
theorem dX2_spray_16 : decode cX2_spray 16 = .ok (.invokevirtual 69, 3) := by decide +kernel
theorem dX2_spray_19 : decode cX2_spray 19 = .ok (.ifCond .ne 15, 3) := by decide +kernel
theorem dX2_spray_22 : decode cX2_spray 22 = .ok (.aload_n 0, 1) := by decide +kernel
theorem dX2_spray_23 : decode cX2_spray 23 = .ok (.getfield 20, 3) := by decide +kernel
theorem dX2_spray_26 : decode cX2_spray 26 = .ok (.iload_n 3, 1) := by decide +kernel
theorem dX2_spray_27 : decode cX2_spray 27 = .ok (.dup2, 1) := by decide +kernel
theorem dX2_spray_28 : decode cX2_spray 28 = .ok (.iaload, 1) := by decide +kernel
theorem dX2_spray_29 : decode cX2_spray 29 = .ok (.iconst 1, 1) := by decide +kernel
theorem dX2_spray_30 : decode cX2_spray 30 = .ok (.iadd, 1) := by decide +kernel
theorem dX2_spray_31 : decode cX2_spray 31 = .ok (.iastore, 1) := by decide +kernel
theorem dX2_spray_32 : decode cX2_spray 32 = .ok (.iconst 0, 1) := by decide +kernel
theorem dX2_spray_33 : decode cX2_spray 33 = .ok (.ireturn, 1) := by decide +kernel
theorem dX2_spray_34 : decode cX2_spray 34 = .ok (.aload_n 1, 1) := by decide +kernel
theorem dX2_spray_35 : decode cX2_spray 35 = .ok (.iload_n 2, 1) := by decide +kernel
theorem dX2_spray_36 : decode cX2_spray 36 = .ok (.iload_n 3, 1) := by decide +kernel
theorem dX2_spray_37 : decode cX2_spray 37 = .ok (.invokevirtual 229, 3) := by decide +kernel
theorem dX2_spray_40 : decode cX2_spray 40 = .ok (.iconst 1, 1) := by decide +kernel
theorem dX2_spray_41 : decode cX2_spray 41 = .ok (.ireturn, 1) := by decide +kernel
set_option maxRecDepth 20000 in
theorem ggX2_moveCustody_Jx4a65c_size_8abf5 : GoodIn wsX2_moveCustody wsJx4a65c_size_8abf5 := goodIn_r _ [8, 9, 92, 93, 94] (by decide +kernel) (by decide +kernel)
set_option maxRecDepth 20000 in
theorem gX2_moveCustody_Jx4a65c_size_8abf5 : GoodIn wsX2_moveCustody (wsV RX2 60 RJx4a65c yJx4a65c_size_8abf5 wsJx4a65c_size_8abf5) := goodIn_app (goodIn_of _ (by decide +kernel)) ggX2_moveCustody_Jx4a65c_size_8abf5
set_option maxRecDepth 20000 in
theorem ggX2_moveCustody_Jx4a65c_get_915e3 : GoodIn wsX2_moveCustody wsJx4a65c_get_915e3 := goodIn_r _ [13, 9, 14, 15, 16, 17, 18, 19, 20, 21, 22, 23, 24, 7, 25, 26, 92, 93, 94] (by decide +kernel) (by decide +kernel)
set_option maxRecDepth 20000 in
theorem gX2_moveCustody_Jx4a65c_get_915e3 : GoodIn wsX2_moveCustody (wsV RX2 122 RJx4a65c yJx4a65c_get_915e3 wsJx4a65c_get_915e3) := goodIn_app (goodIn_of _ (by decide +kernel)) ggX2_moveCustody_Jx4a65c_get_915e3
set_option maxRecDepth 20000 in
theorem ggX2_moveCustody_X0_isAt : GoodIn wsX2_moveCustody wsX0_isAt := goodIn_r _ [31, 32, 81, 82, 83, 84, 85, 86, 87, 88, 89, 90, 91] (by decide +kernel) (by decide +kernel)
set_option maxRecDepth 20000 in
theorem gX2_moveCustody_X0_isAt : GoodIn wsX2_moveCustody (wsV RX2 160 RX0 yX0_isAt wsX0_isAt) := goodIn_app (goodIn_of _ (by decide +kernel)) ggX2_moveCustody_X0_isAt
set_option maxRecDepth 20000 in
theorem ggX2_moveCustody_X2_moveCustodyIfNearer : GoodIn wsX2_moveCustody wsX2_moveCustodyIfNearer := goodIn_r _ [37, 38, 39, 40, 3, 41, 42, 43, 44, 45, 46, 47, 48, 49, 50, 51, 52, 53, 54, 55, 56, 57, 58, 59, 60, 61, 62, 63, 64, 65, 66, 67, 68, 69, 70, 71, 72, 73, 74, 75, 76, 77, 78, 79, 80, 81, 82, 83, 84, 85, 86, 87, 88, 89, 90, 91, 95, 96, 97, 98, 99, 100, 101] (by decide +kernel) (by decide +kernel)
set_option maxRecDepth 20000 in
theorem gX2_moveCustody_X2_moveCustodyIfNearer : GoodIn wsX2_moveCustody (wsV RX2 232 RX2 yX2_moveCustodyIfNearer wsX2_moveCustodyIfNearer) := goodIn_app (goodIn_of _ (by decide +kernel)) ggX2_moveCustody_X2_moveCustodyIfNearer
theorem dX2_moveCustody_0 : decode cX2_moveCustody 0 = .ok (.iconst 0, 1) := by decide +kernel
theorem dX2_moveCustody_1 : decode cX2_moveCustody 1 = .ok (.istore_n 3, 1) := by decide +kernel
theorem dX2_moveCustody_2 : decode cX2_moveCustody 2 = .ok (.iload_n 3, 1) := by decide +kernel
theorem dX2_moveCustody_3 : decode cX2_moveCustody 3 = .ok (.aload_n 0, 1) := by decide +kernel
theorem dX2_moveCustody_4 : decode cX2_moveCustody 4 = .ok (.getfield 26, 3) := by decide +kernel
theorem dX2_moveCustody_7 : decode cX2_moveCustody 7 = .ok (.invokevirtual 60, 3) := by decide +kernel
theorem dX2_moveCustody_10 : decode cX2_moveCustody 10 = .ok (.if_icmp .ge 77, 3) := by decide +kernel
theorem dX2_moveCustody_13 : decode cX2_moveCustody 13 = .ok (.aload_n 0, 1) := by decide +kernel
theorem dX2_moveCustody_14 : decode cX2_moveCustody 14 = .ok (.getfield 26, 3) := by decide +kernel
theorem dX2_moveCustody_17 : decode cX2_moveCustody 17 = .ok (.iload_n 3, 1) := by decide +kernel
theorem dX2_moveCustody_18 : decode cX2_moveCustody 18 = .ok (.invokevirtual 122, 3) := by decide +kernel
theorem dX2_moveCustody_21 : decode cX2_moveCustody 21 = .ok (.checkcast 75, 3) := by decide +kernel
theorem dX2_moveCustody_24 : decode cX2_moveCustody 24 = .ok (.astore 4, 2) := by decide +kernel
theorem dX2_moveCustody_26 : decode cX2_moveCustody 26 = .ok (.aload 4, 2) := by decide +kernel
theorem dX2_moveCustody_28 : decode cX2_moveCustody 28 = .ok (.iload_n 1, 1) := by decide +kernel
theorem dX2_moveCustody_29 : decode cX2_moveCustody 29 = .ok (.invokevirtual 160, 3) := by decide +kernel
theorem dX2_moveCustody_32 : decode cX2_moveCustody 32 = .ok (.ifCond .eq 49, 3) := by decide +kernel
theorem dX2_moveCustody_35 : decode cX2_moveCustody 35 = .ok (.aload 4, 2) := by decide +kernel
theorem dX2_moveCustody_37 : decode cX2_moveCustody 37 = .ok (.iload_n 2, 1) := by decide +kernel
theorem dX2_moveCustody_38 : decode cX2_moveCustody 38 = .ok (.invokevirtual 160, 3) := by decide +kernel
theorem dX2_moveCustody_41 : decode cX2_moveCustody 41 = .ok (.ifCond .eq 40, 3) := by decide +kernel
theorem dX2_moveCustody_44 : decode cX2_moveCustody 44 = .ok (.aload 4, 2) := by decide +kernel
theorem dX2_moveCustody_46 : decode cX2_moveCustody 46 = .ok (.getfield 80, 3) := by decide +kernel
theorem dX2_moveCustody_49 : decode cX2_moveCustody 49 = .ok (.iload_n 1, 1) := by decide +kernel
theorem dX2_moveCustody_50 : decode cX2_moveCustody 50 = .ok (.if_icmp .ne 14, 3) := by decide +kernel
theorem dX2_moveCustody_53 : decode cX2_moveCustody 53 = .ok (.aload_n 0, 1) := by decide +kernel
theorem dX2_moveCustody_54 : decode cX2_moveCustody 54 = .ok (.aload 4, 2) := by decide +kernel
theorem dX2_moveCustody_56 : decode cX2_moveCustody 56 = .ok (.iload_n 1, 1) := by decide +kernel
theorem dX2_moveCustody_57 : decode cX2_moveCustody 57 = .ok (.iload_n 2, 1) := by decide +kernel
theorem dX2_moveCustody_58 : decode cX2_moveCustody 58 = .ok (.invokevirtual 232, 3) := by decide +kernel
theorem dX2_moveCustody_61 : decode cX2_moveCustody 61 = .ok (.goto 20, 3) := by decide +kernel
theorem dX2_moveCustody_64 : decode cX2_moveCustody 64 = .ok (.aload 4, 2) := by decide +kernel
theorem dX2_moveCustody_66 : decode cX2_moveCustody 66 = .ok (.getfield 80, 3) := by decide +kernel
theorem dX2_moveCustody_69 : decode cX2_moveCustody 69 = .ok (.iload_n 2, 1) := by decide +kernel
theorem dX2_moveCustody_70 : decode cX2_moveCustody 70 = .ok (.if_icmp .ne 11, 3) := by decide +kernel
theorem dX2_moveCustody_73 : decode cX2_moveCustody 73 = .ok (.aload_n 0, 1) := by decide +kernel
theorem dX2_moveCustody_74 : decode cX2_moveCustody 74 = .ok (.aload 4, 2) := by decide +kernel
theorem dX2_moveCustody_76 : decode cX2_moveCustody 76 = .ok (.iload_n 2, 1) := by decide +kernel
theorem dX2_moveCustody_77 : decode cX2_moveCustody 77 = .ok (.iload_n 1, 1) := by decide +kernel
theorem dX2_moveCustody_78 : decode cX2_moveCustody 78 = .ok (.invokevirtual 232, 3) := by decide +kernel
theorem dX2_moveCustody_81 : decode cX2_moveCustody 81 = .ok (.iinc 3 1, 3) := by decide +kernel
theorem dX2_moveCustody_84 : decode cX2_moveCustody 84 = .ok (.goto (-82), 3) := by decide +kernel
theorem dX2_moveCustody_87 : decode cX2_moveCustody 87 = .ok (.return_, 1) := by decide +kernel
set_option maxRecDepth 20000 in
theorem ggX2_moveCustodyIfNearer_X1_arrivalByNodes : GoodIn wsX2_moveCustodyIfNearer wsX1_arrivalByNodes := goodIn_r _ [9, 10, 11, 12, 13, 14, 8, 15, 16, 17, 18, 19, 20, 21, 22, 23, 24, 25, 26, 27, 28, 29, 30, 31, 32, 33, 34, 35, 36, 37, 56, 57, 58, 59, 60, 61, 62] (by decide +kernel) (by decide +kernel)
set_option maxRecDepth 20000 in
theorem gX2_moveCustodyIfNearer_X1_arrivalByNodes : GoodIn wsX2_moveCustodyIfNearer (wsV RX2 176 RX1 yX1_arrivalByNodes wsX1_arrivalByNodes) := goodIn_app (goodIn_of _ (by decide +kernel)) ggX2_moveCustodyIfNearer_X1_arrivalByNodes
theorem dX2_moveCustodyIfNearer_0 : decode cX2_moveCustodyIfNearer 0 = .ok (.aload_n 0, 1) := by decide +kernel
theorem dX2_moveCustodyIfNearer_1 : decode cX2_moveCustodyIfNearer 1 = .ok (.getfield 36, 3) := by decide +kernel
theorem dX2_moveCustodyIfNearer_4 : decode cX2_moveCustodyIfNearer 4 = .ok (.iload_n 3, 1) := by decide +kernel
theorem dX2_moveCustodyIfNearer_5 : decode cX2_moveCustodyIfNearer 5 = .ok (.aload_n 1, 1) := by decide +kernel
theorem dX2_moveCustodyIfNearer_6 : decode cX2_moveCustodyIfNearer 6 = .ok (.getfield 186, 3) := by decide +kernel
theorem dX2_moveCustodyIfNearer_9 : decode cX2_moveCustodyIfNearer 9 = .ok (.aload_n 0, 1) := by decide +kernel
theorem dX2_moveCustodyIfNearer_10 : decode cX2_moveCustodyIfNearer 10 = .ok (.getfield 7, 3) := by decide +kernel
theorem dX2_moveCustodyIfNearer_13 : decode cX2_moveCustodyIfNearer 13 = .ok (.invokevirtual 176, 3) := by decide +kernel
theorem dX2_moveCustodyIfNearer_16 : decode cX2_moveCustodyIfNearer 16 = .ok (.istore 4, 2) := by decide +kernel
theorem dX2_moveCustodyIfNearer_18 : decode cX2_moveCustodyIfNearer 18 = .ok (.aload_n 0, 1) := by decide +kernel
theorem dX2_moveCustodyIfNearer_19 : decode cX2_moveCustodyIfNearer 19 = .ok (.getfield 36, 3) := by decide +kernel
theorem dX2_moveCustodyIfNearer_22 : decode cX2_moveCustodyIfNearer 22 = .ok (.iload_n 2, 1) := by decide +kernel
theorem dX2_moveCustodyIfNearer_23 : decode cX2_moveCustodyIfNearer 23 = .ok (.aload_n 1, 1) := by decide +kernel
theorem dX2_moveCustodyIfNearer_24 : decode cX2_moveCustodyIfNearer 24 = .ok (.getfield 186, 3) := by decide +kernel
theorem dX2_moveCustodyIfNearer_27 : decode cX2_moveCustodyIfNearer 27 = .ok (.aload_n 0, 1) := by decide +kernel
theorem dX2_moveCustodyIfNearer_28 : decode cX2_moveCustodyIfNearer 28 = .ok (.getfield 7, 3) := by decide +kernel
theorem dX2_moveCustodyIfNearer_31 : decode cX2_moveCustodyIfNearer 31 = .ok (.invokevirtual 176, 3) := by decide +kernel
theorem dX2_moveCustodyIfNearer_34 : decode cX2_moveCustodyIfNearer 34 = .ok (.istore 5, 2) := by decide +kernel
theorem dX2_moveCustodyIfNearer_36 : decode cX2_moveCustodyIfNearer 36 = .ok (.iload 4, 2) := by decide +kernel
theorem dX2_moveCustodyIfNearer_38 : decode cX2_moveCustodyIfNearer 38 = .ok (.iload 5, 2) := by decide +kernel
theorem dX2_moveCustodyIfNearer_40 : decode cX2_moveCustodyIfNearer 40 = .ok (.if_icmp .ge 8, 3) := by decide +kernel
theorem dX2_moveCustodyIfNearer_43 : decode cX2_moveCustodyIfNearer 43 = .ok (.aload_n 1, 1) := by decide +kernel
theorem dX2_moveCustodyIfNearer_44 : decode cX2_moveCustodyIfNearer 44 = .ok (.iload_n 3, 1) := by decide +kernel
theorem dX2_moveCustodyIfNearer_45 : decode cX2_moveCustodyIfNearer 45 = .ok (.putfield 80, 3) := by decide +kernel
theorem dX2_moveCustodyIfNearer_48 : decode cX2_moveCustodyIfNearer 48 = .ok (.return_, 1) := by decide +kernel
end
section
theorem dX3_init_0 : decode cX3_init 0 = .ok (.aload_n 0, 1) := by decide +kernel
theorem dX3_init_1 : decode cX3_init 1 = .ok (.invokespecial 1, 3) := by decide +kernel
theorem dX3_init_4 : decode cX3_init 4 = .ok (.aload_n 0, 1) := by decide +kernel
theorem dX3_init_5 : decode cX3_init 5 = .ok (.bipush 40, 2) := by decide +kernel
theorem dX3_init_7 : decode cX3_init 7 = .ok (.newarray .int, 2) := by decide +kernel
theorem dX3_init_9 : decode cX3_init 9 = .ok (.putfield 7, 3) := by decide +kernel
theorem dX3_init_12 : decode cX3_init 12 = .ok (.aload_n 0, 1) := by decide +kernel
theorem dX3_init_13 : decode cX3_init 13 = .ok (.bipush 40, 2) := by decide +kernel
theorem dX3_init_15 : decode cX3_init 15 = .ok (.newarray .int, 2) := by decide +kernel
theorem dX3_init_17 : decode cX3_init 17 = .ok (.putfield 13, 3) := by decide +kernel
theorem dX3_init_20 : decode cX3_init 20 = .ok (.aload_n 0, 1) := by decide +kernel
theorem dX3_init_21 : decode cX3_init 21 = .ok (.bipush 40, 2) := by decide +kernel
theorem dX3_init_23 : decode cX3_init 23 = .ok (.newarray .int, 2) := by decide +kernel
theorem dX3_init_25 : decode cX3_init 25 = .ok (.putfield 16, 3) := by decide +kernel
theorem dX3_init_28 : decode cX3_init 28 = .ok (.aload_n 0, 1) := by decide +kernel
theorem dX3_init_29 : decode cX3_init 29 = .ok (.bipush 40, 2) := by decide +kernel
theorem dX3_init_31 : decode cX3_init 31 = .ok (.newarray .int, 2) := by decide +kernel
theorem dX3_init_33 : decode cX3_init 33 = .ok (.putfield 19, 3) := by decide +kernel
theorem dX3_init_36 : decode cX3_init 36 = .ok (.aload_n 0, 1) := by decide +kernel
theorem dX3_init_37 : decode cX3_init 37 = .ok (.bipush 40, 2) := by decide +kernel
theorem dX3_init_39 : decode cX3_init 39 = .ok (.newarray .int, 2) := by decide +kernel
theorem dX3_init_41 : decode cX3_init 41 = .ok (.putfield 22, 3) := by decide +kernel
theorem dX3_init_44 : decode cX3_init 44 = .ok (.aload_n 0, 1) := by decide +kernel
theorem dX3_init_45 : decode cX3_init 45 = .ok (.bipush 40, 2) := by decide +kernel
theorem dX3_init_47 : decode cX3_init 47 = .ok (.newarray .int, 2) := by decide +kernel
theorem dX3_init_49 : decode cX3_init 49 = .ok (.putfield 25, 3) := by decide +kernel
theorem dX3_init_52 : decode cX3_init 52 = .ok (.aload_n 0, 1) := by decide +kernel
theorem dX3_init_53 : decode cX3_init 53 = .ok (.sipush 320, 3) := by decide +kernel
theorem dX3_init_56 : decode cX3_init 56 = .ok (.newarray .int, 2) := by decide +kernel
theorem dX3_init_58 : decode cX3_init 58 = .ok (.putfield 28, 3) := by decide +kernel
theorem dX3_init_61 : decode cX3_init 61 = .ok (.aload_n 0, 1) := by decide +kernel
theorem dX3_init_62 : decode cX3_init 62 = .ok (.sipush 320, 3) := by decide +kernel
theorem dX3_init_65 : decode cX3_init 65 = .ok (.newarray .int, 2) := by decide +kernel
theorem dX3_init_67 : decode cX3_init 67 = .ok (.putfield 31, 3) := by decide +kernel
theorem dX3_init_70 : decode cX3_init 70 = .ok (.aload_n 0, 1) := by decide +kernel
theorem dX3_init_71 : decode cX3_init 71 = .ok (.sipush 320, 3) := by decide +kernel
theorem dX3_init_74 : decode cX3_init 74 = .ok (.newarray .int, 2) := by decide +kernel
theorem dX3_init_76 : decode cX3_init 76 = .ok (.putfield 34, 3) := by decide +kernel
theorem dX3_init_79 : decode cX3_init 79 = .ok (.aload_n 0, 1) := by decide +kernel
theorem dX3_init_80 : decode cX3_init 80 = .ok (.bipush 8, 2) := by decide +kernel
theorem dX3_init_82 : decode cX3_init 82 = .ok (.newarray .int, 2) := by decide +kernel
theorem dX3_init_84 : decode cX3_init 84 = .ok (.putfield 37, 3) := by decide +kernel
theorem dX3_init_87 : decode cX3_init 87 = .ok (.aload_n 0, 1) := by decide +kernel
theorem dX3_init_88 : decode cX3_init 88 = .ok (.bipush 8, 2) := by decide +kernel
theorem dX3_init_90 : decode cX3_init 90 = .ok (.newarray .int, 2) := by decide +kernel
theorem dX3_init_92 : decode cX3_init 92 = .ok (.putfield 40, 3) := by decide +kernel
theorem dX3_init_95 : decode cX3_init 95 = .ok (.aload_n 0, 1) := by decide +kernel
theorem dX3_init_96 : decode cX3_init 96 = .ok (.bipush 8, 2) := by decide +kernel
theorem dX3_init_98 : decode cX3_init 98 = .ok (.newarray .int, 2) := by decide +kernel
theorem dX3_init_100 : decode cX3_init 100 = .ok (.putfield 43, 3) := by decide +kernel
theorem dX3_init_103 : decode cX3_init 103 = .ok (.aload_n 0, 1) := by decide +kernel
theorem dX3_init_104 : decode cX3_init 104 = .ok (.bipush 120, 2) := by decide +kernel
theorem dX3_init_106 : decode cX3_init 106 = .ok (.newarray .int, 2) := by decide +kernel
theorem dX3_init_108 : decode cX3_init 108 = .ok (.putfield 46, 3) := by decide +kernel
theorem dX3_init_111 : decode cX3_init 111 = .ok (.aload_n 0, 1) := by decide +kernel
theorem dX3_init_112 : decode cX3_init 112 = .ok (.bipush 80, 2) := by decide +kernel
theorem dX3_init_114 : decode cX3_init 114 = .ok (.newarray .int, 2) := by decide +kernel
theorem dX3_init_116 : decode cX3_init 116 = .ok (.putfield 49, 3) := by decide +kernel
theorem dX3_init_119 : decode cX3_init 119 = .ok (.aload_n 0, 1) := by decide +kernel
theorem dX3_init_120 : decode cX3_init 120 = .ok (.bipush 80, 2) := by decide +kernel
theorem dX3_init_122 : decode cX3_init 122 = .ok (.newarray .int, 2) := by decide +kernel
theorem dX3_init_124 : decode cX3_init 124 = .ok (.putfield 52, 3) := by decide +kernel
theorem dX3_init_127 : decode cX3_init 127 = .ok (.aload_n 0, 1) := by decide +kernel
theorem dX3_init_128 : decode cX3_init 128 = .ok (.bipush 8, 2) := by decide +kernel
theorem dX3_init_130 : decode cX3_init 130 = .ok (.newarray .int, 2) := by decide +kernel
theorem dX3_init_132 : decode cX3_init 132 = .ok (.putfield 55, 3) := by decide +kernel
theorem dX3_init_135 : decode cX3_init 135 = .ok (.aload_n 0, 1) := by decide +kernel
theorem dX3_init_136 : decode cX3_init 136 = .ok (.bipush 8, 2) := by decide +kernel
theorem dX3_init_138 : decode cX3_init 138 = .ok (.newarray .int, 2) := by decide +kernel
theorem dX3_init_140 : decode cX3_init 140 = .ok (.putfield 58, 3) := by decide +kernel
theorem dX3_init_143 : decode cX3_init 143 = .ok (.iconst 0, 1) := by decide +kernel
theorem dX3_init_144 : decode cX3_init 144 = .ok (.istore_n 1, 1) := by decide +kernel
theorem dX3_init_145 : decode cX3_init 145 = .ok (.iload_n 1, 1) := by decide +kernel
theorem dX3_init_146 : decode cX3_init 146 = .ok (.bipush 8, 2) := by decide +kernel
theorem dX3_init_148 : decode cX3_init 148 = .ok (.if_icmp .ge 16, 3) := by decide +kernel
theorem dX3_init_151 : decode cX3_init 151 = .ok (.aload_n 0, 1) := by decide +kernel
theorem dX3_init_152 : decode cX3_init 152 = .ok (.getfield 37, 3) := by decide +kernel
theorem dX3_init_155 : decode cX3_init 155 = .ok (.iload_n 1, 1) := by decide +kernel
theorem dX3_init_156 : decode cX3_init 156 = .ok (.iconst 4, 1) := by decide +kernel
theorem dX3_init_157 : decode cX3_init 157 = .ok (.iastore, 1) := by decide +kernel
theorem dX3_init_158 : decode cX3_init 158 = .ok (.iinc 1 1, 3) := by decide +kernel
theorem dX3_init_161 : decode cX3_init 161 = .ok (.goto (-16), 3) := by decide +kernel
theorem dX3_init_164 : decode cX3_init 164 = .ok (.return_, 1) := by decide +kernel
theorem dX3_thrown_0 : decode cX3_thrown 0 = .ok (.aload_n 0, 1) := by decide +kernel
theorem dX3_thrown_1 : decode cX3_thrown 1 = .ok (.getfield 61, 3) := by decide +kernel
theorem dX3_thrown_4 : decode cX3_thrown 4 = .ok (.ireturn, 1) := by decide +kernel
theorem dX3_holds_0 : decode cX3_holds 0 = .ok (.aload_n 0, 1) := by decide +kernel
theorem dX3_holds_1 : decode cX3_holds 1 = .ok (.iload_n 1, 1) := by decide +kernel
theorem dX3_holds_2 : decode cX3_holds 2 = .ok (.putfield 61, 3) := by decide +kernel
theorem dX3_holds_5 : decode cX3_holds 5 = .ok (.iload_n 1, 1) := by decide +kernel
theorem dX3_holds_6 : decode cX3_holds 6 = .ok (.ifCond .le 7, 3) := by decide +kernel
theorem dX3_holds_9 : decode cX3_holds 9 = .ok (.iconst 1, 1) := by decide +kernel
theorem dX3_holds_10 : decode cX3_holds 10 = .ok (.goto 4, 3) := by decide +kernel
theorem dX3_holds_13 : decode cX3_holds 13 = .ok (.iconst 0, 1) := by decide +kernel
theorem dX3_holds_14 : decode cX3_holds 14 = .ok (.ireturn, 1) := by decide +kernel
theorem dX3_plain_0 : decode cX3_plain 0 = .ok (.aload_n 0, 1) := by decide +kernel
theorem dX3_plain_1 : decode cX3_plain 1 = .ok (.iconst 0, 1) := by decide +kernel
theorem dX3_plain_2 : decode cX3_plain 2 = .ok (.putfield 61, 3) := by decide +kernel
theorem dX3_plain_5 : decode cX3_plain 5 = .ok (.iload_n 1, 1) := by decide +kernel
theorem dX3_plain_6 : decode cX3_plain 6 = .ok (.ireturn, 1) := by decide +kernel
theorem dX3_between_0 : decode cX3_between 0 = .ok (.iload_n 1, 1) := by decide +kernel
theorem dX3_between_1 : decode cX3_between 1 = .ok (.iload_n 2, 1) := by decide +kernel
theorem dX3_between_2 : decode cX3_between 2 = .ok (.if_icmp .lt 12, 3) := by decide +kernel
theorem dX3_between_5 : decode cX3_between 5 = .ok (.iload_n 1, 1) := by decide +kernel
theorem dX3_between_6 : decode cX3_between 6 = .ok (.iload_n 3, 1) := by decide +kernel
theorem dX3_between_7 : decode cX3_between 7 = .ok (.if_icmp .gt 7, 3) := by decide +kernel
theorem dX3_between_10 : decode cX3_between 10 = .ok (.iconst 1, 1) := by decide +kernel
theorem dX3_between_11 : decode cX3_between 11 = .ok (.goto 4, 3) := by decide +kernel
theorem dX3_between_14 : decode cX3_between 14 = .ok (.iconst 0, 1) := by decide +kernel
theorem dX3_between_15 : decode cX3_between 15 = .ok (.ireturn, 1) := by decide +kernel
set_option maxRecDepth 20000 in
theorem ggX3_isNode_X3_between : GoodIn wsX3_isNode wsX3_between := goodIn_r _ [5] (by decide +kernel) (by decide +kernel)
set_option maxRecDepth 20000 in
theorem gX3_isNode_X3_between : GoodIn wsX3_isNode (wsV RX3 65 RX3 yX3_between wsX3_between) := goodIn_app (goodIn_of _ (by decide +kernel)) ggX3_isNode_X3_between
theorem dX3_isNode_0 : decode cX3_isNode 0 = .ok (.aload_n 0, 1) := by decide +kernel
theorem dX3_isNode_1 : decode cX3_isNode 1 = .ok (.iload_n 1, 1) := by decide +kernel
theorem dX3_isNode_2 : decode cX3_isNode 2 = .ok (.iconst 0, 1) := by decide +kernel
theorem dX3_isNode_3 : decode cX3_isNode 3 = .ok (.bipush 7, 2) := by decide +kernel
theorem dX3_isNode_5 : decode cX3_isNode 5 = .ok (.invokevirtual 65, 3) := by decide +kernel
theorem dX3_isNode_8 : decode cX3_isNode 8 = .ok (.ireturn, 1) := by decide +kernel
set_option maxRecDepth 20000 in
theorem ggX3_isBundle_X3_between : GoodIn wsX3_isBundle wsX3_between := goodIn_r _ [6] (by decide +kernel) (by decide +kernel)
set_option maxRecDepth 20000 in
theorem gX3_isBundle_X3_between : GoodIn wsX3_isBundle (wsV RX3 65 RX3 yX3_between wsX3_between) := goodIn_app (goodIn_of _ (by decide +kernel)) ggX3_isBundle_X3_between
theorem dX3_isBundle_0 : decode cX3_isBundle 0 = .ok (.aload_n 0, 1) := by decide +kernel
theorem dX3_isBundle_1 : decode cX3_isBundle 1 = .ok (.iload_n 1, 1) := by decide +kernel
theorem dX3_isBundle_2 : decode cX3_isBundle 2 = .ok (.iconst 0, 1) := by decide +kernel
theorem dX3_isBundle_3 : decode cX3_isBundle 3 = .ok (.aload_n 0, 1) := by decide +kernel
theorem dX3_isBundle_4 : decode cX3_isBundle 4 = .ok (.getfield 69, 3) := by decide +kernel
theorem dX3_isBundle_7 : decode cX3_isBundle 7 = .ok (.iconst 1, 1) := by decide +kernel
theorem dX3_isBundle_8 : decode cX3_isBundle 8 = .ok (.isub, 1) := by decide +kernel
theorem dX3_isBundle_9 : decode cX3_isBundle 9 = .ok (.invokevirtual 65, 3) := by decide +kernel
theorem dX3_isBundle_12 : decode cX3_isBundle 12 = .ok (.ireturn, 1) := by decide +kernel
theorem dX3_precedes_0 : decode cX3_precedes 0 = .ok (.aload_n 0, 1) := by decide +kernel
theorem dX3_precedes_1 : decode cX3_precedes 1 = .ok (.getfield 13, 3) := by decide +kernel
theorem dX3_precedes_4 : decode cX3_precedes 4 = .ok (.iload_n 1, 1) := by decide +kernel
theorem dX3_precedes_5 : decode cX3_precedes 5 = .ok (.iaload, 1) := by decide +kernel
theorem dX3_precedes_6 : decode cX3_precedes 6 = .ok (.aload_n 0, 1) := by decide +kernel
theorem dX3_precedes_7 : decode cX3_precedes 7 = .ok (.getfield 13, 3) := by decide +kernel
theorem dX3_precedes_10 : decode cX3_precedes 10 = .ok (.iload_n 2, 1) := by decide +kernel
theorem dX3_precedes_11 : decode cX3_precedes 11 = .ok (.iaload, 1) := by decide +kernel
theorem dX3_precedes_12 : decode cX3_precedes 12 = .ok (.if_icmp .eq 24, 3) := by decide +kernel
theorem dX3_precedes_15 : decode cX3_precedes 15 = .ok (.aload_n 0, 1) := by decide +kernel
theorem dX3_precedes_16 : decode cX3_precedes 16 = .ok (.getfield 13, 3) := by decide +kernel
theorem dX3_precedes_19 : decode cX3_precedes 19 = .ok (.iload_n 1, 1) := by decide +kernel
theorem dX3_precedes_20 : decode cX3_precedes 20 = .ok (.iaload, 1) := by decide +kernel
theorem dX3_precedes_21 : decode cX3_precedes 21 = .ok (.aload_n 0, 1) := by decide +kernel
theorem dX3_precedes_22 : decode cX3_precedes 22 = .ok (.getfield 13, 3) := by decide +kernel
theorem dX3_precedes_25 : decode cX3_precedes 25 = .ok (.iload_n 2, 1) := by decide +kernel
theorem dX3_precedes_26 : decode cX3_precedes 26 = .ok (.iaload, 1) := by decide +kernel
theorem dX3_precedes_27 : decode cX3_precedes 27 = .ok (.if_icmp .le 7, 3) := by decide +kernel
theorem dX3_precedes_30 : decode cX3_precedes 30 = .ok (.iconst 1, 1) := by decide +kernel
theorem dX3_precedes_31 : decode cX3_precedes 31 = .ok (.goto 4, 3) := by decide +kernel
theorem dX3_precedes_34 : decode cX3_precedes 34 = .ok (.iconst 0, 1) := by decide +kernel
theorem dX3_precedes_35 : decode cX3_precedes 35 = .ok (.ireturn, 1) := by decide +kernel
theorem dX3_precedes_36 : decode cX3_precedes 36 = .ok (.aload_n 0, 1) := by decide +kernel
theorem dX3_precedes_37 : decode cX3_precedes 37 = .ok (.getfield 16, 3) := by decide +kernel
theorem dX3_precedes_40 : decode cX3_precedes 40 = .ok (.iload_n 1, 1) := by decide +kernel
theorem dX3_precedes_41 : decode cX3_precedes 41 = .ok (.iaload, 1) := by decide +kernel
theorem dX3_precedes_42 : decode cX3_precedes 42 = .ok (.aload_n 0, 1) := by decide +kernel
theorem dX3_precedes_43 : decode cX3_precedes 43 = .ok (.getfield 16, 3) := by decide +kernel
theorem dX3_precedes_46 : decode cX3_precedes 46 = .ok (.iload_n 2, 1) := by decide +kernel
theorem dX3_precedes_47 : decode cX3_precedes 47 = .ok (.iaload, 1) := by decide +kernel
theorem dX3_precedes_48 : decode cX3_precedes 48 = .ok (.if_icmp .ne 16, 3) := by decide +kernel
theorem dX3_precedes_51 : decode cX3_precedes 51 = .ok (.iload_n 1, 1) := by decide +kernel
theorem dX3_precedes_52 : decode cX3_precedes 52 = .ok (.iload_n 2, 1) := by decide +kernel
theorem dX3_precedes_53 : decode cX3_precedes 53 = .ok (.if_icmp .ge 7, 3) := by decide +kernel
theorem dX3_precedes_56 : decode cX3_precedes 56 = .ok (.iconst 1, 1) := by decide +kernel
theorem dX3_precedes_57 : decode cX3_precedes 57 = .ok (.goto 27, 3) := by decide +kernel
theorem dX3_precedes_60 : decode cX3_precedes 60 = .ok (.iconst 0, 1) := by decide +kernel
theorem dX3_precedes_61 : decode cX3_precedes 61 = .ok (.goto 23, 3) := by decide +kernel
theorem dX3_precedes_64 : decode cX3_precedes 64 = .ok (.aload_n 0, 1) := by decide +kernel
theorem dX3_precedes_65 : decode cX3_precedes 65 = .ok (.getfield 16, 3) := by decide +kernel
theorem dX3_precedes_68 : decode cX3_precedes 68 = .ok (.iload_n 1, 1) := by decide +kernel
theorem dX3_precedes_69 : decode cX3_precedes 69 = .ok (.iaload, 1) := by decide +kernel
theorem dX3_precedes_70 : decode cX3_precedes 70 = .ok (.aload_n 0, 1) := by decide +kernel
theorem dX3_precedes_71 : decode cX3_precedes 71 = .ok (.getfield 16, 3) := by decide +kernel
theorem dX3_precedes_74 : decode cX3_precedes 74 = .ok (.iload_n 2, 1) := by decide +kernel
theorem dX3_precedes_75 : decode cX3_precedes 75 = .ok (.iaload, 1) := by decide +kernel
theorem dX3_precedes_76 : decode cX3_precedes 76 = .ok (.if_icmp .ge 7, 3) := by decide +kernel
theorem dX3_precedes_79 : decode cX3_precedes 79 = .ok (.iconst 1, 1) := by decide +kernel
theorem dX3_precedes_80 : decode cX3_precedes 80 = .ok (.goto 4, 3) := by decide +kernel
theorem dX3_precedes_83 : decode cX3_precedes 83 = .ok (.iconst 0, 1) := by decide +kernel
theorem dX3_precedes_84 : decode cX3_precedes 84 = .ok (.ireturn, 1) := by decide +kernel
theorem dX3_load_0 : decode cX3_load 0 = .ok (.iconst 0, 1) := by decide +kernel
theorem dX3_load_1 : decode cX3_load 1 = .ok (.istore_n 2, 1) := by decide +kernel
theorem dX3_load_2 : decode cX3_load 2 = .ok (.iconst 0, 1) := by decide +kernel
theorem dX3_load_3 : decode cX3_load 3 = .ok (.istore_n 3, 1) := by decide +kernel
theorem dX3_load_4 : decode cX3_load 4 = .ok (.iload_n 3, 1) := by decide +kernel
theorem dX3_load_5 : decode cX3_load 5 = .ok (.aload_n 0, 1) := by decide +kernel
theorem dX3_load_6 : decode cX3_load 6 = .ok (.getfield 69, 3) := by decide +kernel
theorem dX3_load_9 : decode cX3_load 9 = .ok (.if_icmp .ge 31, 3) := by decide +kernel
theorem dX3_load_12 : decode cX3_load 12 = .ok (.iload_n 2, 1) := by decide +kernel
theorem dX3_load_13 : decode cX3_load 13 = .ok (.aload_n 0, 1) := by decide +kernel
theorem dX3_load_14 : decode cX3_load 14 = .ok (.getfield 28, 3) := by decide +kernel
theorem dX3_load_17 : decode cX3_load 17 = .ok (.bipush 40, 2) := by decide +kernel
theorem dX3_load_19 : decode cX3_load 19 = .ok (.iload_n 1, 1) := by decide +kernel
theorem dX3_load_20 : decode cX3_load 20 = .ok (.imul, 1) := by decide +kernel
theorem dX3_load_21 : decode cX3_load 21 = .ok (.iload_n 3, 1) := by decide +kernel
theorem dX3_load_22 : decode cX3_load 22 = .ok (.iadd, 1) := by decide +kernel
theorem dX3_load_23 : decode cX3_load 23 = .ok (.iaload, 1) := by decide +kernel
theorem dX3_load_24 : decode cX3_load 24 = .ok (.ifCond .le 7, 3) := by decide +kernel
theorem dX3_load_27 : decode cX3_load 27 = .ok (.iconst 1, 1) := by decide +kernel
theorem dX3_load_28 : decode cX3_load 28 = .ok (.goto 4, 3) := by decide +kernel
theorem dX3_load_31 : decode cX3_load 31 = .ok (.iconst 0, 1) := by decide +kernel
theorem dX3_load_32 : decode cX3_load 32 = .ok (.iadd, 1) := by decide +kernel
theorem dX3_load_33 : decode cX3_load 33 = .ok (.istore_n 2, 1) := by decide +kernel
theorem dX3_load_34 : decode cX3_load 34 = .ok (.iinc 3 1, 3) := by decide +kernel
theorem dX3_load_37 : decode cX3_load 37 = .ok (.goto (-33), 3) := by decide +kernel
theorem dX3_load_40 : decode cX3_load 40 = .ok (.iload_n 2, 1) := by decide +kernel
theorem dX3_load_41 : decode cX3_load 41 = .ok (.ireturn, 1) := by decide +kernel
set_option maxRecDepth 20000 in
theorem ggX3_last_X3_precedes : GoodIn wsX3_last wsX3_precedes := goodIn_r _ [8, 9, 10, 11, 12, 13, 14, 15, 16, 17, 18, 19, 20, 21, 22, 23, 24, 25, 26, 27, 28, 29, 30, 31] (by decide +kernel) (by decide +kernel)
set_option maxRecDepth 20000 in
theorem gX3_last_X3_precedes : GoodIn wsX3_last (wsV RX3 72 RX3 yX3_precedes wsX3_precedes) := goodIn_app (goodIn_of _ (by decide +kernel)) ggX3_last_X3_precedes
theorem dX3_last_0 : decode cX3_last 0 = .ok (.iconst (-1), 1) := by decide +kernel
theorem dX3_last_1 : decode cX3_last 1 = .ok (.istore_n 2, 1) := by decide +kernel
theorem dX3_last_2 : decode cX3_last 2 = .ok (.iconst 0, 1) := by decide +kernel
theorem dX3_last_3 : decode cX3_last 3 = .ok (.istore_n 3, 1) := by decide +kernel
theorem dX3_last_4 : decode cX3_last 4 = .ok (.iload_n 3, 1) := by decide +kernel
theorem dX3_last_5 : decode cX3_last 5 = .ok (.aload_n 0, 1) := by decide +kernel
theorem dX3_last_6 : decode cX3_last 6 = .ok (.getfield 69, 3) := by decide +kernel
theorem dX3_last_9 : decode cX3_last 9 = .ok (.if_icmp .ge 48, 3) := by decide +kernel
theorem dX3_last_12 : decode cX3_last 12 = .ok (.aload_n 0, 1) := by decide +kernel
theorem dX3_last_13 : decode cX3_last 13 = .ok (.getfield 28, 3) := by decide +kernel
theorem dX3_last_16 : decode cX3_last 16 = .ok (.bipush 40, 2) := by decide +kernel
theorem dX3_last_18 : decode cX3_last 18 = .ok (.iload_n 1, 1) := by decide +kernel
theorem dX3_last_19 : decode cX3_last 19 = .ok (.imul, 1) := by decide +kernel
theorem dX3_last_20 : decode cX3_last 20 = .ok (.iload_n 3, 1) := by decide +kernel
theorem dX3_last_21 : decode cX3_last 21 = .ok (.iadd, 1) := by decide +kernel
theorem dX3_last_22 : decode cX3_last 22 = .ok (.iaload, 1) := by decide +kernel
theorem dX3_last_23 : decode cX3_last 23 = .ok (.ifCond .le 28, 3) := by decide +kernel
theorem dX3_last_26 : decode cX3_last 26 = .ok (.aload_n 0, 1) := by decide +kernel
theorem dX3_last_27 : decode cX3_last 27 = .ok (.getfield 19, 3) := by decide +kernel
theorem dX3_last_30 : decode cX3_last 30 = .ok (.iload_n 3, 1) := by decide +kernel
theorem dX3_last_31 : decode cX3_last 31 = .ok (.iaload, 1) := by decide +kernel
theorem dX3_last_32 : decode cX3_last 32 = .ok (.iload_n 1, 1) := by decide +kernel
theorem dX3_last_33 : decode cX3_last 33 = .ok (.if_icmp .eq 18, 3) := by decide +kernel
theorem dX3_last_36 : decode cX3_last 36 = .ok (.iload_n 2, 1) := by decide +kernel
theorem dX3_last_37 : decode cX3_last 37 = .ok (.ifCond .lt 12, 3) := by decide +kernel
theorem dX3_last_40 : decode cX3_last 40 = .ok (.aload_n 0, 1) := by decide +kernel
theorem dX3_last_41 : decode cX3_last 41 = .ok (.iload_n 2, 1) := by decide +kernel
theorem dX3_last_42 : decode cX3_last 42 = .ok (.iload_n 3, 1) := by decide +kernel
theorem dX3_last_43 : decode cX3_last 43 = .ok (.invokevirtual 72, 3) := by decide +kernel
theorem dX3_last_46 : decode cX3_last 46 = .ok (.ifCond .eq 5, 3) := by decide +kernel
theorem dX3_last_49 : decode cX3_last 49 = .ok (.iload_n 3, 1) := by decide +kernel
theorem dX3_last_50 : decode cX3_last 50 = .ok (.istore_n 2, 1) := by decide +kernel
theorem dX3_last_51 : decode cX3_last 51 = .ok (.iinc 3 1, 3) := by decide +kernel
theorem dX3_last_54 : decode cX3_last 54 = .ok (.goto (-50), 3) := by decide +kernel
theorem dX3_last_57 : decode cX3_last 57 = .ok (.iload_n 2, 1) := by decide +kernel
theorem dX3_last_58 : decode cX3_last 58 = .ok (.ireturn, 1) := by decide +kernel
set_option maxRecDepth 20000 in
theorem ggX3_hasRoom_X3_load : GoodIn wsX3_hasRoom wsX3_load := goodIn_r _ [9, 10, 3, 21, 22, 23, 24, 25, 26, 27, 28, 29, 30, 31, 32, 33, 34, 35, 36, 37, 38, 39, 40, 41] (by decide +kernel) (by decide +kernel)
set_option maxRecDepth 20000 in
theorem gX3_hasRoom_X3_load : GoodIn wsX3_hasRoom (wsV RX3 76 RX3 yX3_load wsX3_load) := goodIn_app (goodIn_of _ (by decide +kernel)) ggX3_hasRoom_X3_load
set_option maxRecDepth 20000 in
theorem ggX3_hasRoom_X3_last : GoodIn wsX3_hasRoom wsX3_last := goodIn_r _ [14, 10, 3, 15, 16, 17, 18, 8, 19, 2, 20, 21, 22, 23, 24, 25, 26, 27, 28, 29, 30, 31, 32, 33, 34, 35, 36, 37, 38, 39, 40, 41] (by decide +kernel) (by decide +kernel)
set_option maxRecDepth 20000 in
theorem gX3_hasRoom_X3_last : GoodIn wsX3_hasRoom (wsV RX3 80 RX3 yX3_last wsX3_last) := goodIn_app (goodIn_of _ (by decide +kernel)) ggX3_hasRoom_X3_last
theorem dX3_hasRoom_0 : decode cX3_hasRoom 0 = .ok (.aload_n 0, 1) := by decide +kernel
theorem dX3_hasRoom_1 : decode cX3_hasRoom 1 = .ok (.iload_n 1, 1) := by decide +kernel
theorem dX3_hasRoom_2 : decode cX3_hasRoom 2 = .ok (.invokevirtual 76, 3) := by decide +kernel
theorem dX3_hasRoom_5 : decode cX3_hasRoom 5 = .ok (.aload_n 0, 1) := by decide +kernel
theorem dX3_hasRoom_6 : decode cX3_hasRoom 6 = .ok (.getfield 37, 3) := by decide +kernel
theorem dX3_hasRoom_9 : decode cX3_hasRoom 9 = .ok (.iload_n 1, 1) := by decide +kernel
theorem dX3_hasRoom_10 : decode cX3_hasRoom 10 = .ok (.iaload, 1) := by decide +kernel
theorem dX3_hasRoom_11 : decode cX3_hasRoom 11 = .ok (.if_icmp .ge 5, 3) := by decide +kernel
theorem dX3_hasRoom_14 : decode cX3_hasRoom 14 = .ok (.iconst 1, 1) := by decide +kernel
theorem dX3_hasRoom_15 : decode cX3_hasRoom 15 = .ok (.ireturn, 1) := by decide +kernel
theorem dX3_hasRoom_16 : decode cX3_hasRoom 16 = .ok (.aload_n 0, 1) := by decide +kernel
theorem dX3_hasRoom_17 : decode cX3_hasRoom 17 = .ok (.iload_n 1, 1) := by decide +kernel
theorem dX3_hasRoom_18 : decode cX3_hasRoom 18 = .ok (.invokevirtual 80, 3) := by decide +kernel
theorem dX3_hasRoom_21 : decode cX3_hasRoom 21 = .ok (.istore_n 3, 1) := by decide +kernel
theorem dX3_hasRoom_22 : decode cX3_hasRoom 22 = .ok (.iload_n 3, 1) := by decide +kernel
theorem dX3_hasRoom_23 : decode cX3_hasRoom 23 = .ok (.ifCond .lt 13, 3) := by decide +kernel
theorem dX3_hasRoom_26 : decode cX3_hasRoom 26 = .ok (.aload_n 0, 1) := by decide +kernel
theorem dX3_hasRoom_27 : decode cX3_hasRoom 27 = .ok (.getfield 13, 3) := by decide +kernel
theorem dX3_hasRoom_30 : decode cX3_hasRoom 30 = .ok (.iload_n 3, 1) := by decide +kernel
theorem dX3_hasRoom_31 : decode cX3_hasRoom 31 = .ok (.iaload, 1) := by decide +kernel
theorem dX3_hasRoom_32 : decode cX3_hasRoom 32 = .ok (.iload_n 2, 1) := by decide +kernel
theorem dX3_hasRoom_33 : decode cX3_hasRoom 33 = .ok (.if_icmp .lt 5, 3) := by decide +kernel
theorem dX3_hasRoom_36 : decode cX3_hasRoom 36 = .ok (.iconst 0, 1) := by decide +kernel
theorem dX3_hasRoom_37 : decode cX3_hasRoom 37 = .ok (.ireturn, 1) := by decide +kernel
theorem dX3_hasRoom_38 : decode cX3_hasRoom 38 = .ok (.aload_n 0, 1) := by decide +kernel
theorem dX3_hasRoom_39 : decode cX3_hasRoom 39 = .ok (.getfield 28, 3) := by decide +kernel
theorem dX3_hasRoom_42 : decode cX3_hasRoom 42 = .ok (.bipush 40, 2) := by decide +kernel
theorem dX3_hasRoom_44 : decode cX3_hasRoom 44 = .ok (.iload_n 1, 1) := by decide +kernel
theorem dX3_hasRoom_45 : decode cX3_hasRoom 45 = .ok (.imul, 1) := by decide +kernel
theorem dX3_hasRoom_46 : decode cX3_hasRoom 46 = .ok (.iload_n 3, 1) := by decide +kernel
theorem dX3_hasRoom_47 : decode cX3_hasRoom 47 = .ok (.iadd, 1) := by decide +kernel
theorem dX3_hasRoom_48 : decode cX3_hasRoom 48 = .ok (.iconst 0, 1) := by decide +kernel
theorem dX3_hasRoom_49 : decode cX3_hasRoom 49 = .ok (.iastore, 1) := by decide +kernel
theorem dX3_hasRoom_50 : decode cX3_hasRoom 50 = .ok (.aload_n 0, 1) := by decide +kernel
theorem dX3_hasRoom_51 : decode cX3_hasRoom 51 = .ok (.getfield 40, 3) := by decide +kernel
theorem dX3_hasRoom_54 : decode cX3_hasRoom 54 = .ok (.iload_n 1, 1) := by decide +kernel
theorem dX3_hasRoom_55 : decode cX3_hasRoom 55 = .ok (.dup2, 1) := by decide +kernel
theorem dX3_hasRoom_56 : decode cX3_hasRoom 56 = .ok (.iaload, 1) := by decide +kernel
theorem dX3_hasRoom_57 : decode cX3_hasRoom 57 = .ok (.iconst 1, 1) := by decide +kernel
theorem dX3_hasRoom_58 : decode cX3_hasRoom 58 = .ok (.iadd, 1) := by decide +kernel
theorem dX3_hasRoom_59 : decode cX3_hasRoom 59 = .ok (.iastore, 1) := by decide +kernel
theorem dX3_hasRoom_60 : decode cX3_hasRoom 60 = .ok (.iconst 1, 1) := by decide +kernel
theorem dX3_hasRoom_61 : decode cX3_hasRoom 61 = .ok (.ireturn, 1) := by decide +kernel
theorem dX3_learn_0 : decode cX3_learn 0 = .ok (.aload_n 0, 1) := by decide +kernel
theorem dX3_learn_1 : decode cX3_learn 1 = .ok (.getfield 34, 3) := by decide +kernel
theorem dX3_learn_4 : decode cX3_learn 4 = .ok (.bipush 40, 2) := by decide +kernel
theorem dX3_learn_6 : decode cX3_learn 6 = .ok (.iload_n 1, 1) := by decide +kernel
theorem dX3_learn_7 : decode cX3_learn 7 = .ok (.imul, 1) := by decide +kernel
theorem dX3_learn_8 : decode cX3_learn 8 = .ok (.iload_n 2, 1) := by decide +kernel
theorem dX3_learn_9 : decode cX3_learn 9 = .ok (.iadd, 1) := by decide +kernel
theorem dX3_learn_10 : decode cX3_learn 10 = .ok (.iconst 1, 1) := by decide +kernel
theorem dX3_learn_11 : decode cX3_learn 11 = .ok (.iastore, 1) := by decide +kernel
theorem dX3_learn_12 : decode cX3_learn 12 = .ok (.aload_n 0, 1) := by decide +kernel
theorem dX3_learn_13 : decode cX3_learn 13 = .ok (.getfield 28, 3) := by decide +kernel
theorem dX3_learn_16 : decode cX3_learn 16 = .ok (.bipush 40, 2) := by decide +kernel
theorem dX3_learn_18 : decode cX3_learn 18 = .ok (.iload_n 1, 1) := by decide +kernel
theorem dX3_learn_19 : decode cX3_learn 19 = .ok (.imul, 1) := by decide +kernel
theorem dX3_learn_20 : decode cX3_learn 20 = .ok (.iload_n 2, 1) := by decide +kernel
theorem dX3_learn_21 : decode cX3_learn 21 = .ok (.iadd, 1) := by decide +kernel
theorem dX3_learn_22 : decode cX3_learn 22 = .ok (.iconst 0, 1) := by decide +kernel
theorem dX3_learn_23 : decode cX3_learn 23 = .ok (.iastore, 1) := by decide +kernel
theorem dX3_learn_24 : decode cX3_learn 24 = .ok (.aload_n 0, 1) := by decide +kernel
theorem dX3_learn_25 : decode cX3_learn 25 = .ok (.getfield 19, 3) := by decide +kernel
theorem dX3_learn_28 : decode cX3_learn 28 = .ok (.iload_n 2, 1) := by decide +kernel
theorem dX3_learn_29 : decode cX3_learn 29 = .ok (.iaload, 1) := by decide +kernel
theorem dX3_learn_30 : decode cX3_learn 30 = .ok (.iload_n 1, 1) := by decide +kernel
theorem dX3_learn_31 : decode cX3_learn 31 = .ok (.if_icmp .ne 10, 3) := by decide +kernel
theorem dX3_learn_34 : decode cX3_learn 34 = .ok (.aload_n 0, 1) := by decide +kernel
theorem dX3_learn_35 : decode cX3_learn 35 = .ok (.getfield 19, 3) := by decide +kernel
theorem dX3_learn_38 : decode cX3_learn 38 = .ok (.iload_n 2, 1) := by decide +kernel
theorem dX3_learn_39 : decode cX3_learn 39 = .ok (.iconst (-1), 1) := by decide +kernel
theorem dX3_learn_40 : decode cX3_learn 40 = .ok (.iastore, 1) := by decide +kernel
theorem dX3_learn_41 : decode cX3_learn 41 = .ok (.return_, 1) := by decide +kernel
set_option maxRecDepth 20000 in
theorem ggX3_send_X3_between : GoodIn wsX3_send wsX3_between := goodIn_r _ [13] (by decide +kernel) (by decide +kernel)
set_option maxRecDepth 20000 in
theorem gX3_send_X3_between : GoodIn wsX3_send (wsV RX3 65 RX3 yX3_between wsX3_between) := goodIn_app (goodIn_of _ (by decide +kernel)) ggX3_send_X3_between
set_option maxRecDepth 20000 in
theorem ggX3_send_X3_isNode : GoodIn wsX3_send wsX3_isNode := goodIn_r _ [17, 9, 10, 11, 12, 13] (by decide +kernel) (by decide +kernel)
set_option maxRecDepth 20000 in
theorem gX3_send_X3_isNode : GoodIn wsX3_send (wsV RX3 83 RX3 yX3_isNode wsX3_isNode) := goodIn_app (goodIn_of _ (by decide +kernel)) ggX3_send_X3_isNode
set_option maxRecDepth 20000 in
theorem ggX3_send_X3_holds : GoodIn wsX3_send wsX3_holds := goodIn_r _ [21, 22, 41, 42, 43, 44, 45, 46, 47, 48, 49, 50, 51, 52, 53, 54, 55, 56, 57, 58, 59, 60, 61] (by decide +kernel) (by decide +kernel)
set_option maxRecDepth 20000 in
theorem gX3_send_X3_holds : GoodIn wsX3_send (wsV RX3 87 RX3 yX3_holds wsX3_holds) := goodIn_app (goodIn_of _ (by decide +kernel)) ggX3_send_X3_holds
set_option maxRecDepth 20000 in
theorem ggX3_send_X3_hasRoom : GoodIn wsX3_send wsX3_hasRoom := goodIn_r _ [26, 27, 3, 8, 28, 29, 30, 31, 12, 32, 1, 33, 34, 35, 36, 6, 37, 38, 39, 40, 4, 41, 42, 43, 44, 45, 46, 47, 48, 49, 50, 51, 52, 53, 54, 55, 56, 57, 58, 59, 60, 61] (by decide +kernel) (by decide +kernel)
set_option maxRecDepth 20000 in
theorem gX3_send_X3_hasRoom : GoodIn wsX3_send (wsV RX3 90 RX3 yX3_hasRoom wsX3_hasRoom) := goodIn_app (goodIn_of _ (by decide +kernel)) ggX3_send_X3_hasRoom
theorem dX3_send_0 : decode cX3_send 0 = .ok (.iload_n 1, 1) := by decide +kernel
theorem dX3_send_1 : decode cX3_send 1 = .ok (.iload_n 2, 1) := by decide +kernel
theorem dX3_send_2 : decode cX3_send 2 = .ok (.if_icmp .eq 42, 3) := by decide +kernel
theorem dX3_send_5 : decode cX3_send 5 = .ok (.aload_n 0, 1) := by decide +kernel
theorem dX3_send_6 : decode cX3_send 6 = .ok (.iload_n 3, 1) := by decide +kernel
theorem dX3_send_7 : decode cX3_send 7 = .ok (.iconst 0, 1) := by decide +kernel
theorem dX3_send_8 : decode cX3_send 8 = .ok (.iconst 2, 1) := by decide +kernel
theorem dX3_send_9 : decode cX3_send 9 = .ok (.invokevirtual 65, 3) := by decide +kernel
theorem dX3_send_12 : decode cX3_send 12 = .ok (.ifCond .eq 32, 3) := by decide +kernel
theorem dX3_send_15 : decode cX3_send 15 = .ok (.aload_n 0, 1) := by decide +kernel
theorem dX3_send_16 : decode cX3_send 16 = .ok (.iload 4, 2) := by decide +kernel
theorem dX3_send_18 : decode cX3_send 18 = .ok (.iconst 1, 1) := by decide +kernel
theorem dX3_send_19 : decode cX3_send 19 = .ok (.bipush 64, 2) := by decide +kernel
theorem dX3_send_21 : decode cX3_send 21 = .ok (.invokevirtual 65, 3) := by decide +kernel
theorem dX3_send_24 : decode cX3_send 24 = .ok (.ifCond .eq 20, 3) := by decide +kernel
theorem dX3_send_27 : decode cX3_send 27 = .ok (.aload_n 0, 1) := by decide +kernel
theorem dX3_send_28 : decode cX3_send 28 = .ok (.iload 5, 2) := by decide +kernel
theorem dX3_send_30 : decode cX3_send 30 = .ok (.iconst 1, 1) := by decide +kernel
theorem dX3_send_31 : decode cX3_send 31 = .ok (.sipush 10000, 3) := by decide +kernel
theorem dX3_send_34 : decode cX3_send 34 = .ok (.invokevirtual 65, 3) := by decide +kernel
theorem dX3_send_37 : decode cX3_send 37 = .ok (.ifCond .eq 7, 3) := by decide +kernel
theorem dX3_send_40 : decode cX3_send 40 = .ok (.iconst 1, 1) := by decide +kernel
theorem dX3_send_41 : decode cX3_send 41 = .ok (.goto 4, 3) := by decide +kernel
theorem dX3_send_44 : decode cX3_send 44 = .ok (.iconst 0, 1) := by decide +kernel
theorem dX3_send_45 : decode cX3_send 45 = .ok (.istore 6, 2) := by decide +kernel
theorem dX3_send_47 : decode cX3_send 47 = .ok (.aload_n 0, 1) := by decide +kernel
theorem dX3_send_48 : decode cX3_send 48 = .ok (.aload_n 0, 1) := by decide +kernel
theorem dX3_send_49 : decode cX3_send 49 = .ok (.iload_n 1, 1) := by decide +kernel
theorem dX3_send_50 : decode cX3_send 50 = .ok (.invokevirtual 83, 3) := by decide +kernel
theorem dX3_send_53 : decode cX3_send 53 = .ok (.ifCond .eq 11, 3) := by decide +kernel
theorem dX3_send_56 : decode cX3_send 56 = .ok (.aload_n 0, 1) := by decide +kernel
theorem dX3_send_57 : decode cX3_send 57 = .ok (.iload_n 2, 1) := by decide +kernel
theorem dX3_send_58 : decode cX3_send 58 = .ok (.invokevirtual 83, 3) := by decide +kernel
theorem dX3_send_61 : decode cX3_send 61 = .ok (.ifCond .ne 7, 3) := by decide +kernel
theorem dX3_send_64 : decode cX3_send 64 = .ok (.iconst 1, 1) := by decide +kernel
theorem dX3_send_65 : decode cX3_send 65 = .ok (.goto 26, 3) := by decide +kernel
theorem dX3_send_68 : decode cX3_send 68 = .ok (.iload 6, 2) := by decide +kernel
theorem dX3_send_70 : decode cX3_send 70 = .ok (.ifCond .ne 7, 3) := by decide +kernel
theorem dX3_send_73 : decode cX3_send 73 = .ok (.iconst 2, 1) := by decide +kernel
theorem dX3_send_74 : decode cX3_send 74 = .ok (.goto 17, 3) := by decide +kernel
theorem dX3_send_77 : decode cX3_send 77 = .ok (.aload_n 0, 1) := by decide +kernel
theorem dX3_send_78 : decode cX3_send 78 = .ok (.getfield 69, 3) := by decide +kernel
theorem dX3_send_81 : decode cX3_send 81 = .ok (.bipush 40, 2) := by decide +kernel
theorem dX3_send_83 : decode cX3_send 83 = .ok (.if_icmp .ne 7, 3) := by decide +kernel
theorem dX3_send_86 : decode cX3_send 86 = .ok (.iconst 3, 1) := by decide +kernel
theorem dX3_send_87 : decode cX3_send 87 = .ok (.goto 4, 3) := by decide +kernel
theorem dX3_send_90 : decode cX3_send 90 = .ok (.iconst 0, 1) := by decide +kernel
theorem dX3_send_91 : decode cX3_send 91 = .ok (.invokevirtual 87, 3) := by decide +kernel
theorem dX3_send_94 : decode cX3_send 94 = .ok (.ifCond .eq 5, 3) := by decide +kernel
theorem dX3_send_97 : decode cX3_send 97 = .ok (.iconst (-1), 1) := by decide +kernel
theorem dX3_send_98 : decode cX3_send 98 = .ok (.ireturn, 1) := by decide +kernel
theorem dX3_send_99 : decode cX3_send 99 = .ok (.aload_n 0, 1) := by decide +kernel
theorem dX3_send_100 : decode cX3_send 100 = .ok (.aload_n 0, 1) := by decide +kernel
theorem dX3_send_101 : decode cX3_send 101 = .ok (.iload_n 1, 1) := by decide +kernel
theorem dX3_send_102 : decode cX3_send 102 = .ok (.iload_n 3, 1) := by decide +kernel
theorem dX3_send_103 : decode cX3_send 103 = .ok (.invokevirtual 90, 3) := by decide +kernel
theorem dX3_send_106 : decode cX3_send 106 = .ok (.ifCond .eq 7, 3) := by decide +kernel
theorem dX3_send_109 : decode cX3_send 109 = .ok (.iconst 0, 1) := by decide +kernel
theorem dX3_send_110 : decode cX3_send 110 = .ok (.goto 4, 3) := by decide +kernel
theorem dX3_send_113 : decode cX3_send 113 = .ok (.iconst 3, 1) := by decide +kernel
theorem dX3_send_114 : decode cX3_send 114 = .ok (.invokevirtual 87, 3) := by decide +kernel
theorem dX3_send_117 : decode cX3_send 117 = .ok (.ifCond .eq 5, 3) := by decide +kernel
theorem dX3_send_120 : decode cX3_send 120 = .ok (.iconst (-1), 1) := by decide +kernel
theorem dX3_send_121 : decode cX3_send 121 = .ok (.ireturn, 1) := by decide +kernel
theorem dX3_send_122 : decode cX3_send 122 = .ok (.aload_n 0, 1) := by decide +kernel
theorem dX3_send_123 : decode cX3_send 123 = .ok (.getfield 7, 3) := by decide +kernel
theorem dX3_send_126 : decode cX3_send 126 = .ok (.aload_n 0, 1) := by decide +kernel
theorem dX3_send_127 : decode cX3_send 127 = .ok (.getfield 69, 3) := by decide +kernel
theorem dX3_send_130 : decode cX3_send 130 = .ok (.iload_n 2, 1) := by decide +kernel
theorem dX3_send_131 : decode cX3_send 131 = .ok (.iastore, 1) := by decide +kernel
theorem dX3_send_132 : decode cX3_send 132 = .ok (.aload_n 0, 1) := by decide +kernel
theorem dX3_send_133 : decode cX3_send 133 = .ok (.getfield 13, 3) := by decide +kernel
theorem dX3_send_136 : decode cX3_send 136 = .ok (.aload_n 0, 1) := by decide +kernel
theorem dX3_send_137 : decode cX3_send 137 = .ok (.getfield 69, 3) := by decide +kernel
theorem dX3_send_140 : decode cX3_send 140 = .ok (.iload_n 3, 1) := by decide +kernel
theorem dX3_send_141 : decode cX3_send 141 = .ok (.iastore, 1) := by decide +kernel
theorem dX3_send_142 : decode cX3_send 142 = .ok (.aload_n 0, 1) := by decide +kernel
theorem dX3_send_143 : decode cX3_send 143 = .ok (.getfield 16, 3) := by decide +kernel
theorem dX3_send_146 : decode cX3_send 146 = .ok (.aload_n 0, 1) := by decide +kernel
theorem dX3_send_147 : decode cX3_send 147 = .ok (.getfield 69, 3) := by decide +kernel
theorem dX3_send_150 : decode cX3_send 150 = .ok (.aload_n 0, 1) := by decide +kernel
theorem dX3_send_151 : decode cX3_send 151 = .ok (.getfield 93, 3) := by decide +kernel
theorem dX3_send_154 : decode cX3_send 154 = .ok (.iload 5, 2) := by decide +kernel
theorem dX3_send_156 : decode cX3_send 156 = .ok (.iadd, 1) := by decide +kernel
theorem dX3_send_157 : decode cX3_send 157 = .ok (.iastore, 1) := by decide +kernel
theorem dX3_send_158 : decode cX3_send 158 = .ok (.aload_n 0, 1) := by decide +kernel
theorem dX3_send_159 : decode cX3_send 159 = .ok (.getfield 19, 3) := by decide +kernel
theorem dX3_send_162 : decode cX3_send 162 = .ok (.aload_n 0, 1) := by decide +kernel
theorem dX3_send_163 : decode cX3_send 163 = .ok (.getfield 69, 3) := by decide +kernel
theorem dX3_send_166 : decode cX3_send 166 = .ok (.iload_n 1, 1) := by decide +kernel
theorem dX3_send_167 : decode cX3_send 167 = .ok (.iastore, 1) := by decide +kernel
theorem dX3_send_168 : decode cX3_send 168 = .ok (.aload_n 0, 1) := by decide +kernel
theorem dX3_send_169 : decode cX3_send 169 = .ok (.getfield 22, 3) := by decide +kernel
theorem dX3_send_172 : decode cX3_send 172 = .ok (.aload_n 0, 1) := by decide +kernel
theorem dX3_send_173 : decode cX3_send 173 = .ok (.getfield 69, 3) := by decide +kernel
theorem dX3_send_176 : decode cX3_send 176 = .ok (.iconst (-1), 1) := by decide +kernel
theorem dX3_send_177 : decode cX3_send 177 = .ok (.iastore, 1) := by decide +kernel
theorem dX3_send_178 : decode cX3_send 178 = .ok (.aload_n 0, 1) := by decide +kernel
theorem dX3_send_179 : decode cX3_send 179 = .ok (.getfield 28, 3) := by decide +kernel
theorem dX3_send_182 : decode cX3_send 182 = .ok (.bipush 40, 2) := by decide +kernel
theorem dX3_send_184 : decode cX3_send 184 = .ok (.iload_n 1, 1) := by decide +kernel
theorem dX3_send_185 : decode cX3_send 185 = .ok (.imul, 1) := by decide +kernel
theorem dX3_send_186 : decode cX3_send 186 = .ok (.aload_n 0, 1) := by decide +kernel
theorem dX3_send_187 : decode cX3_send 187 = .ok (.getfield 69, 3) := by decide +kernel
theorem dX3_send_190 : decode cX3_send 190 = .ok (.iadd, 1) := by decide +kernel
theorem dX3_send_191 : decode cX3_send 191 = .ok (.iload 4, 2) := by decide +kernel
theorem dX3_send_193 : decode cX3_send 193 = .ok (.iastore, 1) := by decide +kernel
theorem dX3_send_194 : decode cX3_send 194 = .ok (.aload_n 0, 1) := by decide +kernel
theorem dX3_send_195 : decode cX3_send 195 = .ok (.dup, 1) := by decide +kernel
theorem dX3_send_196 : decode cX3_send 196 = .ok (.getfield 69, 3) := by decide +kernel
theorem dX3_send_199 : decode cX3_send 199 = .ok (.iconst 1, 1) := by decide +kernel
theorem dX3_send_200 : decode cX3_send 200 = .ok (.iadd, 1) := by decide +kernel
theorem dX3_send_201 : decode cX3_send 201 = .ok (.putfield 69, 3) := by decide +kernel
theorem dX3_send_204 : decode cX3_send 204 = .ok (.aload_n 0, 1) := by decide +kernel
theorem dX3_send_205 : decode cX3_send 205 = .ok (.getfield 69, 3) := by decide +kernel
theorem dX3_send_208 : decode cX3_send 208 = .ok (.iconst 1, 1) := by decide +kernel
theorem dX3_send_209 : decode cX3_send 209 = .ok (.isub, 1) := by decide +kernel
theorem dX3_send_210 : decode cX3_send 210 = .ok (.ireturn, 1) := by decide +kernel
set_option maxRecDepth 20000 in
theorem ggX3_talk_X3_learn : GoodIn wsX3_talk wsX3_learn := goodIn_r _ [7, 2, 8, 9, 10, 11, 12, 13, 14, 15, 16, 17, 18, 19, 20, 21, 22, 23, 24, 25, 26, 27, 28, 29, 30] (by decide +kernel) (by decide +kernel)
set_option maxRecDepth 20000 in
theorem gX3_talk_X3_learn : GoodIn wsX3_talk (wsV RX3 96 RX3 yX3_learn wsX3_learn) := goodIn_app (goodIn_of _ (by decide +kernel)) ggX3_talk_X3_learn
theorem dX3_talk_0 : decode cX3_talk 0 = .ok (.iconst 0, 1) := by decide +kernel
theorem dX3_talk_1 : decode cX3_talk 1 = .ok (.istore_n 3, 1) := by decide +kernel
theorem dX3_talk_2 : decode cX3_talk 2 = .ok (.iload_n 3, 1) := by decide +kernel
theorem dX3_talk_3 : decode cX3_talk 3 = .ok (.aload_n 0, 1) := by decide +kernel
theorem dX3_talk_4 : decode cX3_talk 4 = .ok (.getfield 69, 3) := by decide +kernel
theorem dX3_talk_7 : decode cX3_talk 7 = .ok (.if_icmp .ge 48, 3) := by decide +kernel
theorem dX3_talk_10 : decode cX3_talk 10 = .ok (.aload_n 0, 1) := by decide +kernel
theorem dX3_talk_11 : decode cX3_talk 11 = .ok (.getfield 34, 3) := by decide +kernel
theorem dX3_talk_14 : decode cX3_talk 14 = .ok (.bipush 40, 2) := by decide +kernel
theorem dX3_talk_16 : decode cX3_talk 16 = .ok (.iload_n 1, 1) := by decide +kernel
theorem dX3_talk_17 : decode cX3_talk 17 = .ok (.imul, 1) := by decide +kernel
theorem dX3_talk_18 : decode cX3_talk 18 = .ok (.iload_n 3, 1) := by decide +kernel
theorem dX3_talk_19 : decode cX3_talk 19 = .ok (.iadd, 1) := by decide +kernel
theorem dX3_talk_20 : decode cX3_talk 20 = .ok (.iaload, 1) := by decide +kernel
theorem dX3_talk_21 : decode cX3_talk 21 = .ok (.aload_n 0, 1) := by decide +kernel
theorem dX3_talk_22 : decode cX3_talk 22 = .ok (.getfield 34, 3) := by decide +kernel
theorem dX3_talk_25 : decode cX3_talk 25 = .ok (.bipush 40, 2) := by decide +kernel
theorem dX3_talk_27 : decode cX3_talk 27 = .ok (.iload_n 2, 1) := by decide +kernel
theorem dX3_talk_28 : decode cX3_talk 28 = .ok (.imul, 1) := by decide +kernel
theorem dX3_talk_29 : decode cX3_talk 29 = .ok (.iload_n 3, 1) := by decide +kernel
theorem dX3_talk_30 : decode cX3_talk 30 = .ok (.iadd, 1) := by decide +kernel
theorem dX3_talk_31 : decode cX3_talk 31 = .ok (.iaload, 1) := by decide +kernel
theorem dX3_talk_32 : decode cX3_talk 32 = .ok (.iadd, 1) := by decide +kernel
theorem dX3_talk_33 : decode cX3_talk 33 = .ok (.iconst 1, 1) := by decide +kernel
theorem dX3_talk_34 : decode cX3_talk 34 = .ok (.if_icmp .ne 15, 3) := by decide +kernel
theorem dX3_talk_37 : decode cX3_talk 37 = .ok (.aload_n 0, 1) := by decide +kernel
theorem dX3_talk_38 : decode cX3_talk 38 = .ok (.iload_n 1, 1) := by decide +kernel
theorem dX3_talk_39 : decode cX3_talk 39 = .ok (.iload_n 3, 1) := by decide +kernel
theorem dX3_talk_40 : decode cX3_talk 40 = .ok (.invokevirtual 96, 3) := by decide +kernel
theorem dX3_talk_43 : decode cX3_talk 43 = .ok (.aload_n 0, 1) := by decide +kernel
theorem dX3_talk_44 : decode cX3_talk 44 = .ok (.iload_n 2, 1) := by decide +kernel
theorem dX3_talk_45 : decode cX3_talk 45 = .ok (.iload_n 3, 1) := by decide +kernel
theorem dX3_talk_46 : decode cX3_talk 46 = .ok (.invokevirtual 96, 3) := by decide +kernel
theorem dX3_talk_49 : decode cX3_talk 49 = .ok (.iinc 3 1, 3) := by decide +kernel
theorem dX3_talk_52 : decode cX3_talk 52 = .ok (.goto (-50), 3) := by decide +kernel
theorem dX3_talk_55 : decode cX3_talk 55 = .ok (.return_, 1) := by decide +kernel
theorem dX3_wants_0 : decode cX3_wants 0 = .ok (.aload_n 0, 1) := by decide +kernel
theorem dX3_wants_1 : decode cX3_wants 1 = .ok (.getfield 28, 3) := by decide +kernel
theorem dX3_wants_4 : decode cX3_wants 4 = .ok (.bipush 40, 2) := by decide +kernel
theorem dX3_wants_6 : decode cX3_wants 6 = .ok (.iload_n 1, 1) := by decide +kernel
theorem dX3_wants_7 : decode cX3_wants 7 = .ok (.imul, 1) := by decide +kernel
theorem dX3_wants_8 : decode cX3_wants 8 = .ok (.iload_n 3, 1) := by decide +kernel
theorem dX3_wants_9 : decode cX3_wants 9 = .ok (.iadd, 1) := by decide +kernel
theorem dX3_wants_10 : decode cX3_wants 10 = .ok (.iaload, 1) := by decide +kernel
theorem dX3_wants_11 : decode cX3_wants 11 = .ok (.istore 5, 2) := by decide +kernel
theorem dX3_wants_13 : decode cX3_wants 13 = .ok (.iload 4, 2) := by decide +kernel
theorem dX3_wants_15 : decode cX3_wants 15 = .ok (.ifCond .eq 24, 3) := by decide +kernel
theorem dX3_wants_18 : decode cX3_wants 18 = .ok (.iload 5, 2) := by decide +kernel
theorem dX3_wants_20 : decode cX3_wants 20 = .ok (.ifCond .le 17, 3) := by decide +kernel
theorem dX3_wants_23 : decode cX3_wants 23 = .ok (.aload_n 0, 1) := by decide +kernel
theorem dX3_wants_24 : decode cX3_wants 24 = .ok (.getfield 7, 3) := by decide +kernel
theorem dX3_wants_27 : decode cX3_wants 27 = .ok (.iload_n 3, 1) := by decide +kernel
theorem dX3_wants_28 : decode cX3_wants 28 = .ok (.iaload, 1) := by decide +kernel
theorem dX3_wants_29 : decode cX3_wants 29 = .ok (.iload_n 2, 1) := by decide +kernel
theorem dX3_wants_30 : decode cX3_wants 30 = .ok (.if_icmp .ne 7, 3) := by decide +kernel
theorem dX3_wants_33 : decode cX3_wants 33 = .ok (.iconst 1, 1) := by decide +kernel
theorem dX3_wants_34 : decode cX3_wants 34 = .ok (.goto 4, 3) := by decide +kernel
theorem dX3_wants_37 : decode cX3_wants 37 = .ok (.iconst 0, 1) := by decide +kernel
theorem dX3_wants_38 : decode cX3_wants 38 = .ok (.ireturn, 1) := by decide +kernel
theorem dX3_wants_39 : decode cX3_wants 39 = .ok (.iload 5, 2) := by decide +kernel
theorem dX3_wants_41 : decode cX3_wants 41 = .ok (.iconst 1, 1) := by decide +kernel
theorem dX3_wants_42 : decode cX3_wants 42 = .ok (.if_icmp .le 41, 3) := by decide +kernel
theorem dX3_wants_45 : decode cX3_wants 45 = .ok (.aload_n 0, 1) := by decide +kernel
theorem dX3_wants_46 : decode cX3_wants 46 = .ok (.getfield 7, 3) := by decide +kernel
theorem dX3_wants_49 : decode cX3_wants 49 = .ok (.iload_n 3, 1) := by decide +kernel
theorem dX3_wants_50 : decode cX3_wants 50 = .ok (.iaload, 1) := by decide +kernel
theorem dX3_wants_51 : decode cX3_wants 51 = .ok (.iload_n 2, 1) := by decide +kernel
theorem dX3_wants_52 : decode cX3_wants 52 = .ok (.if_icmp .eq 31, 3) := by decide +kernel
theorem dX3_wants_55 : decode cX3_wants 55 = .ok (.aload_n 0, 1) := by decide +kernel
theorem dX3_wants_56 : decode cX3_wants 56 = .ok (.getfield 7, 3) := by decide +kernel
theorem dX3_wants_59 : decode cX3_wants 59 = .ok (.iload_n 3, 1) := by decide +kernel
theorem dX3_wants_60 : decode cX3_wants 60 = .ok (.iaload, 1) := by decide +kernel
theorem dX3_wants_61 : decode cX3_wants 61 = .ok (.iload_n 1, 1) := by decide +kernel
theorem dX3_wants_62 : decode cX3_wants 62 = .ok (.if_icmp .eq 21, 3) := by decide +kernel
theorem dX3_wants_65 : decode cX3_wants 65 = .ok (.aload_n 0, 1) := by decide +kernel
theorem dX3_wants_66 : decode cX3_wants 66 = .ok (.getfield 28, 3) := by decide +kernel
theorem dX3_wants_69 : decode cX3_wants 69 = .ok (.bipush 40, 2) := by decide +kernel
theorem dX3_wants_71 : decode cX3_wants 71 = .ok (.iload_n 2, 1) := by decide +kernel
theorem dX3_wants_72 : decode cX3_wants 72 = .ok (.imul, 1) := by decide +kernel
theorem dX3_wants_73 : decode cX3_wants 73 = .ok (.iload_n 3, 1) := by decide +kernel
theorem dX3_wants_74 : decode cX3_wants 74 = .ok (.iadd, 1) := by decide +kernel
theorem dX3_wants_75 : decode cX3_wants 75 = .ok (.iaload, 1) := by decide +kernel
theorem dX3_wants_76 : decode cX3_wants 76 = .ok (.ifCond .ne 7, 3) := by decide +kernel
theorem dX3_wants_79 : decode cX3_wants 79 = .ok (.iconst 1, 1) := by decide +kernel
theorem dX3_wants_80 : decode cX3_wants 80 = .ok (.goto 4, 3) := by decide +kernel
theorem dX3_wants_83 : decode cX3_wants 83 = .ok (.iconst 0, 1) := by decide +kernel
theorem dX3_wants_84 : decode cX3_wants 84 = .ok (.ireturn, 1) := by decide +kernel
set_option maxRecDepth 20000 in
theorem ggX3_gather_X3_wants : GoodIn wsX3_gather wsX3_wants := goodIn_r _ [8, 9, 10, 17, 18, 19, 20, 21, 22, 23, 24, 25, 26, 27, 28, 29, 30, 31, 32, 33, 34, 35, 36, 37] (by decide +kernel) (by decide +kernel)
set_option maxRecDepth 20000 in
theorem gX3_gather_X3_wants : GoodIn wsX3_gather (wsV RX3 100 RX3 yX3_wants wsX3_wants) := goodIn_app (goodIn_of _ (by decide +kernel)) ggX3_gather_X3_wants
set_option maxRecDepth 20000 in
theorem ggX3_gather_X3_precedes : GoodIn wsX3_gather wsX3_precedes := goodIn_r _ [14, 15, 16, 17, 18, 19, 20, 21, 22, 23, 24, 25, 26, 27, 28, 29, 30, 31, 32, 33, 34, 35, 36, 37] (by decide +kernel) (by decide +kernel)
set_option maxRecDepth 20000 in
theorem gX3_gather_X3_precedes : GoodIn wsX3_gather (wsV RX3 72 RX3 yX3_precedes wsX3_precedes) := goodIn_app (goodIn_of _ (by decide +kernel)) ggX3_gather_X3_precedes
theorem dX3_gather_0 : decode cX3_gather 0 = .ok (.iload 4, 2) := by decide +kernel
theorem dX3_gather_2 : decode cX3_gather 2 = .ok (.istore 5, 2) := by decide +kernel
theorem dX3_gather_4 : decode cX3_gather 4 = .ok (.iconst 0, 1) := by decide +kernel
theorem dX3_gather_5 : decode cX3_gather 5 = .ok (.istore 6, 2) := by decide +kernel
theorem dX3_gather_7 : decode cX3_gather 7 = .ok (.iload 6, 2) := by decide +kernel
theorem dX3_gather_9 : decode cX3_gather 9 = .ok (.aload_n 0, 1) := by decide +kernel
theorem dX3_gather_10 : decode cX3_gather 10 = .ok (.getfield 69, 3) := by decide +kernel
theorem dX3_gather_13 : decode cX3_gather 13 = .ok (.if_icmp .ge 133, 3) := by decide +kernel
theorem dX3_gather_16 : decode cX3_gather 16 = .ok (.aload_n 0, 1) := by decide +kernel
theorem dX3_gather_17 : decode cX3_gather 17 = .ok (.iload_n 2, 1) := by decide +kernel
theorem dX3_gather_18 : decode cX3_gather 18 = .ok (.iload_n 1, 1) := by decide +kernel
theorem dX3_gather_19 : decode cX3_gather 19 = .ok (.iload 6, 2) := by decide +kernel
theorem dX3_gather_21 : decode cX3_gather 21 = .ok (.iload_n 3, 1) := by decide +kernel
theorem dX3_gather_22 : decode cX3_gather 22 = .ok (.invokevirtual 100, 3) := by decide +kernel
theorem dX3_gather_25 : decode cX3_gather 25 = .ok (.istore 7, 2) := by decide +kernel
theorem dX3_gather_27 : decode cX3_gather 27 = .ok (.iload 7, 2) := by decide +kernel
theorem dX3_gather_29 : decode cX3_gather 29 = .ok (.ifCond .ne 15, 3) := by decide +kernel
theorem dX3_gather_32 : decode cX3_gather 32 = .ok (.aload_n 0, 1) := by decide +kernel
theorem dX3_gather_33 : decode cX3_gather 33 = .ok (.iload_n 1, 1) := by decide +kernel
theorem dX3_gather_34 : decode cX3_gather 34 = .ok (.iload_n 2, 1) := by decide +kernel
theorem dX3_gather_35 : decode cX3_gather 35 = .ok (.iload 6, 2) := by decide +kernel
theorem dX3_gather_37 : decode cX3_gather 37 = .ok (.iload_n 3, 1) := by decide +kernel
theorem dX3_gather_38 : decode cX3_gather 38 = .ok (.invokevirtual 100, 3) := by decide +kernel
theorem dX3_gather_41 : decode cX3_gather 41 = .ok (.ifCond .eq 99, 3) := by decide +kernel
theorem dX3_gather_44 : decode cX3_gather 44 = .ok (.iload 5, 2) := by decide +kernel
theorem dX3_gather_46 : decode cX3_gather 46 = .ok (.istore 8, 2) := by decide +kernel
theorem dX3_gather_48 : decode cX3_gather 48 = .ok (.iload 8, 2) := by decide +kernel
theorem dX3_gather_50 : decode cX3_gather 50 = .ok (.iload 4, 2) := by decide +kernel
theorem dX3_gather_52 : decode cX3_gather 52 = .ok (.if_icmp .le 59, 3) := by decide +kernel
theorem dX3_gather_55 : decode cX3_gather 55 = .ok (.aload_n 0, 1) := by decide +kernel
theorem dX3_gather_56 : decode cX3_gather 56 = .ok (.iload 6, 2) := by decide +kernel
theorem dX3_gather_58 : decode cX3_gather 58 = .ok (.aload_n 0, 1) := by decide +kernel
theorem dX3_gather_59 : decode cX3_gather 59 = .ok (.getfield 49, 3) := by decide +kernel
theorem dX3_gather_62 : decode cX3_gather 62 = .ok (.iload 8, 2) := by decide +kernel
theorem dX3_gather_64 : decode cX3_gather 64 = .ok (.iconst 1, 1) := by decide +kernel
theorem dX3_gather_65 : decode cX3_gather 65 = .ok (.isub, 1) := by decide +kernel
theorem dX3_gather_66 : decode cX3_gather 66 = .ok (.iaload, 1) := by decide +kernel
theorem dX3_gather_67 : decode cX3_gather 67 = .ok (.invokevirtual 72, 3) := by decide +kernel
theorem dX3_gather_70 : decode cX3_gather 70 = .ok (.ifCond .eq 41, 3) := by decide +kernel
theorem dX3_gather_73 : decode cX3_gather 73 = .ok (.aload_n 0, 1) := by decide +kernel
theorem dX3_gather_74 : decode cX3_gather 74 = .ok (.getfield 49, 3) := by decide +kernel
theorem dX3_gather_77 : decode cX3_gather 77 = .ok (.iload 8, 2) := by decide +kernel
theorem dX3_gather_79 : decode cX3_gather 79 = .ok (.aload_n 0, 1) := by decide +kernel
theorem dX3_gather_80 : decode cX3_gather 80 = .ok (.getfield 49, 3) := by decide +kernel
theorem dX3_gather_83 : decode cX3_gather 83 = .ok (.iload 8, 2) := by decide +kernel
theorem dX3_gather_85 : decode cX3_gather 85 = .ok (.iconst 1, 1) := by decide +kernel
theorem dX3_gather_86 : decode cX3_gather 86 = .ok (.isub, 1) := by decide +kernel
theorem dX3_gather_87 : decode cX3_gather 87 = .ok (.iaload, 1) := by decide +kernel
theorem dX3_gather_88 : decode cX3_gather 88 = .ok (.iastore, 1) := by decide +kernel
theorem dX3_gather_89 : decode cX3_gather 89 = .ok (.aload_n 0, 1) := by decide +kernel
theorem dX3_gather_90 : decode cX3_gather 90 = .ok (.getfield 52, 3) := by decide +kernel
theorem dX3_gather_93 : decode cX3_gather 93 = .ok (.iload 8, 2) := by decide +kernel
theorem dX3_gather_95 : decode cX3_gather 95 = .ok (.aload_n 0, 1) := by decide +kernel
theorem dX3_gather_96 : decode cX3_gather 96 = .ok (.getfield 52, 3) := by decide +kernel
theorem dX3_gather_99 : decode cX3_gather 99 = .ok (.iload 8, 2) := by decide +kernel
theorem dX3_gather_101 : decode cX3_gather 101 = .ok (.iconst 1, 1) := by decide +kernel
theorem dX3_gather_102 : decode cX3_gather 102 = .ok (.isub, 1) := by decide +kernel
theorem dX3_gather_103 : decode cX3_gather 103 = .ok (.iaload, 1) := by decide +kernel
theorem dX3_gather_104 : decode cX3_gather 104 = .ok (.iastore, 1) := by decide +kernel
theorem dX3_gather_105 : decode cX3_gather 105 = .ok (.iinc 8 (-1), 3) := by decide +kernel
theorem dX3_gather_108 : decode cX3_gather 108 = .ok (.goto (-60), 3) := by decide +kernel
theorem dX3_gather_111 : decode cX3_gather 111 = .ok (.aload_n 0, 1) := by decide +kernel
theorem dX3_gather_112 : decode cX3_gather 112 = .ok (.getfield 49, 3) := by decide +kernel
theorem dX3_gather_115 : decode cX3_gather 115 = .ok (.iload 8, 2) := by decide +kernel
theorem dX3_gather_117 : decode cX3_gather 117 = .ok (.iload 6, 2) := by decide +kernel
theorem dX3_gather_119 : decode cX3_gather 119 = .ok (.iastore, 1) := by decide +kernel
theorem dX3_gather_120 : decode cX3_gather 120 = .ok (.aload_n 0, 1) := by decide +kernel
theorem dX3_gather_121 : decode cX3_gather 121 = .ok (.getfield 52, 3) := by decide +kernel
theorem dX3_gather_124 : decode cX3_gather 124 = .ok (.iload 8, 2) := by decide +kernel
theorem dX3_gather_126 : decode cX3_gather 126 = .ok (.iload 7, 2) := by decide +kernel
theorem dX3_gather_128 : decode cX3_gather 128 = .ok (.ifCond .eq 7, 3) := by decide +kernel
theorem dX3_gather_131 : decode cX3_gather 131 = .ok (.iload_n 2, 1) := by decide +kernel
theorem dX3_gather_132 : decode cX3_gather 132 = .ok (.goto 4, 3) := by decide +kernel
theorem dX3_gather_135 : decode cX3_gather 135 = .ok (.iload_n 1, 1) := by decide +kernel
theorem dX3_gather_136 : decode cX3_gather 136 = .ok (.iastore, 1) := by decide +kernel
theorem dX3_gather_137 : decode cX3_gather 137 = .ok (.iinc 5 1, 3) := by decide +kernel
theorem dX3_gather_140 : decode cX3_gather 140 = .ok (.iinc 6 1, 3) := by decide +kernel
theorem dX3_gather_143 : decode cX3_gather 143 = .ok (.goto (-136), 3) := by decide +kernel
theorem dX3_gather_146 : decode cX3_gather 146 = .ok (.iload 5, 2) := by decide +kernel
theorem dX3_gather_148 : decode cX3_gather 148 = .ok (.ireturn, 1) := by decide +kernel
set_option maxRecDepth 20000 in
theorem ggX3_deliver_X3_learn : GoodIn wsX3_deliver wsX3_learn := goodIn_r _ [9, 10, 11, 12, 13, 14, 15, 16, 17, 18, 19, 20, 21, 22, 23, 24, 25, 26, 27, 28, 29, 30, 31, 32, 33] (by decide +kernel) (by decide +kernel)
set_option maxRecDepth 20000 in
theorem gX3_deliver_X3_learn : GoodIn wsX3_deliver (wsV RX3 96 RX3 yX3_learn wsX3_learn) := goodIn_app (goodIn_of _ (by decide +kernel)) ggX3_deliver_X3_learn
theorem dX3_deliver_0 : decode cX3_deliver 0 = .ok (.aload_n 0, 1) := by decide +kernel
theorem dX3_deliver_1 : decode cX3_deliver 1 = .ok (.getfield 22, 3) := by decide +kernel
theorem dX3_deliver_4 : decode cX3_deliver 4 = .ok (.iload_n 3, 1) := by decide +kernel
theorem dX3_deliver_5 : decode cX3_deliver 5 = .ok (.aload_n 0, 1) := by decide +kernel
theorem dX3_deliver_6 : decode cX3_deliver 6 = .ok (.getfield 93, 3) := by decide +kernel
theorem dX3_deliver_9 : decode cX3_deliver 9 = .ok (.iastore, 1) := by decide +kernel
theorem dX3_deliver_10 : decode cX3_deliver 10 = .ok (.aload_n 0, 1) := by decide +kernel
theorem dX3_deliver_11 : decode cX3_deliver 11 = .ok (.getfield 25, 3) := by decide +kernel
theorem dX3_deliver_14 : decode cX3_deliver 14 = .ok (.iload_n 3, 1) := by decide +kernel
theorem dX3_deliver_15 : decode cX3_deliver 15 = .ok (.aload_n 0, 1) := by decide +kernel
theorem dX3_deliver_16 : decode cX3_deliver 16 = .ok (.getfield 31, 3) := by decide +kernel
theorem dX3_deliver_19 : decode cX3_deliver 19 = .ok (.bipush 40, 2) := by decide +kernel
theorem dX3_deliver_21 : decode cX3_deliver 21 = .ok (.iload_n 1, 1) := by decide +kernel
theorem dX3_deliver_22 : decode cX3_deliver 22 = .ok (.imul, 1) := by decide +kernel
theorem dX3_deliver_23 : decode cX3_deliver 23 = .ok (.iload_n 3, 1) := by decide +kernel
theorem dX3_deliver_24 : decode cX3_deliver 24 = .ok (.iadd, 1) := by decide +kernel
theorem dX3_deliver_25 : decode cX3_deliver 25 = .ok (.iaload, 1) := by decide +kernel
theorem dX3_deliver_26 : decode cX3_deliver 26 = .ok (.iconst 1, 1) := by decide +kernel
theorem dX3_deliver_27 : decode cX3_deliver 27 = .ok (.iadd, 1) := by decide +kernel
theorem dX3_deliver_28 : decode cX3_deliver 28 = .ok (.iastore, 1) := by decide +kernel
theorem dX3_deliver_29 : decode cX3_deliver 29 = .ok (.aload_n 0, 1) := by decide +kernel
theorem dX3_deliver_30 : decode cX3_deliver 30 = .ok (.iload_n 1, 1) := by decide +kernel
theorem dX3_deliver_31 : decode cX3_deliver 31 = .ok (.iload_n 3, 1) := by decide +kernel
theorem dX3_deliver_32 : decode cX3_deliver 32 = .ok (.invokevirtual 96, 3) := by decide +kernel
theorem dX3_deliver_35 : decode cX3_deliver 35 = .ok (.aload_n 0, 1) := by decide +kernel
theorem dX3_deliver_36 : decode cX3_deliver 36 = .ok (.iload_n 2, 1) := by decide +kernel
theorem dX3_deliver_37 : decode cX3_deliver 37 = .ok (.iload_n 3, 1) := by decide +kernel
theorem dX3_deliver_38 : decode cX3_deliver 38 = .ok (.invokevirtual 96, 3) := by decide +kernel
theorem dX3_deliver_41 : decode cX3_deliver 41 = .ok (.iconst 1, 1) := by decide +kernel
theorem dX3_deliver_42 : decode cX3_deliver 42 = .ok (.ireturn, 1) := by decide +kernel
set_option maxRecDepth 20000 in
theorem ggX3_spray_X3_hasRoom : GoodIn wsX3_spray wsX3_hasRoom := goodIn_r _ [9, 10, 2, 1, 11, 12, 13, 14, 8, 15, 16, 17, 18, 19, 20, 21, 22, 23, 24, 25, 26, 27, 28, 29, 30, 31, 32, 33, 34, 35, 36, 37, 38, 39, 40, 41, 42, 43, 44, 45, 46, 47] (by decide +kernel) (by decide +kernel)
set_option maxRecDepth 20000 in
theorem gX3_spray_X3_hasRoom : GoodIn wsX3_spray (wsV RX3 90 RX3 yX3_hasRoom wsX3_hasRoom) := goodIn_app (goodIn_of _ (by decide +kernel)) ggX3_spray_X3_hasRoom
theorem dX3_spray_0 : decode cX3_spray 0 = .ok (.aload_n 0, 1) := by decide +kernel
theorem dX3_spray_1 : decode cX3_spray 1 = .ok (.getfield 28, 3) := by decide +kernel
theorem dX3_spray_4 : decode cX3_spray 4 = .ok (.bipush 40, 2) := by decide +kernel
theorem dX3_spray_6 : decode cX3_spray 6 = .ok (.iload_n 1, 1) := by decide +kernel
theorem dX3_spray_7 : decode cX3_spray 7 = .ok (.imul, 1) := by decide +kernel
theorem dX3_spray_8 : decode cX3_spray 8 = .ok (.iload_n 3, 1) := by decide +kernel
theorem dX3_spray_9 : decode cX3_spray 9 = .ok (.iadd, 1) := by decide +kernel
theorem dX3_spray_10 : decode cX3_spray 10 = .ok (.iaload, 1) := by decide +kernel
theorem dX3_spray_11 : decode cX3_spray 11 = .ok (.istore 4, 2) := by decide +kernel
theorem dX3_spray_13 : decode cX3_spray 13 = .ok (.iload 4, 2) := by decide +kernel
theorem dX3_spray_15 : decode cX3_spray 15 = .ok (.ifCond .ne 5, 3) := by decide +kernel
theorem dX3_spray_18 : decode cX3_spray 18 = .ok (.iconst 0, 1) := by decide +kernel
theorem dX3_spray_19 : decode cX3_spray 19 = .ok (.ireturn, 1) := by decide +kernel
theorem dX3_spray_20 : decode cX3_spray 20 = .ok (.aload_n 0, 1) := by decide +kernel
theorem dX3_spray_21 : decode cX3_spray 21 = .ok (.iload_n 2, 1) := by decide +kernel
theorem dX3_spray_22 : decode cX3_spray 22 = .ok (.aload_n 0, 1) := by decide +kernel
theorem dX3_spray_23 : decode cX3_spray 23 = .ok (.getfield 13, 3) := by decide +kernel
theorem dX3_spray_26 : decode cX3_spray 26 = .ok (.iload_n 3, 1) := by decide +kernel
theorem dX3_spray_27 : decode cX3_spray 27 = .ok (.iaload, 1) := by decide +kernel
theorem dX3_spray_28 : decode cX3_spray 28 = .ok (.invokevirtual 90, 3) := by decide +kernel
theorem dX3_spray_31 : decode cX3_spray 31 = .ok (.ifCond .ne 15, 3) := by decide +kernel
theorem dX3_spray_34 : decode cX3_spray 34 = .ok (.aload_n 0, 1) := by decide +kernel
theorem dX3_spray_35 : decode cX3_spray 35 = .ok (.getfield 43, 3) := by decide +kernel
theorem dX3_spray_38 : decode cX3_spray 38 = .ok (.iload_n 2, 1) := by decide +kernel
theorem dX3_spray_39 : decode cX3_spray 39 = .ok (.dup2, 1) := by decide +kernel
theorem dX3_spray_40 : decode cX3_spray 40 = .ok (.iaload, 1) := by decide +kernel
theorem dX3_spray_41 : decode cX3_spray 41 = .ok (.iconst 1, 1) := by decide +kernel
theorem dX3_spray_42 : decode cX3_spray 42 = .ok (.iadd, 1) := by decide +kernel
theorem dX3_spray_43 : decode cX3_spray 43 = .ok (.iastore, 1) := by decide +kernel
theorem dX3_spray_44 : decode cX3_spray 44 = .ok (.iconst 0, 1) := by decide +kernel
theorem dX3_spray_45 : decode cX3_spray 45 = .ok (.ireturn, 1) := by decide +kernel
theorem dX3_spray_46 : decode cX3_spray 46 = .ok (.aload_n 0, 1) := by decide +kernel
theorem dX3_spray_47 : decode cX3_spray 47 = .ok (.getfield 28, 3) := by decide +kernel
theorem dX3_spray_50 : decode cX3_spray 50 = .ok (.bipush 40, 2) := by decide +kernel
theorem dX3_spray_52 : decode cX3_spray 52 = .ok (.iload_n 2, 1) := by decide +kernel
theorem dX3_spray_53 : decode cX3_spray 53 = .ok (.imul, 1) := by decide +kernel
theorem dX3_spray_54 : decode cX3_spray 54 = .ok (.iload_n 3, 1) := by decide +kernel
theorem dX3_spray_55 : decode cX3_spray 55 = .ok (.iadd, 1) := by decide +kernel
theorem dX3_spray_56 : decode cX3_spray 56 = .ok (.iload 4, 2) := by decide +kernel
theorem dX3_spray_58 : decode cX3_spray 58 = .ok (.iconst 2, 1) := by decide +kernel
theorem dX3_spray_59 : decode cX3_spray 59 = .ok (.idiv, 1) := by decide +kernel
theorem dX3_spray_60 : decode cX3_spray 60 = .ok (.iastore, 1) := by decide +kernel
theorem dX3_spray_61 : decode cX3_spray 61 = .ok (.aload_n 0, 1) := by decide +kernel
theorem dX3_spray_62 : decode cX3_spray 62 = .ok (.getfield 28, 3) := by decide +kernel
theorem dX3_spray_65 : decode cX3_spray 65 = .ok (.bipush 40, 2) := by decide +kernel
theorem dX3_spray_67 : decode cX3_spray 67 = .ok (.iload_n 1, 1) := by decide +kernel
theorem dX3_spray_68 : decode cX3_spray 68 = .ok (.imul, 1) := by decide +kernel
theorem dX3_spray_69 : decode cX3_spray 69 = .ok (.iload_n 3, 1) := by decide +kernel
theorem dX3_spray_70 : decode cX3_spray 70 = .ok (.iadd, 1) := by decide +kernel
theorem dX3_spray_71 : decode cX3_spray 71 = .ok (.iload 4, 2) := by decide +kernel
theorem dX3_spray_73 : decode cX3_spray 73 = .ok (.iload 4, 2) := by decide +kernel
theorem dX3_spray_75 : decode cX3_spray 75 = .ok (.iconst 2, 1) := by decide +kernel
theorem dX3_spray_76 : decode cX3_spray 76 = .ok (.idiv, 1) := by decide +kernel
theorem dX3_spray_77 : decode cX3_spray 77 = .ok (.isub, 1) := by decide +kernel
theorem dX3_spray_78 : decode cX3_spray 78 = .ok (.iastore, 1) := by decide +kernel
theorem dX3_spray_79 : decode cX3_spray 79 = .ok (.aload_n 0, 1) := by decide +kernel
theorem dX3_spray_80 : decode cX3_spray 80 = .ok (.getfield 31, 3) := by decide +kernel
theorem dX3_spray_83 : decode cX3_spray 83 = .ok (.bipush 40, 2) := by decide +kernel
theorem dX3_spray_85 : decode cX3_spray 85 = .ok (.iload_n 2, 1) := by decide +kernel
theorem dX3_spray_86 : decode cX3_spray 86 = .ok (.imul, 1) := by decide +kernel
theorem dX3_spray_87 : decode cX3_spray 87 = .ok (.iload_n 3, 1) := by decide +kernel
theorem dX3_spray_88 : decode cX3_spray 88 = .ok (.iadd, 1) := by decide +kernel
theorem dX3_spray_89 : decode cX3_spray 89 = .ok (.aload_n 0, 1) := by decide +kernel
theorem dX3_spray_90 : decode cX3_spray 90 = .ok (.getfield 31, 3) := by decide +kernel
theorem dX3_spray_93 : decode cX3_spray 93 = .ok (.bipush 40, 2) := by decide +kernel
theorem dX3_spray_95 : decode cX3_spray 95 = .ok (.iload_n 1, 1) := by decide +kernel
theorem dX3_spray_96 : decode cX3_spray 96 = .ok (.imul, 1) := by decide +kernel
theorem dX3_spray_97 : decode cX3_spray 97 = .ok (.iload_n 3, 1) := by decide +kernel
theorem dX3_spray_98 : decode cX3_spray 98 = .ok (.iadd, 1) := by decide +kernel
theorem dX3_spray_99 : decode cX3_spray 99 = .ok (.iaload, 1) := by decide +kernel
theorem dX3_spray_100 : decode cX3_spray 100 = .ok (.iconst 1, 1) := by decide +kernel
theorem dX3_spray_101 : decode cX3_spray 101 = .ok (.iadd, 1) := by decide +kernel
theorem dX3_spray_102 : decode cX3_spray 102 = .ok (.iastore, 1) := by decide +kernel
theorem dX3_spray_103 : decode cX3_spray 103 = .ok (.iconst 1, 1) := by decide +kernel
theorem dX3_spray_104 : decode cX3_spray 104 = .ok (.ireturn, 1) := by decide +kernel
set_option maxRecDepth 20000 in
theorem ggX3_entrust_X3_reach : GoodIn wsX3_entrust wsX3_reach := goodIn_r _ [9, 10, 11, 12, 13, 14, 15, 16, 8, 17, 18, 19, 20, 21, 22, 23, 24, 25, 26, 27, 28, 29, 30, 31, 32, 33, 34, 35, 36, 37, 38, 39, 40, 41, 42, 43, 44, 45, 46, 47, 48, 49, 50, 51] (by decide +kernel) (by decide +kernel)
set_option maxRecDepth 20000 in
theorem gX3_entrust_X3_reach : GoodIn wsX3_entrust (wsV RX3 104 RX3 yX3_reach wsX3_reach) := goodIn_app (goodIn_of _ (by decide +kernel)) ggX3_entrust_X3_reach
theorem dX3_entrust_0 : decode cX3_entrust 0 = .ok (.iconst 0, 1) := by decide +kernel
theorem dX3_entrust_1 : decode cX3_entrust 1 = .ok (.istore_n 3, 1) := by decide +kernel
theorem dX3_entrust_2 : decode cX3_entrust 2 = .ok (.iload_n 3, 1) := by decide +kernel
theorem dX3_entrust_3 : decode cX3_entrust 3 = .ok (.aload_n 0, 1) := by decide +kernel
theorem dX3_entrust_4 : decode cX3_entrust 4 = .ok (.getfield 69, 3) := by decide +kernel
theorem dX3_entrust_7 : decode cX3_entrust 7 = .ok (.if_icmp .ge 143, 3) := by decide +kernel
theorem dX3_entrust_10 : decode cX3_entrust 10 = .ok (.aload_n 0, 1) := by decide +kernel
theorem dX3_entrust_11 : decode cX3_entrust 11 = .ok (.getfield 28, 3) := by decide +kernel
theorem dX3_entrust_14 : decode cX3_entrust 14 = .ok (.bipush 40, 2) := by decide +kernel
theorem dX3_entrust_16 : decode cX3_entrust 16 = .ok (.iload_n 1, 1) := by decide +kernel
theorem dX3_entrust_17 : decode cX3_entrust 17 = .ok (.imul, 1) := by decide +kernel
theorem dX3_entrust_18 : decode cX3_entrust 18 = .ok (.iload_n 3, 1) := by decide +kernel
theorem dX3_entrust_19 : decode cX3_entrust 19 = .ok (.iadd, 1) := by decide +kernel
theorem dX3_entrust_20 : decode cX3_entrust 20 = .ok (.iaload, 1) := by decide +kernel
theorem dX3_entrust_21 : decode cX3_entrust 21 = .ok (.ifCond .le 21, 3) := by decide +kernel
theorem dX3_entrust_24 : decode cX3_entrust 24 = .ok (.aload_n 0, 1) := by decide +kernel
theorem dX3_entrust_25 : decode cX3_entrust 25 = .ok (.getfield 28, 3) := by decide +kernel
theorem dX3_entrust_28 : decode cX3_entrust 28 = .ok (.bipush 40, 2) := by decide +kernel
theorem dX3_entrust_30 : decode cX3_entrust 30 = .ok (.iload_n 2, 1) := by decide +kernel
theorem dX3_entrust_31 : decode cX3_entrust 31 = .ok (.imul, 1) := by decide +kernel
theorem dX3_entrust_32 : decode cX3_entrust 32 = .ok (.iload_n 3, 1) := by decide +kernel
theorem dX3_entrust_33 : decode cX3_entrust 33 = .ok (.iadd, 1) := by decide +kernel
theorem dX3_entrust_34 : decode cX3_entrust 34 = .ok (.iaload, 1) := by decide +kernel
theorem dX3_entrust_35 : decode cX3_entrust 35 = .ok (.ifCond .le 7, 3) := by decide +kernel
theorem dX3_entrust_38 : decode cX3_entrust 38 = .ok (.iconst 1, 1) := by decide +kernel
theorem dX3_entrust_39 : decode cX3_entrust 39 = .ok (.goto 4, 3) := by decide +kernel
theorem dX3_entrust_42 : decode cX3_entrust 42 = .ok (.iconst 0, 1) := by decide +kernel
theorem dX3_entrust_43 : decode cX3_entrust 43 = .ok (.istore 4, 2) := by decide +kernel
theorem dX3_entrust_45 : decode cX3_entrust 45 = .ok (.iload 4, 2) := by decide +kernel
theorem dX3_entrust_47 : decode cX3_entrust 47 = .ok (.ifCond .eq 97, 3) := by decide +kernel
theorem dX3_entrust_50 : decode cX3_entrust 50 = .ok (.aload_n 0, 1) := by decide +kernel
theorem dX3_entrust_51 : decode cX3_entrust 51 = .ok (.getfield 19, 3) := by decide +kernel
theorem dX3_entrust_54 : decode cX3_entrust 54 = .ok (.iload_n 3, 1) := by decide +kernel
theorem dX3_entrust_55 : decode cX3_entrust 55 = .ok (.iaload, 1) := by decide +kernel
theorem dX3_entrust_56 : decode cX3_entrust 56 = .ok (.iload_n 1, 1) := by decide +kernel
theorem dX3_entrust_57 : decode cX3_entrust 57 = .ok (.if_icmp .eq 13, 3) := by decide +kernel
theorem dX3_entrust_60 : decode cX3_entrust 60 = .ok (.aload_n 0, 1) := by decide +kernel
theorem dX3_entrust_61 : decode cX3_entrust 61 = .ok (.getfield 19, 3) := by decide +kernel
theorem dX3_entrust_64 : decode cX3_entrust 64 = .ok (.iload_n 3, 1) := by decide +kernel
theorem dX3_entrust_65 : decode cX3_entrust 65 = .ok (.iaload, 1) := by decide +kernel
theorem dX3_entrust_66 : decode cX3_entrust 66 = .ok (.iload_n 2, 1) := by decide +kernel
theorem dX3_entrust_67 : decode cX3_entrust 67 = .ok (.if_icmp .ne 77, 3) := by decide +kernel
theorem dX3_entrust_70 : decode cX3_entrust 70 = .ok (.aload_n 0, 1) := by decide +kernel
theorem dX3_entrust_71 : decode cX3_entrust 71 = .ok (.getfield 19, 3) := by decide +kernel
theorem dX3_entrust_74 : decode cX3_entrust 74 = .ok (.iload_n 3, 1) := by decide +kernel
theorem dX3_entrust_75 : decode cX3_entrust 75 = .ok (.iaload, 1) := by decide +kernel
theorem dX3_entrust_76 : decode cX3_entrust 76 = .ok (.iload_n 1, 1) := by decide +kernel
theorem dX3_entrust_77 : decode cX3_entrust 77 = .ok (.if_icmp .ne 7, 3) := by decide +kernel
theorem dX3_entrust_80 : decode cX3_entrust 80 = .ok (.iload_n 2, 1) := by decide +kernel
theorem dX3_entrust_81 : decode cX3_entrust 81 = .ok (.goto 4, 3) := by decide +kernel
theorem dX3_entrust_84 : decode cX3_entrust 84 = .ok (.iload_n 1, 1) := by decide +kernel
theorem dX3_entrust_85 : decode cX3_entrust 85 = .ok (.istore 5, 2) := by decide +kernel
theorem dX3_entrust_87 : decode cX3_entrust 87 = .ok (.aload_n 0, 1) := by decide +kernel
theorem dX3_entrust_88 : decode cX3_entrust 88 = .ok (.aload_n 0, 1) := by decide +kernel
theorem dX3_entrust_89 : decode cX3_entrust 89 = .ok (.getfield 19, 3) := by decide +kernel
theorem dX3_entrust_92 : decode cX3_entrust 92 = .ok (.iload_n 3, 1) := by decide +kernel
theorem dX3_entrust_93 : decode cX3_entrust 93 = .ok (.iaload, 1) := by decide +kernel
theorem dX3_entrust_94 : decode cX3_entrust 94 = .ok (.aload_n 0, 1) := by decide +kernel
theorem dX3_entrust_95 : decode cX3_entrust 95 = .ok (.getfield 7, 3) := by decide +kernel
theorem dX3_entrust_98 : decode cX3_entrust 98 = .ok (.iload_n 3, 1) := by decide +kernel
theorem dX3_entrust_99 : decode cX3_entrust 99 = .ok (.iaload, 1) := by decide +kernel
theorem dX3_entrust_100 : decode cX3_entrust 100 = .ok (.invokevirtual 104, 3) := by decide +kernel
theorem dX3_entrust_103 : decode cX3_entrust 103 = .ok (.istore 6, 2) := by decide +kernel
theorem dX3_entrust_105 : decode cX3_entrust 105 = .ok (.aload_n 0, 1) := by decide +kernel
theorem dX3_entrust_106 : decode cX3_entrust 106 = .ok (.iload 5, 2) := by decide +kernel
theorem dX3_entrust_108 : decode cX3_entrust 108 = .ok (.aload_n 0, 1) := by decide +kernel
theorem dX3_entrust_109 : decode cX3_entrust 109 = .ok (.getfield 7, 3) := by decide +kernel
theorem dX3_entrust_112 : decode cX3_entrust 112 = .ok (.iload_n 3, 1) := by decide +kernel
theorem dX3_entrust_113 : decode cX3_entrust 113 = .ok (.iaload, 1) := by decide +kernel
theorem dX3_entrust_114 : decode cX3_entrust 114 = .ok (.invokevirtual 104, 3) := by decide +kernel
theorem dX3_entrust_117 : decode cX3_entrust 117 = .ok (.istore 7, 2) := by decide +kernel
theorem dX3_entrust_119 : decode cX3_entrust 119 = .ok (.iload 7, 2) := by decide +kernel
theorem dX3_entrust_121 : decode cX3_entrust 121 = .ok (.ifCond .lt 23, 3) := by decide +kernel
theorem dX3_entrust_124 : decode cX3_entrust 124 = .ok (.iload 6, 2) := by decide +kernel
theorem dX3_entrust_126 : decode cX3_entrust 126 = .ok (.ifCond .lt 10, 3) := by decide +kernel
theorem dX3_entrust_129 : decode cX3_entrust 129 = .ok (.iload 7, 2) := by decide +kernel
theorem dX3_entrust_131 : decode cX3_entrust 131 = .ok (.iload 6, 2) := by decide +kernel
theorem dX3_entrust_133 : decode cX3_entrust 133 = .ok (.if_icmp .ge 11, 3) := by decide +kernel
theorem dX3_entrust_136 : decode cX3_entrust 136 = .ok (.aload_n 0, 1) := by decide +kernel
theorem dX3_entrust_137 : decode cX3_entrust 137 = .ok (.getfield 19, 3) := by decide +kernel
theorem dX3_entrust_140 : decode cX3_entrust 140 = .ok (.iload_n 3, 1) := by decide +kernel
theorem dX3_entrust_141 : decode cX3_entrust 141 = .ok (.iload 5, 2) := by decide +kernel
theorem dX3_entrust_143 : decode cX3_entrust 143 = .ok (.iastore, 1) := by decide +kernel
theorem dX3_entrust_144 : decode cX3_entrust 144 = .ok (.iinc 3 1, 3) := by decide +kernel
theorem dX3_entrust_147 : decode cX3_entrust 147 = .ok (.goto (-145), 3) := by decide +kernel
theorem dX3_entrust_150 : decode cX3_entrust 150 = .ok (.return_, 1) := by decide +kernel
set_option maxRecDepth 20000 in
theorem ggX3_meet_X3_isNode : GoodIn wsX3_meet wsX3_isNode := goodIn_r _ [7, 8, 9, 10, 6, 11] (by decide +kernel) (by decide +kernel)
set_option maxRecDepth 20000 in
theorem gX3_meet_X3_isNode : GoodIn wsX3_meet (wsV RX3 83 RX3 yX3_isNode wsX3_isNode) := goodIn_app (goodIn_of _ (by decide +kernel)) ggX3_meet_X3_isNode
set_option maxRecDepth 20000 in
theorem ggX3_meet_X3_between : GoodIn wsX3_meet wsX3_between := goodIn_r _ [11] (by decide +kernel) (by decide +kernel)
set_option maxRecDepth 20000 in
theorem gX3_meet_X3_between : GoodIn wsX3_meet (wsV RX3 65 RX3 yX3_between wsX3_between) := goodIn_app (goodIn_of _ (by decide +kernel)) ggX3_meet_X3_between
set_option maxRecDepth 20000 in
theorem ggX3_meet_X3_holds : GoodIn wsX3_meet wsX3_holds := goodIn_r _ [15, 16, 99, 100, 101, 102, 103, 104, 105, 106, 107, 108, 109, 110, 111, 112, 113, 114, 115, 116, 117, 118, 119] (by decide +kernel) (by decide +kernel)
set_option maxRecDepth 20000 in
theorem gX3_meet_X3_holds : GoodIn wsX3_meet (wsV RX3 87 RX3 yX3_holds wsX3_holds) := goodIn_app (goodIn_of _ (by decide +kernel)) ggX3_meet_X3_holds
set_option maxRecDepth 20000 in
theorem ggX3_meet_X3_talk : GoodIn wsX3_meet wsX3_talk := goodIn_r _ [20, 21, 22, 23, 24, 25, 6, 26, 27, 28, 99, 100, 101, 102, 103, 104, 105, 106, 107, 108, 109, 110, 111, 112, 113, 114, 115, 116, 117, 118, 119] (by decide +kernel) (by decide +kernel)
set_option maxRecDepth 20000 in
theorem gX3_meet_X3_talk : GoodIn wsX3_meet (wsV RX3 108 RX3 yX3_talk wsX3_talk) := goodIn_app (goodIn_of _ (by decide +kernel)) ggX3_meet_X3_talk
set_option maxRecDepth 20000 in
theorem ggX3_meet_X3_gather : GoodIn wsX3_meet wsX3_gather := goodIn_r _ [32, 21, 2, 1, 33, 34, 35, 6, 36, 27, 37, 38, 39, 40, 41, 42, 43, 99, 100, 101, 102, 103, 104, 105, 106, 107, 108, 109, 110, 111, 112, 113, 114, 115, 116, 117, 118, 119] (by decide +kernel) (by decide +kernel)
set_option maxRecDepth 20000 in
theorem gX3_meet_X3_gather : GoodIn wsX3_meet (wsV RX3 111 RX3 yX3_gather wsX3_gather) := goodIn_app (goodIn_of _ (by decide +kernel)) ggX3_meet_X3_gather
set_option maxRecDepth 20000 in
theorem ggX3_meet_X3_deliver : GoodIn wsX3_meet wsX3_deliver := goodIn_r _ [47, 48, 49, 50, 51, 23, 24, 25, 6, 26, 22, 27, 28, 99, 100, 101, 102, 103, 104, 105, 106, 107, 108, 109, 110, 111, 112, 113, 114, 115, 116, 117, 118, 119] (by decide +kernel) (by decide +kernel)
set_option maxRecDepth 20000 in
theorem gX3_meet_X3_deliver : GoodIn wsX3_meet (wsV RX3 115 RX3 yX3_deliver wsX3_deliver) := goodIn_app (goodIn_of _ (by decide +kernel)) ggX3_meet_X3_deliver
set_option maxRecDepth 20000 in
theorem ggX3_meet_X3_spray : GoodIn wsX3_meet wsX3_spray := goodIn_r _ [55, 27, 42, 56, 51, 57, 58, 59, 6, 60, 61, 62, 63, 64, 65, 66, 21, 67, 68, 69, 70, 28, 38, 39, 40, 41, 43, 99, 100, 101, 102, 103, 104, 105, 106, 107, 108, 109, 110, 111, 112, 113, 114, 115, 116, 117, 118, 119] (by decide +kernel) (by decide +kernel)
set_option maxRecDepth 20000 in
theorem gX3_meet_X3_spray : GoodIn wsX3_meet (wsV RX3 119 RX3 yX3_spray wsX3_spray) := goodIn_app (goodIn_of _ (by decide +kernel)) ggX3_meet_X3_spray
set_option maxRecDepth 20000 in
theorem ggX3_meet_X3_entrust : GoodIn wsX3_meet wsX3_entrust := goodIn_r _ [74, 21, 27, 28, 37, 75, 76, 77, 6, 78, 79, 80, 81, 82, 83, 84, 85, 86, 49, 87, 88, 89, 90, 91, 92, 93, 94, 95, 96, 97, 98, 99, 100, 101, 102, 103, 104, 105, 106, 107, 108, 109, 110, 111, 112, 113, 114, 115, 116, 117, 118, 119] (by decide +kernel) (by decide +kernel)
set_option maxRecDepth 20000 in
theorem gX3_meet_X3_entrust : GoodIn wsX3_meet (wsV RX3 122 RX3 yX3_entrust wsX3_entrust) := goodIn_app (goodIn_of _ (by decide +kernel)) ggX3_meet_X3_entrust
theorem dX3_meet_0 : decode cX3_meet 0 = .ok (.aload_n 0, 1) := by decide +kernel
theorem dX3_meet_1 : decode cX3_meet 1 = .ok (.aload_n 0, 1) := by decide +kernel
theorem dX3_meet_2 : decode cX3_meet 2 = .ok (.iload_n 1, 1) := by decide +kernel
theorem dX3_meet_3 : decode cX3_meet 3 = .ok (.invokevirtual 83, 3) := by decide +kernel
theorem dX3_meet_6 : decode cX3_meet 6 = .ok (.ifCond .eq 11, 3) := by decide +kernel
theorem dX3_meet_9 : decode cX3_meet 9 = .ok (.aload_n 0, 1) := by decide +kernel
theorem dX3_meet_10 : decode cX3_meet 10 = .ok (.iload_n 2, 1) := by decide +kernel
theorem dX3_meet_11 : decode cX3_meet 11 = .ok (.invokevirtual 83, 3) := by decide +kernel
theorem dX3_meet_14 : decode cX3_meet 14 = .ok (.ifCond .ne 7, 3) := by decide +kernel
theorem dX3_meet_17 : decode cX3_meet 17 = .ok (.iconst 1, 1) := by decide +kernel
theorem dX3_meet_18 : decode cX3_meet 18 = .ok (.goto 24, 3) := by decide +kernel
theorem dX3_meet_21 : decode cX3_meet 21 = .ok (.iload_n 1, 1) := by decide +kernel
theorem dX3_meet_22 : decode cX3_meet 22 = .ok (.iload_n 2, 1) := by decide +kernel
theorem dX3_meet_23 : decode cX3_meet 23 = .ok (.if_icmp .eq 14, 3) := by decide +kernel
theorem dX3_meet_26 : decode cX3_meet 26 = .ok (.aload_n 0, 1) := by decide +kernel
theorem dX3_meet_27 : decode cX3_meet 27 = .ok (.iload_n 3, 1) := by decide +kernel
theorem dX3_meet_28 : decode cX3_meet 28 = .ok (.iconst 0, 1) := by decide +kernel
theorem dX3_meet_29 : decode cX3_meet 29 = .ok (.bipush 20, 2) := by decide +kernel
theorem dX3_meet_31 : decode cX3_meet 31 = .ok (.invokevirtual 65, 3) := by decide +kernel
theorem dX3_meet_34 : decode cX3_meet 34 = .ok (.ifCond .ne 7, 3) := by decide +kernel
theorem dX3_meet_37 : decode cX3_meet 37 = .ok (.iconst 2, 1) := by decide +kernel
theorem dX3_meet_38 : decode cX3_meet 38 = .ok (.goto 4, 3) := by decide +kernel
theorem dX3_meet_41 : decode cX3_meet 41 = .ok (.iconst 0, 1) := by decide +kernel
theorem dX3_meet_42 : decode cX3_meet 42 = .ok (.invokevirtual 87, 3) := by decide +kernel
theorem dX3_meet_45 : decode cX3_meet 45 = .ok (.ifCond .eq 5, 3) := by decide +kernel
theorem dX3_meet_48 : decode cX3_meet 48 = .ok (.iconst (-1), 1) := by decide +kernel
theorem dX3_meet_49 : decode cX3_meet 49 = .ok (.ireturn, 1) := by decide +kernel
theorem dX3_meet_50 : decode cX3_meet 50 = .ok (.aload_n 0, 1) := by decide +kernel
theorem dX3_meet_51 : decode cX3_meet 51 = .ok (.iload_n 1, 1) := by decide +kernel
theorem dX3_meet_52 : decode cX3_meet 52 = .ok (.iload_n 2, 1) := by decide +kernel
theorem dX3_meet_53 : decode cX3_meet 53 = .ok (.invokevirtual 108, 3) := by decide +kernel
theorem dX3_meet_56 : decode cX3_meet 56 = .ok (.aload_n 0, 1) := by decide +kernel
theorem dX3_meet_57 : decode cX3_meet 57 = .ok (.iload_n 1, 1) := by decide +kernel
theorem dX3_meet_58 : decode cX3_meet 58 = .ok (.iload_n 2, 1) := by decide +kernel
theorem dX3_meet_59 : decode cX3_meet 59 = .ok (.iconst 1, 1) := by decide +kernel
theorem dX3_meet_60 : decode cX3_meet 60 = .ok (.iconst 0, 1) := by decide +kernel
theorem dX3_meet_61 : decode cX3_meet 61 = .ok (.invokevirtual 111, 3) := by decide +kernel
theorem dX3_meet_64 : decode cX3_meet 64 = .ok (.istore 4, 2) := by decide +kernel
theorem dX3_meet_66 : decode cX3_meet 66 = .ok (.aload_n 0, 1) := by decide +kernel
theorem dX3_meet_67 : decode cX3_meet 67 = .ok (.iload_n 1, 1) := by decide +kernel
theorem dX3_meet_68 : decode cX3_meet 68 = .ok (.iload_n 2, 1) := by decide +kernel
theorem dX3_meet_69 : decode cX3_meet 69 = .ok (.iconst 0, 1) := by decide +kernel
theorem dX3_meet_70 : decode cX3_meet 70 = .ok (.iload 4, 2) := by decide +kernel
theorem dX3_meet_72 : decode cX3_meet 72 = .ok (.invokevirtual 111, 3) := by decide +kernel
theorem dX3_meet_75 : decode cX3_meet 75 = .ok (.istore 5, 2) := by decide +kernel
theorem dX3_meet_77 : decode cX3_meet 77 = .ok (.iconst 0, 1) := by decide +kernel
theorem dX3_meet_78 : decode cX3_meet 78 = .ok (.istore 6, 2) := by decide +kernel
theorem dX3_meet_80 : decode cX3_meet 80 = .ok (.iconst 0, 1) := by decide +kernel
theorem dX3_meet_81 : decode cX3_meet 81 = .ok (.istore 7, 2) := by decide +kernel
theorem dX3_meet_83 : decode cX3_meet 83 = .ok (.iload 7, 2) := by decide +kernel
theorem dX3_meet_85 : decode cX3_meet 85 = .ok (.iload 5, 2) := by decide +kernel
theorem dX3_meet_87 : decode cX3_meet 87 = .ok (.if_icmp .ge 88, 3) := by decide +kernel
theorem dX3_meet_90 : decode cX3_meet 90 = .ok (.iload 6, 2) := by decide +kernel
theorem dX3_meet_92 : decode cX3_meet 92 = .ok (.iload_n 3, 1) := by decide +kernel
theorem dX3_meet_93 : decode cX3_meet 93 = .ok (.if_icmp .ge 82, 3) := by decide +kernel
theorem dX3_meet_96 : decode cX3_meet 96 = .ok (.aload_n 0, 1) := by decide +kernel
theorem dX3_meet_97 : decode cX3_meet 97 = .ok (.getfield 52, 3) := by decide +kernel
theorem dX3_meet_100 : decode cX3_meet 100 = .ok (.iload 7, 2) := by decide +kernel
theorem dX3_meet_102 : decode cX3_meet 102 = .ok (.iaload, 1) := by decide +kernel
theorem dX3_meet_103 : decode cX3_meet 103 = .ok (.iload_n 1, 1) := by decide +kernel
theorem dX3_meet_104 : decode cX3_meet 104 = .ok (.if_icmp .ne 7, 3) := by decide +kernel
theorem dX3_meet_107 : decode cX3_meet 107 = .ok (.iload_n 2, 1) := by decide +kernel
theorem dX3_meet_108 : decode cX3_meet 108 = .ok (.goto 4, 3) := by decide +kernel
theorem dX3_meet_111 : decode cX3_meet 111 = .ok (.iload_n 1, 1) := by decide +kernel
theorem dX3_meet_112 : decode cX3_meet 112 = .ok (.istore 8, 2) := by decide +kernel
theorem dX3_meet_114 : decode cX3_meet 114 = .ok (.iload 6, 2) := by decide +kernel
theorem dX3_meet_116 : decode cX3_meet 116 = .ok (.iload 7, 2) := by decide +kernel
theorem dX3_meet_118 : decode cX3_meet 118 = .ok (.iload 4, 2) := by decide +kernel
theorem dX3_meet_120 : decode cX3_meet 120 = .ok (.if_icmp .ge 26, 3) := by decide +kernel
theorem dX3_meet_123 : decode cX3_meet 123 = .ok (.aload_n 0, 1) := by decide +kernel
theorem dX3_meet_124 : decode cX3_meet 124 = .ok (.aload_n 0, 1) := by decide +kernel
theorem dX3_meet_125 : decode cX3_meet 125 = .ok (.getfield 52, 3) := by decide +kernel
theorem dX3_meet_128 : decode cX3_meet 128 = .ok (.iload 7, 2) := by decide +kernel
theorem dX3_meet_130 : decode cX3_meet 130 = .ok (.iaload, 1) := by decide +kernel
theorem dX3_meet_131 : decode cX3_meet 131 = .ok (.iload 8, 2) := by decide +kernel
theorem dX3_meet_133 : decode cX3_meet 133 = .ok (.aload_n 0, 1) := by decide +kernel
theorem dX3_meet_134 : decode cX3_meet 134 = .ok (.getfield 49, 3) := by decide +kernel
theorem dX3_meet_137 : decode cX3_meet 137 = .ok (.iload 7, 2) := by decide +kernel
theorem dX3_meet_139 : decode cX3_meet 139 = .ok (.iaload, 1) := by decide +kernel
theorem dX3_meet_140 : decode cX3_meet 140 = .ok (.invokevirtual 115, 3) := by decide +kernel
theorem dX3_meet_143 : decode cX3_meet 143 = .ok (.goto 23, 3) := by decide +kernel
theorem dX3_meet_146 : decode cX3_meet 146 = .ok (.aload_n 0, 1) := by decide +kernel
theorem dX3_meet_147 : decode cX3_meet 147 = .ok (.aload_n 0, 1) := by decide +kernel
theorem dX3_meet_148 : decode cX3_meet 148 = .ok (.getfield 52, 3) := by decide +kernel
theorem dX3_meet_151 : decode cX3_meet 151 = .ok (.iload 7, 2) := by decide +kernel
theorem dX3_meet_153 : decode cX3_meet 153 = .ok (.iaload, 1) := by decide +kernel
theorem dX3_meet_154 : decode cX3_meet 154 = .ok (.iload 8, 2) := by decide +kernel
theorem dX3_meet_156 : decode cX3_meet 156 = .ok (.aload_n 0, 1) := by decide +kernel
theorem dX3_meet_157 : decode cX3_meet 157 = .ok (.getfield 49, 3) := by decide +kernel
theorem dX3_meet_160 : decode cX3_meet 160 = .ok (.iload 7, 2) := by decide +kernel
theorem dX3_meet_162 : decode cX3_meet 162 = .ok (.iaload, 1) := by decide +kernel
theorem dX3_meet_163 : decode cX3_meet 163 = .ok (.invokevirtual 119, 3) := by decide +kernel
theorem dX3_meet_166 : decode cX3_meet 166 = .ok (.iadd, 1) := by decide +kernel
theorem dX3_meet_167 : decode cX3_meet 167 = .ok (.istore 6, 2) := by decide +kernel
theorem dX3_meet_169 : decode cX3_meet 169 = .ok (.iinc 7 1, 3) := by decide +kernel
theorem dX3_meet_172 : decode cX3_meet 172 = .ok (.goto (-89), 3) := by decide +kernel
theorem dX3_meet_175 : decode cX3_meet 175 = .ok (.aload_n 0, 1) := by decide +kernel
theorem dX3_meet_176 : decode cX3_meet 176 = .ok (.iload_n 1, 1) := by decide +kernel
theorem dX3_meet_177 : decode cX3_meet 177 = .ok (.iload_n 2, 1) := by decide +kernel
theorem dX3_meet_178 : decode cX3_meet 178 = .ok (.invokevirtual 122, 3) := by decide +kernel
theorem dX3_meet_181 : decode cX3_meet 181 = .ok (.iload 6, 2) := by decide +kernel
theorem dX3_meet_183 : decode cX3_meet 183 = .ok (.ireturn, 1) := by decide +kernel
set_option maxRecDepth 20000 in
theorem ggX3_pass_X3_between : GoodIn wsX3_pass wsX3_between := goodIn_r _ [11] (by decide +kernel) (by decide +kernel)
set_option maxRecDepth 20000 in
theorem gX3_pass_X3_between : GoodIn wsX3_pass (wsV RX3 65 RX3 yX3_between wsX3_between) := goodIn_app (goodIn_of _ (by decide +kernel)) ggX3_pass_X3_between
set_option maxRecDepth 20000 in
theorem ggX3_pass_X3_holds : GoodIn wsX3_pass wsX3_holds := goodIn_r _ [15, 16, 17, 18, 19, 20, 21, 22, 23, 24, 25, 26, 27, 28, 29, 30, 31, 32, 33, 34, 35, 36, 37] (by decide +kernel) (by decide +kernel)
set_option maxRecDepth 20000 in
theorem gX3_pass_X3_holds : GoodIn wsX3_pass (wsV RX3 87 RX3 yX3_holds wsX3_holds) := goodIn_app (goodIn_of _ (by decide +kernel)) ggX3_pass_X3_holds
theorem dX3_pass_0 : decode cX3_pass 0 = .ok (.aload_n 0, 1) := by decide +kernel
theorem dX3_pass_1 : decode cX3_pass 1 = .ok (.aload_n 0, 1) := by decide +kernel
theorem dX3_pass_2 : decode cX3_pass 2 = .ok (.iload_n 1, 1) := by decide +kernel
theorem dX3_pass_3 : decode cX3_pass 3 = .ok (.iconst 1, 1) := by decide +kernel
theorem dX3_pass_4 : decode cX3_pass 4 = .ok (.sipush 10000, 3) := by decide +kernel
theorem dX3_pass_7 : decode cX3_pass 7 = .ok (.invokevirtual 65, 3) := by decide +kernel
theorem dX3_pass_10 : decode cX3_pass 10 = .ok (.ifCond .eq 7, 3) := by decide +kernel
theorem dX3_pass_13 : decode cX3_pass 13 = .ok (.iconst 0, 1) := by decide +kernel
theorem dX3_pass_14 : decode cX3_pass 14 = .ok (.goto 4, 3) := by decide +kernel
theorem dX3_pass_17 : decode cX3_pass 17 = .ok (.iconst 1, 1) := by decide +kernel
theorem dX3_pass_18 : decode cX3_pass 18 = .ok (.invokevirtual 87, 3) := by decide +kernel
theorem dX3_pass_21 : decode cX3_pass 21 = .ok (.ifCond .eq 5, 3) := by decide +kernel
theorem dX3_pass_24 : decode cX3_pass 24 = .ok (.iconst (-1), 1) := by decide +kernel
theorem dX3_pass_25 : decode cX3_pass 25 = .ok (.ireturn, 1) := by decide +kernel
theorem dX3_pass_26 : decode cX3_pass 26 = .ok (.aload_n 0, 1) := by decide +kernel
theorem dX3_pass_27 : decode cX3_pass 27 = .ok (.getfield 93, 3) := by decide +kernel
theorem dX3_pass_30 : decode cX3_pass 30 = .ok (.istore_n 2, 1) := by decide +kernel
theorem dX3_pass_31 : decode cX3_pass 31 = .ok (.iconst 0, 1) := by decide +kernel
theorem dX3_pass_32 : decode cX3_pass 32 = .ok (.istore_n 3, 1) := by decide +kernel
theorem dX3_pass_33 : decode cX3_pass 33 = .ok (.aload_n 0, 1) := by decide +kernel
theorem dX3_pass_34 : decode cX3_pass 34 = .ok (.dup, 1) := by decide +kernel
theorem dX3_pass_35 : decode cX3_pass 35 = .ok (.getfield 93, 3) := by decide +kernel
theorem dX3_pass_38 : decode cX3_pass 38 = .ok (.iload_n 1, 1) := by decide +kernel
theorem dX3_pass_39 : decode cX3_pass 39 = .ok (.iadd, 1) := by decide +kernel
theorem dX3_pass_40 : decode cX3_pass 40 = .ok (.putfield 93, 3) := by decide +kernel
theorem dX3_pass_43 : decode cX3_pass 43 = .ok (.iconst 0, 1) := by decide +kernel
theorem dX3_pass_44 : decode cX3_pass 44 = .ok (.istore 4, 2) := by decide +kernel
theorem dX3_pass_46 : decode cX3_pass 46 = .ok (.iload 4, 2) := by decide +kernel
theorem dX3_pass_48 : decode cX3_pass 48 = .ok (.aload_n 0, 1) := by decide +kernel
theorem dX3_pass_49 : decode cX3_pass 49 = .ok (.getfield 69, 3) := by decide +kernel
theorem dX3_pass_52 : decode cX3_pass 52 = .ok (.if_icmp .ge 90, 3) := by decide +kernel
theorem dX3_pass_55 : decode cX3_pass 55 = .ok (.aload_n 0, 1) := by decide +kernel
theorem dX3_pass_56 : decode cX3_pass 56 = .ok (.getfield 16, 3) := by decide +kernel
theorem dX3_pass_59 : decode cX3_pass 59 = .ok (.iload 4, 2) := by decide +kernel
theorem dX3_pass_61 : decode cX3_pass 61 = .ok (.iaload, 1) := by decide +kernel
theorem dX3_pass_62 : decode cX3_pass 62 = .ok (.iload_n 2, 1) := by decide +kernel
theorem dX3_pass_63 : decode cX3_pass 63 = .ok (.if_icmp .le 73, 3) := by decide +kernel
theorem dX3_pass_66 : decode cX3_pass 66 = .ok (.aload_n 0, 1) := by decide +kernel
theorem dX3_pass_67 : decode cX3_pass 67 = .ok (.getfield 16, 3) := by decide +kernel
theorem dX3_pass_70 : decode cX3_pass 70 = .ok (.iload 4, 2) := by decide +kernel
theorem dX3_pass_72 : decode cX3_pass 72 = .ok (.iaload, 1) := by decide +kernel
theorem dX3_pass_73 : decode cX3_pass 73 = .ok (.aload_n 0, 1) := by decide +kernel
theorem dX3_pass_74 : decode cX3_pass 74 = .ok (.getfield 93, 3) := by decide +kernel
theorem dX3_pass_77 : decode cX3_pass 77 = .ok (.if_icmp .gt 59, 3) := by decide +kernel
theorem dX3_pass_80 : decode cX3_pass 80 = .ok (.iload_n 3, 1) := by decide +kernel
theorem dX3_pass_81 : decode cX3_pass 81 = .ok (.aload_n 0, 1) := by decide +kernel
theorem dX3_pass_82 : decode cX3_pass 82 = .ok (.getfield 22, 3) := by decide +kernel
theorem dX3_pass_85 : decode cX3_pass 85 = .ok (.iload 4, 2) := by decide +kernel
theorem dX3_pass_87 : decode cX3_pass 87 = .ok (.iaload, 1) := by decide +kernel
theorem dX3_pass_88 : decode cX3_pass 88 = .ok (.ifCond .ge 7, 3) := by decide +kernel
theorem dX3_pass_91 : decode cX3_pass 91 = .ok (.iconst 1, 1) := by decide +kernel
theorem dX3_pass_92 : decode cX3_pass 92 = .ok (.goto 4, 3) := by decide +kernel
theorem dX3_pass_95 : decode cX3_pass 95 = .ok (.iconst 0, 1) := by decide +kernel
theorem dX3_pass_96 : decode cX3_pass 96 = .ok (.iadd, 1) := by decide +kernel
theorem dX3_pass_97 : decode cX3_pass 97 = .ok (.istore_n 3, 1) := by decide +kernel
theorem dX3_pass_98 : decode cX3_pass 98 = .ok (.aload_n 0, 1) := by decide +kernel
theorem dX3_pass_99 : decode cX3_pass 99 = .ok (.getfield 19, 3) := by decide +kernel
theorem dX3_pass_102 : decode cX3_pass 102 = .ok (.iload 4, 2) := by decide +kernel
theorem dX3_pass_104 : decode cX3_pass 104 = .ok (.iconst (-1), 1) := by decide +kernel
theorem dX3_pass_105 : decode cX3_pass 105 = .ok (.iastore, 1) := by decide +kernel
theorem dX3_pass_106 : decode cX3_pass 106 = .ok (.iconst 0, 1) := by decide +kernel
theorem dX3_pass_107 : decode cX3_pass 107 = .ok (.istore 5, 2) := by decide +kernel
theorem dX3_pass_109 : decode cX3_pass 109 = .ok (.iload 5, 2) := by decide +kernel
theorem dX3_pass_111 : decode cX3_pass 111 = .ok (.bipush 8, 2) := by decide +kernel
theorem dX3_pass_113 : decode cX3_pass 113 = .ok (.if_icmp .ge 23, 3) := by decide +kernel
theorem dX3_pass_116 : decode cX3_pass 116 = .ok (.aload_n 0, 1) := by decide +kernel
theorem dX3_pass_117 : decode cX3_pass 117 = .ok (.getfield 28, 3) := by decide +kernel
theorem dX3_pass_120 : decode cX3_pass 120 = .ok (.bipush 40, 2) := by decide +kernel
theorem dX3_pass_122 : decode cX3_pass 122 = .ok (.iload 5, 2) := by decide +kernel
theorem dX3_pass_124 : decode cX3_pass 124 = .ok (.imul, 1) := by decide +kernel
theorem dX3_pass_125 : decode cX3_pass 125 = .ok (.iload 4, 2) := by decide +kernel
theorem dX3_pass_127 : decode cX3_pass 127 = .ok (.iadd, 1) := by decide +kernel
theorem dX3_pass_128 : decode cX3_pass 128 = .ok (.iconst 0, 1) := by decide +kernel
theorem dX3_pass_129 : decode cX3_pass 129 = .ok (.iastore, 1) := by decide +kernel
theorem dX3_pass_130 : decode cX3_pass 130 = .ok (.iinc 5 1, 3) := by decide +kernel
theorem dX3_pass_133 : decode cX3_pass 133 = .ok (.goto (-24), 3) := by decide +kernel
theorem dX3_pass_136 : decode cX3_pass 136 = .ok (.iinc 4 1, 3) := by decide +kernel
theorem dX3_pass_139 : decode cX3_pass 139 = .ok (.goto (-93), 3) := by decide +kernel
theorem dX3_pass_142 : decode cX3_pass 142 = .ok (.iload_n 3, 1) := by decide +kernel
theorem dX3_pass_143 : decode cX3_pass 143 = .ok (.ireturn, 1) := by decide +kernel
set_option maxRecDepth 20000 in
theorem ggX3_setBuffer_X3_isNode : GoodIn wsX3_setBuffer wsX3_isNode := goodIn_r _ [6, 7, 8, 9, 5, 10] (by decide +kernel) (by decide +kernel)
set_option maxRecDepth 20000 in
theorem gX3_setBuffer_X3_isNode : GoodIn wsX3_setBuffer (wsV RX3 83 RX3 yX3_isNode wsX3_isNode) := goodIn_app (goodIn_of _ (by decide +kernel)) ggX3_setBuffer_X3_isNode
set_option maxRecDepth 20000 in
theorem ggX3_setBuffer_X3_between : GoodIn wsX3_setBuffer wsX3_between := goodIn_r _ [10] (by decide +kernel) (by decide +kernel)
set_option maxRecDepth 20000 in
theorem gX3_setBuffer_X3_between : GoodIn wsX3_setBuffer (wsV RX3 65 RX3 yX3_between wsX3_between) := goodIn_app (goodIn_of _ (by decide +kernel)) ggX3_setBuffer_X3_between
set_option maxRecDepth 20000 in
theorem ggX3_setBuffer_X3_load : GoodIn wsX3_setBuffer wsX3_load := goodIn_r _ [14, 15, 16, 22, 23, 24, 25, 26, 27, 28, 29, 30, 31, 32, 33, 34, 35, 36, 37, 38, 39, 40, 41, 42] (by decide +kernel) (by decide +kernel)
set_option maxRecDepth 20000 in
theorem gX3_setBuffer_X3_load : GoodIn wsX3_setBuffer (wsV RX3 76 RX3 yX3_load wsX3_load) := goodIn_app (goodIn_of _ (by decide +kernel)) ggX3_setBuffer_X3_load
set_option maxRecDepth 20000 in
theorem ggX3_setBuffer_X3_holds : GoodIn wsX3_setBuffer wsX3_holds := goodIn_r _ [20, 21, 22, 23, 24, 25, 26, 27, 28, 29, 30, 31, 32, 33, 34, 35, 36, 37, 38, 39, 40, 41, 42] (by decide +kernel) (by decide +kernel)
set_option maxRecDepth 20000 in
theorem gX3_setBuffer_X3_holds : GoodIn wsX3_setBuffer (wsV RX3 87 RX3 yX3_holds wsX3_holds) := goodIn_app (goodIn_of _ (by decide +kernel)) ggX3_setBuffer_X3_holds
theorem dX3_setBuffer_0 : decode cX3_setBuffer 0 = .ok (.aload_n 0, 1) := by decide +kernel
theorem dX3_setBuffer_1 : decode cX3_setBuffer 1 = .ok (.aload_n 0, 1) := by decide +kernel
theorem dX3_setBuffer_2 : decode cX3_setBuffer 2 = .ok (.iload_n 1, 1) := by decide +kernel
theorem dX3_setBuffer_3 : decode cX3_setBuffer 3 = .ok (.invokevirtual 83, 3) := by decide +kernel
theorem dX3_setBuffer_6 : decode cX3_setBuffer 6 = .ok (.ifCond .ne 7, 3) := by decide +kernel
theorem dX3_setBuffer_9 : decode cX3_setBuffer 9 = .ok (.iconst 1, 1) := by decide +kernel
theorem dX3_setBuffer_10 : decode cX3_setBuffer 10 = .ok (.goto 32, 3) := by decide +kernel
theorem dX3_setBuffer_13 : decode cX3_setBuffer 13 = .ok (.aload_n 0, 1) := by decide +kernel
theorem dX3_setBuffer_14 : decode cX3_setBuffer 14 = .ok (.iload_n 2, 1) := by decide +kernel
theorem dX3_setBuffer_15 : decode cX3_setBuffer 15 = .ok (.iconst 1, 1) := by decide +kernel
theorem dX3_setBuffer_16 : decode cX3_setBuffer 16 = .ok (.bipush 8, 2) := by decide +kernel
theorem dX3_setBuffer_18 : decode cX3_setBuffer 18 = .ok (.invokevirtual 65, 3) := by decide +kernel
theorem dX3_setBuffer_21 : decode cX3_setBuffer 21 = .ok (.ifCond .ne 7, 3) := by decide +kernel
theorem dX3_setBuffer_24 : decode cX3_setBuffer 24 = .ok (.iconst 2, 1) := by decide +kernel
theorem dX3_setBuffer_25 : decode cX3_setBuffer 25 = .ok (.goto 17, 3) := by decide +kernel
theorem dX3_setBuffer_28 : decode cX3_setBuffer 28 = .ok (.aload_n 0, 1) := by decide +kernel
theorem dX3_setBuffer_29 : decode cX3_setBuffer 29 = .ok (.iload_n 1, 1) := by decide +kernel
theorem dX3_setBuffer_30 : decode cX3_setBuffer 30 = .ok (.invokevirtual 76, 3) := by decide +kernel
theorem dX3_setBuffer_33 : decode cX3_setBuffer 33 = .ok (.iload_n 2, 1) := by decide +kernel
theorem dX3_setBuffer_34 : decode cX3_setBuffer 34 = .ok (.if_icmp .le 7, 3) := by decide +kernel
theorem dX3_setBuffer_37 : decode cX3_setBuffer 37 = .ok (.iconst 3, 1) := by decide +kernel
theorem dX3_setBuffer_38 : decode cX3_setBuffer 38 = .ok (.goto 4, 3) := by decide +kernel
theorem dX3_setBuffer_41 : decode cX3_setBuffer 41 = .ok (.iconst 0, 1) := by decide +kernel
theorem dX3_setBuffer_42 : decode cX3_setBuffer 42 = .ok (.invokevirtual 87, 3) := by decide +kernel
theorem dX3_setBuffer_45 : decode cX3_setBuffer 45 = .ok (.ifCond .eq 5, 3) := by decide +kernel
theorem dX3_setBuffer_48 : decode cX3_setBuffer 48 = .ok (.iconst (-1), 1) := by decide +kernel
theorem dX3_setBuffer_49 : decode cX3_setBuffer 49 = .ok (.ireturn, 1) := by decide +kernel
theorem dX3_setBuffer_50 : decode cX3_setBuffer 50 = .ok (.aload_n 0, 1) := by decide +kernel
theorem dX3_setBuffer_51 : decode cX3_setBuffer 51 = .ok (.getfield 37, 3) := by decide +kernel
theorem dX3_setBuffer_54 : decode cX3_setBuffer 54 = .ok (.iload_n 1, 1) := by decide +kernel
theorem dX3_setBuffer_55 : decode cX3_setBuffer 55 = .ok (.iaload, 1) := by decide +kernel
theorem dX3_setBuffer_56 : decode cX3_setBuffer 56 = .ok (.istore_n 3, 1) := by decide +kernel
theorem dX3_setBuffer_57 : decode cX3_setBuffer 57 = .ok (.aload_n 0, 1) := by decide +kernel
theorem dX3_setBuffer_58 : decode cX3_setBuffer 58 = .ok (.getfield 37, 3) := by decide +kernel
theorem dX3_setBuffer_61 : decode cX3_setBuffer 61 = .ok (.iload_n 1, 1) := by decide +kernel
theorem dX3_setBuffer_62 : decode cX3_setBuffer 62 = .ok (.iload_n 2, 1) := by decide +kernel
theorem dX3_setBuffer_63 : decode cX3_setBuffer 63 = .ok (.iastore, 1) := by decide +kernel
theorem dX3_setBuffer_64 : decode cX3_setBuffer 64 = .ok (.iload_n 3, 1) := by decide +kernel
theorem dX3_setBuffer_65 : decode cX3_setBuffer 65 = .ok (.ireturn, 1) := by decide +kernel
set_option maxRecDepth 20000 in
theorem ggX3_addContact_X3_between : GoodIn wsX3_addContact wsX3_between := goodIn_r _ [8] (by decide +kernel) (by decide +kernel)
set_option maxRecDepth 20000 in
theorem gX3_addContact_X3_between : GoodIn wsX3_addContact (wsV RX3 65 RX3 yX3_between wsX3_between) := goodIn_app (goodIn_of _ (by decide +kernel)) ggX3_addContact_X3_between
set_option maxRecDepth 20000 in
theorem ggX3_addContact_X3_isNode : GoodIn wsX3_addContact wsX3_isNode := goodIn_r _ [12, 4, 5, 6, 7, 8] (by decide +kernel) (by decide +kernel)
set_option maxRecDepth 20000 in
theorem gX3_addContact_X3_isNode : GoodIn wsX3_addContact (wsV RX3 83 RX3 yX3_isNode wsX3_isNode) := goodIn_app (goodIn_of _ (by decide +kernel)) ggX3_addContact_X3_isNode
set_option maxRecDepth 20000 in
theorem ggX3_addContact_X3_holds : GoodIn wsX3_addContact wsX3_holds := goodIn_r _ [16, 17, 18, 19, 20, 21, 22, 23, 24, 25, 26, 27, 28, 29, 30, 31, 32, 33, 34, 35, 36, 37, 38] (by decide +kernel) (by decide +kernel)
set_option maxRecDepth 20000 in
theorem gX3_addContact_X3_holds : GoodIn wsX3_addContact (wsV RX3 87 RX3 yX3_holds wsX3_holds) := goodIn_app (goodIn_of _ (by decide +kernel)) ggX3_addContact_X3_holds
theorem dX3_addContact_0 : decode cX3_addContact 0 = .ok (.iload_n 1, 1) := by decide +kernel
theorem dX3_addContact_1 : decode cX3_addContact 1 = .ok (.iload_n 2, 1) := by decide +kernel
theorem dX3_addContact_2 : decode cX3_addContact 2 = .ok (.if_icmp .eq 30, 3) := by decide +kernel
theorem dX3_addContact_5 : decode cX3_addContact 5 = .ok (.aload_n 0, 1) := by decide +kernel
theorem dX3_addContact_6 : decode cX3_addContact 6 = .ok (.iload_n 3, 1) := by decide +kernel
theorem dX3_addContact_7 : decode cX3_addContact 7 = .ok (.iconst 0, 1) := by decide +kernel
theorem dX3_addContact_8 : decode cX3_addContact 8 = .ok (.ldc 125, 2) := by decide +kernel
theorem dX3_addContact_10 : decode cX3_addContact 10 = .ok (.invokevirtual 65, 3) := by decide +kernel
theorem dX3_addContact_13 : decode cX3_addContact 13 = .ok (.ifCond .eq 19, 3) := by decide +kernel
theorem dX3_addContact_16 : decode cX3_addContact 16 = .ok (.aload_n 0, 1) := by decide +kernel
theorem dX3_addContact_17 : decode cX3_addContact 17 = .ok (.iload 4, 2) := by decide +kernel
theorem dX3_addContact_19 : decode cX3_addContact 19 = .ok (.iload_n 3, 1) := by decide +kernel
theorem dX3_addContact_20 : decode cX3_addContact 20 = .ok (.ldc 125, 2) := by decide +kernel
theorem dX3_addContact_22 : decode cX3_addContact 22 = .ok (.invokevirtual 65, 3) := by decide +kernel
theorem dX3_addContact_25 : decode cX3_addContact 25 = .ok (.ifCond .eq 7, 3) := by decide +kernel
theorem dX3_addContact_28 : decode cX3_addContact 28 = .ok (.iconst 1, 1) := by decide +kernel
theorem dX3_addContact_29 : decode cX3_addContact 29 = .ok (.goto 4, 3) := by decide +kernel
theorem dX3_addContact_32 : decode cX3_addContact 32 = .ok (.iconst 0, 1) := by decide +kernel
theorem dX3_addContact_33 : decode cX3_addContact 33 = .ok (.istore 5, 2) := by decide +kernel
theorem dX3_addContact_35 : decode cX3_addContact 35 = .ok (.aload_n 0, 1) := by decide +kernel
theorem dX3_addContact_36 : decode cX3_addContact 36 = .ok (.aload_n 0, 1) := by decide +kernel
theorem dX3_addContact_37 : decode cX3_addContact 37 = .ok (.iload_n 1, 1) := by decide +kernel
theorem dX3_addContact_38 : decode cX3_addContact 38 = .ok (.invokevirtual 83, 3) := by decide +kernel
theorem dX3_addContact_41 : decode cX3_addContact 41 = .ok (.ifCond .eq 11, 3) := by decide +kernel
theorem dX3_addContact_44 : decode cX3_addContact 44 = .ok (.aload_n 0, 1) := by decide +kernel
theorem dX3_addContact_45 : decode cX3_addContact 45 = .ok (.iload_n 2, 1) := by decide +kernel
theorem dX3_addContact_46 : decode cX3_addContact 46 = .ok (.invokevirtual 83, 3) := by decide +kernel
theorem dX3_addContact_49 : decode cX3_addContact 49 = .ok (.ifCond .ne 7, 3) := by decide +kernel
theorem dX3_addContact_52 : decode cX3_addContact 52 = .ok (.iconst 1, 1) := by decide +kernel
theorem dX3_addContact_53 : decode cX3_addContact 53 = .ok (.goto 26, 3) := by decide +kernel
theorem dX3_addContact_56 : decode cX3_addContact 56 = .ok (.iload 5, 2) := by decide +kernel
theorem dX3_addContact_58 : decode cX3_addContact 58 = .ok (.ifCond .ne 7, 3) := by decide +kernel
theorem dX3_addContact_61 : decode cX3_addContact 61 = .ok (.iconst 2, 1) := by decide +kernel
theorem dX3_addContact_62 : decode cX3_addContact 62 = .ok (.goto 17, 3) := by decide +kernel
theorem dX3_addContact_65 : decode cX3_addContact 65 = .ok (.aload_n 0, 1) := by decide +kernel
theorem dX3_addContact_66 : decode cX3_addContact 66 = .ok (.getfield 126, 3) := by decide +kernel
theorem dX3_addContact_69 : decode cX3_addContact 69 = .ok (.bipush 30, 2) := by decide +kernel
theorem dX3_addContact_71 : decode cX3_addContact 71 = .ok (.if_icmp .ne 7, 3) := by decide +kernel
theorem dX3_addContact_74 : decode cX3_addContact 74 = .ok (.iconst 3, 1) := by decide +kernel
theorem dX3_addContact_75 : decode cX3_addContact 75 = .ok (.goto 4, 3) := by decide +kernel
theorem dX3_addContact_78 : decode cX3_addContact 78 = .ok (.iconst 0, 1) := by decide +kernel
theorem dX3_addContact_79 : decode cX3_addContact 79 = .ok (.invokevirtual 87, 3) := by decide +kernel
theorem dX3_addContact_82 : decode cX3_addContact 82 = .ok (.ifCond .eq 5, 3) := by decide +kernel
theorem dX3_addContact_85 : decode cX3_addContact 85 = .ok (.iconst (-1), 1) := by decide +kernel
theorem dX3_addContact_86 : decode cX3_addContact 86 = .ok (.ireturn, 1) := by decide +kernel
theorem dX3_addContact_87 : decode cX3_addContact 87 = .ok (.aload_n 0, 1) := by decide +kernel
theorem dX3_addContact_88 : decode cX3_addContact 88 = .ok (.getfield 46, 3) := by decide +kernel
theorem dX3_addContact_91 : decode cX3_addContact 91 = .ok (.iconst 4, 1) := by decide +kernel
theorem dX3_addContact_92 : decode cX3_addContact 92 = .ok (.aload_n 0, 1) := by decide +kernel
theorem dX3_addContact_93 : decode cX3_addContact 93 = .ok (.getfield 126, 3) := by decide +kernel
theorem dX3_addContact_96 : decode cX3_addContact 96 = .ok (.imul, 1) := by decide +kernel
theorem dX3_addContact_97 : decode cX3_addContact 97 = .ok (.iload_n 1, 1) := by decide +kernel
theorem dX3_addContact_98 : decode cX3_addContact 98 = .ok (.iastore, 1) := by decide +kernel
theorem dX3_addContact_99 : decode cX3_addContact 99 = .ok (.aload_n 0, 1) := by decide +kernel
theorem dX3_addContact_100 : decode cX3_addContact 100 = .ok (.getfield 46, 3) := by decide +kernel
theorem dX3_addContact_103 : decode cX3_addContact 103 = .ok (.iconst 4, 1) := by decide +kernel
theorem dX3_addContact_104 : decode cX3_addContact 104 = .ok (.aload_n 0, 1) := by decide +kernel
theorem dX3_addContact_105 : decode cX3_addContact 105 = .ok (.getfield 126, 3) := by decide +kernel
theorem dX3_addContact_108 : decode cX3_addContact 108 = .ok (.imul, 1) := by decide +kernel
theorem dX3_addContact_109 : decode cX3_addContact 109 = .ok (.iconst 1, 1) := by decide +kernel
theorem dX3_addContact_110 : decode cX3_addContact 110 = .ok (.iadd, 1) := by decide +kernel
theorem dX3_addContact_111 : decode cX3_addContact 111 = .ok (.iload_n 2, 1) := by decide +kernel
theorem dX3_addContact_112 : decode cX3_addContact 112 = .ok (.iastore, 1) := by decide +kernel
theorem dX3_addContact_113 : decode cX3_addContact 113 = .ok (.aload_n 0, 1) := by decide +kernel
theorem dX3_addContact_114 : decode cX3_addContact 114 = .ok (.getfield 46, 3) := by decide +kernel
theorem dX3_addContact_117 : decode cX3_addContact 117 = .ok (.iconst 4, 1) := by decide +kernel
theorem dX3_addContact_118 : decode cX3_addContact 118 = .ok (.aload_n 0, 1) := by decide +kernel
theorem dX3_addContact_119 : decode cX3_addContact 119 = .ok (.getfield 126, 3) := by decide +kernel
theorem dX3_addContact_122 : decode cX3_addContact 122 = .ok (.imul, 1) := by decide +kernel
theorem dX3_addContact_123 : decode cX3_addContact 123 = .ok (.iconst 2, 1) := by decide +kernel
theorem dX3_addContact_124 : decode cX3_addContact 124 = .ok (.iadd, 1) := by decide +kernel
theorem dX3_addContact_125 : decode cX3_addContact 125 = .ok (.iload_n 3, 1) := by decide +kernel
theorem dX3_addContact_126 : decode cX3_addContact 126 = .ok (.iastore, 1) := by decide +kernel
theorem dX3_addContact_127 : decode cX3_addContact 127 = .ok (.aload_n 0, 1) := by decide +kernel
theorem dX3_addContact_128 : decode cX3_addContact 128 = .ok (.getfield 46, 3) := by decide +kernel
theorem dX3_addContact_131 : decode cX3_addContact 131 = .ok (.iconst 4, 1) := by decide +kernel
theorem dX3_addContact_132 : decode cX3_addContact 132 = .ok (.aload_n 0, 1) := by decide +kernel
theorem dX3_addContact_133 : decode cX3_addContact 133 = .ok (.getfield 126, 3) := by decide +kernel
theorem dX3_addContact_136 : decode cX3_addContact 136 = .ok (.imul, 1) := by decide +kernel
theorem dX3_addContact_137 : decode cX3_addContact 137 = .ok (.iconst 3, 1) := by decide +kernel
theorem dX3_addContact_138 : decode cX3_addContact 138 = .ok (.iadd, 1) := by decide +kernel
theorem dX3_addContact_139 : decode cX3_addContact 139 = .ok (.iload 4, 2) := by decide +kernel
theorem dX3_addContact_141 : decode cX3_addContact 141 = .ok (.iastore, 1) := by decide +kernel
theorem dX3_addContact_142 : decode cX3_addContact 142 = .ok (.aload_n 0, 1) := by decide +kernel
theorem dX3_addContact_143 : decode cX3_addContact 143 = .ok (.dup, 1) := by decide +kernel
theorem dX3_addContact_144 : decode cX3_addContact 144 = .ok (.getfield 126, 3) := by decide +kernel
theorem dX3_addContact_147 : decode cX3_addContact 147 = .ok (.iconst 1, 1) := by decide +kernel
theorem dX3_addContact_148 : decode cX3_addContact 148 = .ok (.iadd, 1) := by decide +kernel
theorem dX3_addContact_149 : decode cX3_addContact 149 = .ok (.putfield 126, 3) := by decide +kernel
theorem dX3_addContact_152 : decode cX3_addContact 152 = .ok (.aload_n 0, 1) := by decide +kernel
theorem dX3_addContact_153 : decode cX3_addContact 153 = .ok (.getfield 126, 3) := by decide +kernel
theorem dX3_addContact_156 : decode cX3_addContact 156 = .ok (.ireturn, 1) := by decide +kernel
set_option maxRecDepth 20000 in
theorem ggX3_clock_X3_plain : GoodIn wsX3_clock wsX3_plain := goodIn_r _ [6, 7, 8, 9, 10, 11, 12, 13, 14, 15, 16, 17, 18, 19, 20, 21, 22, 23, 24, 25, 26, 27, 28] (by decide +kernel) (by decide +kernel)
set_option maxRecDepth 20000 in
theorem gX3_clock_X3_plain : GoodIn wsX3_clock (wsV RX3 129 RX3 yX3_plain wsX3_plain) := goodIn_app (goodIn_of _ (by decide +kernel)) ggX3_clock_X3_plain
theorem dX3_clock_0 : decode cX3_clock 0 = .ok (.aload_n 0, 1) := by decide +kernel
theorem dX3_clock_1 : decode cX3_clock 1 = .ok (.aload_n 0, 1) := by decide +kernel
theorem dX3_clock_2 : decode cX3_clock 2 = .ok (.getfield 93, 3) := by decide +kernel
theorem dX3_clock_5 : decode cX3_clock 5 = .ok (.invokevirtual 129, 3) := by decide +kernel
theorem dX3_clock_8 : decode cX3_clock 8 = .ok (.ireturn, 1) := by decide +kernel
set_option maxRecDepth 20000 in
theorem ggX3_bundles_X3_plain : GoodIn wsX3_bundles wsX3_plain := goodIn_r _ [6, 7, 8, 9, 10, 11, 12, 13, 14, 15, 16, 17, 18, 19, 20, 21, 22, 23, 24, 25, 26, 27, 28] (by decide +kernel) (by decide +kernel)
set_option maxRecDepth 20000 in
theorem gX3_bundles_X3_plain : GoodIn wsX3_bundles (wsV RX3 129 RX3 yX3_plain wsX3_plain) := goodIn_app (goodIn_of _ (by decide +kernel)) ggX3_bundles_X3_plain
theorem dX3_bundles_0 : decode cX3_bundles 0 = .ok (.aload_n 0, 1) := by decide +kernel
theorem dX3_bundles_1 : decode cX3_bundles 1 = .ok (.aload_n 0, 1) := by decide +kernel
theorem dX3_bundles_2 : decode cX3_bundles 2 = .ok (.getfield 69, 3) := by decide +kernel
theorem dX3_bundles_5 : decode cX3_bundles 5 = .ok (.invokevirtual 129, 3) := by decide +kernel
theorem dX3_bundles_8 : decode cX3_bundles 8 = .ok (.ireturn, 1) := by decide +kernel
set_option maxRecDepth 20000 in
theorem ggX3_endOf_X3_isBundle : GoodIn wsX3_endOf wsX3_isBundle := goodIn_r _ [6, 7, 8, 9, 10, 5, 11, 17, 18, 19, 20, 21, 22, 23, 24, 25, 26, 27, 28, 29, 30, 31, 32, 33, 34, 35, 36, 37] (by decide +kernel) (by decide +kernel)
set_option maxRecDepth 20000 in
theorem gX3_endOf_X3_isBundle : GoodIn wsX3_endOf (wsV RX3 132 RX3 yX3_isBundle wsX3_isBundle) := goodIn_app (goodIn_of _ (by decide +kernel)) ggX3_endOf_X3_isBundle
set_option maxRecDepth 20000 in
theorem ggX3_endOf_X3_holds : GoodIn wsX3_endOf wsX3_holds := goodIn_r _ [15, 16, 17, 18, 19, 20, 21, 22, 23, 24, 25, 26, 27, 28, 29, 30, 31, 32, 33, 34, 35, 36, 37] (by decide +kernel) (by decide +kernel)
set_option maxRecDepth 20000 in
theorem gX3_endOf_X3_holds : GoodIn wsX3_endOf (wsV RX3 87 RX3 yX3_holds wsX3_holds) := goodIn_app (goodIn_of _ (by decide +kernel)) ggX3_endOf_X3_holds
theorem dX3_endOf_0 : decode cX3_endOf 0 = .ok (.aload_n 0, 1) := by decide +kernel
theorem dX3_endOf_1 : decode cX3_endOf 1 = .ok (.aload_n 0, 1) := by decide +kernel
theorem dX3_endOf_2 : decode cX3_endOf 2 = .ok (.iload_n 1, 1) := by decide +kernel
theorem dX3_endOf_3 : decode cX3_endOf 3 = .ok (.invokevirtual 132, 3) := by decide +kernel
theorem dX3_endOf_6 : decode cX3_endOf 6 = .ok (.ifCond .eq 7, 3) := by decide +kernel
theorem dX3_endOf_9 : decode cX3_endOf 9 = .ok (.iconst 0, 1) := by decide +kernel
theorem dX3_endOf_10 : decode cX3_endOf 10 = .ok (.goto 4, 3) := by decide +kernel
theorem dX3_endOf_13 : decode cX3_endOf 13 = .ok (.iconst 1, 1) := by decide +kernel
theorem dX3_endOf_14 : decode cX3_endOf 14 = .ok (.invokevirtual 87, 3) := by decide +kernel
theorem dX3_endOf_17 : decode cX3_endOf 17 = .ok (.ifCond .eq 7, 3) := by decide +kernel
theorem dX3_endOf_20 : decode cX3_endOf 20 = .ok (.iconst (-1), 1) := by decide +kernel
theorem dX3_endOf_21 : decode cX3_endOf 21 = .ok (.goto 9, 3) := by decide +kernel
theorem dX3_endOf_24 : decode cX3_endOf 24 = .ok (.aload_n 0, 1) := by decide +kernel
theorem dX3_endOf_25 : decode cX3_endOf 25 = .ok (.getfield 16, 3) := by decide +kernel
theorem dX3_endOf_28 : decode cX3_endOf 28 = .ok (.iload_n 1, 1) := by decide +kernel
theorem dX3_endOf_29 : decode cX3_endOf 29 = .ok (.iaload, 1) := by decide +kernel
theorem dX3_endOf_30 : decode cX3_endOf 30 = .ok (.ireturn, 1) := by decide +kernel
set_option maxRecDepth 20000 in
theorem ggX3_deliveredAt_X3_isBundle : GoodIn wsX3_deliveredAt wsX3_isBundle := goodIn_r _ [6, 7, 8, 9, 10, 5, 11, 17, 18, 19, 20, 21, 22, 23, 24, 25, 26, 27, 28, 29, 30, 31, 32, 33, 34, 35, 36, 37] (by decide +kernel) (by decide +kernel)
set_option maxRecDepth 20000 in
theorem gX3_deliveredAt_X3_isBundle : GoodIn wsX3_deliveredAt (wsV RX3 132 RX3 yX3_isBundle wsX3_isBundle) := goodIn_app (goodIn_of _ (by decide +kernel)) ggX3_deliveredAt_X3_isBundle
set_option maxRecDepth 20000 in
theorem ggX3_deliveredAt_X3_holds : GoodIn wsX3_deliveredAt wsX3_holds := goodIn_r _ [15, 16, 17, 18, 19, 20, 21, 22, 23, 24, 25, 26, 27, 28, 29, 30, 31, 32, 33, 34, 35, 36, 37] (by decide +kernel) (by decide +kernel)
set_option maxRecDepth 20000 in
theorem gX3_deliveredAt_X3_holds : GoodIn wsX3_deliveredAt (wsV RX3 87 RX3 yX3_holds wsX3_holds) := goodIn_app (goodIn_of _ (by decide +kernel)) ggX3_deliveredAt_X3_holds
theorem dX3_deliveredAt_0 : decode cX3_deliveredAt 0 = .ok (.aload_n 0, 1) := by decide +kernel
theorem dX3_deliveredAt_1 : decode cX3_deliveredAt 1 = .ok (.aload_n 0, 1) := by decide +kernel
theorem dX3_deliveredAt_2 : decode cX3_deliveredAt 2 = .ok (.iload_n 1, 1) := by decide +kernel
theorem dX3_deliveredAt_3 : decode cX3_deliveredAt 3 = .ok (.invokevirtual 132, 3) := by decide +kernel
theorem dX3_deliveredAt_6 : decode cX3_deliveredAt 6 = .ok (.ifCond .eq 7, 3) := by decide +kernel
theorem dX3_deliveredAt_9 : decode cX3_deliveredAt 9 = .ok (.iconst 0, 1) := by decide +kernel
theorem dX3_deliveredAt_10 : decode cX3_deliveredAt 10 = .ok (.goto 4, 3) := by decide +kernel
theorem dX3_deliveredAt_13 : decode cX3_deliveredAt 13 = .ok (.iconst 1, 1) := by decide +kernel
theorem dX3_deliveredAt_14 : decode cX3_deliveredAt 14 = .ok (.invokevirtual 87, 3) := by decide +kernel
theorem dX3_deliveredAt_17 : decode cX3_deliveredAt 17 = .ok (.ifCond .eq 7, 3) := by decide +kernel
theorem dX3_deliveredAt_20 : decode cX3_deliveredAt 20 = .ok (.iconst (-1), 1) := by decide +kernel
theorem dX3_deliveredAt_21 : decode cX3_deliveredAt 21 = .ok (.goto 9, 3) := by decide +kernel
theorem dX3_deliveredAt_24 : decode cX3_deliveredAt 24 = .ok (.aload_n 0, 1) := by decide +kernel
theorem dX3_deliveredAt_25 : decode cX3_deliveredAt 25 = .ok (.getfield 22, 3) := by decide +kernel
theorem dX3_deliveredAt_28 : decode cX3_deliveredAt 28 = .ok (.iload_n 1, 1) := by decide +kernel
theorem dX3_deliveredAt_29 : decode cX3_deliveredAt 29 = .ok (.iaload, 1) := by decide +kernel
theorem dX3_deliveredAt_30 : decode cX3_deliveredAt 30 = .ok (.ireturn, 1) := by decide +kernel
set_option maxRecDepth 20000 in
theorem ggX3_hops_X3_isBundle : GoodIn wsX3_hops wsX3_isBundle := goodIn_r _ [6, 7, 8, 9, 10, 5, 11, 17, 18, 19, 20, 21, 22, 23, 24, 25, 26, 27, 28, 29, 30, 31, 32, 33, 34, 35, 36, 37] (by decide +kernel) (by decide +kernel)
set_option maxRecDepth 20000 in
theorem gX3_hops_X3_isBundle : GoodIn wsX3_hops (wsV RX3 132 RX3 yX3_isBundle wsX3_isBundle) := goodIn_app (goodIn_of _ (by decide +kernel)) ggX3_hops_X3_isBundle
set_option maxRecDepth 20000 in
theorem ggX3_hops_X3_holds : GoodIn wsX3_hops wsX3_holds := goodIn_r _ [15, 16, 17, 18, 19, 20, 21, 22, 23, 24, 25, 26, 27, 28, 29, 30, 31, 32, 33, 34, 35, 36, 37] (by decide +kernel) (by decide +kernel)
set_option maxRecDepth 20000 in
theorem gX3_hops_X3_holds : GoodIn wsX3_hops (wsV RX3 87 RX3 yX3_holds wsX3_holds) := goodIn_app (goodIn_of _ (by decide +kernel)) ggX3_hops_X3_holds
theorem dX3_hops_0 : decode cX3_hops 0 = .ok (.aload_n 0, 1) := by decide +kernel
theorem dX3_hops_1 : decode cX3_hops 1 = .ok (.aload_n 0, 1) := by decide +kernel
theorem dX3_hops_2 : decode cX3_hops 2 = .ok (.iload_n 1, 1) := by decide +kernel
theorem dX3_hops_3 : decode cX3_hops 3 = .ok (.invokevirtual 132, 3) := by decide +kernel
theorem dX3_hops_6 : decode cX3_hops 6 = .ok (.ifCond .eq 7, 3) := by decide +kernel
theorem dX3_hops_9 : decode cX3_hops 9 = .ok (.iconst 0, 1) := by decide +kernel
theorem dX3_hops_10 : decode cX3_hops 10 = .ok (.goto 4, 3) := by decide +kernel
theorem dX3_hops_13 : decode cX3_hops 13 = .ok (.iconst 1, 1) := by decide +kernel
theorem dX3_hops_14 : decode cX3_hops 14 = .ok (.invokevirtual 87, 3) := by decide +kernel
theorem dX3_hops_17 : decode cX3_hops 17 = .ok (.ifCond .eq 7, 3) := by decide +kernel
theorem dX3_hops_20 : decode cX3_hops 20 = .ok (.iconst (-1), 1) := by decide +kernel
theorem dX3_hops_21 : decode cX3_hops 21 = .ok (.goto 9, 3) := by decide +kernel
theorem dX3_hops_24 : decode cX3_hops 24 = .ok (.aload_n 0, 1) := by decide +kernel
theorem dX3_hops_25 : decode cX3_hops 25 = .ok (.getfield 25, 3) := by decide +kernel
theorem dX3_hops_28 : decode cX3_hops 28 = .ok (.iload_n 1, 1) := by decide +kernel
theorem dX3_hops_29 : decode cX3_hops 29 = .ok (.iaload, 1) := by decide +kernel
theorem dX3_hops_30 : decode cX3_hops 30 = .ok (.ireturn, 1) := by decide +kernel
set_option maxRecDepth 20000 in
theorem ggX3_custodian_X3_isBundle : GoodIn wsX3_custodian wsX3_isBundle := goodIn_r _ [6, 7, 8, 9, 10, 5, 11, 17, 18, 19, 20, 21, 22, 23, 24, 25, 26, 27, 28, 29, 30, 31, 32, 33, 34, 35, 36, 37] (by decide +kernel) (by decide +kernel)
set_option maxRecDepth 20000 in
theorem gX3_custodian_X3_isBundle : GoodIn wsX3_custodian (wsV RX3 132 RX3 yX3_isBundle wsX3_isBundle) := goodIn_app (goodIn_of _ (by decide +kernel)) ggX3_custodian_X3_isBundle
set_option maxRecDepth 20000 in
theorem ggX3_custodian_X3_holds : GoodIn wsX3_custodian wsX3_holds := goodIn_r _ [15, 16, 17, 18, 19, 20, 21, 22, 23, 24, 25, 26, 27, 28, 29, 30, 31, 32, 33, 34, 35, 36, 37] (by decide +kernel) (by decide +kernel)
set_option maxRecDepth 20000 in
theorem gX3_custodian_X3_holds : GoodIn wsX3_custodian (wsV RX3 87 RX3 yX3_holds wsX3_holds) := goodIn_app (goodIn_of _ (by decide +kernel)) ggX3_custodian_X3_holds
theorem dX3_custodian_0 : decode cX3_custodian 0 = .ok (.aload_n 0, 1) := by decide +kernel
theorem dX3_custodian_1 : decode cX3_custodian 1 = .ok (.aload_n 0, 1) := by decide +kernel
theorem dX3_custodian_2 : decode cX3_custodian 2 = .ok (.iload_n 1, 1) := by decide +kernel
theorem dX3_custodian_3 : decode cX3_custodian 3 = .ok (.invokevirtual 132, 3) := by decide +kernel
theorem dX3_custodian_6 : decode cX3_custodian 6 = .ok (.ifCond .eq 7, 3) := by decide +kernel
theorem dX3_custodian_9 : decode cX3_custodian 9 = .ok (.iconst 0, 1) := by decide +kernel
theorem dX3_custodian_10 : decode cX3_custodian 10 = .ok (.goto 4, 3) := by decide +kernel
theorem dX3_custodian_13 : decode cX3_custodian 13 = .ok (.iconst 1, 1) := by decide +kernel
theorem dX3_custodian_14 : decode cX3_custodian 14 = .ok (.invokevirtual 87, 3) := by decide +kernel
theorem dX3_custodian_17 : decode cX3_custodian 17 = .ok (.ifCond .eq 7, 3) := by decide +kernel
theorem dX3_custodian_20 : decode cX3_custodian 20 = .ok (.iconst (-1), 1) := by decide +kernel
theorem dX3_custodian_21 : decode cX3_custodian 21 = .ok (.goto 9, 3) := by decide +kernel
theorem dX3_custodian_24 : decode cX3_custodian 24 = .ok (.aload_n 0, 1) := by decide +kernel
theorem dX3_custodian_25 : decode cX3_custodian 25 = .ok (.getfield 19, 3) := by decide +kernel
theorem dX3_custodian_28 : decode cX3_custodian 28 = .ok (.iload_n 1, 1) := by decide +kernel
theorem dX3_custodian_29 : decode cX3_custodian 29 = .ok (.iaload, 1) := by decide +kernel
theorem dX3_custodian_30 : decode cX3_custodian 30 = .ok (.ireturn, 1) := by decide +kernel
set_option maxRecDepth 20000 in
theorem ggX3_holders_X3_isBundle : GoodIn wsX3_holders wsX3_isBundle := goodIn_r _ [6, 7, 8, 9, 10, 5, 11, 17, 18, 19, 20, 21, 22, 23, 24, 25, 26, 27, 28, 29, 30, 31, 32, 33, 34, 35, 36, 37] (by decide +kernel) (by decide +kernel)
set_option maxRecDepth 20000 in
theorem gX3_holders_X3_isBundle : GoodIn wsX3_holders (wsV RX3 132 RX3 yX3_isBundle wsX3_isBundle) := goodIn_app (goodIn_of _ (by decide +kernel)) ggX3_holders_X3_isBundle
set_option maxRecDepth 20000 in
theorem ggX3_holders_X3_holds : GoodIn wsX3_holders wsX3_holds := goodIn_r _ [15, 16, 17, 18, 19, 20, 21, 22, 23, 24, 25, 26, 27, 28, 29, 30, 31, 32, 33, 34, 35, 36, 37] (by decide +kernel) (by decide +kernel)
set_option maxRecDepth 20000 in
theorem gX3_holders_X3_holds : GoodIn wsX3_holders (wsV RX3 87 RX3 yX3_holds wsX3_holds) := goodIn_app (goodIn_of _ (by decide +kernel)) ggX3_holders_X3_holds
theorem dX3_holders_0 : decode cX3_holders 0 = .ok (.aload_n 0, 1) := by decide +kernel
theorem dX3_holders_1 : decode cX3_holders 1 = .ok (.aload_n 0, 1) := by decide +kernel
theorem dX3_holders_2 : decode cX3_holders 2 = .ok (.iload_n 1, 1) := by decide +kernel
theorem dX3_holders_3 : decode cX3_holders 3 = .ok (.invokevirtual 132, 3) := by decide +kernel
theorem dX3_holders_6 : decode cX3_holders 6 = .ok (.ifCond .eq 7, 3) := by decide +kernel
theorem dX3_holders_9 : decode cX3_holders 9 = .ok (.iconst 0, 1) := by decide +kernel
theorem dX3_holders_10 : decode cX3_holders 10 = .ok (.goto 4, 3) := by decide +kernel
theorem dX3_holders_13 : decode cX3_holders 13 = .ok (.iconst 1, 1) := by decide +kernel
theorem dX3_holders_14 : decode cX3_holders 14 = .ok (.invokevirtual 87, 3) := by decide +kernel
theorem dX3_holders_17 : decode cX3_holders 17 = .ok (.ifCond .eq 5, 3) := by decide +kernel
theorem dX3_holders_20 : decode cX3_holders 20 = .ok (.iconst (-1), 1) := by decide +kernel
theorem dX3_holders_21 : decode cX3_holders 21 = .ok (.ireturn, 1) := by decide +kernel
theorem dX3_holders_22 : decode cX3_holders 22 = .ok (.iconst 0, 1) := by decide +kernel
theorem dX3_holders_23 : decode cX3_holders 23 = .ok (.istore_n 2, 1) := by decide +kernel
theorem dX3_holders_24 : decode cX3_holders 24 = .ok (.bipush 7, 2) := by decide +kernel
theorem dX3_holders_26 : decode cX3_holders 26 = .ok (.istore_n 3, 1) := by decide +kernel
theorem dX3_holders_27 : decode cX3_holders 27 = .ok (.iload_n 3, 1) := by decide +kernel
theorem dX3_holders_28 : decode cX3_holders 28 = .ok (.ifCond .lt 33, 3) := by decide +kernel
theorem dX3_holders_31 : decode cX3_holders 31 = .ok (.iconst 2, 1) := by decide +kernel
theorem dX3_holders_32 : decode cX3_holders 32 = .ok (.iload_n 2, 1) := by decide +kernel
theorem dX3_holders_33 : decode cX3_holders 33 = .ok (.imul, 1) := by decide +kernel
theorem dX3_holders_34 : decode cX3_holders 34 = .ok (.aload_n 0, 1) := by decide +kernel
theorem dX3_holders_35 : decode cX3_holders 35 = .ok (.getfield 28, 3) := by decide +kernel
theorem dX3_holders_38 : decode cX3_holders 38 = .ok (.bipush 40, 2) := by decide +kernel
theorem dX3_holders_40 : decode cX3_holders 40 = .ok (.iload_n 3, 1) := by decide +kernel
theorem dX3_holders_41 : decode cX3_holders 41 = .ok (.imul, 1) := by decide +kernel
theorem dX3_holders_42 : decode cX3_holders 42 = .ok (.iload_n 1, 1) := by decide +kernel
theorem dX3_holders_43 : decode cX3_holders 43 = .ok (.iadd, 1) := by decide +kernel
theorem dX3_holders_44 : decode cX3_holders 44 = .ok (.iaload, 1) := by decide +kernel
theorem dX3_holders_45 : decode cX3_holders 45 = .ok (.ifCond .le 7, 3) := by decide +kernel
theorem dX3_holders_48 : decode cX3_holders 48 = .ok (.iconst 1, 1) := by decide +kernel
theorem dX3_holders_49 : decode cX3_holders 49 = .ok (.goto 4, 3) := by decide +kernel
theorem dX3_holders_52 : decode cX3_holders 52 = .ok (.iconst 0, 1) := by decide +kernel
theorem dX3_holders_53 : decode cX3_holders 53 = .ok (.iadd, 1) := by decide +kernel
theorem dX3_holders_54 : decode cX3_holders 54 = .ok (.istore_n 2, 1) := by decide +kernel
theorem dX3_holders_55 : decode cX3_holders 55 = .ok (.iinc 3 (-1), 3) := by decide +kernel
theorem dX3_holders_58 : decode cX3_holders 58 = .ok (.goto (-31), 3) := by decide +kernel
theorem dX3_holders_61 : decode cX3_holders 61 = .ok (.iload_n 2, 1) := by decide +kernel
theorem dX3_holders_62 : decode cX3_holders 62 = .ok (.ireturn, 1) := by decide +kernel
set_option maxRecDepth 20000 in
theorem ggX3_copies_X3_isNode : GoodIn wsX3_copies wsX3_isNode := goodIn_r _ [6, 7, 8, 9, 5, 10] (by decide +kernel) (by decide +kernel)
set_option maxRecDepth 20000 in
theorem gX3_copies_X3_isNode : GoodIn wsX3_copies (wsV RX3 83 RX3 yX3_isNode wsX3_isNode) := goodIn_app (goodIn_of _ (by decide +kernel)) ggX3_copies_X3_isNode
set_option maxRecDepth 20000 in
theorem ggX3_copies_X3_isBundle : GoodIn wsX3_copies wsX3_isBundle := goodIn_r _ [14, 15, 7, 8, 9, 5, 10, 21, 22, 23, 24, 25, 26, 27, 28, 29, 30, 31, 32, 33, 34, 35, 36, 37, 38, 39, 40, 41] (by decide +kernel) (by decide +kernel)
set_option maxRecDepth 20000 in
theorem gX3_copies_X3_isBundle : GoodIn wsX3_copies (wsV RX3 132 RX3 yX3_isBundle wsX3_isBundle) := goodIn_app (goodIn_of _ (by decide +kernel)) ggX3_copies_X3_isBundle
set_option maxRecDepth 20000 in
theorem ggX3_copies_X3_holds : GoodIn wsX3_copies wsX3_holds := goodIn_r _ [19, 20, 21, 22, 23, 24, 25, 26, 27, 28, 29, 30, 31, 32, 33, 34, 35, 36, 37, 38, 39, 40, 41] (by decide +kernel) (by decide +kernel)
set_option maxRecDepth 20000 in
theorem gX3_copies_X3_holds : GoodIn wsX3_copies (wsV RX3 87 RX3 yX3_holds wsX3_holds) := goodIn_app (goodIn_of _ (by decide +kernel)) ggX3_copies_X3_holds
theorem dX3_copies_0 : decode cX3_copies 0 = .ok (.aload_n 0, 1) := by decide +kernel
theorem dX3_copies_1 : decode cX3_copies 1 = .ok (.aload_n 0, 1) := by decide +kernel
theorem dX3_copies_2 : decode cX3_copies 2 = .ok (.iload_n 1, 1) := by decide +kernel
theorem dX3_copies_3 : decode cX3_copies 3 = .ok (.invokevirtual 83, 3) := by decide +kernel
theorem dX3_copies_6 : decode cX3_copies 6 = .ok (.ifCond .eq 15, 3) := by decide +kernel
theorem dX3_copies_9 : decode cX3_copies 9 = .ok (.aload_n 0, 1) := by decide +kernel
theorem dX3_copies_10 : decode cX3_copies 10 = .ok (.iload_n 2, 1) := by decide +kernel
theorem dX3_copies_11 : decode cX3_copies 11 = .ok (.invokevirtual 132, 3) := by decide +kernel
theorem dX3_copies_14 : decode cX3_copies 14 = .ok (.ifCond .eq 7, 3) := by decide +kernel
theorem dX3_copies_17 : decode cX3_copies 17 = .ok (.iconst 0, 1) := by decide +kernel
theorem dX3_copies_18 : decode cX3_copies 18 = .ok (.goto 4, 3) := by decide +kernel
theorem dX3_copies_21 : decode cX3_copies 21 = .ok (.iconst 1, 1) := by decide +kernel
theorem dX3_copies_22 : decode cX3_copies 22 = .ok (.invokevirtual 87, 3) := by decide +kernel
theorem dX3_copies_25 : decode cX3_copies 25 = .ok (.ifCond .eq 7, 3) := by decide +kernel
theorem dX3_copies_28 : decode cX3_copies 28 = .ok (.iconst (-1), 1) := by decide +kernel
theorem dX3_copies_29 : decode cX3_copies 29 = .ok (.goto 14, 3) := by decide +kernel
theorem dX3_copies_32 : decode cX3_copies 32 = .ok (.aload_n 0, 1) := by decide +kernel
theorem dX3_copies_33 : decode cX3_copies 33 = .ok (.getfield 28, 3) := by decide +kernel
theorem dX3_copies_36 : decode cX3_copies 36 = .ok (.bipush 40, 2) := by decide +kernel
theorem dX3_copies_38 : decode cX3_copies 38 = .ok (.iload_n 1, 1) := by decide +kernel
theorem dX3_copies_39 : decode cX3_copies 39 = .ok (.imul, 1) := by decide +kernel
theorem dX3_copies_40 : decode cX3_copies 40 = .ok (.iload_n 2, 1) := by decide +kernel
theorem dX3_copies_41 : decode cX3_copies 41 = .ok (.iadd, 1) := by decide +kernel
theorem dX3_copies_42 : decode cX3_copies 42 = .ok (.iaload, 1) := by decide +kernel
theorem dX3_copies_43 : decode cX3_copies 43 = .ok (.ireturn, 1) := by decide +kernel
set_option maxRecDepth 20000 in
theorem ggX3_knows_X3_isNode : GoodIn wsX3_knows wsX3_isNode := goodIn_r _ [6, 7, 8, 9, 5, 10] (by decide +kernel) (by decide +kernel)
set_option maxRecDepth 20000 in
theorem gX3_knows_X3_isNode : GoodIn wsX3_knows (wsV RX3 83 RX3 yX3_isNode wsX3_isNode) := goodIn_app (goodIn_of _ (by decide +kernel)) ggX3_knows_X3_isNode
set_option maxRecDepth 20000 in
theorem ggX3_knows_X3_isBundle : GoodIn wsX3_knows wsX3_isBundle := goodIn_r _ [14, 15, 7, 8, 9, 5, 10, 21, 22, 23, 24, 25, 26, 27, 28, 29, 30, 31, 32, 33, 34, 35, 36, 37, 38, 39, 40, 41] (by decide +kernel) (by decide +kernel)
set_option maxRecDepth 20000 in
theorem gX3_knows_X3_isBundle : GoodIn wsX3_knows (wsV RX3 132 RX3 yX3_isBundle wsX3_isBundle) := goodIn_app (goodIn_of _ (by decide +kernel)) ggX3_knows_X3_isBundle
set_option maxRecDepth 20000 in
theorem ggX3_knows_X3_holds : GoodIn wsX3_knows wsX3_holds := goodIn_r _ [19, 20, 21, 22, 23, 24, 25, 26, 27, 28, 29, 30, 31, 32, 33, 34, 35, 36, 37, 38, 39, 40, 41] (by decide +kernel) (by decide +kernel)
set_option maxRecDepth 20000 in
theorem gX3_knows_X3_holds : GoodIn wsX3_knows (wsV RX3 87 RX3 yX3_holds wsX3_holds) := goodIn_app (goodIn_of _ (by decide +kernel)) ggX3_knows_X3_holds
theorem dX3_knows_0 : decode cX3_knows 0 = .ok (.aload_n 0, 1) := by decide +kernel
theorem dX3_knows_1 : decode cX3_knows 1 = .ok (.aload_n 0, 1) := by decide +kernel
theorem dX3_knows_2 : decode cX3_knows 2 = .ok (.iload_n 1, 1) := by decide +kernel
theorem dX3_knows_3 : decode cX3_knows 3 = .ok (.invokevirtual 83, 3) := by decide +kernel
theorem dX3_knows_6 : decode cX3_knows 6 = .ok (.ifCond .eq 15, 3) := by decide +kernel
theorem dX3_knows_9 : decode cX3_knows 9 = .ok (.aload_n 0, 1) := by decide +kernel
theorem dX3_knows_10 : decode cX3_knows 10 = .ok (.iload_n 2, 1) := by decide +kernel
theorem dX3_knows_11 : decode cX3_knows 11 = .ok (.invokevirtual 132, 3) := by decide +kernel
theorem dX3_knows_14 : decode cX3_knows 14 = .ok (.ifCond .eq 7, 3) := by decide +kernel
theorem dX3_knows_17 : decode cX3_knows 17 = .ok (.iconst 0, 1) := by decide +kernel
theorem dX3_knows_18 : decode cX3_knows 18 = .ok (.goto 4, 3) := by decide +kernel
theorem dX3_knows_21 : decode cX3_knows 21 = .ok (.iconst 1, 1) := by decide +kernel
theorem dX3_knows_22 : decode cX3_knows 22 = .ok (.invokevirtual 87, 3) := by decide +kernel
theorem dX3_knows_25 : decode cX3_knows 25 = .ok (.ifCond .ne 22, 3) := by decide +kernel
theorem dX3_knows_28 : decode cX3_knows 28 = .ok (.aload_n 0, 1) := by decide +kernel
theorem dX3_knows_29 : decode cX3_knows 29 = .ok (.getfield 34, 3) := by decide +kernel
theorem dX3_knows_32 : decode cX3_knows 32 = .ok (.bipush 40, 2) := by decide +kernel
theorem dX3_knows_34 : decode cX3_knows 34 = .ok (.iload_n 1, 1) := by decide +kernel
theorem dX3_knows_35 : decode cX3_knows 35 = .ok (.imul, 1) := by decide +kernel
theorem dX3_knows_36 : decode cX3_knows 36 = .ok (.iload_n 2, 1) := by decide +kernel
theorem dX3_knows_37 : decode cX3_knows 37 = .ok (.iadd, 1) := by decide +kernel
theorem dX3_knows_38 : decode cX3_knows 38 = .ok (.iaload, 1) := by decide +kernel
theorem dX3_knows_39 : decode cX3_knows 39 = .ok (.iconst 1, 1) := by decide +kernel
theorem dX3_knows_40 : decode cX3_knows 40 = .ok (.if_icmp .ne 7, 3) := by decide +kernel
theorem dX3_knows_43 : decode cX3_knows 43 = .ok (.iconst 1, 1) := by decide +kernel
theorem dX3_knows_44 : decode cX3_knows 44 = .ok (.goto 4, 3) := by decide +kernel
theorem dX3_knows_47 : decode cX3_knows 47 = .ok (.iconst 0, 1) := by decide +kernel
theorem dX3_knows_48 : decode cX3_knows 48 = .ok (.ireturn, 1) := by decide +kernel
set_option maxRecDepth 20000 in
theorem ggX3_held_X3_isNode : GoodIn wsX3_held wsX3_isNode := goodIn_r _ [5, 6, 7, 8, 4, 9] (by decide +kernel) (by decide +kernel)
set_option maxRecDepth 20000 in
theorem gX3_held_X3_isNode : GoodIn wsX3_held (wsV RX3 83 RX3 yX3_isNode wsX3_isNode) := goodIn_app (goodIn_of _ (by decide +kernel)) ggX3_held_X3_isNode
set_option maxRecDepth 20000 in
theorem ggX3_held_X3_holds : GoodIn wsX3_held wsX3_holds := goodIn_r _ [13, 14, 21, 22, 23, 24, 25, 26, 27, 28, 29, 30, 31, 32, 33, 34, 35, 36, 37, 38, 39, 40, 41] (by decide +kernel) (by decide +kernel)
set_option maxRecDepth 20000 in
theorem gX3_held_X3_holds : GoodIn wsX3_held (wsV RX3 87 RX3 yX3_holds wsX3_holds) := goodIn_app (goodIn_of _ (by decide +kernel)) ggX3_held_X3_holds
set_option maxRecDepth 20000 in
theorem ggX3_held_X3_load : GoodIn wsX3_held wsX3_load := goodIn_r _ [18, 19, 20, 21, 22, 23, 24, 25, 26, 27, 28, 29, 30, 31, 32, 33, 34, 35, 36, 37, 38, 39, 40, 41] (by decide +kernel) (by decide +kernel)
set_option maxRecDepth 20000 in
theorem gX3_held_X3_load : GoodIn wsX3_held (wsV RX3 76 RX3 yX3_load wsX3_load) := goodIn_app (goodIn_of _ (by decide +kernel)) ggX3_held_X3_load
theorem dX3_held_0 : decode cX3_held 0 = .ok (.aload_n 0, 1) := by decide +kernel
theorem dX3_held_1 : decode cX3_held 1 = .ok (.aload_n 0, 1) := by decide +kernel
theorem dX3_held_2 : decode cX3_held 2 = .ok (.iload_n 1, 1) := by decide +kernel
theorem dX3_held_3 : decode cX3_held 3 = .ok (.invokevirtual 83, 3) := by decide +kernel
theorem dX3_held_6 : decode cX3_held 6 = .ok (.ifCond .eq 7, 3) := by decide +kernel
theorem dX3_held_9 : decode cX3_held 9 = .ok (.iconst 0, 1) := by decide +kernel
theorem dX3_held_10 : decode cX3_held 10 = .ok (.goto 4, 3) := by decide +kernel
theorem dX3_held_13 : decode cX3_held 13 = .ok (.iconst 1, 1) := by decide +kernel
theorem dX3_held_14 : decode cX3_held 14 = .ok (.invokevirtual 87, 3) := by decide +kernel
theorem dX3_held_17 : decode cX3_held 17 = .ok (.ifCond .eq 7, 3) := by decide +kernel
theorem dX3_held_20 : decode cX3_held 20 = .ok (.iconst (-1), 1) := by decide +kernel
theorem dX3_held_21 : decode cX3_held 21 = .ok (.goto 8, 3) := by decide +kernel
theorem dX3_held_24 : decode cX3_held 24 = .ok (.aload_n 0, 1) := by decide +kernel
theorem dX3_held_25 : decode cX3_held 25 = .ok (.iload_n 1, 1) := by decide +kernel
theorem dX3_held_26 : decode cX3_held 26 = .ok (.invokevirtual 76, 3) := by decide +kernel
theorem dX3_held_29 : decode cX3_held 29 = .ok (.ireturn, 1) := by decide +kernel
set_option maxRecDepth 20000 in
theorem ggX3_heldAt_X3_isNode : GoodIn wsX3_heldAt wsX3_isNode := goodIn_r _ [7, 8, 9, 10, 6, 11] (by decide +kernel) (by decide +kernel)
set_option maxRecDepth 20000 in
theorem gX3_heldAt_X3_isNode : GoodIn wsX3_heldAt (wsV RX3 83 RX3 yX3_isNode wsX3_isNode) := goodIn_app (goodIn_of _ (by decide +kernel)) ggX3_heldAt_X3_isNode
set_option maxRecDepth 20000 in
theorem ggX3_heldAt_X3_load : GoodIn wsX3_heldAt wsX3_load := goodIn_r _ [15, 1, 2, 27, 28, 29, 30, 31, 32, 33, 34, 35, 36, 37, 38, 39, 40, 41, 42, 43, 44, 45, 46, 47] (by decide +kernel) (by decide +kernel)
set_option maxRecDepth 20000 in
theorem gX3_heldAt_X3_load : GoodIn wsX3_heldAt (wsV RX3 76 RX3 yX3_load wsX3_load) := goodIn_app (goodIn_of _ (by decide +kernel)) ggX3_heldAt_X3_load
set_option maxRecDepth 20000 in
theorem ggX3_heldAt_X3_between : GoodIn wsX3_heldAt wsX3_between := goodIn_r _ [11] (by decide +kernel) (by decide +kernel)
set_option maxRecDepth 20000 in
theorem gX3_heldAt_X3_between : GoodIn wsX3_heldAt (wsV RX3 65 RX3 yX3_between wsX3_between) := goodIn_app (goodIn_of _ (by decide +kernel)) ggX3_heldAt_X3_between
set_option maxRecDepth 20000 in
theorem ggX3_heldAt_X3_holds : GoodIn wsX3_heldAt wsX3_holds := goodIn_r _ [19, 20, 27, 28, 29, 30, 31, 32, 33, 34, 35, 36, 37, 38, 39, 40, 41, 42, 43, 44, 45, 46, 47] (by decide +kernel) (by decide +kernel)
set_option maxRecDepth 20000 in
theorem gX3_heldAt_X3_holds : GoodIn wsX3_heldAt (wsV RX3 87 RX3 yX3_holds wsX3_holds) := goodIn_app (goodIn_of _ (by decide +kernel)) ggX3_heldAt_X3_holds
set_option maxRecDepth 20000 in
theorem ggX3_heldAt_X3_precedes : GoodIn wsX3_heldAt wsX3_precedes := goodIn_r _ [24, 25, 26, 27, 28, 29, 30, 31, 32, 33, 34, 35, 36, 37, 38, 39, 40, 41, 42, 43, 44, 45, 46, 47] (by decide +kernel) (by decide +kernel)
set_option maxRecDepth 20000 in
theorem gX3_heldAt_X3_precedes : GoodIn wsX3_heldAt (wsV RX3 72 RX3 yX3_precedes wsX3_precedes) := goodIn_app (goodIn_of _ (by decide +kernel)) ggX3_heldAt_X3_precedes
theorem dX3_heldAt_0 : decode cX3_heldAt 0 = .ok (.aload_n 0, 1) := by decide +kernel
theorem dX3_heldAt_1 : decode cX3_heldAt 1 = .ok (.aload_n 0, 1) := by decide +kernel
theorem dX3_heldAt_2 : decode cX3_heldAt 2 = .ok (.iload_n 1, 1) := by decide +kernel
theorem dX3_heldAt_3 : decode cX3_heldAt 3 = .ok (.invokevirtual 83, 3) := by decide +kernel
theorem dX3_heldAt_6 : decode cX3_heldAt 6 = .ok (.ifCond .eq 23, 3) := by decide +kernel
theorem dX3_heldAt_9 : decode cX3_heldAt 9 = .ok (.aload_n 0, 1) := by decide +kernel
theorem dX3_heldAt_10 : decode cX3_heldAt 10 = .ok (.iload_n 2, 1) := by decide +kernel
theorem dX3_heldAt_11 : decode cX3_heldAt 11 = .ok (.iconst 0, 1) := by decide +kernel
theorem dX3_heldAt_12 : decode cX3_heldAt 12 = .ok (.aload_n 0, 1) := by decide +kernel
theorem dX3_heldAt_13 : decode cX3_heldAt 13 = .ok (.iload_n 1, 1) := by decide +kernel
theorem dX3_heldAt_14 : decode cX3_heldAt 14 = .ok (.invokevirtual 76, 3) := by decide +kernel
theorem dX3_heldAt_17 : decode cX3_heldAt 17 = .ok (.iconst 1, 1) := by decide +kernel
theorem dX3_heldAt_18 : decode cX3_heldAt 18 = .ok (.isub, 1) := by decide +kernel
theorem dX3_heldAt_19 : decode cX3_heldAt 19 = .ok (.invokevirtual 65, 3) := by decide +kernel
theorem dX3_heldAt_22 : decode cX3_heldAt 22 = .ok (.ifCond .eq 7, 3) := by decide +kernel
theorem dX3_heldAt_25 : decode cX3_heldAt 25 = .ok (.iconst 0, 1) := by decide +kernel
theorem dX3_heldAt_26 : decode cX3_heldAt 26 = .ok (.goto 4, 3) := by decide +kernel
theorem dX3_heldAt_29 : decode cX3_heldAt 29 = .ok (.iconst 1, 1) := by decide +kernel
theorem dX3_heldAt_30 : decode cX3_heldAt 30 = .ok (.invokevirtual 87, 3) := by decide +kernel
theorem dX3_heldAt_33 : decode cX3_heldAt 33 = .ok (.ifCond .eq 5, 3) := by decide +kernel
theorem dX3_heldAt_36 : decode cX3_heldAt 36 = .ok (.iconst (-1), 1) := by decide +kernel
theorem dX3_heldAt_37 : decode cX3_heldAt 37 = .ok (.ireturn, 1) := by decide +kernel
theorem dX3_heldAt_38 : decode cX3_heldAt 38 = .ok (.iconst (-1), 1) := by decide +kernel
theorem dX3_heldAt_39 : decode cX3_heldAt 39 = .ok (.istore_n 3, 1) := by decide +kernel
theorem dX3_heldAt_40 : decode cX3_heldAt 40 = .ok (.iconst 0, 1) := by decide +kernel
theorem dX3_heldAt_41 : decode cX3_heldAt 41 = .ok (.istore 4, 2) := by decide +kernel
theorem dX3_heldAt_43 : decode cX3_heldAt 43 = .ok (.iload 4, 2) := by decide +kernel
theorem dX3_heldAt_45 : decode cX3_heldAt 45 = .ok (.aload_n 0, 1) := by decide +kernel
theorem dX3_heldAt_46 : decode cX3_heldAt 46 = .ok (.getfield 69, 3) := by decide +kernel
theorem dX3_heldAt_49 : decode cX3_heldAt 49 = .ok (.if_icmp .ge 94, 3) := by decide +kernel
theorem dX3_heldAt_52 : decode cX3_heldAt 52 = .ok (.iconst 0, 1) := by decide +kernel
theorem dX3_heldAt_53 : decode cX3_heldAt 53 = .ok (.istore 5, 2) := by decide +kernel
theorem dX3_heldAt_55 : decode cX3_heldAt 55 = .ok (.iconst 0, 1) := by decide +kernel
theorem dX3_heldAt_56 : decode cX3_heldAt 56 = .ok (.istore 6, 2) := by decide +kernel
theorem dX3_heldAt_58 : decode cX3_heldAt 58 = .ok (.iload 6, 2) := by decide +kernel
theorem dX3_heldAt_60 : decode cX3_heldAt 60 = .ok (.aload_n 0, 1) := by decide +kernel
theorem dX3_heldAt_61 : decode cX3_heldAt 61 = .ok (.getfield 69, 3) := by decide +kernel
theorem dX3_heldAt_64 : decode cX3_heldAt 64 = .ok (.if_icmp .ge 45, 3) := by decide +kernel
theorem dX3_heldAt_67 : decode cX3_heldAt 67 = .ok (.iload 5, 2) := by decide +kernel
theorem dX3_heldAt_69 : decode cX3_heldAt 69 = .ok (.aload_n 0, 1) := by decide +kernel
theorem dX3_heldAt_70 : decode cX3_heldAt 70 = .ok (.getfield 28, 3) := by decide +kernel
theorem dX3_heldAt_73 : decode cX3_heldAt 73 = .ok (.bipush 40, 2) := by decide +kernel
theorem dX3_heldAt_75 : decode cX3_heldAt 75 = .ok (.iload_n 1, 1) := by decide +kernel
theorem dX3_heldAt_76 : decode cX3_heldAt 76 = .ok (.imul, 1) := by decide +kernel
theorem dX3_heldAt_77 : decode cX3_heldAt 77 = .ok (.iload 6, 2) := by decide +kernel
theorem dX3_heldAt_79 : decode cX3_heldAt 79 = .ok (.iadd, 1) := by decide +kernel
theorem dX3_heldAt_80 : decode cX3_heldAt 80 = .ok (.iaload, 1) := by decide +kernel
theorem dX3_heldAt_81 : decode cX3_heldAt 81 = .ok (.ifCond .le 18, 3) := by decide +kernel
theorem dX3_heldAt_84 : decode cX3_heldAt 84 = .ok (.aload_n 0, 1) := by decide +kernel
theorem dX3_heldAt_85 : decode cX3_heldAt 85 = .ok (.iload 6, 2) := by decide +kernel
theorem dX3_heldAt_87 : decode cX3_heldAt 87 = .ok (.iload 4, 2) := by decide +kernel
theorem dX3_heldAt_89 : decode cX3_heldAt 89 = .ok (.invokevirtual 72, 3) := by decide +kernel
theorem dX3_heldAt_92 : decode cX3_heldAt 92 = .ok (.ifCond .eq 7, 3) := by decide +kernel
theorem dX3_heldAt_95 : decode cX3_heldAt 95 = .ok (.iconst 1, 1) := by decide +kernel
theorem dX3_heldAt_96 : decode cX3_heldAt 96 = .ok (.goto 4, 3) := by decide +kernel
theorem dX3_heldAt_99 : decode cX3_heldAt 99 = .ok (.iconst 0, 1) := by decide +kernel
theorem dX3_heldAt_100 : decode cX3_heldAt 100 = .ok (.iadd, 1) := by decide +kernel
theorem dX3_heldAt_101 : decode cX3_heldAt 101 = .ok (.istore 5, 2) := by decide +kernel
theorem dX3_heldAt_103 : decode cX3_heldAt 103 = .ok (.iinc 6 1, 3) := by decide +kernel
theorem dX3_heldAt_106 : decode cX3_heldAt 106 = .ok (.goto (-48), 3) := by decide +kernel
theorem dX3_heldAt_109 : decode cX3_heldAt 109 = .ok (.aload_n 0, 1) := by decide +kernel
theorem dX3_heldAt_110 : decode cX3_heldAt 110 = .ok (.getfield 28, 3) := by decide +kernel
theorem dX3_heldAt_113 : decode cX3_heldAt 113 = .ok (.bipush 40, 2) := by decide +kernel
theorem dX3_heldAt_115 : decode cX3_heldAt 115 = .ok (.iload_n 1, 1) := by decide +kernel
theorem dX3_heldAt_116 : decode cX3_heldAt 116 = .ok (.imul, 1) := by decide +kernel
theorem dX3_heldAt_117 : decode cX3_heldAt 117 = .ok (.iload 4, 2) := by decide +kernel
theorem dX3_heldAt_119 : decode cX3_heldAt 119 = .ok (.iadd, 1) := by decide +kernel
theorem dX3_heldAt_120 : decode cX3_heldAt 120 = .ok (.iaload, 1) := by decide +kernel
theorem dX3_heldAt_121 : decode cX3_heldAt 121 = .ok (.ifCond .le 14, 3) := by decide +kernel
theorem dX3_heldAt_124 : decode cX3_heldAt 124 = .ok (.iload 5, 2) := by decide +kernel
theorem dX3_heldAt_126 : decode cX3_heldAt 126 = .ok (.iload_n 2, 1) := by decide +kernel
theorem dX3_heldAt_127 : decode cX3_heldAt 127 = .ok (.if_icmp .ne 8, 3) := by decide +kernel
theorem dX3_heldAt_130 : decode cX3_heldAt 130 = .ok (.iload 4, 2) := by decide +kernel
theorem dX3_heldAt_132 : decode cX3_heldAt 132 = .ok (.goto 4, 3) := by decide +kernel
theorem dX3_heldAt_135 : decode cX3_heldAt 135 = .ok (.iload_n 3, 1) := by decide +kernel
theorem dX3_heldAt_136 : decode cX3_heldAt 136 = .ok (.istore_n 3, 1) := by decide +kernel
theorem dX3_heldAt_137 : decode cX3_heldAt 137 = .ok (.iinc 4 1, 3) := by decide +kernel
theorem dX3_heldAt_140 : decode cX3_heldAt 140 = .ok (.goto (-97), 3) := by decide +kernel
theorem dX3_heldAt_143 : decode cX3_heldAt 143 = .ok (.iload_n 3, 1) := by decide +kernel
theorem dX3_heldAt_144 : decode cX3_heldAt 144 = .ok (.ireturn, 1) := by decide +kernel
set_option maxRecDepth 20000 in
theorem ggX3_dropped_X3_isNode : GoodIn wsX3_dropped wsX3_isNode := goodIn_r _ [6, 7, 8, 9, 5, 10] (by decide +kernel) (by decide +kernel)
set_option maxRecDepth 20000 in
theorem gX3_dropped_X3_isNode : GoodIn wsX3_dropped (wsV RX3 83 RX3 yX3_isNode wsX3_isNode) := goodIn_app (goodIn_of _ (by decide +kernel)) ggX3_dropped_X3_isNode
set_option maxRecDepth 20000 in
theorem ggX3_dropped_X3_holds : GoodIn wsX3_dropped wsX3_holds := goodIn_r _ [14, 15, 16, 17, 18, 19, 20, 21, 22, 23, 24, 25, 26, 27, 28, 29, 30, 31, 32, 33, 34, 35, 36] (by decide +kernel) (by decide +kernel)
set_option maxRecDepth 20000 in
theorem gX3_dropped_X3_holds : GoodIn wsX3_dropped (wsV RX3 87 RX3 yX3_holds wsX3_holds) := goodIn_app (goodIn_of _ (by decide +kernel)) ggX3_dropped_X3_holds
theorem dX3_dropped_0 : decode cX3_dropped 0 = .ok (.aload_n 0, 1) := by decide +kernel
theorem dX3_dropped_1 : decode cX3_dropped 1 = .ok (.aload_n 0, 1) := by decide +kernel
theorem dX3_dropped_2 : decode cX3_dropped 2 = .ok (.iload_n 1, 1) := by decide +kernel
theorem dX3_dropped_3 : decode cX3_dropped 3 = .ok (.invokevirtual 83, 3) := by decide +kernel
theorem dX3_dropped_6 : decode cX3_dropped 6 = .ok (.ifCond .eq 7, 3) := by decide +kernel
theorem dX3_dropped_9 : decode cX3_dropped 9 = .ok (.iconst 0, 1) := by decide +kernel
theorem dX3_dropped_10 : decode cX3_dropped 10 = .ok (.goto 4, 3) := by decide +kernel
theorem dX3_dropped_13 : decode cX3_dropped 13 = .ok (.iconst 1, 1) := by decide +kernel
theorem dX3_dropped_14 : decode cX3_dropped 14 = .ok (.invokevirtual 87, 3) := by decide +kernel
theorem dX3_dropped_17 : decode cX3_dropped 17 = .ok (.ifCond .eq 7, 3) := by decide +kernel
theorem dX3_dropped_20 : decode cX3_dropped 20 = .ok (.iconst (-1), 1) := by decide +kernel
theorem dX3_dropped_21 : decode cX3_dropped 21 = .ok (.goto 9, 3) := by decide +kernel
theorem dX3_dropped_24 : decode cX3_dropped 24 = .ok (.aload_n 0, 1) := by decide +kernel
theorem dX3_dropped_25 : decode cX3_dropped 25 = .ok (.getfield 40, 3) := by decide +kernel
theorem dX3_dropped_28 : decode cX3_dropped 28 = .ok (.iload_n 1, 1) := by decide +kernel
theorem dX3_dropped_29 : decode cX3_dropped 29 = .ok (.iaload, 1) := by decide +kernel
theorem dX3_dropped_30 : decode cX3_dropped 30 = .ok (.ireturn, 1) := by decide +kernel
set_option maxRecDepth 20000 in
theorem ggX3_refused_X3_isNode : GoodIn wsX3_refused wsX3_isNode := goodIn_r _ [6, 7, 8, 9, 5, 10] (by decide +kernel) (by decide +kernel)
set_option maxRecDepth 20000 in
theorem gX3_refused_X3_isNode : GoodIn wsX3_refused (wsV RX3 83 RX3 yX3_isNode wsX3_isNode) := goodIn_app (goodIn_of _ (by decide +kernel)) ggX3_refused_X3_isNode
set_option maxRecDepth 20000 in
theorem ggX3_refused_X3_holds : GoodIn wsX3_refused wsX3_holds := goodIn_r _ [14, 15, 16, 17, 18, 19, 20, 21, 22, 23, 24, 25, 26, 27, 28, 29, 30, 31, 32, 33, 34, 35, 36] (by decide +kernel) (by decide +kernel)
set_option maxRecDepth 20000 in
theorem gX3_refused_X3_holds : GoodIn wsX3_refused (wsV RX3 87 RX3 yX3_holds wsX3_holds) := goodIn_app (goodIn_of _ (by decide +kernel)) ggX3_refused_X3_holds
theorem dX3_refused_0 : decode cX3_refused 0 = .ok (.aload_n 0, 1) := by decide +kernel
theorem dX3_refused_1 : decode cX3_refused 1 = .ok (.aload_n 0, 1) := by decide +kernel
theorem dX3_refused_2 : decode cX3_refused 2 = .ok (.iload_n 1, 1) := by decide +kernel
theorem dX3_refused_3 : decode cX3_refused 3 = .ok (.invokevirtual 83, 3) := by decide +kernel
theorem dX3_refused_6 : decode cX3_refused 6 = .ok (.ifCond .eq 7, 3) := by decide +kernel
theorem dX3_refused_9 : decode cX3_refused 9 = .ok (.iconst 0, 1) := by decide +kernel
theorem dX3_refused_10 : decode cX3_refused 10 = .ok (.goto 4, 3) := by decide +kernel
theorem dX3_refused_13 : decode cX3_refused 13 = .ok (.iconst 1, 1) := by decide +kernel
theorem dX3_refused_14 : decode cX3_refused 14 = .ok (.invokevirtual 87, 3) := by decide +kernel
theorem dX3_refused_17 : decode cX3_refused 17 = .ok (.ifCond .eq 7, 3) := by decide +kernel
theorem dX3_refused_20 : decode cX3_refused 20 = .ok (.iconst (-1), 1) := by decide +kernel
theorem dX3_refused_21 : decode cX3_refused 21 = .ok (.goto 9, 3) := by decide +kernel
theorem dX3_refused_24 : decode cX3_refused 24 = .ok (.aload_n 0, 1) := by decide +kernel
theorem dX3_refused_25 : decode cX3_refused 25 = .ok (.getfield 43, 3) := by decide +kernel
theorem dX3_refused_28 : decode cX3_refused 28 = .ok (.iload_n 1, 1) := by decide +kernel
theorem dX3_refused_29 : decode cX3_refused 29 = .ok (.iaload, 1) := by decide +kernel
theorem dX3_refused_30 : decode cX3_refused 30 = .ok (.ireturn, 1) := by decide +kernel
theorem dX3_use_0 : decode cX3_use 0 = .ok (.aload_n 0, 1) := by decide +kernel
theorem dX3_use_1 : decode cX3_use 1 = .ok (.getfield 46, 3) := by decide +kernel
theorem dX3_use_4 : decode cX3_use 4 = .ok (.iconst 4, 1) := by decide +kernel
theorem dX3_use_5 : decode cX3_use 5 = .ok (.iload_n 1, 1) := by decide +kernel
theorem dX3_use_6 : decode cX3_use 6 = .ok (.imul, 1) := by decide +kernel
theorem dX3_use_7 : decode cX3_use 7 = .ok (.iconst 2, 1) := by decide +kernel
theorem dX3_use_8 : decode cX3_use 8 = .ok (.iadd, 1) := by decide +kernel
theorem dX3_use_9 : decode cX3_use 9 = .ok (.iaload, 1) := by decide +kernel
theorem dX3_use_10 : decode cX3_use 10 = .ok (.istore_n 3, 1) := by decide +kernel
theorem dX3_use_11 : decode cX3_use 11 = .ok (.iload_n 2, 1) := by decide +kernel
theorem dX3_use_12 : decode cX3_use 12 = .ok (.iload_n 3, 1) := by decide +kernel
theorem dX3_use_13 : decode cX3_use 13 = .ok (.if_icmp .le 7, 3) := by decide +kernel
theorem dX3_use_16 : decode cX3_use 16 = .ok (.iload_n 2, 1) := by decide +kernel
theorem dX3_use_17 : decode cX3_use 17 = .ok (.goto 4, 3) := by decide +kernel
theorem dX3_use_20 : decode cX3_use 20 = .ok (.iload_n 3, 1) := by decide +kernel
theorem dX3_use_21 : decode cX3_use 21 = .ok (.istore 4, 2) := by decide +kernel
theorem dX3_use_23 : decode cX3_use 23 = .ok (.iload 4, 2) := by decide +kernel
theorem dX3_use_25 : decode cX3_use 25 = .ok (.aload_n 0, 1) := by decide +kernel
theorem dX3_use_26 : decode cX3_use 26 = .ok (.getfield 46, 3) := by decide +kernel
theorem dX3_use_29 : decode cX3_use 29 = .ok (.iconst 4, 1) := by decide +kernel
theorem dX3_use_30 : decode cX3_use 30 = .ok (.iload_n 1, 1) := by decide +kernel
theorem dX3_use_31 : decode cX3_use 31 = .ok (.imul, 1) := by decide +kernel
theorem dX3_use_32 : decode cX3_use 32 = .ok (.iconst 3, 1) := by decide +kernel
theorem dX3_use_33 : decode cX3_use 33 = .ok (.iadd, 1) := by decide +kernel
theorem dX3_use_34 : decode cX3_use 34 = .ok (.iaload, 1) := by decide +kernel
theorem dX3_use_35 : decode cX3_use 35 = .ok (.if_icmp .gt 8, 3) := by decide +kernel
theorem dX3_use_38 : decode cX3_use 38 = .ok (.iload 4, 2) := by decide +kernel
theorem dX3_use_40 : decode cX3_use 40 = .ok (.goto 4, 3) := by decide +kernel
theorem dX3_use_43 : decode cX3_use 43 = .ok (.iconst (-1), 1) := by decide +kernel
theorem dX3_use_44 : decode cX3_use 44 = .ok (.ireturn, 1) := by decide +kernel
theorem dX3_begin_0 : decode cX3_begin 0 = .ok (.iconst 0, 1) := by decide +kernel
theorem dX3_begin_1 : decode cX3_begin 1 = .ok (.istore_n 2, 1) := by decide +kernel
theorem dX3_begin_2 : decode cX3_begin 2 = .ok (.iload_n 2, 1) := by decide +kernel
theorem dX3_begin_3 : decode cX3_begin 3 = .ok (.bipush 8, 2) := by decide +kernel
theorem dX3_begin_5 : decode cX3_begin 5 = .ok (.if_icmp .ge 35, 3) := by decide +kernel
theorem dX3_begin_8 : decode cX3_begin 8 = .ok (.aload_n 0, 1) := by decide +kernel
theorem dX3_begin_9 : decode cX3_begin 9 = .ok (.getfield 55, 3) := by decide +kernel
theorem dX3_begin_12 : decode cX3_begin 12 = .ok (.iload_n 2, 1) := by decide +kernel
theorem dX3_begin_13 : decode cX3_begin 13 = .ok (.iload_n 2, 1) := by decide +kernel
theorem dX3_begin_14 : decode cX3_begin 14 = .ok (.iload_n 1, 1) := by decide +kernel
theorem dX3_begin_15 : decode cX3_begin 15 = .ok (.if_icmp .ne 10, 3) := by decide +kernel
theorem dX3_begin_18 : decode cX3_begin 18 = .ok (.aload_n 0, 1) := by decide +kernel
theorem dX3_begin_19 : decode cX3_begin 19 = .ok (.getfield 93, 3) := by decide +kernel
theorem dX3_begin_22 : decode cX3_begin 22 = .ok (.goto 4, 3) := by decide +kernel
theorem dX3_begin_25 : decode cX3_begin 25 = .ok (.iconst (-1), 1) := by decide +kernel
theorem dX3_begin_26 : decode cX3_begin 26 = .ok (.iastore, 1) := by decide +kernel
theorem dX3_begin_27 : decode cX3_begin 27 = .ok (.aload_n 0, 1) := by decide +kernel
theorem dX3_begin_28 : decode cX3_begin 28 = .ok (.getfield 58, 3) := by decide +kernel
theorem dX3_begin_31 : decode cX3_begin 31 = .ok (.iload_n 2, 1) := by decide +kernel
theorem dX3_begin_32 : decode cX3_begin 32 = .ok (.iconst 0, 1) := by decide +kernel
theorem dX3_begin_33 : decode cX3_begin 33 = .ok (.iastore, 1) := by decide +kernel
theorem dX3_begin_34 : decode cX3_begin 34 = .ok (.iinc 2 1, 3) := by decide +kernel
theorem dX3_begin_37 : decode cX3_begin 37 = .ok (.goto (-35), 3) := by decide +kernel
theorem dX3_begin_40 : decode cX3_begin 40 = .ok (.return_, 1) := by decide +kernel
theorem dX3_improve_0 : decode cX3_improve 0 = .ok (.iload_n 2, 1) := by decide +kernel
theorem dX3_improve_1 : decode cX3_improve 1 = .ok (.ifCond .lt 29, 3) := by decide +kernel
theorem dX3_improve_4 : decode cX3_improve 4 = .ok (.aload_n 0, 1) := by decide +kernel
theorem dX3_improve_5 : decode cX3_improve 5 = .ok (.getfield 55, 3) := by decide +kernel
theorem dX3_improve_8 : decode cX3_improve 8 = .ok (.iload_n 1, 1) := by decide +kernel
theorem dX3_improve_9 : decode cX3_improve 9 = .ok (.iaload, 1) := by decide +kernel
theorem dX3_improve_10 : decode cX3_improve 10 = .ok (.ifCond .lt 13, 3) := by decide +kernel
theorem dX3_improve_13 : decode cX3_improve 13 = .ok (.iload_n 2, 1) := by decide +kernel
theorem dX3_improve_14 : decode cX3_improve 14 = .ok (.aload_n 0, 1) := by decide +kernel
theorem dX3_improve_15 : decode cX3_improve 15 = .ok (.getfield 55, 3) := by decide +kernel
theorem dX3_improve_18 : decode cX3_improve 18 = .ok (.iload_n 1, 1) := by decide +kernel
theorem dX3_improve_19 : decode cX3_improve 19 = .ok (.iaload, 1) := by decide +kernel
theorem dX3_improve_20 : decode cX3_improve 20 = .ok (.if_icmp .ge 10, 3) := by decide +kernel
theorem dX3_improve_23 : decode cX3_improve 23 = .ok (.aload_n 0, 1) := by decide +kernel
theorem dX3_improve_24 : decode cX3_improve 24 = .ok (.getfield 55, 3) := by decide +kernel
theorem dX3_improve_27 : decode cX3_improve 27 = .ok (.iload_n 1, 1) := by decide +kernel
theorem dX3_improve_28 : decode cX3_improve 28 = .ok (.iload_n 2, 1) := by decide +kernel
theorem dX3_improve_29 : decode cX3_improve 29 = .ok (.iastore, 1) := by decide +kernel
theorem dX3_improve_30 : decode cX3_improve 30 = .ok (.return_, 1) := by decide +kernel
theorem dX3_nearest_0 : decode cX3_nearest 0 = .ok (.iconst (-1), 1) := by decide +kernel
theorem dX3_nearest_1 : decode cX3_nearest 1 = .ok (.istore_n 1, 1) := by decide +kernel
theorem dX3_nearest_2 : decode cX3_nearest 2 = .ok (.iconst 0, 1) := by decide +kernel
theorem dX3_nearest_3 : decode cX3_nearest 3 = .ok (.istore_n 2, 1) := by decide +kernel
theorem dX3_nearest_4 : decode cX3_nearest 4 = .ok (.iload_n 2, 1) := by decide +kernel
theorem dX3_nearest_5 : decode cX3_nearest 5 = .ok (.bipush 8, 2) := by decide +kernel
theorem dX3_nearest_7 : decode cX3_nearest 7 = .ok (.if_icmp .ge 48, 3) := by decide +kernel
theorem dX3_nearest_10 : decode cX3_nearest 10 = .ok (.aload_n 0, 1) := by decide +kernel
theorem dX3_nearest_11 : decode cX3_nearest 11 = .ok (.getfield 58, 3) := by decide +kernel
theorem dX3_nearest_14 : decode cX3_nearest 14 = .ok (.iload_n 2, 1) := by decide +kernel
theorem dX3_nearest_15 : decode cX3_nearest 15 = .ok (.iaload, 1) := by decide +kernel
theorem dX3_nearest_16 : decode cX3_nearest 16 = .ok (.ifCond .ne 33, 3) := by decide +kernel
theorem dX3_nearest_19 : decode cX3_nearest 19 = .ok (.aload_n 0, 1) := by decide +kernel
theorem dX3_nearest_20 : decode cX3_nearest 20 = .ok (.getfield 55, 3) := by decide +kernel
theorem dX3_nearest_23 : decode cX3_nearest 23 = .ok (.iload_n 2, 1) := by decide +kernel
theorem dX3_nearest_24 : decode cX3_nearest 24 = .ok (.iaload, 1) := by decide +kernel
theorem dX3_nearest_25 : decode cX3_nearest 25 = .ok (.ifCond .lt 24, 3) := by decide +kernel
theorem dX3_nearest_28 : decode cX3_nearest 28 = .ok (.iload_n 1, 1) := by decide +kernel
theorem dX3_nearest_29 : decode cX3_nearest 29 = .ok (.ifCond .lt 18, 3) := by decide +kernel
theorem dX3_nearest_32 : decode cX3_nearest 32 = .ok (.aload_n 0, 1) := by decide +kernel
theorem dX3_nearest_33 : decode cX3_nearest 33 = .ok (.getfield 55, 3) := by decide +kernel
theorem dX3_nearest_36 : decode cX3_nearest 36 = .ok (.iload_n 2, 1) := by decide +kernel
theorem dX3_nearest_37 : decode cX3_nearest 37 = .ok (.iaload, 1) := by decide +kernel
theorem dX3_nearest_38 : decode cX3_nearest 38 = .ok (.aload_n 0, 1) := by decide +kernel
theorem dX3_nearest_39 : decode cX3_nearest 39 = .ok (.getfield 55, 3) := by decide +kernel
theorem dX3_nearest_42 : decode cX3_nearest 42 = .ok (.iload_n 1, 1) := by decide +kernel
theorem dX3_nearest_43 : decode cX3_nearest 43 = .ok (.iaload, 1) := by decide +kernel
theorem dX3_nearest_44 : decode cX3_nearest 44 = .ok (.if_icmp .ge 5, 3) := by decide +kernel
theorem dX3_nearest_47 : decode cX3_nearest 47 = .ok (.iload_n 2, 1) := by decide +kernel
theorem dX3_nearest_48 : decode cX3_nearest 48 = .ok (.istore_n 1, 1) := by decide +kernel
theorem dX3_nearest_49 : decode cX3_nearest 49 = .ok (.iinc 2 1, 3) := by decide +kernel
theorem dX3_nearest_52 : decode cX3_nearest 52 = .ok (.goto (-48), 3) := by decide +kernel
theorem dX3_nearest_55 : decode cX3_nearest 55 = .ok (.iload_n 1, 1) := by decide +kernel
theorem dX3_nearest_56 : decode cX3_nearest 56 = .ok (.ireturn, 1) := by decide +kernel
set_option maxRecDepth 20000 in
theorem ggX3_reach_X3_begin : GoodIn wsX3_reach wsX3_begin := goodIn_r _ [9, 4, 10, 1, 23, 24, 25, 26, 27, 28, 29, 30, 31, 32, 33, 34, 35, 36, 37, 38, 39, 40, 41, 42, 43] (by decide +kernel) (by decide +kernel)
set_option maxRecDepth 20000 in
theorem gX3_reach_X3_begin : GoodIn wsX3_reach (wsV RX3 135 RX3 yX3_begin wsX3_begin) := goodIn_app (goodIn_of _ (by decide +kernel)) ggX3_reach_X3_begin
set_option maxRecDepth 20000 in
theorem ggX3_reach_X3_nearest : GoodIn wsX3_reach wsX3_nearest := goodIn_r _ [14, 1, 4, 23, 24, 25, 26, 27, 28, 29, 30, 31, 32, 33, 34, 35, 36, 37, 38, 39, 40, 41, 42, 43] (by decide +kernel) (by decide +kernel)
set_option maxRecDepth 20000 in
theorem gX3_reach_X3_nearest : GoodIn wsX3_reach (wsV RX3 139 RX3 yX3_nearest wsX3_nearest) := goodIn_app (goodIn_of _ (by decide +kernel)) ggX3_reach_X3_nearest
set_option maxRecDepth 20000 in
theorem ggX3_reach_X3_use : GoodIn wsX3_reach wsX3_use := goodIn_r _ [18, 3, 23, 24, 25, 26, 27, 28, 29, 30, 31, 32, 33, 34, 35, 36, 37, 38, 39, 40, 41, 42, 43] (by decide +kernel) (by decide +kernel)
set_option maxRecDepth 20000 in
theorem gX3_reach_X3_use : GoodIn wsX3_reach (wsV RX3 143 RX3 yX3_use wsX3_use) := goodIn_app (goodIn_of _ (by decide +kernel)) ggX3_reach_X3_use
set_option maxRecDepth 20000 in
theorem ggX3_reach_X3_improve : GoodIn wsX3_reach wsX3_improve := goodIn_r _ [22, 4, 23, 24, 25, 26, 27, 28, 29, 30, 31, 32, 33, 34, 35, 36, 37, 38, 39, 40, 41, 42, 43] (by decide +kernel) (by decide +kernel)
set_option maxRecDepth 20000 in
theorem gX3_reach_X3_improve : GoodIn wsX3_reach (wsV RX3 146 RX3 yX3_improve wsX3_improve) := goodIn_app (goodIn_of _ (by decide +kernel)) ggX3_reach_X3_improve
theorem dX3_reach_0 : decode cX3_reach 0 = .ok (.aload_n 0, 1) := by decide +kernel
theorem dX3_reach_1 : decode cX3_reach 1 = .ok (.iload_n 1, 1) := by decide +kernel
theorem dX3_reach_2 : decode cX3_reach 2 = .ok (.invokevirtual 135, 3) := by decide +kernel
theorem dX3_reach_5 : decode cX3_reach 5 = .ok (.aload_n 0, 1) := by decide +kernel
theorem dX3_reach_6 : decode cX3_reach 6 = .ok (.invokevirtual 139, 3) := by decide +kernel
theorem dX3_reach_9 : decode cX3_reach 9 = .ok (.istore_n 3, 1) := by decide +kernel
theorem dX3_reach_10 : decode cX3_reach 10 = .ok (.iload_n 3, 1) := by decide +kernel
theorem dX3_reach_11 : decode cX3_reach 11 = .ok (.ifCond .lt 101, 3) := by decide +kernel
theorem dX3_reach_14 : decode cX3_reach 14 = .ok (.aload_n 0, 1) := by decide +kernel
theorem dX3_reach_15 : decode cX3_reach 15 = .ok (.getfield 58, 3) := by decide +kernel
theorem dX3_reach_18 : decode cX3_reach 18 = .ok (.iload_n 3, 1) := by decide +kernel
theorem dX3_reach_19 : decode cX3_reach 19 = .ok (.iconst 1, 1) := by decide +kernel
theorem dX3_reach_20 : decode cX3_reach 20 = .ok (.iastore, 1) := by decide +kernel
theorem dX3_reach_21 : decode cX3_reach 21 = .ok (.iconst 0, 1) := by decide +kernel
theorem dX3_reach_22 : decode cX3_reach 22 = .ok (.istore 4, 2) := by decide +kernel
theorem dX3_reach_24 : decode cX3_reach 24 = .ok (.iload 4, 2) := by decide +kernel
theorem dX3_reach_26 : decode cX3_reach 26 = .ok (.aload_n 0, 1) := by decide +kernel
theorem dX3_reach_27 : decode cX3_reach 27 = .ok (.getfield 126, 3) := by decide +kernel
theorem dX3_reach_30 : decode cX3_reach 30 = .ok (.if_icmp .ge 74, 3) := by decide +kernel
theorem dX3_reach_33 : decode cX3_reach 33 = .ok (.aload_n 0, 1) := by decide +kernel
theorem dX3_reach_34 : decode cX3_reach 34 = .ok (.getfield 46, 3) := by decide +kernel
theorem dX3_reach_37 : decode cX3_reach 37 = .ok (.iconst 4, 1) := by decide +kernel
theorem dX3_reach_38 : decode cX3_reach 38 = .ok (.iload 4, 2) := by decide +kernel
theorem dX3_reach_40 : decode cX3_reach 40 = .ok (.imul, 1) := by decide +kernel
theorem dX3_reach_41 : decode cX3_reach 41 = .ok (.iaload, 1) := by decide +kernel
theorem dX3_reach_42 : decode cX3_reach 42 = .ok (.istore 5, 2) := by decide +kernel
theorem dX3_reach_44 : decode cX3_reach 44 = .ok (.aload_n 0, 1) := by decide +kernel
theorem dX3_reach_45 : decode cX3_reach 45 = .ok (.getfield 46, 3) := by decide +kernel
theorem dX3_reach_48 : decode cX3_reach 48 = .ok (.iconst 4, 1) := by decide +kernel
theorem dX3_reach_49 : decode cX3_reach 49 = .ok (.iload 4, 2) := by decide +kernel
theorem dX3_reach_51 : decode cX3_reach 51 = .ok (.imul, 1) := by decide +kernel
theorem dX3_reach_52 : decode cX3_reach 52 = .ok (.iconst 1, 1) := by decide +kernel
theorem dX3_reach_53 : decode cX3_reach 53 = .ok (.iadd, 1) := by decide +kernel
theorem dX3_reach_54 : decode cX3_reach 54 = .ok (.iaload, 1) := by decide +kernel
theorem dX3_reach_55 : decode cX3_reach 55 = .ok (.istore 6, 2) := by decide +kernel
theorem dX3_reach_57 : decode cX3_reach 57 = .ok (.iload 5, 2) := by decide +kernel
theorem dX3_reach_59 : decode cX3_reach 59 = .ok (.iload_n 3, 1) := by decide +kernel
theorem dX3_reach_60 : decode cX3_reach 60 = .ok (.if_icmp .eq 9, 3) := by decide +kernel
theorem dX3_reach_63 : decode cX3_reach 63 = .ok (.iload 6, 2) := by decide +kernel
theorem dX3_reach_65 : decode cX3_reach 65 = .ok (.iload_n 3, 1) := by decide +kernel
theorem dX3_reach_66 : decode cX3_reach 66 = .ok (.if_icmp .ne 32, 3) := by decide +kernel
theorem dX3_reach_69 : decode cX3_reach 69 = .ok (.aload_n 0, 1) := by decide +kernel
theorem dX3_reach_70 : decode cX3_reach 70 = .ok (.iload 5, 2) := by decide +kernel
theorem dX3_reach_72 : decode cX3_reach 72 = .ok (.iload_n 3, 1) := by decide +kernel
theorem dX3_reach_73 : decode cX3_reach 73 = .ok (.if_icmp .ne 8, 3) := by decide +kernel
theorem dX3_reach_76 : decode cX3_reach 76 = .ok (.iload 6, 2) := by decide +kernel
theorem dX3_reach_78 : decode cX3_reach 78 = .ok (.goto 5, 3) := by decide +kernel
theorem dX3_reach_81 : decode cX3_reach 81 = .ok (.iload 5, 2) := by decide +kernel
theorem dX3_reach_83 : decode cX3_reach 83 = .ok (.aload_n 0, 1) := by decide +kernel
theorem dX3_reach_84 : decode cX3_reach 84 = .ok (.iload 4, 2) := by decide +kernel
theorem dX3_reach_86 : decode cX3_reach 86 = .ok (.aload_n 0, 1) := by decide +kernel
theorem dX3_reach_87 : decode cX3_reach 87 = .ok (.getfield 55, 3) := by decide +kernel
theorem dX3_reach_90 : decode cX3_reach 90 = .ok (.iload_n 3, 1) := by decide +kernel
theorem dX3_reach_91 : decode cX3_reach 91 = .ok (.iaload, 1) := by decide +kernel
theorem dX3_reach_92 : decode cX3_reach 92 = .ok (.invokevirtual 143, 3) := by decide +kernel
theorem dX3_reach_95 : decode cX3_reach 95 = .ok (.invokevirtual 146, 3) := by decide +kernel
theorem dX3_reach_98 : decode cX3_reach 98 = .ok (.iinc 4 1, 3) := by decide +kernel
theorem dX3_reach_101 : decode cX3_reach 101 = .ok (.goto (-77), 3) := by decide +kernel
theorem dX3_reach_104 : decode cX3_reach 104 = .ok (.aload_n 0, 1) := by decide +kernel
theorem dX3_reach_105 : decode cX3_reach 105 = .ok (.invokevirtual 139, 3) := by decide +kernel
theorem dX3_reach_108 : decode cX3_reach 108 = .ok (.istore_n 3, 1) := by decide +kernel
theorem dX3_reach_109 : decode cX3_reach 109 = .ok (.goto (-99), 3) := by decide +kernel
theorem dX3_reach_112 : decode cX3_reach 112 = .ok (.aload_n 0, 1) := by decide +kernel
theorem dX3_reach_113 : decode cX3_reach 113 = .ok (.getfield 55, 3) := by decide +kernel
theorem dX3_reach_116 : decode cX3_reach 116 = .ok (.iload_n 2, 1) := by decide +kernel
theorem dX3_reach_117 : decode cX3_reach 117 = .ok (.iaload, 1) := by decide +kernel
theorem dX3_reach_118 : decode cX3_reach 118 = .ok (.ireturn, 1) := by decide +kernel
set_option maxRecDepth 20000 in
theorem ggX3_arrival_X3_isNode : GoodIn wsX3_arrival wsX3_isNode := goodIn_r _ [5, 6, 7, 8, 4, 9] (by decide +kernel) (by decide +kernel)
set_option maxRecDepth 20000 in
theorem gX3_arrival_X3_isNode : GoodIn wsX3_arrival (wsV RX3 83 RX3 yX3_isNode wsX3_isNode) := goodIn_app (goodIn_of _ (by decide +kernel)) ggX3_arrival_X3_isNode
set_option maxRecDepth 20000 in
theorem ggX3_arrival_X3_holds : GoodIn wsX3_arrival wsX3_holds := goodIn_r _ [13, 14, 40, 41, 42, 43, 44, 45, 46, 47, 48, 49, 50, 51, 52, 53, 54, 55, 56, 57, 58, 59, 60] (by decide +kernel) (by decide +kernel)
set_option maxRecDepth 20000 in
theorem gX3_arrival_X3_holds : GoodIn wsX3_arrival (wsV RX3 87 RX3 yX3_holds wsX3_holds) := goodIn_app (goodIn_of _ (by decide +kernel)) ggX3_arrival_X3_holds
set_option maxRecDepth 20000 in
theorem ggX3_arrival_X3_reach : GoodIn wsX3_arrival wsX3_reach := goodIn_r _ [18, 19, 20, 21, 22, 23, 24, 25, 4, 26, 27, 28, 29, 30, 31, 32, 33, 34, 35, 36, 37, 38, 39, 40, 41, 42, 43, 44, 45, 46, 47, 48, 49, 50, 51, 52, 53, 54, 55, 56, 57, 58, 59, 60] (by decide +kernel) (by decide +kernel)
set_option maxRecDepth 20000 in
theorem gX3_arrival_X3_reach : GoodIn wsX3_arrival (wsV RX3 104 RX3 yX3_reach wsX3_reach) := goodIn_app (goodIn_of _ (by decide +kernel)) ggX3_arrival_X3_reach
theorem dX3_arrival_0 : decode cX3_arrival 0 = .ok (.aload_n 0, 1) := by decide +kernel
theorem dX3_arrival_1 : decode cX3_arrival 1 = .ok (.aload_n 0, 1) := by decide +kernel
theorem dX3_arrival_2 : decode cX3_arrival 2 = .ok (.iload_n 1, 1) := by decide +kernel
theorem dX3_arrival_3 : decode cX3_arrival 3 = .ok (.invokevirtual 83, 3) := by decide +kernel
theorem dX3_arrival_6 : decode cX3_arrival 6 = .ok (.ifCond .eq 15, 3) := by decide +kernel
theorem dX3_arrival_9 : decode cX3_arrival 9 = .ok (.aload_n 0, 1) := by decide +kernel
theorem dX3_arrival_10 : decode cX3_arrival 10 = .ok (.iload_n 2, 1) := by decide +kernel
theorem dX3_arrival_11 : decode cX3_arrival 11 = .ok (.invokevirtual 83, 3) := by decide +kernel
theorem dX3_arrival_14 : decode cX3_arrival 14 = .ok (.ifCond .eq 7, 3) := by decide +kernel
theorem dX3_arrival_17 : decode cX3_arrival 17 = .ok (.iconst 0, 1) := by decide +kernel
theorem dX3_arrival_18 : decode cX3_arrival 18 = .ok (.goto 4, 3) := by decide +kernel
theorem dX3_arrival_21 : decode cX3_arrival 21 = .ok (.iconst 1, 1) := by decide +kernel
theorem dX3_arrival_22 : decode cX3_arrival 22 = .ok (.invokevirtual 87, 3) := by decide +kernel
theorem dX3_arrival_25 : decode cX3_arrival 25 = .ok (.ifCond .eq 7, 3) := by decide +kernel
theorem dX3_arrival_28 : decode cX3_arrival 28 = .ok (.iconst (-1), 1) := by decide +kernel
theorem dX3_arrival_29 : decode cX3_arrival 29 = .ok (.goto 9, 3) := by decide +kernel
theorem dX3_arrival_32 : decode cX3_arrival 32 = .ok (.aload_n 0, 1) := by decide +kernel
theorem dX3_arrival_33 : decode cX3_arrival 33 = .ok (.iload_n 1, 1) := by decide +kernel
theorem dX3_arrival_34 : decode cX3_arrival 34 = .ok (.iload_n 2, 1) := by decide +kernel
theorem dX3_arrival_35 : decode cX3_arrival 35 = .ok (.invokevirtual 104, 3) := by decide +kernel
theorem dX3_arrival_38 : decode cX3_arrival 38 = .ok (.ireturn, 1) := by decide +kernel
set_option maxRecDepth 20000 in
theorem ggX3_arrivalByRounds_X3_isNode : GoodIn wsX3_arrivalByRounds wsX3_isNode := goodIn_r _ [8, 9, 10, 11, 7, 12] (by decide +kernel) (by decide +kernel)
set_option maxRecDepth 20000 in
theorem gX3_arrivalByRounds_X3_isNode : GoodIn wsX3_arrivalByRounds (wsV RX3 83 RX3 yX3_isNode wsX3_isNode) := goodIn_app (goodIn_of _ (by decide +kernel)) ggX3_arrivalByRounds_X3_isNode
set_option maxRecDepth 20000 in
theorem ggX3_arrivalByRounds_X3_holds : GoodIn wsX3_arrivalByRounds wsX3_holds := goodIn_r _ [16, 17, 32, 33, 34, 35, 36, 37, 38, 39, 40, 41, 42, 43, 44, 45, 46, 47, 48, 49, 50, 51, 52] (by decide +kernel) (by decide +kernel)
set_option maxRecDepth 20000 in
theorem gX3_arrivalByRounds_X3_holds : GoodIn wsX3_arrivalByRounds (wsV RX3 87 RX3 yX3_holds wsX3_holds) := goodIn_app (goodIn_of _ (by decide +kernel)) ggX3_arrivalByRounds_X3_holds
set_option maxRecDepth 20000 in
theorem ggX3_arrivalByRounds_X3_begin : GoodIn wsX3_arrivalByRounds wsX3_begin := goodIn_r _ [21, 3, 22, 23, 32, 33, 34, 35, 36, 37, 38, 39, 40, 41, 42, 43, 44, 45, 46, 47, 48, 49, 50, 51, 52] (by decide +kernel) (by decide +kernel)
set_option maxRecDepth 20000 in
theorem gX3_arrivalByRounds_X3_begin : GoodIn wsX3_arrivalByRounds (wsV RX3 135 RX3 yX3_begin wsX3_begin) := goodIn_app (goodIn_of _ (by decide +kernel)) ggX3_arrivalByRounds_X3_begin
set_option maxRecDepth 20000 in
theorem ggX3_arrivalByRounds_X3_use : GoodIn wsX3_arrivalByRounds wsX3_use := goodIn_r _ [27, 2, 32, 33, 34, 35, 36, 37, 38, 39, 40, 41, 42, 43, 44, 45, 46, 47, 48, 49, 50, 51, 52] (by decide +kernel) (by decide +kernel)
set_option maxRecDepth 20000 in
theorem gX3_arrivalByRounds_X3_use : GoodIn wsX3_arrivalByRounds (wsV RX3 143 RX3 yX3_use wsX3_use) := goodIn_app (goodIn_of _ (by decide +kernel)) ggX3_arrivalByRounds_X3_use
set_option maxRecDepth 20000 in
theorem ggX3_arrivalByRounds_X3_improve : GoodIn wsX3_arrivalByRounds wsX3_improve := goodIn_r _ [31, 3, 32, 33, 34, 35, 36, 37, 38, 39, 40, 41, 42, 43, 44, 45, 46, 47, 48, 49, 50, 51, 52] (by decide +kernel) (by decide +kernel)
set_option maxRecDepth 20000 in
theorem gX3_arrivalByRounds_X3_improve : GoodIn wsX3_arrivalByRounds (wsV RX3 146 RX3 yX3_improve wsX3_improve) := goodIn_app (goodIn_of _ (by decide +kernel)) ggX3_arrivalByRounds_X3_improve
theorem dX3_arrivalByRounds_0 : decode cX3_arrivalByRounds 0 = .ok (.aload_n 0, 1) := by decide +kernel
theorem dX3_arrivalByRounds_1 : decode cX3_arrivalByRounds 1 = .ok (.aload_n 0, 1) := by decide +kernel
theorem dX3_arrivalByRounds_2 : decode cX3_arrivalByRounds 2 = .ok (.iload_n 1, 1) := by decide +kernel
theorem dX3_arrivalByRounds_3 : decode cX3_arrivalByRounds 3 = .ok (.invokevirtual 83, 3) := by decide +kernel
theorem dX3_arrivalByRounds_6 : decode cX3_arrivalByRounds 6 = .ok (.ifCond .eq 15, 3) := by decide +kernel
theorem dX3_arrivalByRounds_9 : decode cX3_arrivalByRounds 9 = .ok (.aload_n 0, 1) := by decide +kernel
theorem dX3_arrivalByRounds_10 : decode cX3_arrivalByRounds 10 = .ok (.iload_n 2, 1) := by decide +kernel
theorem dX3_arrivalByRounds_11 : decode cX3_arrivalByRounds 11 = .ok (.invokevirtual 83, 3) := by decide +kernel
theorem dX3_arrivalByRounds_14 : decode cX3_arrivalByRounds 14 = .ok (.ifCond .eq 7, 3) := by decide +kernel
theorem dX3_arrivalByRounds_17 : decode cX3_arrivalByRounds 17 = .ok (.iconst 0, 1) := by decide +kernel
theorem dX3_arrivalByRounds_18 : decode cX3_arrivalByRounds 18 = .ok (.goto 4, 3) := by decide +kernel
theorem dX3_arrivalByRounds_21 : decode cX3_arrivalByRounds 21 = .ok (.iconst 1, 1) := by decide +kernel
theorem dX3_arrivalByRounds_22 : decode cX3_arrivalByRounds 22 = .ok (.invokevirtual 87, 3) := by decide +kernel
theorem dX3_arrivalByRounds_25 : decode cX3_arrivalByRounds 25 = .ok (.ifCond .eq 5, 3) := by decide +kernel
theorem dX3_arrivalByRounds_28 : decode cX3_arrivalByRounds 28 = .ok (.iconst (-1), 1) := by decide +kernel
theorem dX3_arrivalByRounds_29 : decode cX3_arrivalByRounds 29 = .ok (.ireturn, 1) := by decide +kernel
theorem dX3_arrivalByRounds_30 : decode cX3_arrivalByRounds 30 = .ok (.aload_n 0, 1) := by decide +kernel
theorem dX3_arrivalByRounds_31 : decode cX3_arrivalByRounds 31 = .ok (.iload_n 1, 1) := by decide +kernel
theorem dX3_arrivalByRounds_32 : decode cX3_arrivalByRounds 32 = .ok (.invokevirtual 135, 3) := by decide +kernel
theorem dX3_arrivalByRounds_35 : decode cX3_arrivalByRounds 35 = .ok (.iconst 0, 1) := by decide +kernel
theorem dX3_arrivalByRounds_36 : decode cX3_arrivalByRounds 36 = .ok (.istore_n 3, 1) := by decide +kernel
theorem dX3_arrivalByRounds_37 : decode cX3_arrivalByRounds 37 = .ok (.iload_n 3, 1) := by decide +kernel
theorem dX3_arrivalByRounds_38 : decode cX3_arrivalByRounds 38 = .ok (.bipush 8, 2) := by decide +kernel
theorem dX3_arrivalByRounds_40 : decode cX3_arrivalByRounds 40 = .ok (.if_icmp .ge 109, 3) := by decide +kernel
theorem dX3_arrivalByRounds_43 : decode cX3_arrivalByRounds 43 = .ok (.iconst 0, 1) := by decide +kernel
theorem dX3_arrivalByRounds_44 : decode cX3_arrivalByRounds 44 = .ok (.istore 4, 2) := by decide +kernel
theorem dX3_arrivalByRounds_46 : decode cX3_arrivalByRounds 46 = .ok (.iload 4, 2) := by decide +kernel
theorem dX3_arrivalByRounds_48 : decode cX3_arrivalByRounds 48 = .ok (.aload_n 0, 1) := by decide +kernel
theorem dX3_arrivalByRounds_49 : decode cX3_arrivalByRounds 49 = .ok (.getfield 126, 3) := by decide +kernel
theorem dX3_arrivalByRounds_52 : decode cX3_arrivalByRounds 52 = .ok (.if_icmp .ge 91, 3) := by decide +kernel
theorem dX3_arrivalByRounds_55 : decode cX3_arrivalByRounds 55 = .ok (.aload_n 0, 1) := by decide +kernel
theorem dX3_arrivalByRounds_56 : decode cX3_arrivalByRounds 56 = .ok (.getfield 46, 3) := by decide +kernel
theorem dX3_arrivalByRounds_59 : decode cX3_arrivalByRounds 59 = .ok (.iconst 4, 1) := by decide +kernel
theorem dX3_arrivalByRounds_60 : decode cX3_arrivalByRounds 60 = .ok (.iload 4, 2) := by decide +kernel
theorem dX3_arrivalByRounds_62 : decode cX3_arrivalByRounds 62 = .ok (.imul, 1) := by decide +kernel
theorem dX3_arrivalByRounds_63 : decode cX3_arrivalByRounds 63 = .ok (.iaload, 1) := by decide +kernel
theorem dX3_arrivalByRounds_64 : decode cX3_arrivalByRounds 64 = .ok (.istore 5, 2) := by decide +kernel
theorem dX3_arrivalByRounds_66 : decode cX3_arrivalByRounds 66 = .ok (.aload_n 0, 1) := by decide +kernel
theorem dX3_arrivalByRounds_67 : decode cX3_arrivalByRounds 67 = .ok (.getfield 46, 3) := by decide +kernel
theorem dX3_arrivalByRounds_70 : decode cX3_arrivalByRounds 70 = .ok (.iconst 4, 1) := by decide +kernel
theorem dX3_arrivalByRounds_71 : decode cX3_arrivalByRounds 71 = .ok (.iload 4, 2) := by decide +kernel
theorem dX3_arrivalByRounds_73 : decode cX3_arrivalByRounds 73 = .ok (.imul, 1) := by decide +kernel
theorem dX3_arrivalByRounds_74 : decode cX3_arrivalByRounds 74 = .ok (.iconst 1, 1) := by decide +kernel
theorem dX3_arrivalByRounds_75 : decode cX3_arrivalByRounds 75 = .ok (.iadd, 1) := by decide +kernel
theorem dX3_arrivalByRounds_76 : decode cX3_arrivalByRounds 76 = .ok (.iaload, 1) := by decide +kernel
theorem dX3_arrivalByRounds_77 : decode cX3_arrivalByRounds 77 = .ok (.istore 6, 2) := by decide +kernel
theorem dX3_arrivalByRounds_79 : decode cX3_arrivalByRounds 79 = .ok (.aload_n 0, 1) := by decide +kernel
theorem dX3_arrivalByRounds_80 : decode cX3_arrivalByRounds 80 = .ok (.getfield 55, 3) := by decide +kernel
theorem dX3_arrivalByRounds_83 : decode cX3_arrivalByRounds 83 = .ok (.iload 5, 2) := by decide +kernel
theorem dX3_arrivalByRounds_85 : decode cX3_arrivalByRounds 85 = .ok (.iaload, 1) := by decide +kernel
theorem dX3_arrivalByRounds_86 : decode cX3_arrivalByRounds 86 = .ok (.ifCond .lt 22, 3) := by decide +kernel
theorem dX3_arrivalByRounds_89 : decode cX3_arrivalByRounds 89 = .ok (.aload_n 0, 1) := by decide +kernel
theorem dX3_arrivalByRounds_90 : decode cX3_arrivalByRounds 90 = .ok (.iload 6, 2) := by decide +kernel
theorem dX3_arrivalByRounds_92 : decode cX3_arrivalByRounds 92 = .ok (.aload_n 0, 1) := by decide +kernel
theorem dX3_arrivalByRounds_93 : decode cX3_arrivalByRounds 93 = .ok (.iload 4, 2) := by decide +kernel
theorem dX3_arrivalByRounds_95 : decode cX3_arrivalByRounds 95 = .ok (.aload_n 0, 1) := by decide +kernel
theorem dX3_arrivalByRounds_96 : decode cX3_arrivalByRounds 96 = .ok (.getfield 55, 3) := by decide +kernel
theorem dX3_arrivalByRounds_99 : decode cX3_arrivalByRounds 99 = .ok (.iload 5, 2) := by decide +kernel
theorem dX3_arrivalByRounds_101 : decode cX3_arrivalByRounds 101 = .ok (.iaload, 1) := by decide +kernel
theorem dX3_arrivalByRounds_102 : decode cX3_arrivalByRounds 102 = .ok (.invokevirtual 143, 3) := by decide +kernel
theorem dX3_arrivalByRounds_105 : decode cX3_arrivalByRounds 105 = .ok (.invokevirtual 146, 3) := by decide +kernel
theorem dX3_arrivalByRounds_108 : decode cX3_arrivalByRounds 108 = .ok (.aload_n 0, 1) := by decide +kernel
theorem dX3_arrivalByRounds_109 : decode cX3_arrivalByRounds 109 = .ok (.getfield 55, 3) := by decide +kernel
theorem dX3_arrivalByRounds_112 : decode cX3_arrivalByRounds 112 = .ok (.iload 6, 2) := by decide +kernel
theorem dX3_arrivalByRounds_114 : decode cX3_arrivalByRounds 114 = .ok (.iaload, 1) := by decide +kernel
theorem dX3_arrivalByRounds_115 : decode cX3_arrivalByRounds 115 = .ok (.ifCond .lt 22, 3) := by decide +kernel
theorem dX3_arrivalByRounds_118 : decode cX3_arrivalByRounds 118 = .ok (.aload_n 0, 1) := by decide +kernel
theorem dX3_arrivalByRounds_119 : decode cX3_arrivalByRounds 119 = .ok (.iload 5, 2) := by decide +kernel
theorem dX3_arrivalByRounds_121 : decode cX3_arrivalByRounds 121 = .ok (.aload_n 0, 1) := by decide +kernel
theorem dX3_arrivalByRounds_122 : decode cX3_arrivalByRounds 122 = .ok (.iload 4, 2) := by decide +kernel
theorem dX3_arrivalByRounds_124 : decode cX3_arrivalByRounds 124 = .ok (.aload_n 0, 1) := by decide +kernel
theorem dX3_arrivalByRounds_125 : decode cX3_arrivalByRounds 125 = .ok (.getfield 55, 3) := by decide +kernel
theorem dX3_arrivalByRounds_128 : decode cX3_arrivalByRounds 128 = .ok (.iload 6, 2) := by decide +kernel
theorem dX3_arrivalByRounds_130 : decode cX3_arrivalByRounds 130 = .ok (.iaload, 1) := by decide +kernel
theorem dX3_arrivalByRounds_131 : decode cX3_arrivalByRounds 131 = .ok (.invokevirtual 143, 3) := by decide +kernel
theorem dX3_arrivalByRounds_134 : decode cX3_arrivalByRounds 134 = .ok (.invokevirtual 146, 3) := by decide +kernel
theorem dX3_arrivalByRounds_137 : decode cX3_arrivalByRounds 137 = .ok (.iinc 4 1, 3) := by decide +kernel
theorem dX3_arrivalByRounds_140 : decode cX3_arrivalByRounds 140 = .ok (.goto (-94), 3) := by decide +kernel
theorem dX3_arrivalByRounds_143 : decode cX3_arrivalByRounds 143 = .ok (.iinc 3 1, 3) := by decide +kernel
theorem dX3_arrivalByRounds_146 : decode cX3_arrivalByRounds 146 = .ok (.goto (-109), 3) := by decide +kernel
theorem dX3_arrivalByRounds_149 : decode cX3_arrivalByRounds 149 = .ok (.aload_n 0, 1) := by decide +kernel
theorem dX3_arrivalByRounds_150 : decode cX3_arrivalByRounds 150 = .ok (.getfield 55, 3) := by decide +kernel
theorem dX3_arrivalByRounds_153 : decode cX3_arrivalByRounds 153 = .ok (.iload_n 2, 1) := by decide +kernel
theorem dX3_arrivalByRounds_154 : decode cX3_arrivalByRounds 154 = .ok (.iaload, 1) := by decide +kernel
theorem dX3_arrivalByRounds_155 : decode cX3_arrivalByRounds 155 = .ok (.ireturn, 1) := by decide +kernel
set_option maxRecDepth 20000 in
theorem ggX3_promised_X3_isBundle : GoodIn wsX3_promised wsX3_isBundle := goodIn_r _ [8, 9, 10, 11, 12, 7, 13, 44, 45, 46, 47, 48, 49, 50, 51, 52, 53, 54, 55, 56, 57, 58, 59, 60, 61, 62, 63, 64] (by decide +kernel) (by decide +kernel)
set_option maxRecDepth 20000 in
theorem gX3_promised_X3_isBundle : GoodIn wsX3_promised (wsV RX3 132 RX3 yX3_isBundle wsX3_isBundle) := goodIn_app (goodIn_of _ (by decide +kernel)) ggX3_promised_X3_isBundle
set_option maxRecDepth 20000 in
theorem ggX3_promised_X3_holds : GoodIn wsX3_promised wsX3_holds := goodIn_r _ [17, 18, 44, 45, 46, 47, 48, 49, 50, 51, 52, 53, 54, 55, 56, 57, 58, 59, 60, 61, 62, 63, 64] (by decide +kernel) (by decide +kernel)
set_option maxRecDepth 20000 in
theorem gX3_promised_X3_holds : GoodIn wsX3_promised (wsV RX3 87 RX3 yX3_holds wsX3_holds) := goodIn_app (goodIn_of _ (by decide +kernel)) ggX3_promised_X3_holds
set_option maxRecDepth 20000 in
theorem ggX3_promised_X3_reach : GoodIn wsX3_promised wsX3_reach := goodIn_r _ [22, 23, 24, 25, 26, 27, 28, 29, 7, 30, 31, 32, 33, 34, 35, 36, 37, 38, 39, 40, 41, 42, 43, 44, 45, 46, 47, 48, 49, 50, 51, 52, 53, 54, 55, 56, 57, 58, 59, 60, 61, 62, 63, 64] (by decide +kernel) (by decide +kernel)
set_option maxRecDepth 20000 in
theorem gX3_promised_X3_reach : GoodIn wsX3_promised (wsV RX3 104 RX3 yX3_reach wsX3_reach) := goodIn_app (goodIn_of _ (by decide +kernel)) ggX3_promised_X3_reach
theorem dX3_promised_0 : decode cX3_promised 0 = .ok (.aload_n 0, 1) := by decide +kernel
theorem dX3_promised_1 : decode cX3_promised 1 = .ok (.aload_n 0, 1) := by decide +kernel
theorem dX3_promised_2 : decode cX3_promised 2 = .ok (.iload_n 1, 1) := by decide +kernel
theorem dX3_promised_3 : decode cX3_promised 3 = .ok (.invokevirtual 132, 3) := by decide +kernel
theorem dX3_promised_6 : decode cX3_promised 6 = .ok (.ifCond .eq 7, 3) := by decide +kernel
theorem dX3_promised_9 : decode cX3_promised 9 = .ok (.iconst 0, 1) := by decide +kernel
theorem dX3_promised_10 : decode cX3_promised 10 = .ok (.goto 4, 3) := by decide +kernel
theorem dX3_promised_13 : decode cX3_promised 13 = .ok (.iconst 1, 1) := by decide +kernel
theorem dX3_promised_14 : decode cX3_promised 14 = .ok (.invokevirtual 87, 3) := by decide +kernel
theorem dX3_promised_17 : decode cX3_promised 17 = .ok (.ifCond .eq 5, 3) := by decide +kernel
theorem dX3_promised_20 : decode cX3_promised 20 = .ok (.iconst (-1), 1) := by decide +kernel
theorem dX3_promised_21 : decode cX3_promised 21 = .ok (.ireturn, 1) := by decide +kernel
theorem dX3_promised_22 : decode cX3_promised 22 = .ok (.iconst (-1), 1) := by decide +kernel
theorem dX3_promised_23 : decode cX3_promised 23 = .ok (.istore_n 2, 1) := by decide +kernel
theorem dX3_promised_24 : decode cX3_promised 24 = .ok (.iconst 0, 1) := by decide +kernel
theorem dX3_promised_25 : decode cX3_promised 25 = .ok (.istore_n 3, 1) := by decide +kernel
theorem dX3_promised_26 : decode cX3_promised 26 = .ok (.iload_n 3, 1) := by decide +kernel
theorem dX3_promised_27 : decode cX3_promised 27 = .ok (.bipush 8, 2) := by decide +kernel
theorem dX3_promised_29 : decode cX3_promised 29 = .ok (.if_icmp .ge 62, 3) := by decide +kernel
theorem dX3_promised_32 : decode cX3_promised 32 = .ok (.aload_n 0, 1) := by decide +kernel
theorem dX3_promised_33 : decode cX3_promised 33 = .ok (.getfield 28, 3) := by decide +kernel
theorem dX3_promised_36 : decode cX3_promised 36 = .ok (.bipush 40, 2) := by decide +kernel
theorem dX3_promised_38 : decode cX3_promised 38 = .ok (.iload_n 3, 1) := by decide +kernel
theorem dX3_promised_39 : decode cX3_promised 39 = .ok (.imul, 1) := by decide +kernel
theorem dX3_promised_40 : decode cX3_promised 40 = .ok (.iload_n 1, 1) := by decide +kernel
theorem dX3_promised_41 : decode cX3_promised 41 = .ok (.iadd, 1) := by decide +kernel
theorem dX3_promised_42 : decode cX3_promised 42 = .ok (.iaload, 1) := by decide +kernel
theorem dX3_promised_43 : decode cX3_promised 43 = .ok (.ifCond .le 17, 3) := by decide +kernel
theorem dX3_promised_46 : decode cX3_promised 46 = .ok (.aload_n 0, 1) := by decide +kernel
theorem dX3_promised_47 : decode cX3_promised 47 = .ok (.iload_n 3, 1) := by decide +kernel
theorem dX3_promised_48 : decode cX3_promised 48 = .ok (.aload_n 0, 1) := by decide +kernel
theorem dX3_promised_49 : decode cX3_promised 49 = .ok (.getfield 7, 3) := by decide +kernel
theorem dX3_promised_52 : decode cX3_promised 52 = .ok (.iload_n 1, 1) := by decide +kernel
theorem dX3_promised_53 : decode cX3_promised 53 = .ok (.iaload, 1) := by decide +kernel
theorem dX3_promised_54 : decode cX3_promised 54 = .ok (.invokevirtual 104, 3) := by decide +kernel
theorem dX3_promised_57 : decode cX3_promised 57 = .ok (.goto 4, 3) := by decide +kernel
theorem dX3_promised_60 : decode cX3_promised 60 = .ok (.iconst (-1), 1) := by decide +kernel
theorem dX3_promised_61 : decode cX3_promised 61 = .ok (.istore 4, 2) := by decide +kernel
theorem dX3_promised_63 : decode cX3_promised 63 = .ok (.iload 4, 2) := by decide +kernel
theorem dX3_promised_65 : decode cX3_promised 65 = .ok (.ifCond .lt 18, 3) := by decide +kernel
theorem dX3_promised_68 : decode cX3_promised 68 = .ok (.iload_n 2, 1) := by decide +kernel
theorem dX3_promised_69 : decode cX3_promised 69 = .ok (.ifCond .lt 9, 3) := by decide +kernel
theorem dX3_promised_72 : decode cX3_promised 72 = .ok (.iload 4, 2) := by decide +kernel
theorem dX3_promised_74 : decode cX3_promised 74 = .ok (.iload_n 2, 1) := by decide +kernel
theorem dX3_promised_75 : decode cX3_promised 75 = .ok (.if_icmp .ge 8, 3) := by decide +kernel
theorem dX3_promised_78 : decode cX3_promised 78 = .ok (.iload 4, 2) := by decide +kernel
theorem dX3_promised_80 : decode cX3_promised 80 = .ok (.goto 4, 3) := by decide +kernel
theorem dX3_promised_83 : decode cX3_promised 83 = .ok (.iload_n 2, 1) := by decide +kernel
theorem dX3_promised_84 : decode cX3_promised 84 = .ok (.istore_n 2, 1) := by decide +kernel
theorem dX3_promised_85 : decode cX3_promised 85 = .ok (.iinc 3 1, 3) := by decide +kernel
theorem dX3_promised_88 : decode cX3_promised 88 = .ok (.goto (-62), 3) := by decide +kernel
theorem dX3_promised_91 : decode cX3_promised 91 = .ok (.iload_n 2, 1) := by decide +kernel
theorem dX3_promised_92 : decode cX3_promised 92 = .ok (.ifCond .lt 17, 3) := by decide +kernel
theorem dX3_promised_95 : decode cX3_promised 95 = .ok (.iload_n 2, 1) := by decide +kernel
theorem dX3_promised_96 : decode cX3_promised 96 = .ok (.aload_n 0, 1) := by decide +kernel
theorem dX3_promised_97 : decode cX3_promised 97 = .ok (.getfield 16, 3) := by decide +kernel
theorem dX3_promised_100 : decode cX3_promised 100 = .ok (.iload_n 1, 1) := by decide +kernel
theorem dX3_promised_101 : decode cX3_promised 101 = .ok (.iaload, 1) := by decide +kernel
theorem dX3_promised_102 : decode cX3_promised 102 = .ok (.if_icmp .ge 7, 3) := by decide +kernel
theorem dX3_promised_105 : decode cX3_promised 105 = .ok (.iload_n 2, 1) := by decide +kernel
theorem dX3_promised_106 : decode cX3_promised 106 = .ok (.goto 4, 3) := by decide +kernel
theorem dX3_promised_109 : decode cX3_promised 109 = .ok (.iconst (-1), 1) := by decide +kernel
theorem dX3_promised_110 : decode cX3_promised 110 = .ok (.ireturn, 1) := by decide +kernel
end
section
/-! THE WORLD BY LOGICAL NAMES. sh i = some mk: at the logical name i there is a thing, mk of its numbers; ad i: where; V i k: the k-th number of the thing i (an element of an int array, an int field of an object). -/
abbrev xS : Type := Nat → Option ((Nat → Int32) → va_E)
abbrev xV : Type := Nat → Nat → Int32
def xu (V : xV) (i k : Nat) (x : Int32) : xV := fun j => if j = i then upd (V i) k x else V j
theorem xu_same (V : xV) (i k : Nat) (x : Int32) : xu V i k x i = upd (V i) k x := by simp [xu]
theorem xu_ne (V : xV) {i j : Nat} (k : Nat) (x : Int32) (h : j ≠ i) : xu V i k x j = V j := by simp [xu, h]
def xW (D : va_G) (sh : xS) (ad : Nat → Nat) (V : xV) (H : Heap) : Prop := ∀ (i : Nat) (mk : (Nat → Int32) → va_E), sh i = some mk → va_at D vwCl (ad i, mk (V i)) H
def xI (sh : xS) (ad : Nat → Nat) : Prop := ∀ (i j : Nat) (mi mj : (Nat → Int32) → va_E), sh i = some mi → sh j = some mj → ad i = ad j → i = j
def xA (sh : xS) (ad : Nat → Nat) (sz : Nat) : Nat → Prop := fun q => (∃ (i : Nat) (mk : (Nat → Int32) → va_E), sh i = some mk ∧ ad i = q) ∨ sz ≤ q
theorem xP1 {D : va_G} {cl : List vw_C} {q : Nat × va_E} {H : Heap} (h : va_at D cl q H) : va_P D cl [q] H := by
  intro k r hr
  match k, hr with
  | 0, hr => cases hr; exact h
  | k + 1, hr => simp at hr
theorem xW.keep {D : va_G} {sh : xS} {ad : Nat → Nat} {V : xV} {H H1 : Heap} (h : xW D sh ad V H) (hq : ∀ (i : Nat) (mk : (Nat → Int32) → va_E), sh i = some mk → H1[ad i]? = H[ad i]?) : xW D sh ad V H1 := fun i mk hi => (h i mk hi).kept (hq i mk hi)
theorem xW.put {D : va_G} {sh : xS} {ad : Nat → Nat} {V : xV} {H H1 : Heap} (h : xW D sh ad V H) (hI : xI sh ad) {i k : Nat} {x : Int32} {mk : (Nat → Int32) → va_E} (hs : sh i = some mk)
    (h1 : va_at D vwCl (ad i, mk (upd (V i) k x)) H1) (oq : ∀ q : Nat, q ≠ ad i → H1[q]? = H[q]?) : xW D sh ad (xu V i k x) H1 := by
  intro j mj hj
  by_cases e : j = i
  · subst e
    rw [hs] at hj
    cases hj
    rw [xu_same]
    exact h1
  · rw [xu_ne V k x e]
    exact (h j mj hj).kept (oq _ (fun z => e (hI j i mj mk hj hs z)))
/-- what is fixed in a method's body -/
def xB (p : Program) (s : State) (m : MethodId) (args : Array Value) (meth : Method) (c : Code) (cc : ByteArray) (nL : Nat) (ret : Option FieldType) (Ts : List Cond) (own : String) (D : va_G) (sh : xS) (ad : Nat → Nat) (A : Nat → Prop) (tys : List (ClassId × FieldType)) : Prop :=
  CallFix p m c cc nL s args Ts own ∧ meth.sig.returnType = ret ∧ meth.locks = false ∧ va_K D vwCl tys s ∧ xI sh ad ∧ (∀ (i : Nat) (mk : (Nat → Int32) → va_E), sh i = some mk → A (ad i)) ∧ (∀ q : Nat, s.heap.size ≤ q → A q)
/-- what moves: the world, and what has been written -/
def xG (D : va_G) (sh : xS) (ad : Nat → Nat) (A : Nat → Prop) (H0 : Heap) (V : xV) (H : Heap) (locs : List Loc) : Prop := xW D sh ad V H ∧ va_S A H0 H locs
def xPre (D : va_G) (sh : xS) (ad : Nat → Nat) (tys : List (ClassId × FieldType)) (V : xV) (av : List Value) (sz : Nat) : Array Value → State → Prop := va_Pc av (fun U => U.heap.size = sz ∧ xW D sh ad V U.heap ∧ va_K D vwCl tys U)
def xEnd (D : va_G) (sh : xS) (ad : Nat → Nat) (tys : List (ClassId × FieldType)) (u : xV) (t : State) : Prop := xW D sh ad u t.heap ∧ va_K D vwCl tys t
/-- CONTRACTS: called with av in the world V the method answers r, and the world is V' then; nothing else has changed, nothing is new -/
def xMi (l : Launch) (y : MethodName) (ws : List Cond) (rm : Room) (D : va_G) (sh : xS) (ad : Nat → Nat) (tys : List (ClassId × FieldType)) (V : xV) (av : List Value) (r : Int32) (V' : xV) : Prop :=
  ∀ sz : Nat, Met l y ws rm (xPre D sh ad tys V av sz) (va_Qi (fun r' u => r' = r ∧ u = V') (xEnd D sh ad tys) (xA sh ad sz)) 0 0 (xA sh ad sz)
def xMv (l : Launch) (y : MethodName) (ws : List Cond) (rm : Room) (D : va_G) (sh : xS) (ad : Nat → Nat) (tys : List (ClassId × FieldType)) (V : xV) (av : List Value) (V' : xV) : Prop :=
  ∀ sz : Nat, Met l y ws rm (xPre D sh ad tys V av sz) (va_Qv (fun u => u = V') (xEnd D sh ad tys) (xA sh ad sz)) 0 0 (xA sh ad sz)
theorem xPre_blind {D : va_G} {sh : xS} {ad : Nat → Nat} {tys : List (ClassId × FieldType)} {V : xV} {av : List Value} {sz : Nat} : FrameBlind (xPre D sh ad tys V av sz) := fun a U g mk q => by
  obtain ⟨q0, q1, q2, q3⟩ := q
  exact ⟨q0, q1, q2, va_K.moved (u := U) (U := U.calling g mk a) (Vm.Alike.refl U.vm) q3⟩
theorem xOf {l : Launch} {y : MethodName} {ws ws' : List Cond} {rm : Room} {D : va_G} {sh : xS} {ad : Nat → Nat} {tys : List (ClassId × FieldType)} {V : xV} {av : List Value} {cc : ByteArray} {nL : Nat} {ret : Option FieldType} {own : String} {Qc : (Nat → Prop) → Array Value → State → Outcome → State → Prop} {mc ms : Nat}
    (hy : plainName y.cls = true) (ho : y.cls = own) (hw : ws = Cond.code y cc nL ret :: ws') (hlen : (lg_sl av).length ≤ nL) (hI : xI sh ad)
    (body : ∀ (p : Program) (e : Env) (s : State) (m : MethodId) (below : List Frame) (meth : Method) (c : Code) (A : Nat → Prop) (ls : Array Slot), meth.name = y.name → xB p s m av.toArray meth c cc nL ret ws own D sh ad A tys → xG D sh ad A s.heap V s.heap [] → lv_has ls nL (lv_args 0 av) → W p l e rm s m av.toArray below meth c s.heap [] 0 0 (MQ below (Qc A) av.toArray s mc ms A) (F0 m 0 ls [])) :
    ∀ sz : Nat, Met l y ws rm (xPre D sh ad tys V av sz) (Qc (xA sh ad sz)) mc ms (xA sh ad sz) := by
  intro sz
  refine Met.ofW (cc := cc) (maxL := nL) (ret := ret) hy hw ?_
  intro p e s m args below meth c s₁ B hml hv
  obtain ⟨rfl, hsz, hP, hK⟩ := hv
  subst hsz
  rw [lg_entry_eq]
  refine body p e s m below meth c (xA sh ad s.heap.size) _ (name_of_methodNamed B.named B.method).1 ⟨⟨B.exec, B.bytes, hml, ?_, atoms_spec (ws := ws) B.pre⟩, B.returns, B.notSynchronized, hK, hI, fun i mk hi => Or.inl ⟨i, mk, hi, rfl⟩, fun q hq => Or.inr hq⟩ ⟨hP, va_S.rf⟩ (lv_entry av hlen)
  rw [← ho]
  exact findClass_of_methodNamed B.named
theorem xB.lt {p : Program} {s : State} {m : MethodId} {args : Array Value} {meth : Method} {c : Code} {cc : ByteArray} {nL : Nat} {ret : Option FieldType} {Ts : List Cond} {own : String} {D : va_G} {sh : xS} {ad : Nat → Nat} {A : Nat → Prop} {tys : List (ClassId × FieldType)} {V : xV} {H : Heap} {locs : List Loc}
    (B : xB p s m args meth c cc nL ret Ts own D sh ad A tys) (G : xG D sh ad A s.heap V H locs) : ∀ q : Nat, xA sh ad H.size q → A q := by
  intro q hq
  rcases hq with ⟨i, mk, hi, rfl⟩ | hq
  · exact B.2.2.2.2.2.1 i mk hi
  · exact B.2.2.2.2.2.2 q (Nat.le_trans G.2.1 hq)
section XR
variable {p : Program} {l : Launch} {e : Env} {R : Room} {s : State} {m : MethodId} {args : Array Value} {below : List Frame} {meth : Method} {c : Code} {H : Heap} {locs : List Loc} {cells slots : Nat} {Q : State → Prop}
variable {cc : ByteArray} {nL : Nat} {ret : Option FieldType} {Ts : List Cond} {own : String} {D : va_G} {sh : xS} {ad : Nat → Nat} {A : Nat → Prop} {tys : List (ClassId × FieldType)} {V : xV} {pc : Nat} {ls : Array Slot} {rest st0 : List Value}
/-- the top of the stack under another name -/
theorem x_top {x y : Int32} (h : x = y) (k : W p l e R s m args below meth c H locs cells slots Q (F0 m pc ls (.int y :: rest))) : W p l e R s m args below meth c H locs cells slots Q (F0 m pc ls (.int x :: rest)) := by
  rw [h]; exact k
theorem x_get (B : xB p s m args meth c cc nL ret Ts own D sh ad A tys) (G : xG D sh ad A s.heap V H locs) (i : Nat) {C ref : String} {T : u_T} {N ci index : Nat} {fs : (Nat → Int32) → List Value} (hs : sh i = some (fun f => .inr (ci, fs f))) (hc : vwCl[ci]? = some (C, T, N)) (hin : ∀ w ∈ u_ws C T N, w ∈ Ts) (k : Nat) (hk : k < N)
    (hlink : Cond.fieldLink own index ref (T k).2.1 (T k).2.2.1 ∈ Ts) (hsame : ∀ x, s.fieldFound? (T k).1 (T k).2.1 (T k).2.2.1 = some x → s.fieldFound? ref (T k).2.1 (T k).2.2.1 = some x) {v : Value} (hv : (fs (V i))[k]? = some v) (hdg : decode cc pc = .ok (.getfield index, 3))
    (kk : W p l e R s m args below meth c H locs cells slots Q (F0 m (pc + 3) ls (v :: rest))) : W p l e R s m args below meth c H locs cells slots Q (F0 m pc ls (.ref (ad i) :: rest)) := by
  obtain ⟨⟨hx, hb, hml, hown, hts⟩, -, -, hK, -⟩ := B
  exact va_get (D := D) (cl := vwCl) (ws := [(ad i, .inr (ci, fs (V i)))]) hx hb hts hin hown hK (xP1 (G.1 i _ hs)) 0 rfl hc k hk (hts _ hlink) hsame hv hdg kk
theorem x_put (B : xB p s m args meth c cc nL ret Ts own D sh ad A tys) (G : xG D sh ad A s.heap V H locs) (i : Nat) {C ref : String} {T : u_T} {N ci index : Nat} {fs : (Nat → Int32) → List Value} (hs : sh i = some (fun f => .inr (ci, fs f))) (hc : vwCl[ci]? = some (C, T, N)) (hin : ∀ w ∈ u_ws C T N, w ∈ Ts)
    (ty0 : Nat → FieldType) (hty : ∀ k, k < N → parseFieldDescriptor (T k).2.2.1 = some (ty0 k)) (hnm : ∀ a, a < N → ∀ b, b < N → a ≠ b → (T a).2.1 ≠ (T b).2.1) (k : Nat) (hk : k < N)
    (hlink : Cond.fieldLink own index ref (T k).2.1 (T k).2.2.1 ∈ Ts) (hsame : ∀ x, s.fieldFound? (T k).1 (T k).2.1 (T k).2.2.1 = some x → s.fieldFound? ref (T k).2.1 (T k).2.2.1 = some x) (hfin : (T k).2.2.2 = false) (hd : parseFieldDescriptor (T k).2.2.1 = some .int) {x : Int32} (hset : (fs (V i)).set k (.int x) = fs (upd (V i) k x)) (hl : k < (fs (V i)).length)
    (hdg : decode cc pc = .ok (.putfield index, 3)) (kk : ∀ (H1 : Heap) (locs1 : List Loc), xG D sh ad A s.heap (xu V i k x) H1 locs1 → W p l e R s m args below meth c H1 locs1 cells slots Q (F0 m (pc + 3) ls rest)) : W p l e R s m args below meth c H locs cells slots Q (F0 m pc ls (.int x :: .ref (ad i) :: rest)) := by
  obtain ⟨⟨hx, hb, hml, hown, hts⟩, -, -, hK, hI, hA, -⟩ := B
  have hap := va_apart (own := own) hts hin ty0 hty hnm hK hc
  obtain ⟨r, h1, cell, q1, q2, q3, q4⟩ := G.1 i _ hs
  have hr : r = (C, T, N) := Option.some.inj (h1.symm.trans hc)
  subst hr
  obtain ⟨hS, hfc, kC, hkC, hkind⟩ := hK.1 ci _ hc
  obtain ⟨cf, kf, fi, f, hi, hsl⟩ := hS k hk
  have hlay := hts _ (hin _ (u_in_lay hk))
  unfold u_lay at hlay
  rw [if_neg (by rw [hfin]; decide)] at hlay
  have hst := (u_facts hfc hkC (u_lays hts hin hk) hi).1
  have h6 := u_store hfc hkC hkind hlay hi hd (v := .int x) rfl rfl
  refine W.putK hx hb (f := f) ⟨hown, hts _ hlink, ⟨_, _, _, hsame _ hi⟩, hst⟩ (by rw [q2]; exact h6) q1 q3 (by rw [hsl]; exact k2_hasslot (q4 k hk)) rfl rfl hdg fun H' e1 e2 e3 => ?_
  rw [hsl] at e1 ⊢
  refine kk H' _ ⟨xW.put G.1 hI hs ?_ e3, G.2.put e2 e3 (hA i _ hs)⟩
  refine ⟨_, hc, t_OB.to (V := updV (vp_V (fs (V i))) k (.int x)) ⟨_, e1, q2, q3, t_set q4 hap hk _⟩ (fun j _ => ?_)⟩
  rw [vp_updV_set hl, hset]
theorem x_ald (B : xB p s m args meth c cc nL ret Ts own D sh ad A tys) (G : xG D sh ad A s.heap V H locs) (i : Nat) {cA : ClassId} {n : Nat} (hs : sh i = some (fun f => .inl (cA, n, .inl f))) (t0 : Nat) (ht : tys[t0]? = some (cA, .int)) (j : Nat) (hj : j < n) {x : Int32} (hxj : x = nI j) (hn : n < 2 ^ 31) (hdg : decode cc pc = .ok (.iaload, 1))
    (kk : W p l e R s m args below meth c H locs cells slots Q (F0 m (pc + 1) ls (.int (V i j) :: rest))) : W p l e R s m args below meth c H locs cells slots Q (F0 m pc ls (.int x :: .ref (ad i) :: rest)) := by
  obtain ⟨⟨hx, hb, hml, hown, hts⟩, -, -, hK, -⟩ := B
  subst hxj
  refine va_iald (D := D) (cl := vwCl) (ws := [(ad i, .inl (cA, n, .inl (V i)))]) hx hb hK (xP1 (G.1 i _ hs)) 0 t0 rfl ht (vp_in_nI hj hn) hdg ?_
  rw [nI_clamp (Nat.lt_trans hj hn)]
  exact kk
theorem x_zald (B : xB p s m args meth c cc nL ret Ts own D sh ad A tys) (G : xG D sh ad A s.heap V H locs) (i : Nat) {cA : ClassId} {n : Nat} (hs : sh i = some (fun f => .inl (cA, n, .inl f))) (t0 : Nat) (ht : tys[t0]? = some (cA, .boolean)) (j : Nat) (hj : j < n) {x : Int32} (hxj : x = nI j) (hn : n < 2 ^ 31) (hdg : decode cc pc = .ok (.baload, 1))
    (kk : W p l e R s m args below meth c H locs cells slots Q (F0 m (pc + 1) ls (.int (V i j) :: rest))) : W p l e R s m args below meth c H locs cells slots Q (F0 m pc ls (.int x :: .ref (ad i) :: rest)) := by
  obtain ⟨⟨hx, hb, hml, hown, hts⟩, -, -, hK, -⟩ := B
  subst hxj
  refine va_zald (D := D) (cl := vwCl) (ws := [(ad i, .inl (cA, n, .inl (V i)))]) hx hb hK (xP1 (G.1 i _ hs)) 0 t0 rfl ht (vp_in_nI hj hn) hdg ?_
  rw [nI_clamp (Nat.lt_trans hj hn)]
  exact kk
theorem x_cell {cA : ClassId} {n j : Nat} (f : Nat → Int32) (x : Int32) : (vp_cell cA (n, .inl f)).setSlot j (.int x) = vp_cell cA (n, .inl (upd f j x)) := by
  rw [vp_cell_i, vp_cell_i, arrV_store]
  congr 1
  funext q
  by_cases hq : q = j
  · subst hq
    simp [updV, upd]
  · simp [updV, upd, hq]
theorem x_ast (B : xB p s m args meth c cc nL ret Ts own D sh ad A tys) (G : xG D sh ad A s.heap V H locs) (i : Nat) {cA : ClassId} {n : Nat} (hs : sh i = some (fun f => .inl (cA, n, .inl f))) (t0 : Nat) (ht : tys[t0]? = some (cA, .int)) (j : Nat) (hj : j < n) {x v : Int32} (hxj : x = nI j) (hn : n < 2 ^ 31) (hdg : decode cc pc = .ok (.iastore, 1))
    (kk : ∀ (H1 : Heap) (locs1 : List Loc), xG D sh ad A s.heap (xu V i j v) H1 locs1 → W p l e R s m args below meth c H1 locs1 cells slots Q (F0 m (pc + 1) ls rest)) : W p l e R s m args below meth c H locs cells slots Q (F0 m pc ls (.int v :: .int x :: .ref (ad i) :: rest)) := by
  obtain ⟨⟨hx, hb, hml, hown, hts⟩, -, -, hK, hI, hA, -⟩ := B
  subst hxj
  refine W.iast hx hb (G.1 i _ hs) ((hK.2 t0 _ ht).1 n (fun j => .int (V i j))) (fun q => by cases q) (by show ¬ (_ ∨ (arrV _ _ _).slots.size ≤ _); rw [arrV_size]; exact vp_in_nI hj hn) rfl rfl hdg fun H1 e1 z oq => ?_
  rw [nI_clamp (Nat.lt_trans hj hn)] at e1
  refine kk H1 _ ⟨xW.put G.1 hI hs ?_ oq, G.2.put z oq (hA i _ hs)⟩
  show H1[ad i]? = some (vp_cell _ _)
  rw [e1, x_cell]
theorem x_zast (B : xB p s m args meth c cc nL ret Ts own D sh ad A tys) (G : xG D sh ad A s.heap V H locs) (i : Nat) {cA : ClassId} {n : Nat} (hs : sh i = some (fun f => .inl (cA, n, .inl f))) (t0 : Nat) (ht : tys[t0]? = some (cA, .boolean)) (j : Nat) (hj : j < n) {x v : Int32} (hxj : x = nI j) (hn : n < 2 ^ 31) (hv : v = 0 ∨ v = 1) (hdg : decode cc pc = .ok (.bastore, 1))
    (kk : ∀ (H1 : Heap) (locs1 : List Loc), xG D sh ad A s.heap (xu V i j v) H1 locs1 → W p l e R s m args below meth c H1 locs1 cells slots Q (F0 m (pc + 1) ls rest)) : W p l e R s m args below meth c H locs cells slots Q (F0 m pc ls (.int v :: .int x :: .ref (ad i) :: rest)) := by
  obtain ⟨⟨hx, hb, hml, hown, hts⟩, -, -, hK, hI, hA, -⟩ := B
  subst hxj
  have hnv : narrow .boolean (.int v) = .int v := by rcases hv with rfl | rfl <;> rfl
  refine W.zast hx hb (G.1 i _ hs) ((hK.2 t0 _ ht).1 n (fun j => .int (V i j))) (fun q => by cases q) (by show ¬ (_ ∨ (arrV _ _ _).slots.size ≤ _); rw [arrV_size]; exact vp_in_nI hj hn) rfl rfl hdg fun H1 e1 z oq => ?_
  rw [nI_clamp (Nat.lt_trans hj hn), hnv] at e1
  refine kk H1 _ ⟨xW.put G.1 hI hs ?_ oq, G.2.put z oq (hA i _ hs)⟩
  show H1[ad i]? = some (vp_cell _ _)
  rw [e1, x_cell]
theorem x_recv (B : xB p s m args meth c cc nL ret Ts own D sh ad A tys) (G : xG D sh ad A s.heap V H locs) (i : Nat) {ci : Nat} {fs : (Nat → Int32) → List Value} {q : vw_C} (hs : sh i = some (fun f => .inr (ci, fs f))) (hc : vwCl[ci]? = some q) : ∃ cell : Cell, H[ad i]? = some cell ∧ cell.vm.isStatics = false ∧ s.vm.findClass q.1 = some cell.cls :=
  va_recv (ws := [(ad i, .inr (ci, fs (V i)))]) (q0 := 0) B.2.2.2.1 (xP1 (G.1 i _ hs)) hc rfl
/-- ends -/
theorem x_iret {mc ms : Nat} {r v : Int32} {V' : xV} (B : xB p s m args meth c cc nL (some .int) Ts own D sh ad A tys) (G : xG D sh ad A s.heap V H locs) (h1 : v = r) (h2 : V = V') (hdg : decode cc pc = .ok (.ireturn, 1)) : W p l e R s m args below meth c H locs mc ms (MQ below (va_Qi (fun r' u => r' = r ∧ u = V') (xEnd D sh ad tys) A) args s mc ms A) (F0 m pc ls [.int v]) := by
  obtain ⟨⟨hx, hb, hml, hown, hts⟩, hr, hlocks, hK, -⟩ := B
  exact W.iret (v := v) hx hb hr (fun t ht hW => ⟨⟨v, V, rfl, ⟨h1, h2⟩, by rw [ht]; exact G.1, va_K.moved hW.alike hK⟩, G.2.F ht⟩) G.2.2.2 hdg hlocks
theorem x_zret {mc ms : Nat} {r v : Int32} {V' : xV} (B : xB p s m args meth c cc nL (some .boolean) Ts own D sh ad A tys) (G : xG D sh ad A s.heap V H locs) (hv : v = 0 ∨ v = 1) (h1 : v = r) (h2 : V = V') (hdg : decode cc pc = .ok (.ireturn, 1)) : W p l e R s m args below meth c H locs mc ms (MQ below (va_Qi (fun r' u => r' = r ∧ u = V') (xEnd D sh ad tys) A) args s mc ms A) (F0 m pc ls [.int v]) := by
  obtain ⟨⟨hx, hb, hml, hown, hts⟩, hr, hlocks, hK, -⟩ := B
  have hnv : narrow .boolean (.int v) = .int v := by rcases hv with rfl | rfl <;> rfl
  exact W.zret (v := v) (ty := .boolean) hx hb hr hnv (fun t ht hW => ⟨⟨v, V, rfl, ⟨h1, h2⟩, by rw [ht]; exact G.1, va_K.moved hW.alike hK⟩, G.2.F ht⟩) G.2.2.2 hdg hlocks
theorem x_vret {mc ms : Nat} {V' : xV} (B : xB p s m args meth c cc nL none Ts own D sh ad A tys) (G : xG D sh ad A s.heap V H locs) (h2 : V = V') (hdg : decode cc pc = .ok (.return_, 1)) : W p l e R s m args below meth c H locs mc ms (MQ below (va_Qv (fun u => u = V') (xEnd D sh ad tys) A) args s mc ms A) (F0 m pc ls []) := by
  obtain ⟨⟨hx, hb, hml, hown, hts⟩, hr, hlocks, hK, -⟩ := B
  exact W.vret hx hb hr (fun t ht hW => ⟨⟨V, rfl, h2, by rw [ht]; exact G.1, va_K.moved hW.alike hK⟩, G.2.F ht⟩) G.2.2.2 hdg hlocks
/-- calls, the whole world handed over -/
theorem x_callVi {y : MethodName} {bytes : ByteArray} {maxL n index : Nat} {rty : Option FieldType} {ws : List Cond} {rm : Room} {C : String} {b : Addr} {As : List Value} {r : Int32} {V' : xV}
    (B : xB p s m args meth c cc nL ret Ts own D sh ad A tys) (G : xG D sh ad A s.heap V H locs) (hM : xMi l y ws rm D sh ad tys V (.ref b :: As) r V') (cw : CallW R s args own C index y bytes maxL rty ws rm 0 0 n)
    (hrv : ∃ cell : Cell, H[b]? = some cell ∧ cell.vm.isStatics = false ∧ s.vm.findClass C = some cell.cls) (hn : As.length = n) (hsz : ls.size = nL) (hst : st0 = As.reverse ++ .ref b :: rest) (hW : (rest.map fun v => v.category).sum ≤ 8) (hcs : cells ≤ R.cells ∧ slots ≤ R.slots) (hdg : decode cc pc = .ok (.invokevirtual index, 3))
    (kk : ∀ (H1 : Heap) (locs1 : List Loc), xG D sh ad A s.heap V' H1 locs1 → W p l e R s m args below meth c H1 locs1 cells slots Q (F0 m (pc + 3) ls (.int r :: rest))) : W p l e R s m args below meth c H locs cells slots Q (F0 m pc ls st0) := by
  have hA := xB.lt B G
  obtain ⟨S, -, -, hK, -⟩ := B
  refine va_calli (va_runV (As := As) (rest := rest) S (hM H.size) cw ⟨xPre_blind, hrv, fun U hU hW => ⟨rfl, by rw [hU], by rw [hU]; exact G.1, va_K.moved hW.alike hK⟩⟩ rfl hn hsz hst (lv_room hW) hdg hcs) G.2 (fun q _ h => hA q h) hA (fun r9 u t H1 locs1 ht hvm hw hB hz1 hk1 hS => ?_)
  obtain ⟨rfl, rfl⟩ := hw
  exact kk H1 locs1 ⟨by rw [← ht]; exact hB.1, hS⟩
theorem x_callVv {y : MethodName} {bytes : ByteArray} {maxL n index : Nat} {rty : Option FieldType} {ws : List Cond} {rm : Room} {C : String} {b : Addr} {As : List Value} {V' : xV}
    (B : xB p s m args meth c cc nL ret Ts own D sh ad A tys) (G : xG D sh ad A s.heap V H locs) (hM : xMv l y ws rm D sh ad tys V (.ref b :: As) V') (cw : CallW R s args own C index y bytes maxL rty ws rm 0 0 n)
    (hrv : ∃ cell : Cell, H[b]? = some cell ∧ cell.vm.isStatics = false ∧ s.vm.findClass C = some cell.cls) (hn : As.length = n) (hsz : ls.size = nL) (hst : st0 = As.reverse ++ .ref b :: rest) (hW : (rest.map fun v => v.category).sum ≤ 8) (hcs : cells ≤ R.cells ∧ slots ≤ R.slots) (hdg : decode cc pc = .ok (.invokevirtual index, 3))
    (kk : ∀ (H1 : Heap) (locs1 : List Loc), xG D sh ad A s.heap V' H1 locs1 → W p l e R s m args below meth c H1 locs1 cells slots Q (F0 m (pc + 3) ls rest)) : W p l e R s m args below meth c H locs cells slots Q (F0 m pc ls st0) := by
  have hA := xB.lt B G
  obtain ⟨S, -, -, hK, -⟩ := B
  refine va_callv (va_runV (As := As) (rest := rest) S (hM H.size) cw ⟨xPre_blind, hrv, fun U hU hW => ⟨rfl, by rw [hU], by rw [hU]; exact G.1, va_K.moved hW.alike hK⟩⟩ rfl hn hsz hst (lv_room hW) hdg hcs) G.2 (fun q _ h => hA q h) hA (fun u t H1 locs1 ht hvm hw hB hz1 hk1 hS => ?_)
  subst hw
  exact kk H1 locs1 ⟨by rw [← ht]; exact hB.1, hS⟩
theorem x_callSi {y : MethodName} {bytes : ByteArray} {maxL n index : Nat} {rty : Option FieldType} {ws : List Cond} {rm : Room} {As : List Value} {r : Int32} {V' : xV}
    (B : xB p s m args meth c cc nL ret Ts own D sh ad A tys) (G : xG D sh ad A s.heap V H locs) (hM : xMi l y ws rm D sh ad tys V As r V') (cw : CallB R s args own index y bytes maxL rty ws rm 0 0 n ∧ (Cond.static y).before args s = true)
    (hn : As.length = n) (hsz : ls.size = nL) (hst : st0 = As.reverse ++ rest) (hW : (rest.map fun v => v.category).sum ≤ 8) (hcs : cells ≤ R.cells ∧ slots ≤ R.slots) (hdg : decode cc pc = .ok (.invokestatic index, 3))
    (kk : ∀ (H1 : Heap) (locs1 : List Loc), xG D sh ad A s.heap V' H1 locs1 → W p l e R s m args below meth c H1 locs1 cells slots Q (F0 m (pc + 3) ls (.int r :: rest))) : W p l e R s m args below meth c H locs cells slots Q (F0 m pc ls st0) := by
  have hA := xB.lt B G
  obtain ⟨S, -, -, hK, -⟩ := B
  refine va_calli (va_runS (As := As) (rest := rest) S (hM H.size) cw ⟨xPre_blind, fun U hU hW => ⟨rfl, by rw [hU], by rw [hU]; exact G.1, va_K.moved hW.alike hK⟩⟩ rfl hn hsz hst (lv_room hW) hdg hcs) G.2 (fun q _ h => hA q h) hA (fun r9 u t H1 locs1 ht hvm hw hB hz1 hk1 hS => ?_)
  obtain ⟨rfl, rfl⟩ := hw
  exact kk H1 locs1 ⟨by rw [← ht]; exact hB.1, hS⟩
end XR
/-- truth as the machine writes it -/
def b2i (P : Prop) [Decidable P] : Int32 := if P then 1 else 0
end
