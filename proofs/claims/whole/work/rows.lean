section
-- ===== PART A: goes FIRST, ahead of the names: the tables' words, and 'selects' of the private methods out of them =====
/-- a private method of a class that the tables say can be made, by its rows of tables_1 -/
def lw_okq (q : MethodName × Nat) : Prop := (q.1.cls ≠ "java/lang/invoke/MethodHandle" ∧ q.1.cls ≠ "java/lang/invoke/VarHandle") ∧ Cond.instantiable q.1.cls q.2 ∈ tables_1 ∧ Cond.privateMethod q.1 ∈ tables_1 ∧ Cond.instanceMethod q.1 ∈ tables_1
theorem lw_p0 : lw_okq (⟨"RelayParcels$World", "overlapsATrip", "(III)Z"⟩, 10) := ⟨⟨by decide +kernel, by decide +kernel⟩, List.mem_of_getElem? (i := 29) (by decide +kernel), List.mem_of_getElem? (i := 332) (by decide +kernel), List.mem_of_getElem? (i := 333) (by decide +kernel)⟩
theorem lw_p1 : lw_okq (⟨"RelayParcels$World", "setHolder", "(II)V"⟩, 10) := ⟨⟨by decide +kernel, by decide +kernel⟩, List.mem_of_getElem? (i := 29) (by decide +kernel), List.mem_of_getElem? (i := 425) (by decide +kernel), List.mem_of_getElem? (i := 426) (by decide +kernel)⟩
theorem lw_p2 : lw_okq (⟨"RelayParcels$World", "endTrips", "()I"⟩, 10) := ⟨⟨by decide +kernel, by decide +kernel⟩, List.mem_of_getElem? (i := 29) (by decide +kernel), List.mem_of_getElem? (i := 449) (by decide +kernel), List.mem_of_getElem? (i := 450) (by decide +kernel)⟩
theorem lw_p3 : lw_okq (⟨"RelayParcels$World", "startTrips", "()V"⟩, 10) := ⟨⟨by decide +kernel, by decide +kernel⟩, List.mem_of_getElem? (i := 29) (by decide +kernel), List.mem_of_getElem? (i := 453) (by decide +kernel), List.mem_of_getElem? (i := 454) (by decide +kernel)⟩
theorem lw_p4 : lw_okq (⟨"RelayParcels$World", "startTrip", "(I)V"⟩, 10) := ⟨⟨by decide +kernel, by decide +kernel⟩, List.mem_of_getElem? (i := 29) (by decide +kernel), List.mem_of_getElem? (i := 457) (by decide +kernel), List.mem_of_getElem? (i := 458) (by decide +kernel)⟩
theorem lw_p5 : lw_okq (⟨"RelayParcels$World", "handOverIfWordsFit", "(II)I"⟩, 10) := ⟨⟨by decide +kernel, by decide +kernel⟩, List.mem_of_getElem? (i := 29) (by decide +kernel), List.mem_of_getElem? (i := 489) (by decide +kernel), List.mem_of_getElem? (i := 490) (by decide +kernel)⟩
theorem lw_p6 : lw_okq (⟨"RelayParcels$World", "handOver", "(II)V"⟩, 10) := ⟨⟨by decide +kernel, by decide +kernel⟩, List.mem_of_getElem? (i := 29) (by decide +kernel), List.mem_of_getElem? (i := 497) (by decide +kernel), List.mem_of_getElem? (i := 498) (by decide +kernel)⟩
theorem lw_p7 : lw_okq (⟨"RelayParcels$World", "settleWithTaker", "(II)V"⟩, 10) := ⟨⟨by decide +kernel, by decide +kernel⟩, List.mem_of_getElem? (i := 29) (by decide +kernel), List.mem_of_getElem? (i := 501) (by decide +kernel), List.mem_of_getElem? (i := 502) (by decide +kernel)⟩
theorem lw_p8 : lw_okq (⟨"RelayParcels$World", "payFee", "(II)V"⟩, 10) := ⟨⟨by decide +kernel, by decide +kernel⟩, List.mem_of_getElem? (i := 29) (by decide +kernel), List.mem_of_getElem? (i := 505) (by decide +kernel), List.mem_of_getElem? (i := 506) (by decide +kernel)⟩
theorem lw_p9 : lw_okq (⟨"RelayParcels$World", "nextTripOf", "(I)I"⟩, 10) := ⟨⟨by decide +kernel, by decide +kernel⟩, List.mem_of_getElem? (i := 29) (by decide +kernel), List.mem_of_getElem? (i := 509) (by decide +kernel), List.mem_of_getElem? (i := 510) (by decide +kernel)⟩
theorem lw_p10 : lw_okq (⟨"RelayParcels$World", "missing", "(I)I"⟩, 10) := ⟨⟨by decide +kernel, by decide +kernel⟩, List.mem_of_getElem? (i := 29) (by decide +kernel), List.mem_of_getElem? (i := 572) (by decide +kernel), List.mem_of_getElem? (i := 573) (by decide +kernel)⟩
theorem lw_p11 : lw_okq (⟨"RelayParcels", "followOrder", "(I)I"⟩, 5) := ⟨⟨by decide +kernel, by decide +kernel⟩, List.mem_of_getElem? (i := 15) (by decide +kernel), List.mem_of_getElem? (i := 631) (by decide +kernel), List.mem_of_getElem? (i := 632) (by decide +kernel)⟩
theorem lw_p12 : lw_okq (⟨"RelayParcels$World", "tripsThatAre", "(I)I"⟩, 10) := ⟨⟨by decide +kernel, by decide +kernel⟩, List.mem_of_getElem? (i := 29) (by decide +kernel), List.mem_of_getElem? (i := 652) (by decide +kernel), List.mem_of_getElem? (i := 653) (by decide +kernel)⟩
theorem lw_p13 : lw_okq (⟨"RelayParcels$World", "parcelsThatAre", "(I)I"⟩, 10) := ⟨⟨by decide +kernel, by decide +kernel⟩, List.mem_of_getElem? (i := 29) (by decide +kernel), List.mem_of_getElem? (i := 656) (by decide +kernel), List.mem_of_getElem? (i := 657) (by decide +kernel)⟩
theorem lw_p14 : lw_okq (⟨"RelayParcels$World", "coinsOfAll", "()I"⟩, 10) := ⟨⟨by decide +kernel, by decide +kernel⟩, List.mem_of_getElem? (i := 29) (by decide +kernel), List.mem_of_getElem? (i := 660) (by decide +kernel), List.mem_of_getElem? (i := 661) (by decide +kernel)⟩
theorem lw_p15 : lw_okq (⟨"RelayParcels$Ways", "lookAtAllTrips", "()V"⟩, 11) := ⟨⟨by decide +kernel, by decide +kernel⟩, List.mem_of_getElem? (i := 254) (by decide +kernel), List.mem_of_getElem? (i := 718) (by decide +kernel), List.mem_of_getElem? (i := 719) (by decide +kernel)⟩
def lw_privs_1 : List (MethodName × Nat) := [(⟨"RelayParcels$World", "overlapsATrip", "(III)Z"⟩, 10), (⟨"RelayParcels$World", "setHolder", "(II)V"⟩, 10), (⟨"RelayParcels$World", "endTrips", "()I"⟩, 10), (⟨"RelayParcels$World", "startTrips", "()V"⟩, 10), (⟨"RelayParcels$World", "startTrip", "(I)V"⟩, 10), (⟨"RelayParcels$World", "handOverIfWordsFit", "(II)I"⟩, 10), (⟨"RelayParcels$World", "handOver", "(II)V"⟩, 10), (⟨"RelayParcels$World", "settleWithTaker", "(II)V"⟩, 10), (⟨"RelayParcels$World", "payFee", "(II)V"⟩, 10), (⟨"RelayParcels$World", "nextTripOf", "(I)I"⟩, 10), (⟨"RelayParcels$World", "missing", "(I)I"⟩, 10), (⟨"RelayParcels", "followOrder", "(I)I"⟩, 5), (⟨"RelayParcels$World", "tripsThatAre", "(I)I"⟩, 10), (⟨"RelayParcels$World", "parcelsThatAre", "(I)I"⟩, 10), (⟨"RelayParcels$World", "coinsOfAll", "()I"⟩, 10), (⟨"RelayParcels$Ways", "lookAtAllTrips", "()V"⟩, 11)]
theorem lw_r1 : ∀ q ∈ lw_privs_1, lw_okq q := List.forall_mem_cons.mpr ⟨lw_p0, List.forall_mem_cons.mpr ⟨lw_p1, List.forall_mem_cons.mpr ⟨lw_p2, List.forall_mem_cons.mpr ⟨lw_p3, List.forall_mem_cons.mpr ⟨lw_p4, List.forall_mem_cons.mpr ⟨lw_p5, List.forall_mem_cons.mpr ⟨lw_p6, List.forall_mem_cons.mpr ⟨lw_p7, List.forall_mem_cons.mpr ⟨lw_p8, List.forall_mem_cons.mpr ⟨lw_p9, List.forall_mem_cons.mpr ⟨lw_p10, List.forall_mem_cons.mpr ⟨lw_p11, List.forall_mem_cons.mpr ⟨lw_p12, List.forall_mem_cons.mpr ⟨lw_p13, List.forall_mem_cons.mpr ⟨lw_p14, List.forall_mem_cons.mpr ⟨lw_p15, fun _ h => absurd h List.not_mem_nil⟩⟩⟩⟩⟩⟩⟩⟩⟩⟩⟩⟩⟩⟩⟩⟩
theorem lw_p16 : lw_okq (⟨"RelayParcels$Ways", "latestNotLookedAt", "()I"⟩, 11) := ⟨⟨by decide +kernel, by decide +kernel⟩, List.mem_of_getElem? (i := 254) (by decide +kernel), List.mem_of_getElem? (i := 722) (by decide +kernel), List.mem_of_getElem? (i := 723) (by decide +kernel)⟩
theorem lw_p17 : lw_okq (⟨"RelayParcels$Ways", "lookAt", "(I)V"⟩, 11) := ⟨⟨by decide +kernel, by decide +kernel⟩, List.mem_of_getElem? (i := 254) (by decide +kernel), List.mem_of_getElem? (i := 726) (by decide +kernel), List.mem_of_getElem? (i := 727) (by decide +kernel)⟩
theorem lw_p18 : lw_okq (⟨"RelayParcels$Ways", "bestFrom", "(II)I"⟩, 11) := ⟨⟨by decide +kernel, by decide +kernel⟩, List.mem_of_getElem? (i := 254) (by decide +kernel), List.mem_of_getElem? (i := 730) (by decide +kernel), List.mem_of_getElem? (i := 731) (by decide +kernel)⟩
theorem lw_p19 : lw_okq (⟨"RelayParcels$Ways", "isBetter", "(II)Z"⟩, 11) := ⟨⟨by decide +kernel, by decide +kernel⟩, List.mem_of_getElem? (i := 254) (by decide +kernel), List.mem_of_getElem? (i := 738) (by decide +kernel), List.mem_of_getElem? (i := 739) (by decide +kernel)⟩
theorem lw_p20 : lw_okq (⟨"RelayParcels$Ways", "begin", "(II)V"⟩, 11) := ⟨⟨by decide +kernel, by decide +kernel⟩, List.mem_of_getElem? (i := 254) (by decide +kernel), List.mem_of_getElem? (i := 742) (by decide +kernel), List.mem_of_getElem? (i := 743) (by decide +kernel)⟩
theorem lw_p21 : lw_okq (⟨"RelayParcelsModel", "setsP", "(IIJ)V"⟩, 9) := ⟨⟨by decide +kernel, by decide +kernel⟩, List.mem_of_getElem? (i := 758) (by decide +kernel), List.mem_of_getElem? (i := 765) (by decide +kernel), List.mem_of_getElem? (i := 766) (by decide +kernel)⟩
theorem lw_p22 : lw_okq (⟨"RelayParcelsModel", "records", "()V"⟩, 9) := ⟨⟨by decide +kernel, by decide +kernel⟩, List.mem_of_getElem? (i := 758) (by decide +kernel), List.mem_of_getElem? (i := 811) (by decide +kernel), List.mem_of_getElem? (i := 812) (by decide +kernel)⟩
theorem lw_p23 : lw_okq (⟨"RelayParcelsModel", "hour", "()I"⟩, 9) := ⟨⟨by decide +kernel, by decide +kernel⟩, List.mem_of_getElem? (i := 758) (by decide +kernel), List.mem_of_getElem? (i := 815) (by decide +kernel), List.mem_of_getElem? (i := 816) (by decide +kernel)⟩
theorem lw_p24 : lw_okq (⟨"RelayParcelsModel", "overlaps", "(IIII)Z"⟩, 9) := ⟨⟨by decide +kernel, by decide +kernel⟩, List.mem_of_getElem? (i := 758) (by decide +kernel), List.mem_of_getElem? (i := 837) (by decide +kernel), List.mem_of_getElem? (i := 838) (by decide +kernel)⟩
theorem lw_p25 : lw_okq (⟨"RelayParcelsModel", "ofT", "(II)I"⟩, 9) := ⟨⟨by decide +kernel, by decide +kernel⟩, List.mem_of_getElem? (i := 758) (by decide +kernel), List.mem_of_getElem? (i := 841) (by decide +kernel), List.mem_of_getElem? (i := 842) (by decide +kernel)⟩
theorem lw_p26 : lw_okq (⟨"RelayParcelsModel", "setsT", "(IIJ)V"⟩, 9) := ⟨⟨by decide +kernel, by decide +kernel⟩, List.mem_of_getElem? (i := 758) (by decide +kernel), List.mem_of_getElem? (i := 846) (by decide +kernel), List.mem_of_getElem? (i := 847) (by decide +kernel)⟩
theorem lw_p27 : lw_okq (⟨"RelayParcelsModel", "isTrip", "(I)Z"⟩, 9) := ⟨⟨by decide +kernel, by decide +kernel⟩, List.mem_of_getElem? (i := 758) (by decide +kernel), List.mem_of_getElem? (i := 854) (by decide +kernel), List.mem_of_getElem? (i := 855) (by decide +kernel)⟩
theorem lw_p28 : lw_okq (⟨"RelayParcelsModel", "passesHour", "()I"⟩, 9) := ⟨⟨by decide +kernel, by decide +kernel⟩, List.mem_of_getElem? (i := 758) (by decide +kernel), List.mem_of_getElem? (i := 864) (by decide +kernel), List.mem_of_getElem? (i := 865) (by decide +kernel)⟩
theorem lw_p29 : lw_okq (⟨"RelayParcelsModel", "leaves", "(I)V"⟩, 9) := ⟨⟨by decide +kernel, by decide +kernel⟩, List.mem_of_getElem? (i := 758) (by decide +kernel), List.mem_of_getElem? (i := 869) (by decide +kernel), List.mem_of_getElem? (i := 870) (by decide +kernel)⟩
theorem lw_p30 : lw_okq (⟨"RelayParcelsModel", "ofP", "(II)I"⟩, 9) := ⟨⟨by decide +kernel, by decide +kernel⟩, List.mem_of_getElem? (i := 758) (by decide +kernel), List.mem_of_getElem? (i := 873) (by decide +kernel), List.mem_of_getElem? (i := 874) (by decide +kernel)⟩
theorem lw_p31 : lw_okq (⟨"RelayParcelsModel", "stands", "(I)V"⟩, 9) := ⟨⟨by decide +kernel, by decide +kernel⟩, List.mem_of_getElem? (i := 758) (by decide +kernel), List.mem_of_getElem? (i := 877) (by decide +kernel), List.mem_of_getElem? (i := 878) (by decide +kernel)⟩
def lw_privs_2 : List (MethodName × Nat) := [(⟨"RelayParcels$Ways", "latestNotLookedAt", "()I"⟩, 11), (⟨"RelayParcels$Ways", "lookAt", "(I)V"⟩, 11), (⟨"RelayParcels$Ways", "bestFrom", "(II)I"⟩, 11), (⟨"RelayParcels$Ways", "isBetter", "(II)Z"⟩, 11), (⟨"RelayParcels$Ways", "begin", "(II)V"⟩, 11), (⟨"RelayParcelsModel", "setsP", "(IIJ)V"⟩, 9), (⟨"RelayParcelsModel", "records", "()V"⟩, 9), (⟨"RelayParcelsModel", "hour", "()I"⟩, 9), (⟨"RelayParcelsModel", "overlaps", "(IIII)Z"⟩, 9), (⟨"RelayParcelsModel", "ofT", "(II)I"⟩, 9), (⟨"RelayParcelsModel", "setsT", "(IIJ)V"⟩, 9), (⟨"RelayParcelsModel", "isTrip", "(I)Z"⟩, 9), (⟨"RelayParcelsModel", "passesHour", "()I"⟩, 9), (⟨"RelayParcelsModel", "leaves", "(I)V"⟩, 9), (⟨"RelayParcelsModel", "ofP", "(II)I"⟩, 9), (⟨"RelayParcelsModel", "stands", "(I)V"⟩, 9)]
theorem lw_r2 : ∀ q ∈ lw_privs_2, lw_okq q := List.forall_mem_cons.mpr ⟨lw_p16, List.forall_mem_cons.mpr ⟨lw_p17, List.forall_mem_cons.mpr ⟨lw_p18, List.forall_mem_cons.mpr ⟨lw_p19, List.forall_mem_cons.mpr ⟨lw_p20, List.forall_mem_cons.mpr ⟨lw_p21, List.forall_mem_cons.mpr ⟨lw_p22, List.forall_mem_cons.mpr ⟨lw_p23, List.forall_mem_cons.mpr ⟨lw_p24, List.forall_mem_cons.mpr ⟨lw_p25, List.forall_mem_cons.mpr ⟨lw_p26, List.forall_mem_cons.mpr ⟨lw_p27, List.forall_mem_cons.mpr ⟨lw_p28, List.forall_mem_cons.mpr ⟨lw_p29, List.forall_mem_cons.mpr ⟨lw_p30, List.forall_mem_cons.mpr ⟨lw_p31, fun _ h => absurd h List.not_mem_nil⟩⟩⟩⟩⟩⟩⟩⟩⟩⟩⟩⟩⟩⟩⟩⟩
theorem lw_p32 : lw_okq (⟨"RelayParcelsModel", "of", "(II)I"⟩, 9) := ⟨⟨by decide +kernel, by decide +kernel⟩, List.mem_of_getElem? (i := 758) (by decide +kernel), List.mem_of_getElem? (i := 881) (by decide +kernel), List.mem_of_getElem? (i := 882) (by decide +kernel)⟩
theorem lw_p33 : lw_okq (⟨"RelayParcelsModel", "heldBy", "(I)I"⟩, 9) := ⟨⟨by decide +kernel, by decide +kernel⟩, List.mem_of_getElem? (i := 758) (by decide +kernel), List.mem_of_getElem? (i := 895) (by decide +kernel), List.mem_of_getElem? (i := 896) (by decide +kernel)⟩
theorem lw_p34 : lw_okq (⟨"RelayParcelsModel", "sets", "(IIJ)V"⟩, 9) := ⟨⟨by decide +kernel, by decide +kernel⟩, List.mem_of_getElem? (i := 758) (by decide +kernel), List.mem_of_getElem? (i := 900) (by decide +kernel), List.mem_of_getElem? (i := 901) (by decide +kernel)⟩
theorem lw_p35 : lw_okq (⟨"RelayParcelsModel", "comesTo", "(II)V"⟩, 9) := ⟨⟨by decide +kernel, by decide +kernel⟩, List.mem_of_getElem? (i := 758) (by decide +kernel), List.mem_of_getElem? (i := 904) (by decide +kernel), List.mem_of_getElem? (i := 905) (by decide +kernel)⟩
theorem lw_p36 : lw_okq (⟨"RelayParcelsModel", "wordError", "(III)I"⟩, 9) := ⟨⟨by decide +kernel, by decide +kernel⟩, List.mem_of_getElem? (i := 758) (by decide +kernel), List.mem_of_getElem? (i := 912) (by decide +kernel), List.mem_of_getElem? (i := 913) (by decide +kernel)⟩
theorem lw_p37 : lw_okq (⟨"RelayParcelsModel", "isParcel", "(I)Z"⟩, 9) := ⟨⟨by decide +kernel, by decide +kernel⟩, List.mem_of_getElem? (i := 758) (by decide +kernel), List.mem_of_getElem? (i := 916) (by decide +kernel), List.mem_of_getElem? (i := 917) (by decide +kernel)⟩
theorem lw_p38 : lw_okq (⟨"RelayParcelsModel", "says", "(III)I"⟩, 9) := ⟨⟨by decide +kernel, by decide +kernel⟩, List.mem_of_getElem? (i := 758) (by decide +kernel), List.mem_of_getElem? (i := 920) (by decide +kernel), List.mem_of_getElem? (i := 921) (by decide +kernel)⟩
theorem lw_p39 : lw_okq (⟨"RelayParcelsModel", "receives", "(II)V"⟩, 9) := ⟨⟨by decide +kernel, by decide +kernel⟩, List.mem_of_getElem? (i := 758) (by decide +kernel), List.mem_of_getElem? (i := 924) (by decide +kernel), List.mem_of_getElem? (i := 925) (by decide +kernel)⟩
theorem lw_p40 : lw_okq (⟨"RelayParcelsModel", "firstTrip", "(II)I"⟩, 9) := ⟨⟨by decide +kernel, by decide +kernel⟩, List.mem_of_getElem? (i := 758) (by decide +kernel), List.mem_of_getElem? (i := 928) (by decide +kernel), List.mem_of_getElem? (i := 929) (by decide +kernel)⟩
theorem lw_p41 : lw_okq (⟨"RelayParcelsModel", "pays", "(III)V"⟩, 9) := ⟨⟨by decide +kernel, by decide +kernel⟩, List.mem_of_getElem? (i := 758) (by decide +kernel), List.mem_of_getElem? (i := 932) (by decide +kernel), List.mem_of_getElem? (i := 933) (by decide +kernel)⟩
theorem lw_p42 : lw_okq (⟨"RelayParcelsModel", "putError", "(II)I"⟩, 9) := ⟨⟨by decide +kernel, by decide +kernel⟩, List.mem_of_getElem? (i := 758) (by decide +kernel), List.mem_of_getElem? (i := 944) (by decide +kernel), List.mem_of_getElem? (i := 945) (by decide +kernel)⟩
theorem lw_p43 : lw_okq (⟨"RelayParcelsModel", "puts", "(II)I"⟩, 9) := ⟨⟨by decide +kernel, by decide +kernel⟩, List.mem_of_getElem? (i := 758) (by decide +kernel), List.mem_of_getElem? (i := 948) (by decide +kernel), List.mem_of_getElem? (i := 949) (by decide +kernel)⟩
theorem lw_p44 : lw_okq (⟨"RelayParcelsModel", "fetchError", "(II)I"⟩, 9) := ⟨⟨by decide +kernel, by decide +kernel⟩, List.mem_of_getElem? (i := 758) (by decide +kernel), List.mem_of_getElem? (i := 956) (by decide +kernel), List.mem_of_getElem? (i := 957) (by decide +kernel)⟩
theorem lw_p45 : lw_okq (⟨"RelayParcelsModel", "fetches", "(II)I"⟩, 9) := ⟨⟨by decide +kernel, by decide +kernel⟩, List.mem_of_getElem? (i := 758) (by decide +kernel), List.mem_of_getElem? (i := 960) (by decide +kernel), List.mem_of_getElem? (i := 961) (by decide +kernel)⟩
theorem lw_p46 : lw_okq (⟨"RelayParcelsModel", "fundPays", "(I)I"⟩, 9) := ⟨⟨by decide +kernel, by decide +kernel⟩, List.mem_of_getElem? (i := 758) (by decide +kernel), List.mem_of_getElem? (i := 968) (by decide +kernel), List.mem_of_getElem? (i := 969) (by decide +kernel)⟩
theorem lw_p47 : lw_okq (⟨"RelayParcelsModel", "owes", "(II)I"⟩, 9) := ⟨⟨by decide +kernel, by decide +kernel⟩, List.mem_of_getElem? (i := 758) (by decide +kernel), List.mem_of_getElem? (i := 975) (by decide +kernel), List.mem_of_getElem? (i := 976) (by decide +kernel)⟩
def lw_privs_3 : List (MethodName × Nat) := [(⟨"RelayParcelsModel", "of", "(II)I"⟩, 9), (⟨"RelayParcelsModel", "heldBy", "(I)I"⟩, 9), (⟨"RelayParcelsModel", "sets", "(IIJ)V"⟩, 9), (⟨"RelayParcelsModel", "comesTo", "(II)V"⟩, 9), (⟨"RelayParcelsModel", "wordError", "(III)I"⟩, 9), (⟨"RelayParcelsModel", "isParcel", "(I)Z"⟩, 9), (⟨"RelayParcelsModel", "says", "(III)I"⟩, 9), (⟨"RelayParcelsModel", "receives", "(II)V"⟩, 9), (⟨"RelayParcelsModel", "firstTrip", "(II)I"⟩, 9), (⟨"RelayParcelsModel", "pays", "(III)V"⟩, 9), (⟨"RelayParcelsModel", "putError", "(II)I"⟩, 9), (⟨"RelayParcelsModel", "puts", "(II)I"⟩, 9), (⟨"RelayParcelsModel", "fetchError", "(II)I"⟩, 9), (⟨"RelayParcelsModel", "fetches", "(II)I"⟩, 9), (⟨"RelayParcelsModel", "fundPays", "(I)I"⟩, 9), (⟨"RelayParcelsModel", "owes", "(II)I"⟩, 9)]
theorem lw_r3 : ∀ q ∈ lw_privs_3, lw_okq q := List.forall_mem_cons.mpr ⟨lw_p32, List.forall_mem_cons.mpr ⟨lw_p33, List.forall_mem_cons.mpr ⟨lw_p34, List.forall_mem_cons.mpr ⟨lw_p35, List.forall_mem_cons.mpr ⟨lw_p36, List.forall_mem_cons.mpr ⟨lw_p37, List.forall_mem_cons.mpr ⟨lw_p38, List.forall_mem_cons.mpr ⟨lw_p39, List.forall_mem_cons.mpr ⟨lw_p40, List.forall_mem_cons.mpr ⟨lw_p41, List.forall_mem_cons.mpr ⟨lw_p42, List.forall_mem_cons.mpr ⟨lw_p43, List.forall_mem_cons.mpr ⟨lw_p44, List.forall_mem_cons.mpr ⟨lw_p45, List.forall_mem_cons.mpr ⟨lw_p46, List.forall_mem_cons.mpr ⟨lw_p47, fun _ h => absurd h List.not_mem_nil⟩⟩⟩⟩⟩⟩⟩⟩⟩⟩⟩⟩⟩⟩⟩⟩
theorem lw_p48 : lw_okq (⟨"RelayParcelsModel", "faultOf", "()I"⟩, 9) := ⟨⟨by decide +kernel, by decide +kernel⟩, List.mem_of_getElem? (i := 758) (by decide +kernel), List.mem_of_getElem? (i := 996) (by decide +kernel), List.mem_of_getElem? (i := 997) (by decide +kernel)⟩
theorem lw_p49 : lw_okq (⟨"RelayParcelsModel", "passesOrder", "()Z"⟩, 9) := ⟨⟨by decide +kernel, by decide +kernel⟩, List.mem_of_getElem? (i := 758) (by decide +kernel), List.mem_of_getElem? (i := 1000) (by decide +kernel), List.mem_of_getElem? (i := 1001) (by decide +kernel)⟩
theorem lw_p50 : lw_okq (⟨"RelayParcelsModel", "isHere", "(II)Z"⟩, 9) := ⟨⟨by decide +kernel, by decide +kernel⟩, List.mem_of_getElem? (i := 758) (by decide +kernel), List.mem_of_getElem? (i := 1004) (by decide +kernel), List.mem_of_getElem? (i := 1005) (by decide +kernel)⟩
theorem lw_p51 : lw_okq (⟨"RelayParcelsModel", "orderError", "()I"⟩, 9) := ⟨⟨by decide +kernel, by decide +kernel⟩, List.mem_of_getElem? (i := 758) (by decide +kernel), List.mem_of_getElem? (i := 1008) (by decide +kernel), List.mem_of_getElem? (i := 1009) (by decide +kernel)⟩
theorem lw_p52 : lw_okq (⟨"RelayParcelsModel", "does", "()I"⟩, 9) := ⟨⟨by decide +kernel, by decide +kernel⟩, List.mem_of_getElem? (i := 758) (by decide +kernel), List.mem_of_getElem? (i := 1012) (by decide +kernel), List.mem_of_getElem? (i := 1013) (by decide +kernel)⟩
theorem lw_p53 : lw_okq (⟨"RelayParcelsModel", "tripsIn", "(I)I"⟩, 9) := ⟨⟨by decide +kernel, by decide +kernel⟩, List.mem_of_getElem? (i := 758) (by decide +kernel), List.mem_of_getElem? (i := 1021) (by decide +kernel), List.mem_of_getElem? (i := 1022) (by decide +kernel)⟩
theorem lw_p54 : lw_okq (⟨"RelayParcelsModel", "parcelsIn", "(I)I"⟩, 9) := ⟨⟨by decide +kernel, by decide +kernel⟩, List.mem_of_getElem? (i := 758) (by decide +kernel), List.mem_of_getElem? (i := 1027) (by decide +kernel), List.mem_of_getElem? (i := 1028) (by decide +kernel)⟩
theorem lw_p55 : lw_okq (⟨"RelayParcelsModel", "allCoins", "()I"⟩, 9) := ⟨⟨by decide +kernel, by decide +kernel⟩, List.mem_of_getElem? (i := 758) (by decide +kernel), List.mem_of_getElem? (i := 1031) (by decide +kernel), List.mem_of_getElem? (i := 1032) (by decide +kernel)⟩
theorem lw_p56 : lw_okq (⟨"RelayParcelsModel", "townOf", "(I)I"⟩, 9) := ⟨⟨by decide +kernel, by decide +kernel⟩, List.mem_of_getElem? (i := 758) (by decide +kernel), List.mem_of_getElem? (i := 1047) (by decide +kernel), List.mem_of_getElem? (i := 1048) (by decide +kernel)⟩
theorem lw_p57 : lw_okq (⟨"RelayParcelsModel", "stood", "(II)I"⟩, 9) := ⟨⟨by decide +kernel, by decide +kernel⟩, List.mem_of_getElem? (i := 758) (by decide +kernel), List.mem_of_getElem? (i := 1055) (by decide +kernel), List.mem_of_getElem? (i := 1056) (by decide +kernel)⟩
theorem lw_p58 : lw_okq (⟨"RelayParcelsModel", "wayError", "(III)I"⟩, 9) := ⟨⟨by decide +kernel, by decide +kernel⟩, List.mem_of_getElem? (i := 758) (by decide +kernel), List.mem_of_getElem? (i := 1067) (by decide +kernel), List.mem_of_getElem? (i := 1068) (by decide +kernel)⟩
theorem lw_p59 : lw_okq (⟨"RelayParcelsModel", "isThere", "(I)Z"⟩, 9) := ⟨⟨by decide +kernel, by decide +kernel⟩, List.mem_of_getElem? (i := 758) (by decide +kernel), List.mem_of_getElem? (i := 1071) (by decide +kernel), List.mem_of_getElem? (i := 1072) (by decide +kernel)⟩
theorem lw_p60 : lw_okq (⟨"RelayParcelsModel", "startTown", "(I)I"⟩, 9) := ⟨⟨by decide +kernel, by decide +kernel⟩, List.mem_of_getElem? (i := 758) (by decide +kernel), List.mem_of_getElem? (i := 1075) (by decide +kernel), List.mem_of_getElem? (i := 1076) (by decide +kernel)⟩
theorem lw_p61 : lw_okq (⟨"RelayParcelsModel", "startHour", "(I)I"⟩, 9) := ⟨⟨by decide +kernel, by decide +kernel⟩, List.mem_of_getElem? (i := 758) (by decide +kernel), List.mem_of_getElem? (i := 1079) (by decide +kernel), List.mem_of_getElem? (i := 1080) (by decide +kernel)⟩
theorem lw_p62 : lw_okq (⟨"RelayParcelsModel", "earliestBy", "(II)I"⟩, 9) := ⟨⟨by decide +kernel, by decide +kernel⟩, List.mem_of_getElem? (i := 758) (by decide +kernel), List.mem_of_getElem? (i := 1083) (by decide +kernel), List.mem_of_getElem? (i := 1084) (by decide +kernel)⟩
theorem lw_p63 : lw_okq (⟨"RelayParcelsModel", "findBest", "(III)V"⟩, 9) := ⟨⟨by decide +kernel, by decide +kernel⟩, List.mem_of_getElem? (i := 758) (by decide +kernel), List.mem_of_getElem? (i := 1087) (by decide +kernel), List.mem_of_getElem? (i := 1088) (by decide +kernel)⟩
def lw_privs_4 : List (MethodName × Nat) := [(⟨"RelayParcelsModel", "faultOf", "()I"⟩, 9), (⟨"RelayParcelsModel", "passesOrder", "()Z"⟩, 9), (⟨"RelayParcelsModel", "isHere", "(II)Z"⟩, 9), (⟨"RelayParcelsModel", "orderError", "()I"⟩, 9), (⟨"RelayParcelsModel", "does", "()I"⟩, 9), (⟨"RelayParcelsModel", "tripsIn", "(I)I"⟩, 9), (⟨"RelayParcelsModel", "parcelsIn", "(I)I"⟩, 9), (⟨"RelayParcelsModel", "allCoins", "()I"⟩, 9), (⟨"RelayParcelsModel", "townOf", "(I)I"⟩, 9), (⟨"RelayParcelsModel", "stood", "(II)I"⟩, 9), (⟨"RelayParcelsModel", "wayError", "(III)I"⟩, 9), (⟨"RelayParcelsModel", "isThere", "(I)Z"⟩, 9), (⟨"RelayParcelsModel", "startTown", "(I)I"⟩, 9), (⟨"RelayParcelsModel", "startHour", "(I)I"⟩, 9), (⟨"RelayParcelsModel", "earliestBy", "(II)I"⟩, 9), (⟨"RelayParcelsModel", "findBest", "(III)V"⟩, 9)]
theorem lw_r4 : ∀ q ∈ lw_privs_4, lw_okq q := List.forall_mem_cons.mpr ⟨lw_p48, List.forall_mem_cons.mpr ⟨lw_p49, List.forall_mem_cons.mpr ⟨lw_p50, List.forall_mem_cons.mpr ⟨lw_p51, List.forall_mem_cons.mpr ⟨lw_p52, List.forall_mem_cons.mpr ⟨lw_p53, List.forall_mem_cons.mpr ⟨lw_p54, List.forall_mem_cons.mpr ⟨lw_p55, List.forall_mem_cons.mpr ⟨lw_p56, List.forall_mem_cons.mpr ⟨lw_p57, List.forall_mem_cons.mpr ⟨lw_p58, List.forall_mem_cons.mpr ⟨lw_p59, List.forall_mem_cons.mpr ⟨lw_p60, List.forall_mem_cons.mpr ⟨lw_p61, List.forall_mem_cons.mpr ⟨lw_p62, List.forall_mem_cons.mpr ⟨lw_p63, fun _ h => absurd h List.not_mem_nil⟩⟩⟩⟩⟩⟩⟩⟩⟩⟩⟩⟩⟩⟩⟩⟩
theorem lw_p64 : lw_okq (⟨"RelayParcelsModel", "isFirst", "(II)Z"⟩, 9) := ⟨⟨by decide +kernel, by decide +kernel⟩, List.mem_of_getElem? (i := 758) (by decide +kernel), List.mem_of_getElem? (i := 1091) (by decide +kernel), List.mem_of_getElem? (i := 1092) (by decide +kernel)⟩
theorem lw_p65 : lw_okq (⟨"RelayParcelsModel", "adds", "(II)I"⟩, 9) := ⟨⟨by decide +kernel, by decide +kernel⟩, List.mem_of_getElem? (i := 758) (by decide +kernel), List.mem_of_getElem? (i := 1095) (by decide +kernel), List.mem_of_getElem? (i := 1096) (by decide +kernel)⟩
theorem lw_p66 : lw_okq (⟨"RelayParcelsModel", "joins", "(II)Z"⟩, 9) := ⟨⟨by decide +kernel, by decide +kernel⟩, List.mem_of_getElem? (i := 758) (by decide +kernel), List.mem_of_getElem? (i := 1100) (by decide +kernel), List.mem_of_getElem? (i := 1101) (by decide +kernel)⟩
theorem lw_p67 : lw_okq (⟨"RelayParcelsModel", "arrival", "(II)I"⟩, 9) := ⟨⟨by decide +kernel, by decide +kernel⟩, List.mem_of_getElem? (i := 758) (by decide +kernel), List.mem_of_getElem? (i := 1104) (by decide +kernel), List.mem_of_getElem? (i := 1105) (by decide +kernel)⟩
theorem lw_p68 : lw_okq (⟨"RelayParcelsModel", "least", "(II)I"⟩, 9) := ⟨⟨by decide +kernel, by decide +kernel⟩, List.mem_of_getElem? (i := 758) (by decide +kernel), List.mem_of_getElem? (i := 1108) (by decide +kernel), List.mem_of_getElem? (i := 1109) (by decide +kernel)⟩
theorem lw_p69 : lw_okq (⟨"RelayParcelsModel", "firstOf", "(II)I"⟩, 9) := ⟨⟨by decide +kernel, by decide +kernel⟩, List.mem_of_getElem? (i := 758) (by decide +kernel), List.mem_of_getElem? (i := 1112) (by decide +kernel), List.mem_of_getElem? (i := 1113) (by decide +kernel)⟩
def lw_privs_5 : List (MethodName × Nat) := [(⟨"RelayParcelsModel", "isFirst", "(II)Z"⟩, 9), (⟨"RelayParcelsModel", "adds", "(II)I"⟩, 9), (⟨"RelayParcelsModel", "joins", "(II)Z"⟩, 9), (⟨"RelayParcelsModel", "arrival", "(II)I"⟩, 9), (⟨"RelayParcelsModel", "least", "(II)I"⟩, 9), (⟨"RelayParcelsModel", "firstOf", "(II)I"⟩, 9)]
theorem lw_r5 : ∀ q ∈ lw_privs_5, lw_okq q := List.forall_mem_cons.mpr ⟨lw_p64, List.forall_mem_cons.mpr ⟨lw_p65, List.forall_mem_cons.mpr ⟨lw_p66, List.forall_mem_cons.mpr ⟨lw_p67, List.forall_mem_cons.mpr ⟨lw_p68, List.forall_mem_cons.mpr ⟨lw_p69, fun _ h => absurd h List.not_mem_nil⟩⟩⟩⟩⟩⟩
def lw_privs : List (MethodName × Nat) := lw_privs_1 ++ (lw_privs_2 ++ (lw_privs_3 ++ (lw_privs_4 ++ (lw_privs_5))))
def lw_tbl : List Cond := k2_sels lw_privs ++ tables_1
theorem lw_privs_ok : ∀ q ∈ lw_privs, lw_okq q := by
  show ∀ q ∈ lw_privs_1 ++ (lw_privs_2 ++ (lw_privs_3 ++ (lw_privs_4 ++ (lw_privs_5)))), lw_okq q
  exact List.forall_mem_append.mpr ⟨lw_r1, List.forall_mem_append.mpr ⟨lw_r2, List.forall_mem_append.mpr ⟨lw_r3, List.forall_mem_append.mpr ⟨lw_r4, lw_r5⟩⟩⟩⟩
def RX0 : String := "RelayParcels$History"
def TX0 : u_T := fun k => match k with
  | 0 => ("RelayParcels$History", "ring", "[LRelayParcels$State;", true)
  | 1 => ("RelayParcels$History", "newest", "I", false)
  | _ => ("RelayParcels$History", "kept", "I", false)
def tyX0 : Nat → FieldType := fun k => match k with
  | 0 => .array (.object "RelayParcels$State")
  | 1 => .int
  | _ => .int
abbrev wsX00 : List Cond := u_ws RX0 TX0 3
theorem nmX0 : ∀ a, a < 3 → ∀ b, b < 3 → a ≠ b → (TX0 a).2.1 ≠ (TX0 b).2.1 := by decide +kernel
theorem tyX0_ok : ∀ k, k < 3 → parseFieldDescriptor (TX0 k).2.2.1 = some (tyX0 k) := by decide +kernel
abbrev cX0_init : ByteArray := prog_2_method_1_code
def yX0_init : MethodName := ⟨RX0, "<init>", "()V"⟩
abbrev cX0_keep : ByteArray := prog_2_method_2_code
def yX0_keep : MethodName := ⟨RX0, "keep", "(LRelayParcels$State;)V"⟩
abbrev cX0_removeLatest : ByteArray := prog_2_method_3_code
def yX0_removeLatest : MethodName := ⟨RX0, "removeLatest", "()LRelayParcels$State;"⟩
def RX1 : String := "RelayParcels$Holders"
def TX1 : u_T := fun k => match k with
  | 0 => ("RelayParcels$Holders", "entries", "[I", true)
  | _ => ("RelayParcels$Holders", "size", "I", false)
def tyX1 : Nat → FieldType := fun k => match k with
  | 0 => .array .int
  | _ => .int
abbrev wsX10 : List Cond := u_ws RX1 TX1 2
theorem nmX1 : ∀ a, a < 2 → ∀ b, b < 2 → a ≠ b → (TX1 a).2.1 ≠ (TX1 b).2.1 := by decide +kernel
theorem tyX1_ok : ∀ k, k < 2 → parseFieldDescriptor (TX1 k).2.2.1 = some (tyX1 k) := by decide +kernel
abbrev cX1_init : ByteArray := prog_3_method_1_code
def yX1_init : MethodName := ⟨RX1, "<init>", "()V"⟩
abbrev cX1_copyFrom : ByteArray := prog_3_method_2_code
def yX1_copyFrom : MethodName := ⟨RX1, "copyFrom", "(LRelayParcels$Holders;)V"⟩
abbrev cX1_note : ByteArray := prog_3_method_3_code
def yX1_note : MethodName := ⟨RX1, "note", "(III)V"⟩
abbrev cX1_lookUp : ByteArray := prog_3_method_4_code
def yX1_lookUp : MethodName := ⟨RX1, "lookUp", "(II)I"⟩
def RX2 : String := "RelayParcels$Parcel"
def TX2 : u_T := fun k => match k with
  | 0 => ("RelayParcels$Parcel", "sender", "I", false)
  | 1 => ("RelayParcels$Parcel", "receiver", "I", false)
  | 2 => ("RelayParcels$Parcel", "destination", "I", false)
  | 3 => ("RelayParcels$Parcel", "worth", "I", false)
  | 4 => ("RelayParcels$Parcel", "tier", "I", false)
  | 5 => ("RelayParcels$Parcel", "state", "I", false)
  | 6 => ("RelayParcels$Parcel", "holder", "I", false)
  | 7 => ("RelayParcels$Parcel", "heldSince", "I", false)
  | 8 => ("RelayParcels$Parcel", "givenTo", "I", false)
  | _ => ("RelayParcels$Parcel", "takenBy", "I", false)
def tyX2 : Nat → FieldType := fun k => match k with
  | 0 => .int
  | 1 => .int
  | 2 => .int
  | 3 => .int
  | 4 => .int
  | 5 => .int
  | 6 => .int
  | 7 => .int
  | 8 => .int
  | _ => .int
abbrev wsX20 : List Cond := u_ws RX2 TX2 10
theorem nmX2 : ∀ a, a < 10 → ∀ b, b < 10 → a ≠ b → (TX2 a).2.1 ≠ (TX2 b).2.1 := by decide +kernel
theorem tyX2_ok : ∀ k, k < 10 → parseFieldDescriptor (TX2 k).2.2.1 = some (tyX2 k) := by decide +kernel
abbrev cX2_init : ByteArray := prog_4_method_1_code
def yX2_init : MethodName := ⟨RX2, "<init>", "()V"⟩
abbrev cX2_copyFrom : ByteArray := prog_4_method_2_code
def yX2_copyFrom : MethodName := ⟨RX2, "copyFrom", "(LRelayParcels$Parcel;)V"⟩
abbrev cX2_dropWords : ByteArray := prog_4_method_3_code
def yX2_dropWords : MethodName := ⟨RX2, "dropWords", "()V"⟩
abbrev cX2_wordsFit : ByteArray := prog_4_method_4_code
def yX2_wordsFit : MethodName := ⟨RX2, "wordsFit", "()Z"⟩
def RX3 : String := "RelayParcels$Person"
def TX3 : u_T := fun k => match k with
  | 0 => ("RelayParcels$Person", "coins", "I", false)
  | 1 => ("RelayParcels$Person", "deposit", "I", false)
  | 2 => ("RelayParcels$Person", "town", "I", false)
  | 3 => ("RelayParcels$Person", "tripOn", "I", false)
  | _ => ("RelayParcels$Person", "feesGot", "I", false)
def tyX3 : Nat → FieldType := fun k => match k with
  | 0 => .int
  | 1 => .int
  | 2 => .int
  | 3 => .int
  | _ => .int
abbrev wsX30 : List Cond := u_ws RX3 TX3 5
theorem nmX3 : ∀ a, a < 5 → ∀ b, b < 5 → a ≠ b → (TX3 a).2.1 ≠ (TX3 b).2.1 := by decide +kernel
theorem tyX3_ok : ∀ k, k < 5 → parseFieldDescriptor (TX3 k).2.2.1 = some (tyX3 k) := by decide +kernel
abbrev cX3_init : ByteArray := prog_5_method_1_code
def yX3_init : MethodName := ⟨RX3, "<init>", "(I)V"⟩
abbrev cX3_copyFrom : ByteArray := prog_5_method_2_code
def yX3_copyFrom : MethodName := ⟨RX3, "copyFrom", "(LRelayParcels$Person;)V"⟩
def RX4 : String := "RelayParcels$State"
def TX4 : u_T := fun k => match k with
  | 0 => ("RelayParcels$State", "world", "LRelayParcels$World;", true)
  | 1 => ("RelayParcels$State", "rows", "[LRelayParcels$World;", true)
  | _ => ("RelayParcels$State", "filled", "[Z", true)
def tyX4 : Nat → FieldType := fun k => match k with
  | 0 => .object "RelayParcels$World"
  | 1 => .array (.object "RelayParcels$World")
  | _ => .array .boolean
abbrev wsX40 : List Cond := u_ws RX4 TX4 3
theorem nmX4 : ∀ a, a < 3 → ∀ b, b < 3 → a ≠ b → (TX4 a).2.1 ≠ (TX4 b).2.1 := by decide +kernel
theorem tyX4_ok : ∀ k, k < 3 → parseFieldDescriptor (TX4 k).2.2.1 = some (tyX4 k) := by decide +kernel
abbrev cX4_init : ByteArray := prog_6_method_1_code
def yX4_init : MethodName := ⟨RX4, "<init>", "()V"⟩
abbrev cX4_copyFrom : ByteArray := prog_6_method_2_code
def yX4_copyFrom : MethodName := ⟨RX4, "copyFrom", "(LRelayParcels$State;)V"⟩
abbrev cX4_fillSlot : ByteArray := prog_6_method_3_code
def yX4_fillSlot : MethodName := ⟨RX4, "fillSlot", "(ILRelayParcels$World;)V"⟩
abbrev cX4_snapshotIn : ByteArray := prog_6_method_4_code
def yX4_snapshotIn : MethodName := ⟨RX4, "snapshotIn", "(I)LRelayParcels$World;"⟩
abbrev cX4_filledSlots : ByteArray := prog_6_method_5_code
def yX4_filledSlots : MethodName := ⟨RX4, "filledSlots", "()I"⟩
def RX5 : String := "RelayParcels$Text"
def TX5 : u_T := fun k => match k with
  | 0 => ("RelayParcels$Text", "signs", "[C", true)
  | _ => ("RelayParcels$Text", "length", "I", false)
def tyX5 : Nat → FieldType := fun k => match k with
  | 0 => .array .char
  | _ => .int
abbrev wsX50 : List Cond := u_ws RX5 TX5 2
theorem nmX5 : ∀ a, a < 2 → ∀ b, b < 2 → a ≠ b → (TX5 a).2.1 ≠ (TX5 b).2.1 := by decide +kernel
theorem tyX5_ok : ∀ k, k < 2 → parseFieldDescriptor (TX5 k).2.2.1 = some (tyX5 k) := by decide +kernel
abbrev cX5_init : ByteArray := prog_7_method_1_code
def yX5_init : MethodName := ⟨RX5, "<init>", "()V"⟩
abbrev cX5_add : ByteArray := prog_7_method_2_code
def yX5_add : MethodName := ⟨RX5, "add", "(C)V"⟩
abbrev cX5_sign : ByteArray := prog_7_method_3_code
def yX5_sign : MethodName := ⟨RX5, "sign", "(I)C"⟩
abbrev cX5_digit : ByteArray := prog_7_method_4_code
def yX5_digit : MethodName := ⟨RX5, "digit", "(I)I"⟩
abbrev cX5_beginsOrder : ByteArray := prog_7_method_5_code
def yX5_beginsOrder : MethodName := ⟨RX5, "beginsOrder", "(I)Z"⟩
abbrev cX5_digitsOf : ByteArray := prog_7_method_6_code
def yX5_digitsOf : MethodName := ⟨RX5, "digitsOf", "(C)I"⟩
abbrev cX5_fault : ByteArray := prog_7_method_7_code
def yX5_fault : MethodName := ⟨RX5, "fault", "()I"⟩
def RX6 : String := "RelayParcels$Trip"
def TX6 : u_T := fun k => match k with
  | 0 => ("RelayParcels$Trip", "traveller", "I", false)
  | 1 => ("RelayParcels$Trip", "from", "I", false)
  | 2 => ("RelayParcels$Trip", "to", "I", false)
  | 3 => ("RelayParcels$Trip", "leaves", "I", false)
  | 4 => ("RelayParcels$Trip", "arrives", "I", false)
  | 5 => ("RelayParcels$Trip", "fee", "I", false)
  | _ => ("RelayParcels$Trip", "state", "I", false)
def tyX6 : Nat → FieldType := fun k => match k with
  | 0 => .int
  | 1 => .int
  | 2 => .int
  | 3 => .int
  | 4 => .int
  | 5 => .int
  | _ => .int
abbrev wsX60 : List Cond := u_ws RX6 TX6 7
theorem nmX6 : ∀ a, a < 7 → ∀ b, b < 7 → a ≠ b → (TX6 a).2.1 ≠ (TX6 b).2.1 := by decide +kernel
theorem tyX6_ok : ∀ k, k < 7 → parseFieldDescriptor (TX6 k).2.2.1 = some (tyX6 k) := by decide +kernel
abbrev cX6_init : ByteArray := prog_8_method_1_code
def yX6_init : MethodName := ⟨RX6, "<init>", "()V"⟩
abbrev cX6_copyFrom : ByteArray := prog_8_method_2_code
def yX6_copyFrom : MethodName := ⟨RX6, "copyFrom", "(LRelayParcels$Trip;)V"⟩
abbrev cX6_isOpen : ByteArray := prog_8_method_3_code
def yX6_isOpen : MethodName := ⟨RX6, "isOpen", "()Z"⟩
abbrev cX6_overlaps : ByteArray := prog_8_method_4_code
def yX6_overlaps : MethodName := ⟨RX6, "overlaps", "(II)Z"⟩
abbrev cX6_canBeCaught : ByteArray := prog_8_method_5_code
def yX6_canBeCaught : MethodName := ⟨RX6, "canBeCaught", "(II)Z"⟩
abbrev cX6_tell : ByteArray := prog_8_method_6_code
def yX6_tell : MethodName := ⟨RX6, "tell", "(I)I"⟩
def RX7 : String := "RelayParcels$Ways"
def TX7 : u_T := fun k => match k with
  | 0 => ("RelayParcels$Ways", "found", "Z", false)
  | 1 => ("RelayParcels$Ways", "least", "I", false)
  | 2 => ("RelayParcels$Ways", "thenLeast", "I", false)
  | 3 => ("RelayParcels$Ways", "smallestFirst", "I", false)
  | 4 => ("RelayParcels$Ways", "world", "LRelayParcels$World;", true)
  | 5 => ("RelayParcels$Ways", "destination", "I", false)
  | 6 => ("RelayParcels$Ways", "byFees", "Z", false)
  | 7 => ("RelayParcels$Ways", "looked", "[Z", true)
  | 8 => ("RelayParcels$Ways", "leads", "[Z", true)
  | 9 => ("RelayParcels$Ways", "leastBy", "[I", true)
  | _ => ("RelayParcels$Ways", "thenLeastBy", "[I", true)
def tyX7 : Nat → FieldType := fun k => match k with
  | 0 => .boolean
  | 1 => .int
  | 2 => .int
  | 3 => .int
  | 4 => .object "RelayParcels$World"
  | 5 => .int
  | 6 => .boolean
  | 7 => .array .boolean
  | 8 => .array .boolean
  | 9 => .array .int
  | _ => .array .int
abbrev wsX70 : List Cond := u_ws RX7 TX7 11
theorem nmX7 : ∀ a, a < 11 → ∀ b, b < 11 → a ≠ b → (TX7 a).2.1 ≠ (TX7 b).2.1 := by decide +kernel
theorem tyX7_ok : ∀ k, k < 11 → parseFieldDescriptor (TX7 k).2.2.1 = some (tyX7 k) := by decide +kernel
abbrev cX7_init : ByteArray := prog_9_method_1_code
def yX7_init : MethodName := ⟨RX7, "<init>", "(LRelayParcels$World;)V"⟩
abbrev cX7_search : ByteArray := prog_9_method_2_code
def yX7_search : MethodName := ⟨RX7, "search", "(IZ)V"⟩
abbrev cX7_lookAtAllTrips : ByteArray := prog_9_method_3_code
def yX7_lookAtAllTrips : MethodName := ⟨RX7, "lookAtAllTrips", "()V"⟩
abbrev cX7_latestNotLookedAt : ByteArray := prog_9_method_4_code
def yX7_latestNotLookedAt : MethodName := ⟨RX7, "latestNotLookedAt", "()I"⟩
abbrev cX7_lookAt : ByteArray := prog_9_method_5_code
def yX7_lookAt : MethodName := ⟨RX7, "lookAt", "(I)V"⟩
abbrev cX7_bestFrom : ByteArray := prog_9_method_6_code
def yX7_bestFrom : MethodName := ⟨RX7, "bestFrom", "(II)I"⟩
abbrev cX7_isBetter : ByteArray := prog_9_method_7_code
def yX7_isBetter : MethodName := ⟨RX7, "isBetter", "(II)Z"⟩
abbrev cX7_begin : ByteArray := prog_9_method_8_code
def yX7_begin : MethodName := ⟨RX7, "begin", "(II)V"⟩
def RX8 : String := "RelayParcels$World"
def TX8 : u_T := fun k => match k with
  | 0 => ("RelayParcels$World", "hour", "I", false)
  | 1 => ("RelayParcels$World", "fund", "I", false)
  | 2 => ("RelayParcels$World", "handovers", "I", false)
  | 3 => ("RelayParcels$World", "feesPaid", "I", false)
  | 4 => ("RelayParcels$World", "tripCount", "I", false)
  | 5 => ("RelayParcels$World", "parcelCount", "I", false)
  | 6 => ("RelayParcels$World", "persons", "[LRelayParcels$Person;", true)
  | 7 => ("RelayParcels$World", "trips", "[LRelayParcels$Trip;", true)
  | 8 => ("RelayParcels$World", "parcels", "[LRelayParcels$Parcel;", true)
  | _ => ("RelayParcels$World", "holders", "LRelayParcels$Holders;", true)
def tyX8 : Nat → FieldType := fun k => match k with
  | 0 => .int
  | 1 => .int
  | 2 => .int
  | 3 => .int
  | 4 => .int
  | 5 => .int
  | 6 => .array (.object "RelayParcels$Person")
  | 7 => .array (.object "RelayParcels$Trip")
  | 8 => .array (.object "RelayParcels$Parcel")
  | _ => .object "RelayParcels$Holders"
abbrev wsX80 : List Cond := u_ws RX8 TX8 10
theorem nmX8 : ∀ a, a < 10 → ∀ b, b < 10 → a ≠ b → (TX8 a).2.1 ≠ (TX8 b).2.1 := by decide +kernel
theorem tyX8_ok : ∀ k, k < 10 → parseFieldDescriptor (TX8 k).2.2.1 = some (tyX8 k) := by decide +kernel
abbrev cX8_init : ByteArray := prog_10_method_1_code
def yX8_init : MethodName := ⟨RX8, "<init>", "()V"⟩
abbrev cX8_copyFrom : ByteArray := prog_10_method_2_code
def yX8_copyFrom : MethodName := ⟨RX8, "copyFrom", "(LRelayParcels$World;)V"⟩
abbrev cX8_isTrip : ByteArray := prog_10_method_3_code
def yX8_isTrip : MethodName := ⟨RX8, "isTrip", "(I)Z"⟩
abbrev cX8_isParcel : ByteArray := prog_10_method_4_code
def yX8_isParcel : MethodName := ⟨RX8, "isParcel", "(I)Z"⟩
abbrev cX8_heldBy : ByteArray := prog_10_method_5_code
def yX8_heldBy : MethodName := ⟨RX8, "heldBy", "(I)I"⟩
abbrev cX8_townOf : ByteArray := prog_10_method_6_code
def yX8_townOf : MethodName := ⟨RX8, "townOf", "(I)I"⟩
abbrev cX8_tripOf : ByteArray := prog_10_method_7_code
def yX8_tripOf : MethodName := ⟨RX8, "tripOf", "(I)I"⟩
abbrev cX8_areTogether : ByteArray := prog_10_method_8_code
def yX8_areTogether : MethodName := ⟨RX8, "areTogether", "(II)Z"⟩
abbrev cX8_isHeldUnderWay : ByteArray := prog_10_method_9_code
def yX8_isHeldUnderWay : MethodName := ⟨RX8, "isHeldUnderWay", "(II)Z"⟩
abbrev cX8_offerFault : ByteArray := prog_10_method_10_code
def yX8_offerFault : MethodName := ⟨RX8, "offerFault", "(IIIIII)I"⟩
abbrev cX8_overlapsATrip : ByteArray := prog_10_method_11_code
def yX8_overlapsATrip : MethodName := ⟨RX8, "overlapsATrip", "(III)Z"⟩
abbrev cX8_addTrip : ByteArray := prog_10_method_12_code
def yX8_addTrip : MethodName := ⟨RX8, "addTrip", "(IIIIII)I"⟩
abbrev cX8_takeBackFault : ByteArray := prog_10_method_13_code
def yX8_takeBackFault : MethodName := ⟨RX8, "takeBackFault", "(I)I"⟩
abbrev cX8_voidTrip : ByteArray := prog_10_method_14_code
def yX8_voidTrip : MethodName := ⟨RX8, "voidTrip", "(I)I"⟩
abbrev cX8_passFault : ByteArray := prog_10_method_15_code
def yX8_passFault : MethodName := ⟨RX8, "passFault", "(I)I"⟩
abbrev cX8_passHours : ByteArray := prog_10_method_16_code
def yX8_passHours : MethodName := ⟨RX8, "passHours", "(I)I"⟩
abbrev cX8_endTrips : ByteArray := prog_10_method_17_code
def yX8_endTrips : MethodName := ⟨RX8, "endTrips", "()I"⟩
abbrev cX8_startTrips : ByteArray := prog_10_method_18_code
def yX8_startTrips : MethodName := ⟨RX8, "startTrips", "()V"⟩
abbrev cX8_startTrip : ByteArray := prog_10_method_19_code
def yX8_startTrip : MethodName := ⟨RX8, "startTrip", "(I)V"⟩
abbrev cX8_postFault : ByteArray := prog_10_method_20_code
def yX8_postFault : MethodName := ⟨RX8, "postFault", "(IIIII)I"⟩
abbrev cX8_addParcel : ByteArray := prog_10_method_21_code
def yX8_addParcel : MethodName := ⟨RX8, "addParcel", "(IIIII)I"⟩
abbrev cX8_setHolder : ByteArray := prog_10_method_22_code
def yX8_setHolder : MethodName := ⟨RX8, "setHolder", "(II)V"⟩
abbrev cX8_handoverFault : ByteArray := prog_10_method_23_code
def yX8_handoverFault : MethodName := ⟨RX8, "handoverFault", "(III)I"⟩
abbrev cX8_sayGiven : ByteArray := prog_10_method_24_code
def yX8_sayGiven : MethodName := ⟨RX8, "sayGiven", "(II)I"⟩
abbrev cX8_sayTaken : ByteArray := prog_10_method_25_code
def yX8_sayTaken : MethodName := ⟨RX8, "sayTaken", "(II)I"⟩
abbrev cX8_handOverIfWordsFit : ByteArray := prog_10_method_26_code
def yX8_handOverIfWordsFit : MethodName := ⟨RX8, "handOverIfWordsFit", "(II)I"⟩
abbrev cX8_handOver : ByteArray := prog_10_method_27_code
def yX8_handOver : MethodName := ⟨RX8, "handOver", "(II)V"⟩
abbrev cX8_settleWithTaker : ByteArray := prog_10_method_28_code
def yX8_settleWithTaker : MethodName := ⟨RX8, "settleWithTaker", "(II)V"⟩
abbrev cX8_payFee : ByteArray := prog_10_method_29_code
def yX8_payFee : MethodName := ⟨RX8, "payFee", "(II)V"⟩
abbrev cX8_nextTripOf : ByteArray := prog_10_method_30_code
def yX8_nextTripOf : MethodName := ⟨RX8, "nextTripOf", "(I)I"⟩
abbrev cX8_putInFault : ByteArray := prog_10_method_31_code
def yX8_putInFault : MethodName := ⟨RX8, "putInFault", "(II)I"⟩
abbrev cX8_putIntoLocker : ByteArray := prog_10_method_32_code
def yX8_putIntoLocker : MethodName := ⟨RX8, "putIntoLocker", "(II)I"⟩
abbrev cX8_fetchFault : ByteArray := prog_10_method_33_code
def yX8_fetchFault : MethodName := ⟨RX8, "fetchFault", "(II)I"⟩
abbrev cX8_fetchFromLocker : ByteArray := prog_10_method_34_code
def yX8_fetchFromLocker : MethodName := ⟨RX8, "fetchFromLocker", "(II)I"⟩
abbrev cX8_isCoveredNow : ByteArray := prog_10_method_35_code
def yX8_isCoveredNow : MethodName := ⟨RX8, "isCoveredNow", "(I)Z"⟩
abbrev cX8_claimFault : ByteArray := prog_10_method_36_code
def yX8_claimFault : MethodName := ⟨RX8, "claimFault", "(I)I"⟩
abbrev cX8_fundPays : ByteArray := prog_10_method_37_code
def yX8_fundPays : MethodName := ⟨RX8, "fundPays", "(I)I"⟩
abbrev cX8_missing : ByteArray := prog_10_method_38_code
def yX8_missing : MethodName := ⟨RX8, "missing", "(I)I"⟩
abbrev cX8_holderPays : ByteArray := prog_10_method_39_code
def yX8_holderPays : MethodName := ⟨RX8, "holderPays", "(I)I"⟩
abbrev cX8_namedPays : ByteArray := prog_10_method_40_code
def yX8_namedPays : MethodName := ⟨RX8, "namedPays", "(I)I"⟩
abbrev cX8_loseParcel : ByteArray := prog_10_method_41_code
def yX8_loseParcel : MethodName := ⟨RX8, "loseParcel", "(I)I"⟩
abbrev cX8_number : ByteArray := prog_10_method_42_code
def yX8_number : MethodName := ⟨RX8, "number", "(I)I"⟩
abbrev cX8_tripsThatAre : ByteArray := prog_10_method_43_code
def yX8_tripsThatAre : MethodName := ⟨RX8, "tripsThatAre", "(I)I"⟩
abbrev cX8_parcelsThatAre : ByteArray := prog_10_method_44_code
def yX8_parcelsThatAre : MethodName := ⟨RX8, "parcelsThatAre", "(I)I"⟩
abbrev cX8_coinsOfAll : ByteArray := prog_10_method_45_code
def yX8_coinsOfAll : MethodName := ⟨RX8, "coinsOfAll", "()I"⟩
abbrev cX8_tellPerson : ByteArray := prog_10_method_46_code
def yX8_tellPerson : MethodName := ⟨RX8, "tellPerson", "(II)I"⟩
abbrev cX8_tellParcel : ByteArray := prog_10_method_47_code
def yX8_tellParcel : MethodName := ⟨RX8, "tellParcel", "(II)I"⟩
def RX9 : String := "RelayParcels"
def TX9 : u_T := fun k => match k with
  | 0 => ("RelayParcels", "present", "LRelayParcels$State;", true)
  | 1 => ("RelayParcels", "world", "LRelayParcels$World;", true)
  | 2 => ("RelayParcels", "history", "LRelayParcels$History;", true)
  | 3 => ("RelayParcels", "text", "LRelayParcels$Text;", true)
  | _ => ("RelayParcels", "ways", "LRelayParcels$Ways;", true)
def tyX9 : Nat → FieldType := fun k => match k with
  | 0 => .object "RelayParcels$State"
  | 1 => .object "RelayParcels$World"
  | 2 => .object "RelayParcels$History"
  | 3 => .object "RelayParcels$Text"
  | _ => .object "RelayParcels$Ways"
abbrev wsX90 : List Cond := u_ws RX9 TX9 5
theorem nmX9 : ∀ a, a < 5 → ∀ b, b < 5 → a ≠ b → (TX9 a).2.1 ≠ (TX9 b).2.1 := by decide +kernel
theorem tyX9_ok : ∀ k, k < 5 → parseFieldDescriptor (TX9 k).2.2.1 = some (tyX9 k) := by decide +kernel
abbrev cX9_init : ByteArray := prog_1_method_1_code
def yX9_init : MethodName := ⟨RX9, "<init>", "()V"⟩
abbrev cX9_offer : ByteArray := prog_1_method_2_code
def yX9_offer : MethodName := ⟨RX9, "offer", "(IIIIII)I"⟩
abbrev cX9_takeBack : ByteArray := prog_1_method_3_code
def yX9_takeBack : MethodName := ⟨RX9, "takeBack", "(I)I"⟩
abbrev cX9_post : ByteArray := prog_1_method_4_code
def yX9_post : MethodName := ⟨RX9, "post", "(IIIII)I"⟩
abbrev cX9_pass : ByteArray := prog_1_method_5_code
def yX9_pass : MethodName := ⟨RX9, "pass", "(I)I"⟩
abbrev cX9_gave : ByteArray := prog_1_method_6_code
def yX9_gave : MethodName := ⟨RX9, "gave", "(III)I"⟩
abbrev cX9_took : ByteArray := prog_1_method_7_code
def yX9_took : MethodName := ⟨RX9, "took", "(III)I"⟩
abbrev cX9_putIn : ByteArray := prog_1_method_8_code
def yX9_putIn : MethodName := ⟨RX9, "putIn", "(II)I"⟩
abbrev cX9_fetch : ByteArray := prog_1_method_9_code
def yX9_fetch : MethodName := ⟨RX9, "fetch", "(II)I"⟩
abbrev cX9_claim : ByteArray := prog_1_method_10_code
def yX9_claim : MethodName := ⟨RX9, "claim", "(I)I"⟩
abbrev cX9_take : ByteArray := prog_1_method_11_code
def yX9_take : MethodName := ⟨RX9, "take", "(I)I"⟩
abbrev cX9_restore : ByteArray := prog_1_method_12_code
def yX9_restore : MethodName := ⟨RX9, "restore", "(I)I"⟩
abbrev cX9_undo : ByteArray := prog_1_method_13_code
def yX9_undo : MethodName := ⟨RX9, "undo", "()I"⟩
abbrev cX9_append : ByteArray := prog_1_method_14_code
def yX9_append : MethodName := ⟨RX9, "append", "(I)I"⟩
abbrev cX9_clearText : ByteArray := prog_1_method_15_code
def yX9_clearText : MethodName := ⟨RX9, "clearText", "()I"⟩
abbrev cX9_carryOut : ByteArray := prog_1_method_16_code
def yX9_carryOut : MethodName := ⟨RX9, "carryOut", "()I"⟩
abbrev cX9_count : ByteArray := prog_1_method_17_code
def yX9_count : MethodName := ⟨RX9, "count", "(I)I"⟩
abbrev cX9_trip : ByteArray := prog_1_method_18_code
def yX9_trip : MethodName := ⟨RX9, "trip", "(II)I"⟩
abbrev cX9_person : ByteArray := prog_1_method_19_code
def yX9_person : MethodName := ⟨RX9, "person", "(II)I"⟩
abbrev cX9_parcel : ByteArray := prog_1_method_20_code
def yX9_parcel : MethodName := ⟨RX9, "parcel", "(II)I"⟩
abbrev cX9_holderAt : ByteArray := prog_1_method_21_code
def yX9_holderAt : MethodName := ⟨RX9, "holderAt", "(II)I"⟩
abbrev cX9_inLocker : ByteArray := prog_1_method_22_code
def yX9_inLocker : MethodName := ⟨RX9, "inLocker", "(I)I"⟩
abbrev cX9_earliest : ByteArray := prog_1_method_23_code
def yX9_earliest : MethodName := ⟨RX9, "earliest", "(II)I"⟩
abbrev cX9_cheapest : ByteArray := prog_1_method_24_code
def yX9_cheapest : MethodName := ⟨RX9, "cheapest", "(II)I"⟩
abbrev cX9_wouldClaim : ByteArray := prog_1_method_25_code
def yX9_wouldClaim : MethodName := ⟨RX9, "wouldClaim", "(II)I"⟩
abbrev cX9_followOrder : ByteArray := prog_1_method_26_code
def yX9_followOrder : MethodName := ⟨RX9, "followOrder", "(I)I"⟩
abbrev cX9_isWithin : ByteArray := prog_1_method_27_code
def yX9_isWithin : MethodName := ⟨RX9, "isWithin", "(III)Z"⟩
abbrev cX9_isPerson : ByteArray := prog_1_method_28_code
def yX9_isPerson : MethodName := ⟨RX9, "isPerson", "(I)Z"⟩
abbrev cX9_isTown : ByteArray := prog_1_method_29_code
def yX9_isTown : MethodName := ⟨RX9, "isTown", "(I)Z"⟩
def RX10 : String := "RelayParcelsModel"
def TX10 : u_T := fun k => match k with
  | 0 => ("RelayParcelsModel", "now", "[J", true)
  | 1 => ("RelayParcelsModel", "kept", "[J", true)
  | 2 => ("RelayParcelsModel", "states", "I", false)
  | 3 => ("RelayParcelsModel", "text", "[I", true)
  | 4 => ("RelayParcelsModel", "length", "I", false)
  | 5 => ("RelayParcelsModel", "at", "I", false)
  | 6 => ("RelayParcelsModel", "order", "I", false)
  | 7 => ("RelayParcelsModel", "digits", "[I", true)
  | _ => ("RelayParcelsModel", "best", "[I", true)
def tyX10 : Nat → FieldType := fun k => match k with
  | 0 => .array .long
  | 1 => .array .long
  | 2 => .int
  | 3 => .array .int
  | 4 => .int
  | 5 => .int
  | 6 => .int
  | 7 => .array .int
  | _ => .array .int
abbrev wsX100 : List Cond := u_ws RX10 TX10 9
theorem nmX10 : ∀ a, a < 9 → ∀ b, b < 9 → a ≠ b → (TX10 a).2.1 ≠ (TX10 b).2.1 := by decide +kernel
theorem tyX10_ok : ∀ k, k < 9 → parseFieldDescriptor (TX10 k).2.2.1 = some (tyX10 k) := by decide +kernel
abbrev cX10_init : ByteArray := prog_12_method_1_code
def yX10_init : MethodName := ⟨RX10, "<init>", "()V"⟩
abbrev cX10_isIn : ByteArray := prog_12_method_2_code
def yX10_isIn : MethodName := ⟨RX10, "isIn", "(JJJ)Z"⟩
abbrev cX10_ofP : ByteArray := prog_12_method_3_code
def yX10_ofP : MethodName := ⟨RX10, "ofP", "(II)I"⟩
abbrev cX10_setsP : ByteArray := prog_12_method_4_code
def yX10_setsP : MethodName := ⟨RX10, "setsP", "(IIJ)V"⟩
abbrev cX10_ofT : ByteArray := prog_12_method_5_code
def yX10_ofT : MethodName := ⟨RX10, "ofT", "(II)I"⟩
abbrev cX10_setsT : ByteArray := prog_12_method_6_code
def yX10_setsT : MethodName := ⟨RX10, "setsT", "(IIJ)V"⟩
abbrev cX10_of : ByteArray := prog_12_method_7_code
def yX10_of : MethodName := ⟨RX10, "of", "(II)I"⟩
abbrev cX10_sets : ByteArray := prog_12_method_8_code
def yX10_sets : MethodName := ⟨RX10, "sets", "(IIJ)V"⟩
abbrev cX10_hour : ByteArray := prog_12_method_9_code
def yX10_hour : MethodName := ⟨RX10, "hour", "()I"⟩
abbrev cX10_isPerson : ByteArray := prog_12_method_10_code
def yX10_isPerson : MethodName := ⟨RX10, "isPerson", "(I)Z"⟩
abbrev cX10_isTown : ByteArray := prog_12_method_11_code
def yX10_isTown : MethodName := ⟨RX10, "isTown", "(I)Z"⟩
abbrev cX10_isTrip : ByteArray := prog_12_method_12_code
def yX10_isTrip : MethodName := ⟨RX10, "isTrip", "(I)Z"⟩
abbrev cX10_isParcel : ByteArray := prog_12_method_13_code
def yX10_isParcel : MethodName := ⟨RX10, "isParcel", "(I)Z"⟩
abbrev cX10_records : ByteArray := prog_12_method_14_code
def yX10_records : MethodName := ⟨RX10, "records", "()V"⟩
abbrev cX10_undo : ByteArray := prog_12_method_15_code
def yX10_undo : MethodName := ⟨RX10, "undo", "()I"⟩
abbrev cX10_take : ByteArray := prog_12_method_16_code
def yX10_take : MethodName := ⟨RX10, "take", "(I)I"⟩
abbrev cX10_restore : ByteArray := prog_12_method_17_code
def yX10_restore : MethodName := ⟨RX10, "restore", "(I)I"⟩
abbrev cX10_overlaps : ByteArray := prog_12_method_18_code
def yX10_overlaps : MethodName := ⟨RX10, "overlaps", "(IIII)Z"⟩
abbrev cX10_offer : ByteArray := prog_12_method_19_code
def yX10_offer : MethodName := ⟨RX10, "offer", "(IIIIII)I"⟩
abbrev cX10_takeBack : ByteArray := prog_12_method_20_code
def yX10_takeBack : MethodName := ⟨RX10, "takeBack", "(I)I"⟩
abbrev cX10_stands : ByteArray := prog_12_method_21_code
def yX10_stands : MethodName := ⟨RX10, "stands", "(I)V"⟩
abbrev cX10_stood : ByteArray := prog_12_method_22_code
def yX10_stood : MethodName := ⟨RX10, "stood", "(II)I"⟩
abbrev cX10_leaves : ByteArray := prog_12_method_23_code
def yX10_leaves : MethodName := ⟨RX10, "leaves", "(I)V"⟩
abbrev cX10_passesHour : ByteArray := prog_12_method_24_code
def yX10_passesHour : MethodName := ⟨RX10, "passesHour", "()I"⟩
abbrev cX10_pass : ByteArray := prog_12_method_25_code
def yX10_pass : MethodName := ⟨RX10, "pass", "(I)I"⟩
abbrev cX10_costOf : ByteArray := prog_12_method_26_code
def yX10_costOf : MethodName := ⟨RX10, "costOf", "(I)I"⟩
abbrev cX10_coverOf : ByteArray := prog_12_method_27_code
def yX10_coverOf : MethodName := ⟨RX10, "coverOf", "(I)I"⟩
abbrev cX10_heldBy : ByteArray := prog_12_method_28_code
def yX10_heldBy : MethodName := ⟨RX10, "heldBy", "(I)I"⟩
abbrev cX10_post : ByteArray := prog_12_method_29_code
def yX10_post : MethodName := ⟨RX10, "post", "(IIIII)I"⟩
abbrev cX10_comesTo : ByteArray := prog_12_method_30_code
def yX10_comesTo : MethodName := ⟨RX10, "comesTo", "(II)V"⟩
abbrev cX10_firstTrip : ByteArray := prog_12_method_31_code
def yX10_firstTrip : MethodName := ⟨RX10, "firstTrip", "(II)I"⟩
abbrev cX10_pays : ByteArray := prog_12_method_32_code
def yX10_pays : MethodName := ⟨RX10, "pays", "(III)V"⟩
abbrev cX10_receives : ByteArray := prog_12_method_33_code
def yX10_receives : MethodName := ⟨RX10, "receives", "(II)V"⟩
abbrev cX10_wordError : ByteArray := prog_12_method_34_code
def yX10_wordError : MethodName := ⟨RX10, "wordError", "(III)I"⟩
abbrev cX10_says : ByteArray := prog_12_method_35_code
def yX10_says : MethodName := ⟨RX10, "says", "(III)I"⟩
abbrev cX10_gave : ByteArray := prog_12_method_36_code
def yX10_gave : MethodName := ⟨RX10, "gave", "(III)I"⟩
abbrev cX10_took : ByteArray := prog_12_method_37_code
def yX10_took : MethodName := ⟨RX10, "took", "(III)I"⟩
abbrev cX10_putError : ByteArray := prog_12_method_38_code
def yX10_putError : MethodName := ⟨RX10, "putError", "(II)I"⟩
abbrev cX10_puts : ByteArray := prog_12_method_39_code
def yX10_puts : MethodName := ⟨RX10, "puts", "(II)I"⟩
abbrev cX10_putIn : ByteArray := prog_12_method_40_code
def yX10_putIn : MethodName := ⟨RX10, "putIn", "(II)I"⟩
abbrev cX10_fetchError : ByteArray := prog_12_method_41_code
def yX10_fetchError : MethodName := ⟨RX10, "fetchError", "(II)I"⟩
abbrev cX10_fetches : ByteArray := prog_12_method_42_code
def yX10_fetches : MethodName := ⟨RX10, "fetches", "(II)I"⟩
abbrev cX10_fetch : ByteArray := prog_12_method_43_code
def yX10_fetch : MethodName := ⟨RX10, "fetch", "(II)I"⟩
abbrev cX10_fundPays : ByteArray := prog_12_method_44_code
def yX10_fundPays : MethodName := ⟨RX10, "fundPays", "(I)I"⟩
abbrev cX10_owes : ByteArray := prog_12_method_45_code
def yX10_owes : MethodName := ⟨RX10, "owes", "(II)I"⟩
abbrev cX10_claim : ByteArray := prog_12_method_46_code
def yX10_claim : MethodName := ⟨RX10, "claim", "(I)I"⟩
abbrev cX10_wouldClaim : ByteArray := prog_12_method_47_code
def yX10_wouldClaim : MethodName := ⟨RX10, "wouldClaim", "(II)I"⟩
abbrev cX10_append : ByteArray := prog_12_method_48_code
def yX10_append : MethodName := ⟨RX10, "append", "(I)I"⟩
abbrev cX10_clearText : ByteArray := prog_12_method_49_code
def yX10_clearText : MethodName := ⟨RX10, "clearText", "()I"⟩
abbrev cX10_isHere : ByteArray := prog_12_method_50_code
def yX10_isHere : MethodName := ⟨RX10, "isHere", "(II)Z"⟩
abbrev cX10_passesOrder : ByteArray := prog_12_method_51_code
def yX10_passesOrder : MethodName := ⟨RX10, "passesOrder", "()Z"⟩
abbrev cX10_faultOf : ByteArray := prog_12_method_52_code
def yX10_faultOf : MethodName := ⟨RX10, "faultOf", "()I"⟩
abbrev cX10_orderError : ByteArray := prog_12_method_53_code
def yX10_orderError : MethodName := ⟨RX10, "orderError", "()I"⟩
abbrev cX10_does : ByteArray := prog_12_method_54_code
def yX10_does : MethodName := ⟨RX10, "does", "()I"⟩
abbrev cX10_carryOut : ByteArray := prog_12_method_55_code
def yX10_carryOut : MethodName := ⟨RX10, "carryOut", "()I"⟩
abbrev cX10_tripsIn : ByteArray := prog_12_method_56_code
def yX10_tripsIn : MethodName := ⟨RX10, "tripsIn", "(I)I"⟩
abbrev cX10_parcelsIn : ByteArray := prog_12_method_57_code
def yX10_parcelsIn : MethodName := ⟨RX10, "parcelsIn", "(I)I"⟩
abbrev cX10_allCoins : ByteArray := prog_12_method_58_code
def yX10_allCoins : MethodName := ⟨RX10, "allCoins", "()I"⟩
abbrev cX10_count : ByteArray := prog_12_method_59_code
def yX10_count : MethodName := ⟨RX10, "count", "(I)I"⟩
abbrev cX10_trip : ByteArray := prog_12_method_60_code
def yX10_trip : MethodName := ⟨RX10, "trip", "(II)I"⟩
abbrev cX10_person : ByteArray := prog_12_method_61_code
def yX10_person : MethodName := ⟨RX10, "person", "(II)I"⟩
abbrev cX10_townOf : ByteArray := prog_12_method_62_code
def yX10_townOf : MethodName := ⟨RX10, "townOf", "(I)I"⟩
abbrev cX10_parcel : ByteArray := prog_12_method_63_code
def yX10_parcel : MethodName := ⟨RX10, "parcel", "(II)I"⟩
abbrev cX10_holderAt : ByteArray := prog_12_method_64_code
def yX10_holderAt : MethodName := ⟨RX10, "holderAt", "(II)I"⟩
abbrev cX10_inLocker : ByteArray := prog_12_method_65_code
def yX10_inLocker : MethodName := ⟨RX10, "inLocker", "(I)I"⟩
abbrev cX10_startTown : ByteArray := prog_12_method_66_code
def yX10_startTown : MethodName := ⟨RX10, "startTown", "(I)I"⟩
abbrev cX10_startHour : ByteArray := prog_12_method_67_code
def yX10_startHour : MethodName := ⟨RX10, "startHour", "(I)I"⟩
abbrev cX10_adds : ByteArray := prog_12_method_68_code
def yX10_adds : MethodName := ⟨RX10, "adds", "(II)I"⟩
abbrev cX10_isFirst : ByteArray := prog_12_method_69_code
def yX10_isFirst : MethodName := ⟨RX10, "isFirst", "(II)Z"⟩
abbrev cX10_joins : ByteArray := prog_12_method_70_code
def yX10_joins : MethodName := ⟨RX10, "joins", "(II)Z"⟩
abbrev cX10_findBest : ByteArray := prog_12_method_71_code
def yX10_findBest : MethodName := ⟨RX10, "findBest", "(III)V"⟩
abbrev cX10_isThere : ByteArray := prog_12_method_72_code
def yX10_isThere : MethodName := ⟨RX10, "isThere", "(I)Z"⟩
abbrev cX10_arrival : ByteArray := prog_12_method_73_code
def yX10_arrival : MethodName := ⟨RX10, "arrival", "(II)I"⟩
abbrev cX10_least : ByteArray := prog_12_method_74_code
def yX10_least : MethodName := ⟨RX10, "least", "(II)I"⟩
abbrev cX10_firstOf : ByteArray := prog_12_method_75_code
def yX10_firstOf : MethodName := ⟨RX10, "firstOf", "(II)I"⟩
abbrev cX10_earliestBy : ByteArray := prog_12_method_76_code
def yX10_earliestBy : MethodName := ⟨RX10, "earliestBy", "(II)I"⟩
abbrev cX10_wayError : ByteArray := prog_12_method_77_code
def yX10_wayError : MethodName := ⟨RX10, "wayError", "(III)I"⟩
abbrev cX10_earliest : ByteArray := prog_12_method_78_code
def yX10_earliest : MethodName := ⟨RX10, "earliest", "(II)I"⟩
abbrev cX10_cheapest : ByteArray := prog_12_method_79_code
def yX10_cheapest : MethodName := ⟨RX10, "cheapest", "(II)I"⟩
def RL : String := "RelayParcelsLaw"
abbrev cL_law : ByteArray := code
def yL_law : MethodName := ⟨RL, "law", "([I)Z"⟩
abbrev vwCl : List vw_C := [(RX0, TX0, 3), (RX1, TX1, 2), (RX2, TX2, 10), (RX3, TX3, 5), (RX4, TX4, 3), (RX5, TX5, 2), (RX6, TX6, 7), (RX7, TX7, 11), (RX8, TX8, 10), (RX9, TX9, 5), (RX10, TX10, 9)]
end
section
-- ===== an abstract machine over the kit's rows: a heap of known cells, a method's run as a judgement =====
abbrev xA : Type := (Nat → Option va_E) × Nat × Nat
abbrev xM : Type := String × MethodName × ByteArray × Nat × Option FieldType × Nat × Nat × List (Nat × Instr × Nat)
abbrev mOwn (M : xM) : String := M.1
abbrev mY (M : xM) : MethodName := M.2.1
abbrev mCd (M : xM) : ByteArray := M.2.2.1
abbrev mNL (M : xM) : Nat := M.2.2.2.1
abbrev mRt (M : xM) : Option FieldType := M.2.2.2.2.1
abbrev mFr (M : xM) : Nat := M.2.2.2.2.2.1
abbrev mLo (M : xM) : Nat := M.2.2.2.2.2.2.1
abbrev mIn (M : xM) : List (Nat × Instr × Nat) := M.2.2.2.2.2.2.2
abbrev xG : Type := Launch × va_G × (Nat → ClassId) × Nat × Nat × Nat × Nat × Nat × (Nat → Int32)
abbrev gL (G : xG) : Launch := G.1
abbrev gD (G : xG) : va_G := G.2.1
abbrev gc (G : xG) : Nat → ClassId := G.2.2.1
abbrev gB (G : xG) : Nat := G.2.2.2.1
abbrev gS1 (G : xG) : Nat := G.2.2.2.2.1
abbrev gS2 (G : xG) : Nat := G.2.2.2.2.2.1
abbrev gS3 (G : xG) : Nat := G.2.2.2.2.2.2.1
abbrev gLen (G : xG) : Nat := G.2.2.2.2.2.2.2.1
abbrev gScr (G : xG) : Nat → Int32 := G.2.2.2.2.2.2.2.2
abbrev gT (G : xG) : List (ClassId × FieldType) := [(gc G 0, .int), (gc G 1, .long), (gc G 2, .char), (gc G 3, .boolean), (gc G 4, .object RX3), (gc G 5, .object RX6), (gc G 6, .object RX2), (gc G 7, .object RX8), (gc G 8, .object RX4)]
abbrev gA (G : xG) : Nat → Prop := fun q => gB G ≤ q
abbrev eI (G : xG) (n : Nat) (f : Nat → Int32) : va_E := .inl (gc G 0, n, .inl f)
abbrev eJ (G : xG) (n : Nat) (f : Nat → Int64) : va_E := .inl (gc G 1, n, .inr (.inl f))
abbrev eC (G : xG) (n : Nat) (f : Nat → Int32) : va_E := .inl (gc G 2, n, .inl f)
abbrev eZ (G : xG) (n : Nat) (f : Nat → Int32) : va_E := .inl (gc G 3, n, .inl f)
abbrev eR (G : xG) (t n : Nat) (f : Nat → Option Nat) : va_E := .inl (gc G t, n, .inr (.inr (.inr (.inr f))))
abbrev eO (ci : Nat) (fs : List Value) : va_E := .inr (ci, fs)
/-- the words that every method stands on -/
def gW : List Cond := lw_tbl.filter goodWord
theorem gW_in {w : Cond} (h : w ∈ lw_tbl) (hg : goodWord w = true) : w ∈ gW := List.mem_filter.mpr ⟨h, hg⟩
theorem gW_tbl {w : Cond} (h : w ∈ gW) : w ∈ lw_tbl := (List.mem_filter.mp h).1
theorem gW_good : ∀ w ∈ gW, goodWord w = true := fun _ h => (List.mem_filter.mp h).2
def mWs (M : xM) : List Cond := Cond.code (mY M) (mCd M) (mNL M) (mRt M) :: gW
theorem mWs_in {M : xM} {w : Cond} (h : w ∈ gW) : w ∈ mWs M := List.mem_cons_of_mem _ h
def cCost : Nat → Value := fun j => match j with | 0 => .int 0 | 1 => .int 2 | 2 => .int 5 | _ => .int 10
def cCover : Nat → Value := fun j => match j with | 0 => .int 0 | 1 => .int 50 | 2 => .int 200 | _ => .int 999
def nestM : List (String × Nat × MethodName) := [(RX9, 9, yX4_init), (RX9, 23, yX0_init), (RX9, 30, yX5_init), (RX8, 31, yX1_init), (RX8, 39, yX6_init), (RX8, 40, yX2_init), (RX0, 21, yX4_init), (RX8, 89, yX9_isPerson), (RX8, 93, yX9_isTown), (RX8, 96, yX9_isWithin)]
def nestF : List (String × Nat × String) := [(RX8, 146, "COVER_COSTS"), (RX8, 227, "COVERS")]
def nestC : List String := [RX3, RX6, RX2, RX8, RX4]
/-- the two static arrays -/
def aSt (G : xG) (U : State) (H : Heap) : Prop :=
  (va_Z RX9 "COVER_COSTS" "[I" (.ref (gS1 G)) (gA G) U H ∧ va_T .int (gS1 G) 4 cCost (gA G) U H) ∧ (va_Z RX9 "COVERS" "[I" (.ref (gS2 G)) (gA G) U H ∧ va_T .int (gS2 G) 4 cCover (gA G) U H) ∧ va_T .int (gS3 G) (gLen G) (fun j => .int (gScr G j)) (gA G) U H
/-- what is known of the machine at a method's entry -/
def aK (G : xG) (U : State) : Prop := va_K (gD G) vwCl (gT G) U ∧ gB G ≤ U.heap.size ∧ aSt G U U.heap ∧ (∀ q ∈ nestM, va_Nw (.methodLinkNest q.1 q.2.1 q.2.2 RX9) U) ∧ (∀ q ∈ nestF, va_Nw (.fieldLinkNest q.1 q.2.1 RX9 q.2.2 "[I" RX9) U) ∧ (∀ C ∈ nestC, va_AO C U)
theorem aK.same {G : xG} {u U : State} (hv : U.vm = u.vm) (hh : U.heap = u.heap) (h : aK G u) : aK G U := by
  obtain ⟨h1, h2, ⟨⟨h3, h4⟩, ⟨h5, h6⟩, hx⟩, h7, h8, h9⟩ := h
  have hvm : u.vm.Alike U.vm := by rw [hv]; exact Vm.Alike.refl u.vm
  rw [aK, aSt, hh]
  exact ⟨h1.moved hvm, h2, ⟨⟨h3.moved hvm, h4.moved hvm⟩, ⟨h5.moved hvm, h6.moved hvm⟩, hx.moved hvm⟩, fun q hq => (h7 q hq).same rfl hv.symm, fun q hq => (h8 q hq).same rfl hv.symm, fun C hC => (h9 C hC).moved hvm⟩
theorem aK.to {G : xG} {u U : State} {H : Heap} {locs : List Loc} (hW : u.WarmedH U.vm) (hh : U.heap = H) (hS : va_S (gA G) u.heap H locs) (h : aK G u) : aK G U := by
  obtain ⟨h1, h2, ⟨⟨h3, h4⟩, ⟨h5, h6⟩, hx⟩, h7, h8, h9⟩ := h
  subst hh
  have hvm : u.vm.Alike U.vm := hW.alike
  have kq : ∀ a : Nat, a < u.heap.size → ¬ gA G a → U.heap[a]? = u.heap[a]? := hS.2.1
  exact ⟨h1.moved hvm, Nat.le_trans h2 hS.1, ⟨⟨(h3.moved hvm).kept kq, (h4.moved hvm).kept kq⟩, ⟨(h5.moved hvm).kept kq, (h6.moved hvm).kept kq⟩, (hx.moved hvm).kept kq⟩, fun q hq => (h7 q hq).warmM hW, fun q hq => (h8 q hq).warmF hW, fun C hC => (h9 C hC).moved hvm⟩
/-- the heap holds the known cells: all cells from the base on, in the order of their addresses -/
def aAt (G : xG) (s : xA) (H : Heap) : Prop := ∃ ws : va_W, (∀ (k : Nat) (q : Nat × va_E), ws[k]? = some q → q.1 = gB G + k) ∧ gB G + ws.length = s.2.1 ∧ (∀ (a : Nat) (e : va_E), s.1 a = some e → ∃ k : Nat, ws[k]? = some (a, e)) ∧ va_P (gD G) vwCl ws H ∧ H.size = s.2.1
theorem aIdx {b : Nat} {ws : va_W} (h : ∀ (k : Nat) (q : Nat × va_E), ws[k]? = some q → q.1 = b + k) : va_D (fun q => b ≤ q) ws :=
  ⟨fun i j p q hi hj he => by have := h i p hi; have := h j q hj; omega, fun k q hk => by have := h k q hk; show b ≤ q.1; omega⟩
theorem aSz {G : xG} {ws : va_W} {H : Heap} {n : Nat} (h : ∀ (k : Nat) (q : Nat × va_E), ws[k]? = some q → q.1 = gB G + k) (hl : gB G + ws.length = n) (hP : va_P (gD G) vwCl ws H) (hb : gB G ≤ H.size) (hz : H.size ≤ n) : H.size = n := by
  rcases Nat.eq_zero_or_pos ws.length with h0 | h0
  · omega
  · have hk : ws.length - 1 < ws.length := by omega
    have h1 := List.getElem?_eq_getElem hk
    have h2 := (hP _ _ h1).lt
    have h3 := h _ _ h1
    omega
/-- one cell is another -/
def aUp (s : xA) (a : Nat) (e : va_E) : xA := (fun q => if q = a then some e else s.1 q, s.2.1, s.2.2)
def aNew (s : xA) (n : Nat) (e : va_E) : xA := (fun q => if q = s.2.1 then some e else s.1 q, s.2.1 + 1, s.2.2 + n)
theorem aSet {b : Nat} {ws : va_W} {k0 a : Nat} {e0 e : va_E} (h : ∀ (k : Nat) (q : Nat × va_E), ws[k]? = some q → q.1 = b + k) (hk : ws[k0]? = some (a, e0)) : ∀ (k : Nat) (q : Nat × va_E), (ws.set k0 (a, e))[k]? = some q → q.1 = b + k := by
  intro k q hq
  by_cases hkk : k0 = k
  · subst hkk
    rw [List.getElem?_set_self (List.getElem?_eq_some_iff.mp hk).1] at hq
    cases hq
    exact h k0 (a, e0) hk
  · rw [List.getElem?_set_ne hkk] at hq
    exact h k q hq
theorem aSetUp {b : Nat} {ws : va_W} {k0 a : Nat} {e0 e : va_E} {s : xA} (h : ∀ (k : Nat) (q : Nat × va_E), ws[k]? = some q → q.1 = b + k) (hk : ws[k0]? = some (a, e0)) (hs : ∀ (a : Nat) (e : va_E), s.1 a = some e → ∃ k : Nat, ws[k]? = some (a, e)) : ∀ (a1 : Nat) (e1 : va_E), (aUp s a e).1 a1 = some e1 → ∃ k : Nat, (ws.set k0 (a, e))[k]? = some (a1, e1) := by
  intro a1 e1 h1
  have h1 : (if a1 = a then some e else s.1 a1) = some e1 := h1
  by_cases ha : a1 = a
  · rw [if_pos ha] at h1
    cases h1
    subst ha
    exact ⟨k0, List.getElem?_set_self (List.getElem?_eq_some_iff.mp hk).1⟩
  · rw [if_neg ha] at h1
    obtain ⟨k, hk2⟩ := hs a1 e1 h1
    refine ⟨k, ?_⟩
    rw [List.getElem?_set_ne]
    · exact hk2
    · intro hkk
      subst hkk
      rw [hk] at hk2
      cases hk2
      exact ha rfl
theorem aAt.put {G : xG} {s : xA} {ws : va_W} {k0 a : Nat} {e0 e : va_E} {H1 : Heap} (h : ∀ (k : Nat) (q : Nat × va_E), ws[k]? = some q → q.1 = gB G + k) (hl : gB G + ws.length = s.2.1) (hs : ∀ (a : Nat) (e : va_E), s.1 a = some e → ∃ k : Nat, ws[k]? = some (a, e)) (hk : ws[k0]? = some (a, e0)) (hP : va_P (gD G) vwCl (ws.set k0 (a, e)) H1) (hb : gB G ≤ H1.size) (hz : H1.size ≤ s.2.1) : aAt G (aUp s a e) H1 :=
  ⟨ws.set k0 (a, e), aSet h hk, by rw [List.length_set]; exact hl, aSetUp h hk hs, hP, aSz (aSet h hk) (by rw [List.length_set]; exact hl) hP hb hz⟩
theorem aAt.new {G : xG} {s : xA} {ws : va_W} {q n : Nat} {e : va_E} {H1 : Heap} (h : ∀ (k : Nat) (q : Nat × va_E), ws[k]? = some q → q.1 = gB G + k) (hl : gB G + ws.length = s.2.1) (hs : ∀ (a : Nat) (e : va_E), s.1 a = some e → ∃ k : Nat, ws[k]? = some (a, e)) (hP : va_P (gD G) vwCl (ws ++ [(q, e)]) H1) (hD : va_D (gA G) (ws ++ [(q, e)])) (hz : H1.size ≤ s.2.1 + 1) : q = s.2.1 ∧ aAt G (aNew s n e) H1 := by
  have hlast : (ws ++ [(q, e)])[ws.length]? = some (q, e) := by simp
  have hq1 : gB G ≤ q := hD.2 _ _ hlast
  have hq2 : q < H1.size := (hP _ _ hlast).lt
  have hq3 : ¬ q < s.2.1 := by
    intro hlt
    have hk : q - gB G < ws.length := by omega
    have h1 := List.getElem?_eq_getElem hk
    have h2 := h _ _ h1
    have h3 : (ws ++ [(q, e)])[q - gB G]? = some ws[q - gB G] := by rw [List.getElem?_append_left hk]; exact h1
    have h4 := hD.1 _ _ _ _ h3 hlast (by rw [h2]; show gB G + (q - gB G) = q; omega)
    omega
  have hq : q = s.2.1 := by omega
  have hidx : ∀ (k : Nat) (p : Nat × va_E), (ws ++ [(q, e)])[k]? = some p → p.1 = gB G + k := by
    intro k p hk
    by_cases hkl : k < ws.length
    · rw [List.getElem?_append_left hkl] at hk
      exact h k p hk
    · rw [List.getElem?_append_right (by omega)] at hk
      have hz1 : k - ws.length < 1 := (List.getElem?_eq_some_iff.mp hk).1
      rw [show k - ws.length = 0 by omega] at hk
      cases hk
      show q = gB G + k
      omega
  refine ⟨hq, ws ++ [(q, e)], hidx, by simp [aNew]; omega, ?_, hP, ?_⟩
  · intro a1 e1 h1
    have h1 : (if a1 = s.2.1 then some e else s.1 a1) = some e1 := h1
    by_cases ha : a1 = s.2.1
    · rw [if_pos ha] at h1
      cases h1
      exact ⟨ws.length, by rw [hlast, hq, ha]⟩
    · rw [if_neg ha] at h1
      obtain ⟨k, hk⟩ := hs a1 e1 h1
      exact ⟨k, by rw [List.getElem?_append_left (List.getElem?_eq_some_iff.mp hk).1]; exact hk⟩
  · show H1.size = s.2.1 + 1
    omega
-- ===== the judgement =====
def xRet (r : Option Value) (i : Instr) : Prop := (r = none ∧ i = .return_) ∨ (∃ v, r = some (.int v) ∧ i = .ireturn) ∨ (∃ v, (v = Value.null ∨ ∃ a, v = .ref a) ∧ r = some v ∧ i = .areturn)
/-- what may be returned, by the return type -/
def xRt (t : Option FieldType) (r : Option Value) : Prop := (r = none ∧ t = none) ∨ (∃ v ty, r = some (.int v) ∧ t = some ty ∧ narrow ty (.int v) = .int v) ∨ (∃ v rt, (v = Value.null ∨ ∃ a, v = .ref a) ∧ r = some v ∧ t = some rt ∧ ((∃ n, rt = .object n) ∨ ∃ t, rt = .array t))
def xC (G : xG) (M : xM) (p : Program) (e : Env) (U : State) (m : MethodId) (args : Array Value) (below : List Frame) (meth : Method) (c : Code) (R : Room) (l0 : Nat) (Qf : State → Prop) (r : Option Value) (s' : xA) : Prop :=
  (p.tables.exec = Jvm.exec ∧ c.code = mCd M ∧ c.maxLocals = mNL M ∧ U.vm.findClass (mOwn M) = some m.cls ∧ ∀ w ∈ mWs M, w.before args U = true) ∧ meth.name = (mY M).name ∧ aK G U ∧ (mFr M ≤ R.frames ∧ mLo M ≤ R.locals ∧ s'.2.1 - U.heap.size ≤ R.cells ∧ s'.2.2 - l0 ≤ R.slots) ∧
  (∀ (k : Nat) (q : Nat × Instr × Nat), (mIn M)[k]? = some q → decode (mCd M) q.1 = .ok q.2) ∧
  ∀ (H : Heap) (locs : List Loc) (lsA : Array Slot) (pc : Nat) (i : Instr), aAt G s' H → va_S (gA G) U.heap H locs → decode (mCd M) pc = .ok (i, 1) → xRet r i → W p (gL G) e R U m args below meth c H locs (s'.2.1 - U.heap.size) (s'.2.2 - l0) Qf (F0 m pc lsA r.toList)
def xX (G : xG) (M : xM) (pc : Nat) (ls : List (Nat × Value)) (st : List Value) (s : xA) (r : Option Value) (s' : xA) : Prop :=
  (s.2.1 ≤ s'.2.1 ∧ s.2.2 ≤ s'.2.2 ∧ xRt (mRt M) r) ∧ ∀ (p : Program) (e : Env) (U : State) (m : MethodId) (args : Array Value) (below : List Frame) (meth : Method) (c : Code) (R : Room) (l0 : Nat) (Qf : State → Prop), xC G M p e U m args below meth c R l0 Qf r s' → U.heap.size ≤ s.2.1 → l0 ≤ s.2.2 →
    ∀ (H : Heap) (locs : List Loc) (lsA : Array Slot), aAt G s H → va_S (gA G) U.heap H locs → lv_has lsA (mNL M) ls → W p (gL G) e R U m args below meth c H locs (s.2.1 - U.heap.size) (s.2.2 - l0) Qf (F0 m pc lsA st)
theorem xC.dec {G : xG} {M : xM} {p : Program} {e : Env} {U : State} {m : MethodId} {args : Array Value} {below : List Frame} {meth : Method} {c : Code} {R : Room} {l0 : Nat} {Qf : State → Prop} {r : Option Value} {s' : xA} (C : xC G M p e U m args below meth c R l0 Qf r s') {k pc n : Nat} {i : Instr} (hk : (mIn M)[k]? = some (pc, i, n)) : decode (mCd M) pc = .ok (i, n) := by
  have h := C.2.2.2.2.1 k (pc, i, n) hk
  exact h
/-- from here the method ends so that Q holds of its answer and of the cells then -/
def xE (G : xG) (M : xM) (pc : Nat) (ls : List (Nat × Value)) (st : List Value) (s : xA) (Q : Option Value → xA → Prop) : Prop := ∃ (r : Option Value) (s' : xA), Q r s' ∧ xX G M pc ls st s r s'
theorem xE.mono {G : xG} {M : xM} {pc : Nat} {ls : List (Nat × Value)} {st : List Value} {s : xA} {Q Q' : Option Value → xA → Prop} (h : xE G M pc ls st s Q) (hq : ∀ r s', Q r s' → Q' r s') : xE G M pc ls st s Q' := by
  obtain ⟨r, s', h1, h2⟩ := h
  exact ⟨r, s', hq r s' h1, h2⟩
/-- a method, from its entry -/
def xMe (G : xG) (M : xM) (As : List Value) (s : xA) (Q : Option Value → xA → Prop) : Prop := xE G M 0 (lv_args 0 As) [] s Q
/-- a row that moves from one place to the next without a look at the heap -/
theorem xE.step {G : xG} {M : xM} {pc pc' : Nat} {ls ls' : List (Nat × Value)} {st st' : List Value} {s : xA} {Q : Option Value → xA → Prop}
    (h : ∀ (p : Program) (e : Env) (U : State) (m : MethodId) (args : Array Value) (below : List Frame) (meth : Method) (c : Code) (R : Room) (l0 : Nat) (Qf : State → Prop) (r : Option Value) (s' : xA), xC G M p e U m args below meth c R l0 Qf r s' →
      ∀ (H : Heap) (locs : List Loc) (lsA : Array Slot), aAt G s H → va_S (gA G) U.heap H locs → lv_has lsA (mNL M) ls → (∀ lsB : Array Slot, lv_has lsB (mNL M) ls' → W p (gL G) e R U m args below meth c H locs (s.2.1 - U.heap.size) (s.2.2 - l0) Qf (F0 m pc' lsB st')) → W p (gL G) e R U m args below meth c H locs (s.2.1 - U.heap.size) (s.2.2 - l0) Qf (F0 m pc lsA st))
    (k : xE G M pc' ls' st' s Q) : xE G M pc ls st s Q := by
  obtain ⟨r, s', hq, hm, k⟩ := k
  exact ⟨r, s', hq, hm, fun p e U m args below meth c R l0 Qf C h1 h2 H locs lsA hA hS hl => h p e U m args below meth c R l0 Qf r s' C H locs lsA hA hS hl (fun lsB hB => k p e U m args below meth c R l0 Qf C h1 h2 H locs lsB hA hS hB)⟩
theorem lv_look {ls : Array Slot} {nL : Nat} {l : List (Nat × Value)} (h : lv_has ls nL l) {i : Nat} {v : Value} (hk : l.lookup i = some v) : ls[i]? = some (.val v) := by
  refine h.2.2 (i, v) ?_
  clear h
  induction l with
  | nil => cases hk
  | cons q l ih =>
    obtain ⟨j, w⟩ := q
    by_cases hj : i = j
    · subst hj
      simp [List.lookup] at hk
      subst hk
      exact List.mem_cons_self
    · have hb : (i == j) = false := by simpa using hj
      simp only [List.lookup, hb] at hk
      exact List.mem_cons_of_mem _ (ih hk)
/-- locals in the order of their numbers -/
def lIns (i : Nat) (v : Value) : List (Nat × Value) → List (Nat × Value)
  | [] => [(i, v)]
  | (j, w) :: t => if i ≤ j then (i, v) :: (j, w) :: t else (j, w) :: lIns i v t
def lSet (i : Nat) (v : Value) (l : List (Nat × Value)) : List (Nat × Value) := lIns i v (l.filter (fun q => !(q.1 == i) && !(q.1 + 1 == i && q.2.category == 2)))
def lSet2 (i : Nat) (v : Value) (l : List (Nat × Value)) : List (Nat × Value) := lIns i v (l.filter (fun q => !(q.1 == i) && (!(q.1 == i + 1) && !(q.1 + 1 == i && q.2.category == 2))))
theorem lIns_mem {i : Nat} {v : Value} {q : Nat × Value} : ∀ {l : List (Nat × Value)}, q ∈ lIns i v l → q ∈ (i, v) :: l
  | [], h => h
  | (j, w) :: t, h => by
    unfold lIns at h
    split at h
    · exact h
    · rcases List.mem_cons.mp h with h | h
      · rw [h]; exact List.mem_cons_of_mem _ List.mem_cons_self
      · rcases List.mem_cons.mp (lIns_mem h) with h | h
        · rw [h]; exact List.mem_cons_self
        · exact List.mem_cons_of_mem _ (List.mem_cons_of_mem _ h)
theorem lv_ins {ls : Array Slot} {nL : Nat} {i : Nat} {v : Value} {l : List (Nat × Value)} (h : lv_has ls nL ((i, v) :: l)) : lv_has ls nL (lIns i v l) := ⟨h.1, h.2.1, fun q hq => h.2.2 q (lIns_mem hq)⟩
section XR
variable {G : xG} {M : xM} {pc : Nat} {ls : List (Nat × Value)} {st : List Value} {s : xA} {Q : Option Value → xA → Prop}
/-- fewer locals, in another order -/
theorem x_sub {ls' : List (Nat × Value)} (h : ∀ q ∈ ls', ls.lookup q.1 = some q.2) (k : xE G M pc ls' st s Q) : xE G M pc ls st s Q := by
  obtain ⟨r, s', hq, hm, k⟩ := k
  refine ⟨r, s', hq, hm, fun p e U m args below meth c R l0 Qf C h1 h2 H locs lsA hA hS hl => k p e U m args below meth c R l0 Qf C h1 h2 H locs lsA hA hS ⟨hl.1, hl.2.1, fun q hq => lv_look hl (h q hq)⟩⟩
-- PURE ROWS
theorem x_iconst {n : Int} {v : Int32} {k : Nat} (hk : (mIn M)[k]? = some (pc, .iconst n, 1)) (hv : Int32.ofInt n = v) (kk : xE G M (pc + 1) ls (.int v :: st) s Q) : xE G M pc ls st s Q :=
  xE.step (fun _ _ _ _ _ _ _ _ _ _ _ _ _ C _ _ lsA _ hS hl kk => lv_iconst C.1.1 C.1.2.1 (C.dec hk) hv (kk lsA hl)) kk
theorem x_bipush {n : Int} {v : Int32} {k : Nat} (hk : (mIn M)[k]? = some (pc, .bipush n, 2)) (hv : (Int8.ofInt n).toInt32 = v) (kk : xE G M (pc + 2) ls (.int v :: st) s Q) : xE G M pc ls st s Q :=
  xE.step (fun _ _ _ _ _ _ _ _ _ _ _ _ _ C _ _ lsA _ hS hl kk => lv_bipush C.1.1 C.1.2.1 (C.dec hk) hv (kk lsA hl)) kk
theorem x_sipush {n : Int} {v : Int32} {k : Nat} (hk : (mIn M)[k]? = some (pc, .sipush n, 3)) (hv : (Int16.ofInt n).toInt32 = v) (kk : xE G M (pc + 3) ls (.int v :: st) s Q) : xE G M pc ls st s Q :=
  xE.step (fun _ _ _ _ _ _ _ _ _ _ _ _ _ C _ _ lsA _ hS hl kk => lv_sipush C.1.1 C.1.2.1 (C.dec hk) hv (kk lsA hl)) kk
theorem x_lconst {n : Fin 2} {v : Int64} {k : Nat} (hk : (mIn M)[k]? = some (pc, .lconst n, 1)) (hv : Int64.ofNat (n : Nat) = v) (kk : xE G M (pc + 1) ls (.long v :: st) s Q) : xE G M pc ls st s Q :=
  xE.step (fun _ _ _ _ _ _ _ _ _ _ _ _ _ C _ _ lsA _ hS hl kk => lv_lconst C.1.1 C.1.2.1 (C.dec hk) hv (kk lsA hl)) kk
theorem x_ldc {n : Nat} {v : Int32} {k : Nat} (hk : (mIn M)[k]? = some (pc, .ldc n, 2)) (hw : Cond.constant (mOwn M) n v ∈ gW) (kk : xE G M (pc + 2) ls (.int v :: st) s Q) : xE G M pc ls st s Q :=
  xE.step (fun _ _ _ _ _ _ _ _ _ _ _ _ _ C _ _ lsA _ hS hl kk => lv_ldc C.1.1 C.1.2.1 C.1.2.2.2.1 (C.1.2.2.2.2 _ (mWs_in hw)) (C.dec hk) (kk lsA hl)) kk
theorem x_ldc2 {n : Nat} {v : Int64} {k : Nat} (hk : (mIn M)[k]? = some (pc, .ldc2_w n, 3)) (hw : Cond.constantLong (mOwn M) n v ∈ gW) (kk : xE G M (pc + 3) ls (.long v :: st) s Q) : xE G M pc ls st s Q :=
  xE.step (fun _ _ _ _ _ _ _ _ _ _ _ _ _ C _ _ lsA _ hS hl kk => lv_ldc2 C.1.1 C.1.2.1 C.1.2.2.2.1 (C.1.2.2.2.2 _ (mWs_in hw)) (C.dec hk) (kk lsA hl)) kk
theorem x_iload_n {j : Fin 4} {v : Int32} {k : Nat} (hk : (mIn M)[k]? = some (pc, .iload_n j, 1)) (hv : ls.lookup (j : Nat) = some (.int v)) (kk : xE G M (pc + 1) ls (.int v :: st) s Q) : xE G M pc ls st s Q :=
  xE.step (fun _ _ _ _ _ _ _ _ _ _ _ _ _ C _ _ lsA _ hS hl kk => lv_iload_n C.1.1 C.1.2.1 (C.dec hk) rfl (lv_look hl hv) (kk lsA hl)) kk
theorem x_iload {j : Nat} {v : Int32} {k : Nat} (hk : (mIn M)[k]? = some (pc, .iload j, 2)) (hv : ls.lookup j = some (.int v)) (kk : xE G M (pc + 2) ls (.int v :: st) s Q) : xE G M pc ls st s Q :=
  xE.step (fun _ _ _ _ _ _ _ _ _ _ _ _ _ C _ _ lsA _ hS hl kk => lv_iload C.1.1 C.1.2.1 (C.dec hk) (lv_look hl hv) (kk lsA hl)) kk
theorem x_lload_n {j : Fin 4} {v : Int64} {k : Nat} (hk : (mIn M)[k]? = some (pc, .lload_n j, 1)) (hv : ls.lookup (j : Nat) = some (.long v)) (kk : xE G M (pc + 1) ls (.long v :: st) s Q) : xE G M pc ls st s Q :=
  xE.step (fun _ _ _ _ _ _ _ _ _ _ _ _ _ C _ _ lsA _ hS hl kk => lv_lload_n C.1.1 C.1.2.1 (C.dec hk) rfl (lv_look hl hv) (kk lsA hl)) kk
theorem x_lload {j : Nat} {v : Int64} {k : Nat} (hk : (mIn M)[k]? = some (pc, .lload j, 2)) (hv : ls.lookup j = some (.long v)) (kk : xE G M (pc + 2) ls (.long v :: st) s Q) : xE G M pc ls st s Q :=
  xE.step (fun _ _ _ _ _ _ _ _ _ _ _ _ _ C _ _ lsA _ hS hl kk => lv_lload C.1.1 C.1.2.1 (C.dec hk) (lv_look hl hv) (kk lsA hl)) kk
theorem x_aload_n {j : Fin 4} {v : Nat} {k : Nat} (hk : (mIn M)[k]? = some (pc, .aload_n j, 1)) (hv : ls.lookup (j : Nat) = some (.ref v)) (kk : xE G M (pc + 1) ls (.ref v :: st) s Q) : xE G M pc ls st s Q :=
  xE.step (fun _ _ _ _ _ _ _ _ _ _ _ _ _ C _ _ lsA _ hS hl kk => lv_aload_n C.1.1 C.1.2.1 (C.dec hk) rfl (lv_look hl hv) (kk lsA hl)) kk
theorem x_aload {j : Nat} {v : Nat} {k : Nat} (hk : (mIn M)[k]? = some (pc, .aload j, 2)) (hv : ls.lookup j = some (.ref v)) (kk : xE G M (pc + 2) ls (.ref v :: st) s Q) : xE G M pc ls st s Q :=
  xE.step (fun _ _ _ _ _ _ _ _ _ _ _ _ _ C _ _ lsA _ hS hl kk => lv_aload C.1.1 C.1.2.1 (C.dec hk) (lv_look hl hv) (kk lsA hl)) kk
theorem x_aload_nN {j : Fin 4} {k : Nat} (hk : (mIn M)[k]? = some (pc, .aload_n j, 1)) (hv : ls.lookup (j : Nat) = some .null) (kk : xE G M (pc + 1) ls (.null :: st) s Q) : xE G M pc ls st s Q :=
  xE.step (fun _ _ _ _ _ _ _ _ _ _ _ _ _ C _ _ lsA _ hS hl kk => lv_aload_nN C.1.1 C.1.2.1 (C.dec hk) rfl (lv_look hl hv) (kk lsA hl)) kk
theorem x_aloadN {j : Nat} {k : Nat} (hk : (mIn M)[k]? = some (pc, .aload j, 2)) (hv : ls.lookup j = some .null) (kk : xE G M (pc + 2) ls (.null :: st) s Q) : xE G M pc ls st s Q :=
  xE.step (fun _ _ _ _ _ _ _ _ _ _ _ _ _ C _ _ lsA _ hS hl kk => lv_aloadN C.1.1 C.1.2.1 (C.dec hk) (lv_look hl hv) (kk lsA hl)) kk
theorem x_istore_n {j : Fin 4} {v : Int32} {k : Nat} (hk : (mIn M)[k]? = some (pc, .istore_n j, 1)) (hn : (j : Nat) < mNL M) (kk : xE G M (pc + 1) (lSet (j : Nat) (.int v) ls) st s Q) : xE G M pc ls (.int v :: st) s Q :=
  xE.step (fun _ _ _ _ _ _ _ _ _ _ _ _ _ C _ _ lsA _ hS hl kk => lv_istore_n C.1.1 C.1.2.1 (C.dec hk) rfl hl hn rfl (fun lsB hB => kk lsB (lv_ins hB))) kk
theorem x_istore {j : Nat} {v : Int32} {k : Nat} (hk : (mIn M)[k]? = some (pc, .istore j, 2)) (hn : j < mNL M) (kk : xE G M (pc + 2) (lSet j (.int v) ls) st s Q) : xE G M pc ls (.int v :: st) s Q :=
  xE.step (fun _ _ _ _ _ _ _ _ _ _ _ _ _ C _ _ lsA _ hS hl kk => lv_istore C.1.1 C.1.2.1 (C.dec hk) hl hn rfl (fun lsB hB => kk lsB (lv_ins hB))) kk
theorem x_astore_n {j : Fin 4} {v : Nat} {k : Nat} (hk : (mIn M)[k]? = some (pc, .astore_n j, 1)) (hn : (j : Nat) < mNL M) (kk : xE G M (pc + 1) (lSet (j : Nat) (.ref v) ls) st s Q) : xE G M pc ls (.ref v :: st) s Q :=
  xE.step (fun _ _ _ _ _ _ _ _ _ _ _ _ _ C _ _ lsA _ hS hl kk => lv_astore_n C.1.1 C.1.2.1 (C.dec hk) rfl hl hn rfl (fun lsB hB => kk lsB (lv_ins hB))) kk
theorem x_astore {j : Nat} {v : Nat} {k : Nat} (hk : (mIn M)[k]? = some (pc, .astore j, 2)) (hn : j < mNL M) (kk : xE G M (pc + 2) (lSet j (.ref v) ls) st s Q) : xE G M pc ls (.ref v :: st) s Q :=
  xE.step (fun _ _ _ _ _ _ _ _ _ _ _ _ _ C _ _ lsA _ hS hl kk => lv_astore C.1.1 C.1.2.1 (C.dec hk) hl hn rfl (fun lsB hB => kk lsB (lv_ins hB))) kk
theorem x_astore_nN {j : Fin 4} {k : Nat} (hk : (mIn M)[k]? = some (pc, .astore_n j, 1)) (hn : (j : Nat) < mNL M) (kk : xE G M (pc + 1) (lSet (j : Nat) .null ls) st s Q) : xE G M pc ls (.null :: st) s Q :=
  xE.step (fun _ _ _ _ _ _ _ _ _ _ _ _ _ C _ _ lsA _ hS hl kk => lv_astore_nN C.1.1 C.1.2.1 (C.dec hk) rfl hl hn rfl (fun lsB hB => kk lsB (lv_ins hB))) kk
theorem x_astoreN {j : Nat} {k : Nat} (hk : (mIn M)[k]? = some (pc, .astore j, 2)) (hn : j < mNL M) (kk : xE G M (pc + 2) (lSet j .null ls) st s Q) : xE G M pc ls (.null :: st) s Q :=
  xE.step (fun _ _ _ _ _ _ _ _ _ _ _ _ _ C _ _ lsA _ hS hl kk => lv_astoreN C.1.1 C.1.2.1 (C.dec hk) hl hn rfl (fun lsB hB => kk lsB (lv_ins hB))) kk
theorem x_lstore_n {j : Fin 4} {v : Int64} {k : Nat} (hk : (mIn M)[k]? = some (pc, .lstore_n j, 1)) (hn : (j : Nat) + 1 < mNL M) (kk : xE G M (pc + 1) (lSet2 (j : Nat) (.long v) ls) st s Q) : xE G M pc ls (.long v :: st) s Q :=
  xE.step (fun _ _ _ _ _ _ _ _ _ _ _ _ _ C _ _ lsA _ hS hl kk => lv_lstore_n C.1.1 C.1.2.1 (C.dec hk) rfl hl hn rfl (fun lsB hB => kk lsB (lv_ins hB))) kk
theorem x_lstore {j : Nat} {v : Int64} {k : Nat} (hk : (mIn M)[k]? = some (pc, .lstore j, 2)) (hn : j + 1 < mNL M) (kk : xE G M (pc + 2) (lSet2 j (.long v) ls) st s Q) : xE G M pc ls (.long v :: st) s Q :=
  xE.step (fun _ _ _ _ _ _ _ _ _ _ _ _ _ C _ _ lsA _ hS hl kk => lv_lstore C.1.1 C.1.2.1 (C.dec hk) hl hn rfl (fun lsB hB => kk lsB (lv_ins hB))) kk
theorem x_iadd {x y : Int32} {k : Nat} (hk : (mIn M)[k]? = some (pc, .iadd, 1)) (kk : xE G M (pc + 1) ls (.int (x + y) :: st) s Q) : xE G M pc ls (.int y :: .int x :: st) s Q :=
  xE.step (fun _ _ _ _ _ _ _ _ _ _ _ _ _ C _ _ lsA _ hS hl kk => lv_iadd C.1.1 C.1.2.1 (C.dec hk) (kk lsA hl)) kk
theorem x_isub {x y : Int32} {k : Nat} (hk : (mIn M)[k]? = some (pc, .isub, 1)) (kk : xE G M (pc + 1) ls (.int (x - y) :: st) s Q) : xE G M pc ls (.int y :: .int x :: st) s Q :=
  xE.step (fun _ _ _ _ _ _ _ _ _ _ _ _ _ C _ _ lsA _ hS hl kk => lv_isub C.1.1 C.1.2.1 (C.dec hk) (kk lsA hl)) kk
theorem x_imul {x y : Int32} {k : Nat} (hk : (mIn M)[k]? = some (pc, .imul, 1)) (kk : xE G M (pc + 1) ls (.int (x * y) :: st) s Q) : xE G M pc ls (.int y :: .int x :: st) s Q :=
  xE.step (fun _ _ _ _ _ _ _ _ _ _ _ _ _ C _ _ lsA _ hS hl kk => lv_imul C.1.1 C.1.2.1 (C.dec hk) (kk lsA hl)) kk
theorem x_iand {x y : Int32} {k : Nat} (hk : (mIn M)[k]? = some (pc, .iand, 1)) (kk : xE G M (pc + 1) ls (.int (x &&& y) :: st) s Q) : xE G M pc ls (.int y :: .int x :: st) s Q :=
  xE.step (fun _ _ _ _ _ _ _ _ _ _ _ _ _ C _ _ lsA _ hS hl kk => lv_iand C.1.1 C.1.2.1 (C.dec hk) (kk lsA hl)) kk
theorem x_idiv {x y : Int32} {k : Nat} (hk : (mIn M)[k]? = some (pc, .idiv, 1)) (hne : ¬ y = 0) (kk : xE G M (pc + 1) ls (.int (x / y) :: st) s Q) : xE G M pc ls (.int y :: .int x :: st) s Q :=
  xE.step (fun _ _ _ _ _ _ _ _ _ _ _ _ _ C _ _ lsA _ hS hl kk => lv_idiv C.1.1 C.1.2.1 (C.dec hk) hne (kk lsA hl)) kk
theorem x_irem {x y : Int32} {k : Nat} (hk : (mIn M)[k]? = some (pc, .irem, 1)) (hne : ¬ y = 0) (kk : xE G M (pc + 1) ls (.int (x - x / y * y) :: st) s Q) : xE G M pc ls (.int y :: .int x :: st) s Q :=
  xE.step (fun _ _ _ _ _ _ _ _ _ _ _ _ _ C _ _ lsA _ hS hl kk => lv_irem C.1.1 C.1.2.1 (C.dec hk) hne (kk lsA hl)) kk
theorem x_ladd {x y : Int64} {k : Nat} (hk : (mIn M)[k]? = some (pc, .ladd, 1)) (kk : xE G M (pc + 1) ls (.long (x + y) :: st) s Q) : xE G M pc ls (.long y :: .long x :: st) s Q :=
  xE.step (fun _ _ _ _ _ _ _ _ _ _ _ _ _ C _ _ lsA _ hS hl kk => lv_ladd C.1.1 C.1.2.1 (C.dec hk) (kk lsA hl)) kk
theorem x_lsub {x y : Int64} {k : Nat} (hk : (mIn M)[k]? = some (pc, .lsub, 1)) (kk : xE G M (pc + 1) ls (.long (x - y) :: st) s Q) : xE G M pc ls (.long y :: .long x :: st) s Q :=
  xE.step (fun _ _ _ _ _ _ _ _ _ _ _ _ _ C _ _ lsA _ hS hl kk => lv_lsub C.1.1 C.1.2.1 (C.dec hk) (kk lsA hl)) kk
theorem x_land {x y : Int64} {k : Nat} (hk : (mIn M)[k]? = some (pc, .land, 1)) (kk : xE G M (pc + 1) ls (.long (x &&& y) :: st) s Q) : xE G M pc ls (.long y :: .long x :: st) s Q :=
  xE.step (fun _ _ _ _ _ _ _ _ _ _ _ _ _ C _ _ lsA _ hS hl kk => lv_land C.1.1 C.1.2.1 (C.dec hk) (kk lsA hl)) kk
theorem x_lor {x y : Int64} {k : Nat} (hk : (mIn M)[k]? = some (pc, .lor, 1)) (kk : xE G M (pc + 1) ls (.long (x ||| y) :: st) s Q) : xE G M pc ls (.long y :: .long x :: st) s Q :=
  xE.step (fun _ _ _ _ _ _ _ _ _ _ _ _ _ C _ _ lsA _ hS hl kk => lv_lor C.1.1 C.1.2.1 (C.dec hk) (kk lsA hl)) kk
theorem x_lxor {x y : Int64} {k : Nat} (hk : (mIn M)[k]? = some (pc, .lxor, 1)) (kk : xE G M (pc + 1) ls (.long (x ^^^ y) :: st) s Q) : xE G M pc ls (.long y :: .long x :: st) s Q :=
  xE.step (fun _ _ _ _ _ _ _ _ _ _ _ _ _ C _ _ lsA _ hS hl kk => lv_lxor C.1.1 C.1.2.1 (C.dec hk) (kk lsA hl)) kk
theorem x_lshl {x : Int64} {y : Int32} {k : Nat} (hk : (mIn M)[k]? = some (pc, .lshl, 1)) (kk : xE G M (pc + 1) ls (.long (x <<< (y.toInt64 &&& 63)) :: st) s Q) : xE G M pc ls (.int y :: .long x :: st) s Q :=
  xE.step (fun _ _ _ _ _ _ _ _ _ _ _ _ _ C _ _ lsA _ hS hl kk => lv_lshl C.1.1 C.1.2.1 (C.dec hk) rfl (kk lsA hl)) kk
theorem x_lshr {x : Int64} {y : Int32} {k : Nat} (hk : (mIn M)[k]? = some (pc, .lshr, 1)) (kk : xE G M (pc + 1) ls (.long (x >>> (y.toInt64 &&& 63)) :: st) s Q) : xE G M pc ls (.int y :: .long x :: st) s Q :=
  xE.step (fun _ _ _ _ _ _ _ _ _ _ _ _ _ C _ _ lsA _ hS hl kk => lv_lshr C.1.1 C.1.2.1 (C.dec hk) rfl (kk lsA hl)) kk
theorem x_i2l {x : Int32} {k : Nat} (hk : (mIn M)[k]? = some (pc, .i2l, 1)) (kk : xE G M (pc + 1) ls (.long x.toInt64 :: st) s Q) : xE G M pc ls (.int x :: st) s Q :=
  xE.step (fun _ _ _ _ _ _ _ _ _ _ _ _ _ C _ _ lsA _ hS hl kk => lv_i2l C.1.1 C.1.2.1 (C.dec hk) rfl (kk lsA hl)) kk
theorem x_l2i {x : Int64} {k : Nat} (hk : (mIn M)[k]? = some (pc, .l2i, 1)) (kk : xE G M (pc + 1) ls (.int x.toInt32 :: st) s Q) : xE G M pc ls (.long x :: st) s Q :=
  xE.step (fun _ _ _ _ _ _ _ _ _ _ _ _ _ C _ _ lsA _ hS hl kk => lv_l2i C.1.1 C.1.2.1 (C.dec hk) rfl (kk lsA hl)) kk
theorem x_i2c {x : Int32} {k : Nat} (hk : (mIn M)[k]? = some (pc, .i2c, 1)) (kk : xE G M (pc + 1) ls (.int (x.toUInt32 % 65536).toInt32 :: st) s Q) : xE G M pc ls (.int x :: st) s Q :=
  xE.step (fun _ _ _ _ _ _ _ _ _ _ _ _ _ C _ _ lsA _ hS hl kk => lv_i2c C.1.1 C.1.2.1 (C.dec hk) rfl (kk lsA hl)) kk
theorem x_lcmp {x y : Int64} {k : Nat} (hk : (mIn M)[k]? = some (pc, .lcmp, 1)) (kk : xE G M (pc + 1) ls (.int (lg_cmp x y) :: st) s Q) : xE G M pc ls (.long y :: .long x :: st) s Q :=
  xE.step (fun _ _ _ _ _ _ _ _ _ _ _ _ _ C _ _ lsA _ hS hl kk => W.lcmp C.1.1 C.1.2.1 (C.dec hk) (kk lsA hl)) kk
theorem x_dup {v : Value} {k : Nat} (hk : (mIn M)[k]? = some (pc, .dup, 1)) (hc : v.category = 1) (kk : xE G M (pc + 1) ls (v :: v :: st) s Q) : xE G M pc ls (v :: st) s Q :=
  xE.step (fun _ _ _ _ _ _ _ _ _ _ _ _ _ C _ _ lsA _ hS hl kk => lv_dup C.1.1 C.1.2.1 (C.dec hk) hc (kk lsA hl)) kk
theorem x_dup2 {v w : Value} {k : Nat} (hk : (mIn M)[k]? = some (pc, .dup2, 1)) (hc : v.category = 1) (hd : w.category = 1) (kk : xE G M (pc + 1) ls (v :: w :: v :: w :: st) s Q) : xE G M pc ls (v :: w :: st) s Q :=
  xE.step (fun _ _ _ _ _ _ _ _ _ _ _ _ _ C _ _ lsA _ hS hl kk => lv_dup2_11 C.1.1 C.1.2.1 (C.dec hk) hc hd (kk lsA hl)) kk
theorem x_null {k : Nat} (hk : (mIn M)[k]? = some (pc, .aconst_null, 1)) (kk : xE G M (pc + 1) ls (.null :: st) s Q) : xE G M pc ls st s Q :=
  xE.step (fun _ _ _ _ _ _ _ _ _ _ _ _ _ C _ _ lsA _ hS hl kk => lv_null C.1.1 C.1.2.1 (C.dec hk) (kk lsA hl)) kk
theorem x_goto {off : Int} {tgt : Nat} {k : Nat} (hk : (mIn M)[k]? = some (pc, .goto off, 3)) (ht : (pc : Int) + off = (tgt : Int)) (kk : xE G M tgt ls st s Q) : xE G M pc ls st s Q :=
  xE.step (fun _ _ _ _ _ _ _ _ _ _ _ _ _ C _ _ lsA _ hS hl kk => lv_goto C.1.1 C.1.2.1 (C.dec hk) ht (kk lsA hl)) kk
theorem x_ifnonnull {off : Int} {tgt a : Nat} {k : Nat} (hk : (mIn M)[k]? = some (pc, .ifnonnull off, 3)) (ht : (pc : Int) + off = (tgt : Int)) (kk : xE G M tgt ls st s Q) : xE G M pc ls (.ref a :: st) s Q :=
  xE.step (fun _ _ _ _ _ _ _ _ _ _ _ _ _ C _ _ lsA _ hS hl kk => lv_ifnonnull C.1.1 C.1.2.1 (C.dec hk) ht (kk lsA hl)) kk
theorem x_ifnonnullN {off : Int} {k : Nat} (hk : (mIn M)[k]? = some (pc, .ifnonnull off, 3)) (kk : xE G M (pc + 3) ls st s Q) : xE G M pc ls (.null :: st) s Q :=
  xE.step (fun _ _ _ _ _ _ _ _ _ _ _ _ _ C _ _ lsA _ hS hl kk => lv_ifnonnullN C.1.1 C.1.2.1 (C.dec hk) (kk lsA hl)) kk
theorem x_ifnull {off : Int} {a : Nat} {k : Nat} (hk : (mIn M)[k]? = some (pc, .ifnull off, 3)) (kk : xE G M (pc + 3) ls st s Q) : xE G M pc ls (.ref a :: st) s Q :=
  xE.step (fun _ _ _ _ _ _ _ _ _ _ _ _ _ C _ _ lsA _ hS hl kk => lv_ifnull C.1.1 C.1.2.1 (C.dec hk) (kk lsA hl)) kk
theorem x_ifnullN {off : Int} {tgt : Nat} {k : Nat} (hk : (mIn M)[k]? = some (pc, .ifnull off, 3)) (ht : (pc : Int) + off = (tgt : Int)) (kk : xE G M tgt ls st s Q) : xE G M pc ls (.null :: st) s Q :=
  xE.step (fun _ _ _ _ _ _ _ _ _ _ _ _ _ C _ _ lsA _ hS hl kk => lv_ifnullN C.1.1 C.1.2.1 (C.dec hk) ht (kk lsA hl)) kk
theorem x_lookup {dflt : Int} {ps : Array (Int × Int)} {len : Nat} {x : Int32} {off : Int} {tgt k : Nat} (hk : (mIn M)[k]? = some (pc, .lookupswitch dflt ps, len)) (hp : (ps.toList.zip (ps.toList.drop 1)).all (fun (a, next) => a.1 < next.1) = true) (ho : Op.lookupswitch.offset ps.toList dflt x.toInt = off) (ht : (pc : Int) + off = (tgt : Int)) (kk : xE G M tgt ls st s Q) : xE G M pc ls (.int x :: st) s Q :=
  xE.step (fun _ _ _ _ _ _ _ _ _ _ _ _ _ C _ _ lsA _ hS hl kk => lv_lookup C.1.1 C.1.2.1 (C.dec hk) hp ho ht (kk lsA hl)) kk
theorem x_tableIn {dflt lo hi : Int} {offs : Array Int} {len : Nat} {x : Int32} {off : Int} {tgt k : Nat} (hk : (mIn M)[k]? = some (pc, .tableswitch dflt lo hi offs, len)) (h1 : ¬ x.toInt < lo) (h2 : ¬ hi < x.toInt) (ho : offs[(x.toInt - lo).toNat]? = some off) (ht : (pc : Int) + off = (tgt : Int)) (kk : xE G M tgt ls st s Q) : xE G M pc ls (.int x :: st) s Q :=
  xE.step (fun _ _ _ _ _ _ _ _ _ _ _ _ _ C _ _ lsA _ hS hl kk => lv_tableIn C.1.1 C.1.2.1 (C.dec hk) h1 h2 ho ht (kk lsA hl)) kk
theorem x_tableOut {dflt lo hi : Int} {offs : Array Int} {len : Nat} {x : Int32} {tgt k : Nat} (hk : (mIn M)[k]? = some (pc, .tableswitch dflt lo hi offs, len)) (h : x.toInt < lo ∨ hi < x.toInt) (ht : (pc : Int) + dflt = (tgt : Int)) (kk : xE G M tgt ls st s Q) : xE G M pc ls (.int x :: st) s Q :=
  xE.step (fun _ _ _ _ _ _ _ _ _ _ _ _ _ C _ _ lsA _ hS hl kk => lv_tableOut C.1.1 C.1.2.1 (C.dec hk) h ht (kk lsA hl)) kk
theorem x_iinc {i : Nat} {n : Int} {x v : Int32} {k : Nat} (hk : (mIn M)[k]? = some (pc, .iinc i n, 3)) (hv : ls.lookup i = some (.int x)) (he : x + Int32.ofInt n = v) (hn : i < mNL M) (kk : xE G M (pc + 3) (lSet i (.int v) ls) st s Q) : xE G M pc ls st s Q :=
  xE.step (fun _ _ _ _ _ _ _ _ _ _ _ _ _ C _ _ lsA _ hS hl kk => lv_iinc (lv := (i, .int x) :: ls) (k := 0) C.1.1 C.1.2.1 (C.dec hk) ⟨hl.1, hl.2.1, fun q hq => (List.mem_cons.mp hq).elim (fun e => e ▸ lv_look hl hv) (hl.2.2 q)⟩ rfl he hn rfl (fun lsB hB => kk lsB (lv_ins (by simpa using hB)))) kk
theorem x_if_eq {x : Int32} {off : Int} {tgt k : Nat} (hk : (mIn M)[k]? = some (pc, .ifCond .eq off, 3)) (ht : (pc : Int) + off = (tgt : Int)) (kt : x = 0 → xE G M tgt ls st s Q) (kf : ¬ x = 0 → xE G M (pc + 3) ls st s Q) : xE G M pc ls (.int x :: st) s Q := by
  by_cases h : x = 0
  · exact xE.step (fun _ _ _ _ _ _ _ _ _ _ _ _ _ C _ _ lsA _ hS hl kk => lv_if_eq C.1.1 C.1.2.1 (C.dec hk) ht (fun _ => kk lsA hl) (fun q => absurd h q)) (kt h)
  · exact xE.step (fun _ _ _ _ _ _ _ _ _ _ _ _ _ C _ _ lsA _ hS hl kk => lv_if_eq C.1.1 C.1.2.1 (C.dec hk) ht (fun q => absurd q h) (fun _ => kk lsA hl)) (kf h)
theorem x_icmp_eq {x y : Int32} {off : Int} {tgt k : Nat} (hk : (mIn M)[k]? = some (pc, .if_icmp .eq off, 3)) (ht : (pc : Int) + off = (tgt : Int)) (kt : x = y → xE G M tgt ls st s Q) (kf : ¬ x = y → xE G M (pc + 3) ls st s Q) : xE G M pc ls (.int y :: .int x :: st) s Q := by
  by_cases h : x = y
  · exact xE.step (fun _ _ _ _ _ _ _ _ _ _ _ _ _ C _ _ lsA _ hS hl kk => lv_icmp_eq C.1.1 C.1.2.1 (C.dec hk) ht (fun _ => kk lsA hl) (fun q => absurd h q)) (kt h)
  · exact xE.step (fun _ _ _ _ _ _ _ _ _ _ _ _ _ C _ _ lsA _ hS hl kk => lv_icmp_eq C.1.1 C.1.2.1 (C.dec hk) ht (fun q => absurd q h) (fun _ => kk lsA hl)) (kf h)
theorem x_if_ne {x : Int32} {off : Int} {tgt k : Nat} (hk : (mIn M)[k]? = some (pc, .ifCond .ne off, 3)) (ht : (pc : Int) + off = (tgt : Int)) (kt : ¬ x = 0 → xE G M tgt ls st s Q) (kf : x = 0 → xE G M (pc + 3) ls st s Q) : xE G M pc ls (.int x :: st) s Q := by
  by_cases h : x = 0
  · exact xE.step (fun _ _ _ _ _ _ _ _ _ _ _ _ _ C _ _ lsA _ hS hl kk => lv_if_ne C.1.1 C.1.2.1 (C.dec hk) ht (fun q => absurd h q) (fun _ => kk lsA hl)) (kf h)
  · exact xE.step (fun _ _ _ _ _ _ _ _ _ _ _ _ _ C _ _ lsA _ hS hl kk => lv_if_ne C.1.1 C.1.2.1 (C.dec hk) ht (fun _ => kk lsA hl) (fun q => absurd q h)) (kt h)
theorem x_icmp_ne {x y : Int32} {off : Int} {tgt k : Nat} (hk : (mIn M)[k]? = some (pc, .if_icmp .ne off, 3)) (ht : (pc : Int) + off = (tgt : Int)) (kt : ¬ x = y → xE G M tgt ls st s Q) (kf : x = y → xE G M (pc + 3) ls st s Q) : xE G M pc ls (.int y :: .int x :: st) s Q := by
  by_cases h : x = y
  · exact xE.step (fun _ _ _ _ _ _ _ _ _ _ _ _ _ C _ _ lsA _ hS hl kk => lv_icmp_ne C.1.1 C.1.2.1 (C.dec hk) ht (fun q => absurd h q) (fun _ => kk lsA hl)) (kf h)
  · exact xE.step (fun _ _ _ _ _ _ _ _ _ _ _ _ _ C _ _ lsA _ hS hl kk => lv_icmp_ne C.1.1 C.1.2.1 (C.dec hk) ht (fun _ => kk lsA hl) (fun q => absurd q h)) (kt h)
theorem x_if_lt {x : Int32} {off : Int} {tgt k : Nat} (hk : (mIn M)[k]? = some (pc, .ifCond .lt off, 3)) (ht : (pc : Int) + off = (tgt : Int)) (kt : x < 0 → xE G M tgt ls st s Q) (kf : ¬ x < 0 → xE G M (pc + 3) ls st s Q) : xE G M pc ls (.int x :: st) s Q := by
  by_cases h : x < 0
  · exact xE.step (fun _ _ _ _ _ _ _ _ _ _ _ _ _ C _ _ lsA _ hS hl kk => lv_if_lt C.1.1 C.1.2.1 (C.dec hk) ht (fun _ => kk lsA hl) (fun q => absurd h q)) (kt h)
  · exact xE.step (fun _ _ _ _ _ _ _ _ _ _ _ _ _ C _ _ lsA _ hS hl kk => lv_if_lt C.1.1 C.1.2.1 (C.dec hk) ht (fun q => absurd q h) (fun _ => kk lsA hl)) (kf h)
theorem x_icmp_lt {x y : Int32} {off : Int} {tgt k : Nat} (hk : (mIn M)[k]? = some (pc, .if_icmp .lt off, 3)) (ht : (pc : Int) + off = (tgt : Int)) (kt : x < y → xE G M tgt ls st s Q) (kf : ¬ x < y → xE G M (pc + 3) ls st s Q) : xE G M pc ls (.int y :: .int x :: st) s Q := by
  by_cases h : x < y
  · exact xE.step (fun _ _ _ _ _ _ _ _ _ _ _ _ _ C _ _ lsA _ hS hl kk => lv_icmp_lt C.1.1 C.1.2.1 (C.dec hk) ht (fun _ => kk lsA hl) (fun q => absurd h q)) (kt h)
  · exact xE.step (fun _ _ _ _ _ _ _ _ _ _ _ _ _ C _ _ lsA _ hS hl kk => lv_icmp_lt C.1.1 C.1.2.1 (C.dec hk) ht (fun q => absurd q h) (fun _ => kk lsA hl)) (kf h)
theorem x_if_ge {x : Int32} {off : Int} {tgt k : Nat} (hk : (mIn M)[k]? = some (pc, .ifCond .ge off, 3)) (ht : (pc : Int) + off = (tgt : Int)) (kt : 0 ≤ x → xE G M tgt ls st s Q) (kf : ¬ 0 ≤ x → xE G M (pc + 3) ls st s Q) : xE G M pc ls (.int x :: st) s Q := by
  by_cases h : 0 ≤ x
  · exact xE.step (fun _ _ _ _ _ _ _ _ _ _ _ _ _ C _ _ lsA _ hS hl kk => lv_if_ge C.1.1 C.1.2.1 (C.dec hk) ht (fun _ => kk lsA hl) (fun q => absurd h q)) (kt h)
  · exact xE.step (fun _ _ _ _ _ _ _ _ _ _ _ _ _ C _ _ lsA _ hS hl kk => lv_if_ge C.1.1 C.1.2.1 (C.dec hk) ht (fun q => absurd q h) (fun _ => kk lsA hl)) (kf h)
theorem x_icmp_ge {x y : Int32} {off : Int} {tgt k : Nat} (hk : (mIn M)[k]? = some (pc, .if_icmp .ge off, 3)) (ht : (pc : Int) + off = (tgt : Int)) (kt : y ≤ x → xE G M tgt ls st s Q) (kf : ¬ y ≤ x → xE G M (pc + 3) ls st s Q) : xE G M pc ls (.int y :: .int x :: st) s Q := by
  by_cases h : y ≤ x
  · exact xE.step (fun _ _ _ _ _ _ _ _ _ _ _ _ _ C _ _ lsA _ hS hl kk => lv_icmp_ge C.1.1 C.1.2.1 (C.dec hk) ht (fun _ => kk lsA hl) (fun q => absurd h q)) (kt h)
  · exact xE.step (fun _ _ _ _ _ _ _ _ _ _ _ _ _ C _ _ lsA _ hS hl kk => lv_icmp_ge C.1.1 C.1.2.1 (C.dec hk) ht (fun q => absurd q h) (fun _ => kk lsA hl)) (kf h)
theorem x_if_gt {x : Int32} {off : Int} {tgt k : Nat} (hk : (mIn M)[k]? = some (pc, .ifCond .gt off, 3)) (ht : (pc : Int) + off = (tgt : Int)) (kt : 0 < x → xE G M tgt ls st s Q) (kf : ¬ 0 < x → xE G M (pc + 3) ls st s Q) : xE G M pc ls (.int x :: st) s Q := by
  by_cases h : 0 < x
  · exact xE.step (fun _ _ _ _ _ _ _ _ _ _ _ _ _ C _ _ lsA _ hS hl kk => lv_if_gt C.1.1 C.1.2.1 (C.dec hk) ht (fun _ => kk lsA hl) (fun q => absurd h q)) (kt h)
  · exact xE.step (fun _ _ _ _ _ _ _ _ _ _ _ _ _ C _ _ lsA _ hS hl kk => lv_if_gt C.1.1 C.1.2.1 (C.dec hk) ht (fun q => absurd q h) (fun _ => kk lsA hl)) (kf h)
theorem x_icmp_gt {x y : Int32} {off : Int} {tgt k : Nat} (hk : (mIn M)[k]? = some (pc, .if_icmp .gt off, 3)) (ht : (pc : Int) + off = (tgt : Int)) (kt : y < x → xE G M tgt ls st s Q) (kf : ¬ y < x → xE G M (pc + 3) ls st s Q) : xE G M pc ls (.int y :: .int x :: st) s Q := by
  by_cases h : y < x
  · exact xE.step (fun _ _ _ _ _ _ _ _ _ _ _ _ _ C _ _ lsA _ hS hl kk => lv_icmp_gt C.1.1 C.1.2.1 (C.dec hk) ht (fun _ => kk lsA hl) (fun q => absurd h q)) (kt h)
  · exact xE.step (fun _ _ _ _ _ _ _ _ _ _ _ _ _ C _ _ lsA _ hS hl kk => lv_icmp_gt C.1.1 C.1.2.1 (C.dec hk) ht (fun q => absurd q h) (fun _ => kk lsA hl)) (kf h)
theorem x_if_le {x : Int32} {off : Int} {tgt k : Nat} (hk : (mIn M)[k]? = some (pc, .ifCond .le off, 3)) (ht : (pc : Int) + off = (tgt : Int)) (kt : x ≤ 0 → xE G M tgt ls st s Q) (kf : ¬ x ≤ 0 → xE G M (pc + 3) ls st s Q) : xE G M pc ls (.int x :: st) s Q := by
  by_cases h : x ≤ 0
  · exact xE.step (fun _ _ _ _ _ _ _ _ _ _ _ _ _ C _ _ lsA _ hS hl kk => lv_if_le C.1.1 C.1.2.1 (C.dec hk) ht (fun _ => kk lsA hl) (fun q => absurd h q)) (kt h)
  · exact xE.step (fun _ _ _ _ _ _ _ _ _ _ _ _ _ C _ _ lsA _ hS hl kk => lv_if_le C.1.1 C.1.2.1 (C.dec hk) ht (fun q => absurd q h) (fun _ => kk lsA hl)) (kf h)
theorem x_icmp_le {x y : Int32} {off : Int} {tgt k : Nat} (hk : (mIn M)[k]? = some (pc, .if_icmp .le off, 3)) (ht : (pc : Int) + off = (tgt : Int)) (kt : x ≤ y → xE G M tgt ls st s Q) (kf : ¬ x ≤ y → xE G M (pc + 3) ls st s Q) : xE G M pc ls (.int y :: .int x :: st) s Q := by
  by_cases h : x ≤ y
  · exact xE.step (fun _ _ _ _ _ _ _ _ _ _ _ _ _ C _ _ lsA _ hS hl kk => lv_icmp_le C.1.1 C.1.2.1 (C.dec hk) ht (fun _ => kk lsA hl) (fun q => absurd h q)) (kt h)
  · exact xE.step (fun _ _ _ _ _ _ _ _ _ _ _ _ _ C _ _ lsA _ hS hl kk => lv_icmp_le C.1.1 C.1.2.1 (C.dec hk) ht (fun q => absurd q h) (fun _ => kk lsA hl)) (kf h)
end XR
end
section
-- ===== rows that look at the heap, make cells, call =====
theorem inX0 : ∀ w ∈ wsX00, w ∈ gW := fun w h => gW_in ((by decide +kernel : ∀ w ∈ wsX00, w ∈ lw_tbl) w h) ((by decide +kernel : ∀ w ∈ wsX00, goodWord w = true) w h)
theorem inX1 : ∀ w ∈ wsX10, w ∈ gW := fun w h => gW_in ((by decide +kernel : ∀ w ∈ wsX10, w ∈ lw_tbl) w h) ((by decide +kernel : ∀ w ∈ wsX10, goodWord w = true) w h)
theorem inX2 : ∀ w ∈ wsX20, w ∈ gW := fun w h => gW_in ((by decide +kernel : ∀ w ∈ wsX20, w ∈ lw_tbl) w h) ((by decide +kernel : ∀ w ∈ wsX20, goodWord w = true) w h)
theorem inX3 : ∀ w ∈ wsX30, w ∈ gW := fun w h => gW_in ((by decide +kernel : ∀ w ∈ wsX30, w ∈ lw_tbl) w h) ((by decide +kernel : ∀ w ∈ wsX30, goodWord w = true) w h)
theorem inX4 : ∀ w ∈ wsX40, w ∈ gW := fun w h => gW_in ((by decide +kernel : ∀ w ∈ wsX40, w ∈ lw_tbl) w h) ((by decide +kernel : ∀ w ∈ wsX40, goodWord w = true) w h)
theorem inX5 : ∀ w ∈ wsX50, w ∈ gW := fun w h => gW_in ((by decide +kernel : ∀ w ∈ wsX50, w ∈ lw_tbl) w h) ((by decide +kernel : ∀ w ∈ wsX50, goodWord w = true) w h)
theorem inX6 : ∀ w ∈ wsX60, w ∈ gW := fun w h => gW_in ((by decide +kernel : ∀ w ∈ wsX60, w ∈ lw_tbl) w h) ((by decide +kernel : ∀ w ∈ wsX60, goodWord w = true) w h)
theorem inX7 : ∀ w ∈ wsX70, w ∈ gW := fun w h => gW_in ((by decide +kernel : ∀ w ∈ wsX70, w ∈ lw_tbl) w h) ((by decide +kernel : ∀ w ∈ wsX70, goodWord w = true) w h)
theorem inX8 : ∀ w ∈ wsX80, w ∈ gW := fun w h => gW_in ((by decide +kernel : ∀ w ∈ wsX80, w ∈ lw_tbl) w h) ((by decide +kernel : ∀ w ∈ wsX80, goodWord w = true) w h)
theorem inX9 : ∀ w ∈ wsX90, w ∈ gW := fun w h => gW_in ((by decide +kernel : ∀ w ∈ wsX90, w ∈ lw_tbl) w h) ((by decide +kernel : ∀ w ∈ wsX90, goodWord w = true) w h)
theorem inX10 : ∀ w ∈ wsX100, w ∈ gW := fun w h => gW_in ((by decide +kernel : ∀ w ∈ wsX100, w ∈ lw_tbl) w h) ((by decide +kernel : ∀ w ∈ wsX100, goodWord w = true) w h)
abbrev cFacts (q : vw_C) : Prop := (∀ w ∈ u_ws q.1 q.2.1 q.2.2, w ∈ gW) ∧ (∃ ty : Nat → FieldType, ∀ k, k < q.2.2 → parseFieldDescriptor (q.2.1 k).2.2.1 = some (ty k)) ∧ (∀ a, a < q.2.2 → ∀ b, b < q.2.2 → a ≠ b → (q.2.1 a).2.1 ≠ (q.2.1 b).2.1)
theorem cls_ok : ∀ (ci : Nat) (q : vw_C), vwCl[ci]? = some q → cFacts q := by
  intro ci q h
  match ci, h with
  | 0, h => cases h; exact ⟨inX0, ⟨tyX0, tyX0_ok⟩, nmX0⟩
  | 1, h => cases h; exact ⟨inX1, ⟨tyX1, tyX1_ok⟩, nmX1⟩
  | 2, h => cases h; exact ⟨inX2, ⟨tyX2, tyX2_ok⟩, nmX2⟩
  | 3, h => cases h; exact ⟨inX3, ⟨tyX3, tyX3_ok⟩, nmX3⟩
  | 4, h => cases h; exact ⟨inX4, ⟨tyX4, tyX4_ok⟩, nmX4⟩
  | 5, h => cases h; exact ⟨inX5, ⟨tyX5, tyX5_ok⟩, nmX5⟩
  | 6, h => cases h; exact ⟨inX6, ⟨tyX6, tyX6_ok⟩, nmX6⟩
  | 7, h => cases h; exact ⟨inX7, ⟨tyX7, tyX7_ok⟩, nmX7⟩
  | 8, h => cases h; exact ⟨inX8, ⟨tyX8, tyX8_ok⟩, nmX8⟩
  | 9, h => cases h; exact ⟨inX9, ⟨tyX9, tyX9_ok⟩, nmX9⟩
  | 10, h => cases h; exact ⟨inX10, ⟨tyX10, tyX10_ok⟩, nmX10⟩
  | n + 11, h => simp [vwCl] at h
/-- entry idx of the pool of class own is field j of class ci -/
def xFl (own : String) (idx ci j : Nat) : Prop := ∃ q : vw_C, vwCl[ci]? = some q ∧ j < q.2.2 ∧ (q.2.1 j).1 = q.1 ∧ Cond.fieldLink own idx q.1 (q.2.1 j).2.1 (q.2.1 j).2.2.1 ∈ gW
/-- what a field may take -/
def xFt (ci j : Nat) (fin : Bool) (ty : FieldType) : Prop := ∃ q : vw_C, vwCl[ci]? = some q ∧ (q.2.1 j).2.2.2 = fin ∧ parseFieldDescriptor (q.2.1 j).2.2.1 = some ty
theorem xFl.mk {own : String} {idx ci j : Nat} (q : vw_C) (h1 : vwCl[ci]? = some q) (h2 : j < q.2.2) (h3 : (q.2.1 j).1 = q.1) (h4 : Cond.fieldLink own idx q.1 (q.2.1 j).2.1 (q.2.1 j).2.2.1 ∈ lw_tbl) : xFl own idx ci j := ⟨q, h1, h2, h3, gW_in h4 rfl⟩
section XE2
variable {G : xG} {M : xM} {pc pc' : Nat} {ls : List (Nat × Value)} {st st' : List Value} {s : xA} {Q : Option Value → xA → Prop}
theorem aAt.has {H : Heap} {a : Nat} {e : va_E} (hA : aAt G s H) (hh : s.1 a = some e) : ∃ (ws : va_W) (k0 : Nat), ws[k0]? = some (a, e) ∧ va_P (gD G) vwCl ws H := by
  obtain ⟨ws, h1, h2, h3, h4, -⟩ := hA
  obtain ⟨k0, h5⟩ := h3 a e hh
  exact ⟨ws, k0, h5, h4⟩
/-- a row that changes one cell -/
theorem xE.put {a : Nat} {e0 e : va_E}
    (h : ∀ (p : Program) (ev : Env) (U : State) (m : MethodId) (args : Array Value) (below : List Frame) (meth : Method) (c : Code) (R : Room) (l0 : Nat) (Qf : State → Prop) (r : Option Value) (s' : xA), xC G M p ev U m args below meth c R l0 Qf r s' →
      ∀ (H : Heap) (locs : List Loc) (lsA : Array Slot) (ws : va_W) (k0 : Nat), va_P (gD G) vwCl ws H → va_D (gA G) ws → va_S (gA G) U.heap H locs → lv_has lsA (mNL M) ls → (∀ (a : Nat) (e : va_E), s.1 a = some e → ∃ k : Nat, ws[k]? = some (a, e)) → ws[k0]? = some (a, e0) →
      (∀ (H1 : Heap) (locs1 : List Loc), va_P (gD G) vwCl (ws.set k0 (a, e)) H1 → va_D (gA G) (ws.set k0 (a, e)) → va_S (gA G) U.heap H1 locs1 → W p (gL G) ev R U m args below meth c H1 locs1 (s.2.1 - U.heap.size) (s.2.2 - l0) Qf (F0 m pc' lsA st')) →
      W p (gL G) ev R U m args below meth c H locs (s.2.1 - U.heap.size) (s.2.2 - l0) Qf (F0 m pc lsA st))
    (hh : s.1 a = some e0) (k : xE G M pc' ls st' (aUp s a e) Q) : xE G M pc ls st s Q := by
  obtain ⟨r, s', hq, hm, k⟩ := k
  refine ⟨r, s', hq, hm, fun p ev U m args below meth c R l0 Qf C h1 h2 H locs lsA hA hS hl => ?_⟩
  obtain ⟨ws, w1, w2, w3, w4, w5⟩ := hA
  obtain ⟨k0, hk0⟩ := w3 a e0 hh
  refine h p ev U m args below meth c R l0 Qf r s' C H locs lsA ws k0 w4 (aIdx w1) hS hl w3 hk0 (fun H1 locs1 hP1 _ hS1 => ?_)
  intro T hT X
  have hz := X.same.2.2.1
  have hz2 : T.heap.size ≤ U.heap.size + (s.2.1 - U.heap.size) := hz
  rw [hT] at hz2
  exact k p ev U m args below meth c R l0 Qf C h1 h2 H1 locs1 lsA (aAt.put w1 w2 w3 hk0 hP1 (Nat.le_trans C.2.2.1.2.1 hS1.1) (by omega)) hS1 hl T hT X
/-- a row that makes a cell -/
theorem xE.new {n : Nat} {e : va_E}
    (h : ∀ (p : Program) (ev : Env) (U : State) (m : MethodId) (args : Array Value) (below : List Frame) (meth : Method) (c : Code) (R : Room) (l0 : Nat) (Qf : State → Prop) (r : Option Value) (s' : xA), xC G M p ev U m args below meth c R l0 Qf r s' → (s.2.1 - U.heap.size) + 1 ≤ R.cells → (s.2.2 - l0) + n ≤ R.slots →
      ∀ (H : Heap) (locs : List Loc) (lsA : Array Slot) (ws : va_W), va_P (gD G) vwCl ws H → va_D (gA G) ws → va_S (gA G) U.heap H locs → lv_has lsA (mNL M) ls →
      (∀ (q : Nat) (H1 : Heap), va_P (gD G) vwCl (ws ++ [(q, e)]) H1 → va_D (gA G) (ws ++ [(q, e)]) → va_S (gA G) U.heap H1 locs → W p (gL G) ev R U m args below meth c H1 locs ((s.2.1 - U.heap.size) + 1) ((s.2.2 - l0) + n) Qf (F0 m pc' lsA (.ref q :: st'))) →
      W p (gL G) ev R U m args below meth c H locs (s.2.1 - U.heap.size) (s.2.2 - l0) Qf (F0 m pc lsA st))
    (k : xE G M pc' ls (.ref s.2.1 :: st') (aNew s n e) Q) : xE G M pc ls st s Q := by
  obtain ⟨r, s', hq, hm, k⟩ := k
  have hm1 : s.2.1 + 1 ≤ s'.2.1 := hm.1
  have hm2 : s.2.2 + n ≤ s'.2.2 := hm.2.1
  refine ⟨r, s', hq, ⟨by omega, by omega, hm.2.2⟩, fun p ev U m args below meth c R l0 Qf C h1 h2 H locs lsA hA hS hl => ?_⟩
  obtain ⟨ws, w1, w2, w3, w4, w5⟩ := hA
  have hR := C.2.2.2.1
  refine h p ev U m args below meth c R l0 Qf r s' C (by omega) (by omega) H locs lsA ws w4 (aIdx w1) hS hl (fun q H1 hP1 hD1 hS1 => ?_)
  intro T hT X
  have hz := X.same.2.2.1
  have hz2 : T.heap.size ≤ U.heap.size + ((s.2.1 - U.heap.size) + 1) := hz
  rw [hT] at hz2
  obtain ⟨hq1, hA1⟩ := aAt.new (n := n) w1 w2 w3 hP1 hD1 (by omega)
  subst hq1
  have e1 : (aNew s n e).2.1 - U.heap.size = (s.2.1 - U.heap.size) + 1 := by show s.2.1 + 1 - _ = _; omega
  have e2 : (aNew s n e).2.2 - l0 = (s.2.2 - l0) + n := by show s.2.2 + n - _ = _; omega
  have k1 := k p ev U m args below meth c R l0 Qf C (by show _ ≤ s.2.1 + 1; omega) (by show _ ≤ s.2.2 + n; omega) H1 locs lsA hA1 hS1 hl
  rw [e1, e2] at k1
  exact k1 T hT X
/-- getfield -/
theorem x_get {idx ci j a k : Nat} {fs : List Value} {v : Value} (hk : (mIn M)[k]? = some (pc, .getfield idx, 3)) (hf : xFl (mOwn M) idx ci j) (hh : s.1 a = some (eO ci fs)) (hv : fs[j]? = some v) (kk : xE G M (pc + 3) ls (v :: st) s Q) : xE G M pc ls (.ref a :: st) s Q := by
  obtain ⟨q, f1, f2, f3, f4⟩ := hf
  refine xE.step (fun p e U m args below meth c R l0 Qf r s' C H locs lsA hA hS hl kk => ?_) kk
  obtain ⟨ws, k0, hk0, hP⟩ := aAt.has hA hh
  exact va_get C.1.1 C.1.2.1 C.1.2.2.2.2 (fun w hw => mWs_in ((cls_ok ci q f1).1 w hw)) C.1.2.2.2.1 C.2.2.1.1 hP k0 hk0 f1 j f2 (C.1.2.2.2.2 _ (mWs_in f4)) (fun x hx => by rw [f3] at hx; exact hx) hv (C.dec hk) (kk lsA hl)
/-- putfield -/
theorem x_put {idx ci j a k : Nat} {fs : List Value} {v : Value} {ty : FieldType} (hk : (mIn M)[k]? = some (pc, .putfield idx, 3)) (hf : xFl (mOwn M) idx ci j) (ht : xFt ci j false ty) (hh : s.1 a = some (eO ci fs)) (hl0 : j < fs.length) (hn : narrow ty v = v) (hfit : fits ty v = true) (kk : xE G M (pc + 3) ls st (aUp s a (eO ci (fs.set j v))) Q) : xE G M pc ls (v :: .ref a :: st) s Q := by
  obtain ⟨q, f1, f2, f3, f4⟩ := hf
  obtain ⟨q', g1, g2, g3⟩ := ht
  cases f1.symm.trans g1
  obtain ⟨ty0, hty⟩ := (cls_ok ci q f1).2.1
  exact xE.put (fun p e U m args below meth c R l0 Qf r s' C H locs lsA ws k0 hP hD hS hl hsub hk0 kk => va_put C.1.1 C.1.2.1 C.1.2.2.2.2 (fun w hw => mWs_in ((cls_ok ci q f1).1 w hw)) ty0 hty (cls_ok ci q f1).2.2 C.1.2.2.2.1 C.2.2.1.1 hP hD hS k0 hk0 f1 j f2 (C.1.2.2.2.2 _ (mWs_in f4)) (fun x hx => by rw [f3] at hx; exact hx) g2 g3 hn hfit hl0 (C.dec hk) kk) hh kk
/-- putfield of a final field, in a constructor -/
theorem x_putF {idx ci j a k : Nat} {fs : List Value} {v : Value} {ty : FieldType} (hk : (mIn M)[k]? = some (pc, .putfield idx, 3)) (hf : xFl (mOwn M) idx ci j) (ht : xFt ci j true ty) (hin : (mY M).name = "<init>") (hown : (vwCl[ci]?).map (fun q => q.1) = some (mOwn M)) (hh : s.1 a = some (eO ci fs)) (hl0 : j < fs.length) (hn : narrow ty v = v) (hfit : fits ty v = true) (kk : xE G M (pc + 3) ls st (aUp s a (eO ci (fs.set j v))) Q) : xE G M pc ls (v :: .ref a :: st) s Q := by
  obtain ⟨q, f1, f2, f3, f4⟩ := hf
  obtain ⟨q', g1, g2, g3⟩ := ht
  cases f1.symm.trans g1
  obtain ⟨ty0, hty⟩ := (cls_ok ci q f1).2.1
  have ho : q.1 = mOwn M := by rw [f1] at hown; exact Option.some.inj hown
  exact xE.put (fun p e U m args below meth c R l0 Qf r s' C H locs lsA ws k0 hP hD hS hl hsub hk0 kk => va_putF C.1.1 C.1.2.1 C.1.2.2.2.2 (fun w hw => mWs_in ((cls_ok ci q f1).1 w hw)) ty0 hty (cls_ok ci q f1).2.2 C.1.2.2.2.1 C.2.2.1.1 hP hD hS k0 hk0 f1 j f2 (C.1.2.2.2.2 _ (mWs_in f4)) (fun x hx => by rw [f3] at hx; exact hx) g2 (C.2.1.trans hin) (f3.trans ho) g3 hn hfit hl0 (C.dec hk) kk) hh kk
/-- arrays -/
theorem x_iald {a n k : Nat} {f : Nat → Int32} {i : Int32} (hk : (mIn M)[k]? = some (pc, .iaload, 1)) (hh : s.1 a = some (eI G n f)) (hin : vp_in i n) (kk : xE G M (pc + 1) ls (.int (f i.toNatClampNeg) :: st) s Q) : xE G M pc ls (.int i :: .ref a :: st) s Q := by
  refine xE.step (fun p e U m args below meth c R l0 Qf r s' C H locs lsA hA hS hl kk => ?_) kk
  obtain ⟨ws, k0, hk0, hP⟩ := aAt.has hA hh
  exact va_iald C.1.1 C.1.2.1 C.2.2.1.1 hP k0 0 hk0 rfl hin (C.dec hk) (kk lsA hl)
theorem x_lald {a n k : Nat} {f : Nat → Int64} {i : Int32} (hk : (mIn M)[k]? = some (pc, .laload, 1)) (hh : s.1 a = some (eJ G n f)) (hin : vp_in i n) (kk : xE G M (pc + 1) ls (.long (f i.toNatClampNeg) :: st) s Q) : xE G M pc ls (.int i :: .ref a :: st) s Q := by
  refine xE.step (fun p e U m args below meth c R l0 Qf r s' C H locs lsA hA hS hl kk => ?_) kk
  obtain ⟨ws, k0, hk0, hP⟩ := aAt.has hA hh
  exact va_lald C.1.1 C.1.2.1 C.2.2.1.1 hP k0 1 hk0 rfl hin (C.dec hk) (kk lsA hl)
theorem x_cald {a n k : Nat} {f : Nat → Int32} {i : Int32} (hk : (mIn M)[k]? = some (pc, .caload, 1)) (hh : s.1 a = some (eC G n f)) (hin : vp_in i n) (kk : xE G M (pc + 1) ls (.int (f i.toNatClampNeg) :: st) s Q) : xE G M pc ls (.int i :: .ref a :: st) s Q := by
  refine xE.step (fun p e U m args below meth c R l0 Qf r s' C H locs lsA hA hS hl kk => ?_) kk
  obtain ⟨ws, k0, hk0, hP⟩ := aAt.has hA hh
  exact va_cald C.1.1 C.1.2.1 C.2.2.1.1 hP k0 2 hk0 rfl hin (C.dec hk) (kk lsA hl)
theorem x_zald {a n k : Nat} {f : Nat → Int32} {i : Int32} (hk : (mIn M)[k]? = some (pc, .baload, 1)) (hh : s.1 a = some (eZ G n f)) (hin : vp_in i n) (kk : xE G M (pc + 1) ls (.int (f i.toNatClampNeg) :: st) s Q) : xE G M pc ls (.int i :: .ref a :: st) s Q := by
  refine xE.step (fun p e U m args below meth c R l0 Qf r s' C H locs lsA hA hS hl kk => ?_) kk
  obtain ⟨ws, k0, hk0, hP⟩ := aAt.has hA hh
  exact va_zald C.1.1 C.1.2.1 C.2.2.1.1 hP k0 3 hk0 rfl hin (C.dec hk) (kk lsA hl)
theorem x_aald {a n k t : Nat} {C0 : String} {f : Nat → Option Nat} {i : Int32} (hk : (mIn M)[k]? = some (pc, .aaload, 1)) (ht : (gT G)[t]? = some (gc G t, .object C0)) (hh : s.1 a = some (eR G t n f)) (hin : vp_in i n) (kk : xE G M (pc + 1) ls (va_rf (f i.toNatClampNeg) :: st) s Q) : xE G M pc ls (.int i :: .ref a :: st) s Q := by
  refine xE.step (fun p e U m args below meth c R l0 Qf r s' C H locs lsA hA hS hl kk => ?_) kk
  obtain ⟨ws, k0, hk0, hP⟩ := aAt.has hA hh
  exact va_aldq C.1.1 C.1.2.1 C.2.2.1.1 hP k0 t hk0 ht hin (C.dec hk) (kk lsA hl)
theorem x_iast {a n k : Nat} {f : Nat → Int32} {i x : Int32} (hk : (mIn M)[k]? = some (pc, .iastore, 1)) (hh : s.1 a = some (eI G n f)) (hin : vp_in i n) (kk : xE G M (pc + 1) ls st (aUp s a (eI G n (upd f i.toNatClampNeg x))) Q) : xE G M pc ls (.int x :: .int i :: .ref a :: st) s Q :=
  xE.put (fun p e U m args below meth c R l0 Qf r s' C H locs lsA ws k0 hP hD hS hl hsub hk0 kk => va_iast C.1.1 C.1.2.1 C.2.2.1.1 hP hD hS k0 0 hk0 rfl hin (C.dec hk) kk) hh kk
theorem x_last {a n k : Nat} {f : Nat → Int64} {i : Int32} {x : Int64} (hk : (mIn M)[k]? = some (pc, .lastore, 1)) (hh : s.1 a = some (eJ G n f)) (hin : vp_in i n) (kk : xE G M (pc + 1) ls st (aUp s a (eJ G n (vp_updL f i.toNatClampNeg x))) Q) : xE G M pc ls (.long x :: .int i :: .ref a :: st) s Q :=
  xE.put (fun p e U m args below meth c R l0 Qf r s' C H locs lsA ws k0 hP hD hS hl hsub hk0 kk => va_last C.1.1 C.1.2.1 C.2.2.1.1 hP hD hS k0 1 hk0 rfl hin (C.dec hk) kk) hh kk
theorem x_cast {a n k : Nat} {f : Nat → Int32} {i x : Int32} (hk : (mIn M)[k]? = some (pc, .castore, 1)) (hh : s.1 a = some (eC G n f)) (hin : vp_in i n) (kk : xE G M (pc + 1) ls st (aUp s a (eC G n (upd f i.toNatClampNeg (vp_nar .char x)))) Q) : xE G M pc ls (.int x :: .int i :: .ref a :: st) s Q :=
  xE.put (fun p e U m args below meth c R l0 Qf r s' C H locs lsA ws k0 hP hD hS hl hsub hk0 kk => va_cast C.1.1 C.1.2.1 C.2.2.1.1 hP hD hS k0 2 hk0 rfl hin (C.dec hk) kk) hh kk
theorem x_zast {a n k : Nat} {f : Nat → Int32} {i x : Int32} (hk : (mIn M)[k]? = some (pc, .bastore, 1)) (hh : s.1 a = some (eZ G n f)) (hin : vp_in i n) (kk : xE G M (pc + 1) ls st (aUp s a (eZ G n (upd f i.toNatClampNeg (vp_nar .boolean x)))) Q) : xE G M pc ls (.int x :: .int i :: .ref a :: st) s Q :=
  xE.put (fun p e U m args below meth c R l0 Qf r s' C H locs lsA ws k0 hP hD hS hl hsub hk0 kk => va_zast C.1.1 C.1.2.1 C.2.2.1.1 hP hD hS k0 3 hk0 rfl hin (C.dec hk) kk) hh kk
theorem x_aast {a n k t ci v : Nat} {q : vw_C} {vs : List Value} {f : Nat → Option Nat} {i : Int32} (hk : (mIn M)[k]? = some (pc, .aastore, 1)) (hc : vwCl[ci]? = some q) (ht : (gT G)[t]? = some (gc G t, .object q.1)) (hh : s.1 a = some (eR G t n f)) (hv : s.1 v = some (eO ci vs)) (hin : vp_in i n) (kk : xE G M (pc + 1) ls st (aUp s a (eR G t n (va_up f i.toNatClampNeg (some v)))) Q) : xE G M pc ls (.ref v :: .int i :: .ref a :: st) s Q :=
  xE.put (fun p e U m args below meth c R l0 Qf r s' C H locs lsA ws k0 hP hD hS hl hsub hk0 kk => by
    obtain ⟨k1, hk1⟩ := hsub v _ hv
    exact va_astq C.1.1 C.1.2.1 C.2.2.1.1 hP hD hS k0 t k1 ci hk0 ht hk1 hc hin (C.dec hk) kk) hh kk
/-- System.arraycopy of ints, between two arrays -/
theorem x_copyi {a a0 n0 n1 idx k : Nat} {f g : Nat → Int32} {sp dp n : Int32} (hk : (mIn M)[k]? = some (pc, .invokestatic idx, 3)) (hw : Cond.methodLink (mOwn M) idx arraycopyName ∈ gW) (w1 : Cond.native arraycopyName ∈ gW) (w2 : Cond.static arraycopyName ∈ gW) (w3 : Cond.initialized "java/lang/System" ∈ gW) (h0 : s.1 a0 = some (eI G n0 f)) (hh : s.1 a = some (eI G n1 g))
    (h1 : ¬ sp < 0) (h2 : ¬ dp < 0) (h3 : ¬ n < 0) (h4 : sp.toNatClampNeg + n.toNatClampNeg ≤ n0) (h5 : dp.toNatClampNeg + n.toNatClampNeg ≤ n1) (hfr : 1 ≤ mFr M) (hlo : (st.map fun v => v.category).sum + (nativeFrameWords "java/lang/System" "arraycopy" 5 + 11) ≤ mLo M)
    (kk : xE G M (pc + 3) ls st (aUp s a (eI G n1 (va_cpy f g sp.toNatClampNeg dp.toNatClampNeg n.toNatClampNeg))) Q) : xE G M pc ls (.int n :: .int dp :: .ref a :: .int sp :: .ref a0 :: st) s Q :=
  xE.put (fun p e U m args below meth c R l0 Qf r s' C H locs lsA ws k0 hP hD hS hl hsub hk0 kk => by
    obtain ⟨k1, hk1⟩ := hsub a0 _ h0
    exact va_copyi C.1.1 C.1.2.1 (by rw [C.1.2.2.1]; exact hl.1.symm) C.1.2.2.2.1 (C.1.2.2.2.2 _ (mWs_in hw)) (C.1.2.2.2.2 _ (mWs_in w1)) (C.1.2.2.2.2 _ (mWs_in w2)) (C.1.2.2.2.2 _ (mWs_in w3)) C.2.2.1.1 hP hD hS k1 k0 0 0 hk1 hk0 rfl rfl rfl h1 h2 h3 h4 h5 (fun _ _ => rfl) (Nat.le_trans hfr C.2.2.2.1.1) (Nat.le_trans hlo C.2.2.2.1.2.1) (C.dec hk) kk) hh kk
/-- Math.min -/
theorem x_min {idx k : Nat} {x y : Int32} (hk : (mIn M)[k]? = some (pc, .invokestatic idx, 3)) (hw : Cond.methodLink (mOwn M) idx Lib.Math.min.name ∈ gW) (w1 : Cond.static Lib.Math.min.name ∈ gW) (w2 : Cond.initialized "java/lang/Math" ∈ gW) (w3 : Cond.code Lib.Math.min.name Lib.Math.min.code 2 (some .int) ∈ gW) (hfr : 1 ≤ mFr M) (hlo : (st.map fun v => v.category).sum + 13 ≤ mLo M) (kk : xE G M (pc + 3) ls (.int (if y < x then y else x) :: st) s Q) : xE G M pc ls (.int y :: .int x :: st) s Q := by
  obtain ⟨r, s', hq, hm, k⟩ := kk
  refine ⟨r, s', hq, hm, fun p e U m args below meth c R l0 Qf C h1 h2 H locs lsA hA hS hl => ?_⟩
  have hR := C.2.2.2.1
  exact va_mmin C.1.1 C.1.2.1 (by rw [C.1.2.2.1]; exact hl.1.symm) C.1.2.2.2.1 (C.1.2.2.2.2 _ (mWs_in hw)) (C.1.2.2.2.2 _ (mWs_in w1)) (C.1.2.2.2.2 _ (mWs_in w2)) (C.1.2.2.2.2 _ (mWs_in w3)) (Nat.le_trans hfr hR.1) (Nat.le_trans hlo hR.2.1) (by have := hm.1; omega) (by have := hm.2.1; omega) (C.dec hk) (k p e U m args below meth c R l0 Qf C h1 h2 H locs lsA hA hS hl)
/-- new -/
theorem x_new {idx ci k : Nat} {q : vw_C} {fs : List Value} (hk : (mIn M)[k]? = some (pc, .new idx, 3)) (hc : vwCl[ci]? = some q) (w1 : Cond.classLink (mOwn M) idx q.1 ∈ gW) (w2 : Cond.instantiable q.1 q.2.2 ∈ gW) (w3 : Cond.initialized q.1 ∈ gW) (ty : Nat → FieldType) (hty : ∀ k, k < q.2.2 → parseFieldDescriptor (q.2.1 k).2.2.1 = some (ty k)) (hfs : ∀ j, j < q.2.2 → defaultValue (ty j) = vp_V fs j) (kk : xE G M (pc + 3) ls (.ref s.2.1 :: st) (aNew s q.2.2 (eO ci fs)) Q) : xE G M pc ls st s Q :=
  xE.new (fun p e U m args below meth c R l0 Qf r s' C hc1 hc2 H locs lsA ws hP hD hS hl kk => va_new C.1.1 C.1.2.1 C.1.2.2.2.2 (fun w hw => mWs_in ((cls_ok ci q hc).1 w hw)) ty hty C.1.2.2.2.1 (C.1.2.2.2.2 _ (mWs_in w1)) (C.1.2.2.2.2 _ (mWs_in w2)) (C.1.2.2.2.2 _ (mWs_in w3)) C.2.2.1.1 hP hD hS (fun x hx => Nat.le_trans C.2.2.1.2.1 hx) hc hfs hc1 hc2 (C.dec hk) kk) kk
theorem gc_eq {G : xG} {U : State} {cA : ClassId} {t : Nat} {ty : FieldType} (hK : va_K (gD G) vwCl (gT G ++ [(cA, ty)]) U) (ht : (gT G)[t]? = some (gc G t, ty)) : cA = gc G t := by
  have h1 := (hK.2 (gT G).length (cA, ty) (by simp)).2
  have h2 := (hK.2 t (gc G t, ty) (by rw [List.getElem?_append_left (List.getElem?_eq_some_iff.mp ht).1]; exact ht)).2
  cases ty with
  | object C0 =>
    obtain ⟨_, _, _, _, _, h3⟩ := h1
    obtain ⟨_, _, _, _, _, h4⟩ := h2
    exact Option.some.inj (h3.symm.trans h4)
  | _ => exact Option.some.inj (h1.symm.trans h2)
/-- newarray -/
theorem x_newa {k t N : Nat} {n : Int32} {at0 : ArrayType} {ty : FieldType} {a0 : vp_A} (hk : (mIn M)[k]? = some (pc, .newarray at0, 2)) (hty : newarray.typeOf at0 = ty) (hw : Cond.arrayClass (newarray.typeOf at0) ∈ gW) (ht : (gT G)[t]? = some (gc G t, ty)) (ha : ∀ cA : ClassId, vp_cell cA a0 = arrV cA N (fun _ => defaultValue ty)) (hn : ¬ n < 0) (hN : n.toNatClampNeg = N) (hb : N * componentBytes ty ≤ 536870912) (kk : xE G M (pc + 2) ls (.ref s.2.1 :: st) (aNew s N (.inl (gc G t, a0))) Q) : xE G M pc ls (.int n :: st) s Q :=
  xE.new (fun p e U m args below meth c R l0 Qf r s' C hc1 hc2 H locs lsA ws hP hD hS hl kk => va_newa C.1.1 C.1.2.1 (C.1.2.2.2.2 _ (mWs_in hw)) hty C.2.2.1.1 hP hD hS (fun x hx => Nat.le_trans C.2.2.1.2.1 hx) ha hn hN hb hc1 hc2 (C.dec hk) (fun q cA H1 hK1 hP1 hD1 hS1 => by
    have e := gc_eq hK1 ht
    subst e
    exact kk q H1 hP1 hD1 hS1)) kk
/-- anewarray -/
theorem x_anew {k t N idx : Nat} {n : Int32} {C0 : String} (hk : (mIn M)[k]? = some (pc, .anewarray idx, 3)) (hC : C0 ∈ nestC) (hw : Cond.classLink (mOwn M) idx C0 ∈ gW) (ht : (gT G)[t]? = some (gc G t, .object C0)) (hn : ¬ n < 0) (hN : n.toNatClampNeg = N) (hb : N * 4 ≤ 536870912) (kk : xE G M (pc + 3) ls (.ref s.2.1 :: st) (aNew s N (eR G t N (fun _ => none))) Q) : xE G M pc ls (.int n :: st) s Q :=
  xE.new (fun p e U m args below meth c R l0 Qf r s' C hc1 hc2 H locs lsA ws hP hD hS hl kk => va_newq C.1.1 C.1.2.1 C.1.2.2.2.1 (C.1.2.2.2.2 _ (mWs_in hw)) (C.2.2.1.2.2.2.2.2 C0 hC) C.2.2.1.1 hP hD hS (fun x hx => Nat.le_trans C.2.2.1.2.1 hx) hn hN hb hc1 hc2 (C.dec hk) (fun q cA H1 hK1 hP1 hD1 hS1 => by
    have e := gc_eq hK1 ht
    subst e
    exact kk q H1 hP1 hD1 hS1)) kk
/-- the two static arrays, and the script -/
theorem x_cost {k : Nat} (hk : (mIn M)[k]? = some (pc, .getstatic 146, 3)) (ho : mOwn M = RX8) (kk : xE G M (pc + 3) ls (.ref (gS1 G) :: st) s Q) : xE G M pc ls st s Q :=
  xE.step (fun p e U m args below meth c R l0 Qf r s' C H locs lsA hA hS hl kk => va_getsN C.1.1 C.1.2.1 C.2.2.1.2.2.1.1.1 hS C.1.2.2.2.1 (by rw [ho]; exact va_Nw.use rfl (C.2.2.1.2.2.2.2.1 (RX8, 146, "COVER_COSTS") (by simp [nestF]))) (fun x hx => hx) (C.dec hk) (kk lsA hl)) kk
theorem x_cover {k : Nat} (hk : (mIn M)[k]? = some (pc, .getstatic 227, 3)) (ho : mOwn M = RX8) (kk : xE G M (pc + 3) ls (.ref (gS2 G) :: st) s Q) : xE G M pc ls st s Q :=
  xE.step (fun p e U m args below meth c R l0 Qf r s' C H locs lsA hA hS hl kk => va_getsN C.1.1 C.1.2.1 C.2.2.1.2.2.1.2.1.1 hS C.1.2.2.2.1 (by rw [ho]; exact va_Nw.use rfl (C.2.2.1.2.2.2.2.1 (RX8, 227, "COVERS") (by simp [nestF]))) (fun x hx => hx) (C.dec hk) (kk lsA hl)) kk
theorem x_costAt {k : Nat} {i : Int32} (hk : (mIn M)[k]? = some (pc, .iaload, 1)) (hin : vp_in i 4) (kk : xE G M (pc + 1) ls (cCost i.toNatClampNeg :: st) s Q) : xE G M pc ls (.int i :: .ref (gS1 G) :: st) s Q :=
  xE.step (fun p e U m args below meth c R l0 Qf r s' C H locs lsA hA hS hl kk => va_ti C.1.1 C.1.2.1 C.2.2.1.2.2.1.1.2 hS hin rfl (C.dec hk) (kk lsA hl)) kk
theorem x_coverAt {k : Nat} {i : Int32} (hk : (mIn M)[k]? = some (pc, .iaload, 1)) (hin : vp_in i 4) (kk : xE G M (pc + 1) ls (cCover i.toNatClampNeg :: st) s Q) : xE G M pc ls (.int i :: .ref (gS2 G) :: st) s Q :=
  xE.step (fun p e U m args below meth c R l0 Qf r s' C H locs lsA hA hS hl kk => va_ti C.1.1 C.1.2.1 C.2.2.1.2.2.1.2.1.2 hS hin rfl (C.dec hk) (kk lsA hl)) kk
theorem x_scrAt {k : Nat} {i : Int32} (hk : (mIn M)[k]? = some (pc, .iaload, 1)) (hin : vp_in i (gLen G)) (kk : xE G M (pc + 1) ls (.int (gScr G i.toNatClampNeg) :: st) s Q) : xE G M pc ls (.int i :: .ref (gS3 G) :: st) s Q :=
  xE.step (fun p e U m args below meth c R l0 Qf r s' C H locs lsA hA hS hl kk => va_ti C.1.1 C.1.2.1 C.2.2.1.2.2.1.2.2 hS hin rfl (C.dec hk) (kk lsA hl)) kk
theorem x_scrLen {k : Nat} (hk : (mIn M)[k]? = some (pc, .arraylength, 1)) (kk : xE G M (pc + 1) ls (.int (nI (gLen G)) :: st) s Q) : xE G M pc ls (.ref (gS3 G) :: st) s Q :=
  xE.step (fun p e U m args below meth c R l0 Qf r s' C H locs lsA hA hS hl kk => va_tlen C.1.1 C.1.2.1 C.2.2.1.2.2.1.2.2 hS rfl (C.dec hk) (kk lsA hl)) kk
/-- Object.<init> -/
theorem x_obj {idx a k : Nat} (hk : (mIn M)[k]? = some (pc, .invokespecial idx, 3)) (w1 : Cond.methodLink (mOwn M) idx Lib.objectInit ∈ gW) (w2 : Cond.instanceMethod Lib.objectInit ∈ gW) (w3 : Cond.code Lib.objectInit ⟨#[0xb1]⟩ 1 none ∈ gW) (hfr : 1 ≤ mFr M) (hlo : (st.map fun v => v.category).sum + 12 ≤ mLo M) (kk : xE G M (pc + 3) ls st s Q) : xE G M pc ls (.ref a :: st) s Q :=
  xE.step (fun p e U m args below meth c R l0 Qf r s' C H locs lsA hA hS hl kk => W.objInit C.1.1 C.1.2.1 C.1.2.2.2.1 (C.1.2.2.2.2 _ (mWs_in w1)) (C.1.2.2.2.2 _ (mWs_in w2)) (C.1.2.2.2.2 _ (mWs_in w3)) rfl (by rw [C.1.2.2.1]; exact hl.1) rfl (C.dec hk) (Nat.le_trans hfr C.2.2.2.1.1) (Nat.le_trans (by show 2 * 0 + _ + 12 ≤ _; omega) C.2.2.2.1.2.1) (kk lsA hl)) kk
/-- ends -/
theorem x_ret {k : Nat} (hk : (mIn M)[k]? = some (pc, .return_, 1)) (hr : mRt M = none) (hq : Q none s) : xE G M pc ls [] s Q :=
  ⟨none, s, hq, ⟨Nat.le_refl _, Nat.le_refl _, Or.inl ⟨rfl, hr⟩⟩, fun p e U m args below meth c R l0 Qf C h1 h2 H locs lsA hA hS hl => C.2.2.2.2.2 H locs lsA pc _ hA hS (C.dec hk) (Or.inl ⟨rfl, rfl⟩)⟩
theorem x_iret {k : Nat} {v : Int32} {ty : FieldType} (hk : (mIn M)[k]? = some (pc, .ireturn, 1)) (hr : mRt M = some ty) (hn : narrow ty (.int v) = .int v) (hq : Q (some (.int v)) s) : xE G M pc ls [.int v] s Q :=
  ⟨some (.int v), s, hq, ⟨Nat.le_refl _, Nat.le_refl _, Or.inr (Or.inl ⟨v, ty, rfl, hr, hn⟩)⟩, fun p e U m args below meth c R l0 Qf C h1 h2 H locs lsA hA hS hl => C.2.2.2.2.2 H locs lsA pc _ hA hS (C.dec hk) (Or.inr (Or.inl ⟨v, rfl, rfl⟩))⟩
theorem x_aret {k : Nat} {v : Value} {rt : FieldType} (hk : (mIn M)[k]? = some (pc, .areturn, 1)) (hr : mRt M = some rt) (hrt : (∃ n, rt = .object n) ∨ ∃ t, rt = .array t) (hv : v = .null ∨ ∃ a, v = .ref a) (hq : Q (some v) s) : xE G M pc ls [v] s Q :=
  ⟨some v, s, hq, ⟨Nat.le_refl _, Nat.le_refl _, Or.inr (Or.inr ⟨v, rt, hv, rfl, hr, hrt⟩)⟩, fun p e U m args below meth c R l0 Qf C h1 h2 H locs lsA hA hS hl => C.2.2.2.2.2 H locs lsA pc _ hA hS (C.dec hk) (Or.inr (Or.inr ⟨v, hv, rfl, rfl⟩))⟩
end XE2
end
section
-- ===== a method's contract out of its run; calls =====
def xQ (G : xG) (r : Option Value) (s' : xA) : Array Value → State → Outcome → State → Prop := fun _ st oc t => oc = .returned r ∧ aAt G s' t.heap ∧ va_F (gA G) st t
/-- what is printed of a method: its code's word, its class's, its decoded instructions -/
def xOk (M : xM) (n : Nat) : Prop := Cond.code (mY M) (mCd M) (mNL M) (mRt M) ∈ gW ∧ Cond.initialized (mY M).cls ∈ gW ∧ plainName (mY M).cls = true ∧ ((mY M).cls ≠ "java/lang/invoke/MethodHandle" ∧ (mY M).cls ≠ "java/lang/invoke/VarHandle" ∧ (parseMethodDescriptor (mY M).desc).map (fun d => d.parameters.length) = some n) ∧ mOwn M = (mY M).cls ∧ ∀ (k : Nat) (q : Nat × Instr × Nat), (mIn M)[k]? = some q → decode (mCd M) q.1 = .ok q.2
def dOk (cc : ByteArray) (L : List (Nat × Instr × Nat)) : Bool := L.all (fun q => decide (decode cc q.1 = .ok q.2))
theorem dOk.all {cc : ByteArray} {L : List (Nat × Instr × Nat)} (h : dOk cc L = true) : ∀ (k : Nat) (q : Nat × Instr × Nat), L[k]? = some q → decode cc q.1 = .ok q.2 := fun _ _ hk => of_decide_eq_true (List.all_eq_true.mp h _ (List.mem_of_getElem? hk))
def mRm (M : xM) (s s' : xA) : Room := { frames := mFr M, cells := s'.2.1 - s.2.1, slots := s'.2.2 - s.2.2, locals := mLo M }
set_option maxHeartbeats 4000000 in
theorem xMet {G : xG} {M : xM} {n : Nat} {As : List Value} {s s' : xA} {r : Option Value} (ho : xOk M n) (hlen : (lg_sl As).length ≤ mNL M) (hX : xX G M 0 (lv_args 0 As) [] s r s') :
    Met (gL G) (mY M) (mWs M) (mRm M s s') (va_Pc As (fun U => aAt G s U.heap ∧ aK G U)) (xQ G r s') (s'.2.1 - s.2.1) (s'.2.2 - s.2.2) (gA G) := by
  refine Met.ofW (cc := mCd M) (maxL := mNL M) (ret := mRt M) ho.2.2.1 rfl ?_
  intro p e s0 m args below meth c s₁ B hml hv
  obtain ⟨rfl, hA, hK⟩ := hv
  have hz : s0.heap.size = s.2.1 := hA.choose_spec.2.2.2.2
  have hl := lv_entry As (n := mNL M) hlen
  rw [lg_entry_eq]
  generalize (lg_sl As ++ List.replicate (mNL M - (lg_sl As).length) Slot.unset).toArray = ls at hl ⊢
  have hown : s0.vm.findClass (mOwn M) = some m.cls := by rw [ho.2.2.2.2.1]; exact findClass_of_methodNamed B.named
  have hlocks := B.notSynchronized
  have hx := B.exec
  have hb := B.bytes
  have hr := B.returns
  have key := hX.2 p e s0 m As.toArray below meth c (mRm M s s') s.2.2 (MQ below (xQ G r s') As.toArray s0 (s'.2.1 - s.2.1) (s'.2.2 - s.2.2) (gA G))
    ⟨⟨hx, hb, hml, hown, atoms_spec (ws := mWs M) B.pre⟩, (name_of_methodNamed B.named B.method).1, hK, ⟨Nat.le_refl _, Nat.le_refl _, by rw [hz]; exact Nat.le_refl _, Nat.le_refl _⟩, ho.2.2.2.2.2, fun H locs lsA pc i hA' hS' hd hret => by
      rw [hz]
      rcases hret with ⟨rfl, rfl⟩ | ⟨v, rfl, rfl⟩ | ⟨v, hv, rfl, rfl⟩
      · refine W.vret hx hb ?_ (fun t ht hW => ⟨rfl, by rw [ht]; exact hA', hS'.F ht⟩) hS'.2.2 hd
        rcases hX.1.2.2 with ⟨-, h⟩ | ⟨_, _, h, -⟩ | ⟨_, _, _, h, -⟩
        · rw [hr]; exact h
        · cases h
        · cases h
      · rcases hX.1.2.2 with ⟨h, -⟩ | ⟨v', ty, h, h2, h3⟩ | ⟨v', _, h1, h, -⟩
        · cases h
        · cases h
          exact W.zret hx hb (by rw [hr]; exact h2) h3 (fun t ht hW => ⟨rfl, by rw [ht]; exact hA', hS'.F ht⟩) hS'.2.2 hd
        · cases h
          rcases h1 with h1 | ⟨a, h1⟩ <;> cases h1
      · rcases hX.1.2.2 with ⟨h, -⟩ | ⟨v', ty, h, h2, h3⟩ | ⟨v', rt, h1, h, h2, h3⟩
        · cases h
        · cases h
          rcases hv with hv | ⟨a, hv⟩ <;> cases hv
        · cases h
          exact W.aret hx hb (by rw [hr]; exact h2) h3 hv (fun t ht hW => ⟨rfl, by rw [ht]; exact hA', hS'.F ht⟩) hS'.2.2 hd⟩
    (by omega) (Nat.le_refl _) s0.heap [] ls hA va_S.rf hl
  rw [hz, Nat.sub_self, Nat.sub_self] at key
  exact key
theorem xBlind {G : xG} {s : xA} {As : List Value} : FrameBlind (va_Pc As (fun U => aAt G s U.heap ∧ aK G U)) := fun a U g mk q => ⟨q.1, q.2.1, aK.same (u := U) (U := U.calling g mk a) rfl rfl q.2.2⟩
section XCALL
variable {G : xG} {M M' : xM} {pc : Nat} {ls : List (Nat × Value)} {st stk As : List Value} {s : xA} {Q Q' : Option Value → xA → Prop}
/-- a call, once the kit's row for its kind is at hand -/
theorem xE.call {k idx n : Nat} {i : Instr} (hk : (mIn M)[k]? = some (pc, i, 3)) (ho : xOk M' n) (hlen : (lg_sl As).length ≤ mNL M')
    (hrun : ∀ (p : Program) (ev : Env) (U : State) (m : MethodId) (args : Array Value) (below : List Frame) (meth : Method) (c : Code) (R : Room) (l0 : Nat) (Qf : State → Prop) (r : Option Value) (s' : xA) (r1 : Option Value) (s1 : xA), xC G M p ev U m args below meth c R l0 Qf r s' →
      ∀ (H : Heap) (locs : List Loc) (lsA : Array Slot), aAt G s H → va_S (gA G) U.heap H locs → lv_has lsA (mNL M) ls → decode (mCd M) pc = .ok (i, 3) →
      (s.2.1 - U.heap.size) + (s1.2.1 - s.2.1) ≤ R.cells → (s.2.2 - l0) + (s1.2.2 - s.2.2) ≤ R.slots →
      Met (gL G) (mY M') (mWs M') (mRm M' s s1) (va_Pc As (fun U => aAt G s U.heap ∧ aK G U)) (xQ G r1 s1) (s1.2.1 - s.2.1) (s1.2.2 - s.2.2) (gA G) →
      (∀ V : State, V.heap = H → U.WarmedH V.vm → va_Pc As (fun U => aAt G s U.heap ∧ aK G U) As.toArray V) →
      ∃ Ar : Array Value, va_Run p (gL G) ev R U m args below meth c H locs (s.2.1 - U.heap.size) (s.2.2 - l0) (s1.2.1 - s.2.1) (s1.2.2 - s.2.2) (F0 m pc lsA stk) st (xQ G r1 s1 Ar) (gA G))
    (hb : xMe G M' As s Q') (kk : ∀ (r : Option Value) (s1 : xA), Q' r s1 → xE G M (pc + 3) ls (r.toList ++ st) s1 Q) : xE G M pc ls stk s Q := by
  obtain ⟨r1, s1, hq1, hX1⟩ := hb
  obtain ⟨r, s', hq, hm, k2⟩ := kk r1 s1 hq1
  have m1 := hX1.1.1
  have m2 := hX1.1.2.1
  have m3 := hm.1
  have m4 := hm.2.1
  refine ⟨r, s', hq, ⟨by omega, by omega, hm.2.2⟩, fun p ev U m args below meth c R l0 Qf C h1 h2 H locs lsA hA hS hl => ?_⟩
  have hR := C.2.2.2.1
  obtain ⟨Ar, hr⟩ := hrun p ev U m args below meth c R l0 Qf r s' r1 s1 C H locs lsA hA hS hl (C.dec hk) (by omega) (by omega) (xMet ho hlen hX1) (fun V hV hW => ⟨rfl, by rw [hV]; exact hA, aK.to hW hV hS C.2.2.1⟩)
  intro T hT X
  obtain ⟨v, st₀, t, T', L, g0, X', hL, g1, g2, ⟨g3, g4, g5⟩, st1⟩ := hr T hT X
  cases g3
  have e1 : (s.2.1 - U.heap.size) + (s1.2.1 - s.2.1) = s1.2.1 - U.heap.size := by omega
  have e2 : (s.2.2 - l0) + (s1.2.2 - s.2.2) = s1.2.2 - l0 := by omega
  rw [e1, e2] at X'
  have hS1 : va_S (gA G) U.heap T'.heap (locs ++ L) := ⟨Nat.le_trans hS.1 (by rw [g1, ← g0]; exact g5.1), fun q q1 q2 => by
      rw [g1, g5.2 q (by rw [g0]; exact Nat.lt_of_lt_of_le q1 hS.1) q2, g0]
      exact hS.2.1 q q1 q2, fun q hq => by
      rcases List.mem_append.mp hq with h | h
      · exact hS.2.2 q h
      · exact hL q h⟩
  obtain ⟨t2, a1, b1⟩ := k2 p ev U m args below meth c R l0 Qf C (by omega) (by omega) T'.heap (locs ++ L) lsA (by rw [g1]; exact g4) hS1 hl T' rfl X'
  exact ⟨t2, st1 t2 a1, b1⟩
theorem gIn {ws : List Cond} (h : ∀ w ∈ ws, w ∈ gW) : GoodIn (mWs M) ws := fun w hw => ⟨mWs_in (h w hw), good_of_word (gW_good w (h w hw))⟩
theorem mWsIn {n : Nat} (ho : xOk M' n) : ∀ w ∈ mWs M', w ∈ gW := fun w hw => by
  rcases List.mem_cons.mp hw with h | h
  · rw [h]; exact ho.1
  · exact h
/-- room for a call -/
def xRm (M M' : xM) : Prop := mFr M' + 1 ≤ mFr M ∧ 8 + (mNL M' + 11) + mLo M' ≤ mLo M
theorem xRm.to {p : Program} {ev : Env} {U : State} {m : MethodId} {args : Array Value} {below : List Frame} {meth : Method} {c : Code} {R : Room} {l0 : Nat} {Qf : State → Prop} {r : Option Value} {s' s1 : xA} (h : xRm M M') (C : xC G M p ev U m args below meth c R l0 Qf r s') : (mRm M' s s1).frames + 1 ≤ R.frames ∧ 8 + (mNL M' + 11) + (mRm M' s s1).locals ≤ R.locals := ⟨Nat.le_trans h.1 C.2.2.2.1.1, Nat.le_trans h.2 C.2.2.2.1.2.1⟩
def xVi (y : MethodName) : Prop := Cond.instanceMethod y ∈ gW ∧ Cond.selects y.cls y y ∈ gW
/-- invokevirtual -/
theorem x_callV {k idx n a ci : Nat} {fs Ar : List Value} (hk : (mIn M)[k]? = some (pc, .invokevirtual idx, 3)) (ho : xOk M' n) (hv : xVi (mY M')) (hw : Cond.methodLink (mOwn M) idx (mY M') ∈ gW) (hR : xRm M M') (hlen : (lg_sl (.ref a :: Ar)).length ≤ mNL M') (hn : Ar.length = n) (hc : (vwCl[ci]?).map (fun q => q.1) = some (mY M').cls) (hh : s.1 a = some (eO ci fs)) (hst : (st.map fun v => v.category).sum ≤ 8) (hs : stk = Ar.reverse ++ .ref a :: st)
    (hb : xMe G M' (.ref a :: Ar) s Q') (kk : ∀ (r : Option Value) (s1 : xA), Q' r s1 → xE G M (pc + 3) ls (r.toList ++ st) s1 Q) : xE G M pc ls stk s Q := by
  refine xE.call (idx := idx) hk ho hlen (fun p ev U m args below meth c R l0 Qf r s' r1 s1 C H locs lsA hA hS hl hd c1 c2 hM hV => ?_) hb kk
  obtain ⟨ws, k0, hk0, hP⟩ := aAt.has hA hh
  cases hq : vwCl[ci]? with
  | none => rw [hq] at hc; cases hc
  | some q =>
    rw [hq] at hc
    have hq1 : q.1 = (mY M').cls := Option.some.inj hc
    obtain ⟨cell, r1', r2, r3⟩ := va_recv C.2.2.1.1 hP hq hk0
    rw [hq1] at r3
    exact ⟨_, va_runV (As := Ar) (rest := st) (Ts := mWs M) (own := mOwn M) (nL := mNL M) C.1 hM (cwV n C.1.2.2.2.2 (gIn (by
      intro w h
      rcases List.mem_append.mp h with h | h
      · simp only [List.mem_cons, List.not_mem_nil, or_false] at h
        rcases h with rfl | rfl | rfl | rfl
        · exact hw
        · exact hv.1
        · exact hv.2
        · exact ho.2.1
      · exact mWsIn ho w h)) rfl rfl rfl ⟨rfl, ho.2.2.2.1⟩ (hR.to C)) ⟨xBlind, ⟨cell, r1', r2, r3⟩, hV⟩ rfl hn hl.1 hs (by show 2 * 0 + _ ≤ 8; omega) hd ⟨c1, c2⟩⟩
/-- invokestatic, of the own class -/
theorem x_callS {k idx n : Nat} (hk : (mIn M)[k]? = some (pc, .invokestatic idx, 3)) (ho : xOk M' n) (hv : Cond.static (mY M') ∈ gW) (hw : Cond.methodLink (mOwn M) idx (mY M') ∈ gW) (hR : xRm M M') (hlen : (lg_sl As).length ≤ mNL M') (hn : As.length = n) (hst : (st.map fun v => v.category).sum ≤ 8) (hs : stk = As.reverse ++ st)
    (hb : xMe G M' As s Q') (kk : ∀ (r : Option Value) (s1 : xA), Q' r s1 → xE G M (pc + 3) ls (r.toList ++ st) s1 Q) : xE G M pc ls stk s Q := by
  refine xE.call (idx := idx) hk ho hlen (fun p ev U m args below meth c R l0 Qf r s' r1 s1 C H locs lsA hA hS hl hd c1 c2 hM hV => ?_) hb kk
  exact ⟨_, va_runS (As := As) (rest := st) (Ts := mWs M) (own := mOwn M) (nL := mNL M) C.1 hM (va_cwS n C.1.2.2.2.2 (gIn (by
      intro w h
      rcases List.mem_append.mp h with h | h
      · simp only [List.mem_cons, List.not_mem_nil, or_false] at h
        rcases h with rfl | rfl | rfl
        · exact hw
        · exact hv
        · exact ho.2.1
      · exact mWsIn ho w h)) rfl rfl rfl ho.2.2.2.1 (hR.to C)) ⟨xBlind, hV⟩ rfl hn hl.1 hs (by show 2 * 0 + _ ≤ 8; omega) hd ⟨c1, c2⟩⟩
/-- invokestatic, a nest mate's private method -/
theorem x_callSN {k idx n : Nat} (hk : (mIn M)[k]? = some (pc, .invokestatic idx, 3)) (ho : xOk M' n) (hv : Cond.static (mY M') ∈ gW) (hw : (mOwn M, idx, mY M') ∈ nestM) (hR : xRm M M') (hlen : (lg_sl As).length ≤ mNL M') (hn : As.length = n) (hst : (st.map fun v => v.category).sum ≤ 8) (hs : stk = As.reverse ++ st)
    (hb : xMe G M' As s Q') (kk : ∀ (r : Option Value) (s1 : xA), Q' r s1 → xE G M (pc + 3) ls (r.toList ++ st) s1 Q) : xE G M pc ls stk s Q := by
  refine xE.call (idx := idx) hk ho hlen (fun p ev U m args below meth c R l0 Qf r s' r1 s1 C H locs lsA hA hS hl hd c1 c2 hM hV => ?_) hb kk
  exact ⟨_, va_runSN (As := As) (rest := st) (Ts := mWs M) (own := mOwn M) (nL := mNL M) C.1 hM ⟨va_cnB n C.1.2.2.2.2 (gIn (mWsIn ho)) rfl rfl rfl (C.2.2.1.2.2.2.1 _ hw) (C.1.2.2.2.2 _ (mWs_in ho.2.1)) ho.2.2.2.1 (hR.to C), C.1.2.2.2.2 _ (mWs_in hv), trivial⟩ ⟨xBlind, hV⟩ rfl hn hl.1 hs (by show 2 * 0 + _ ≤ 8; omega) hd ⟨c1, c2⟩⟩
/-- invokespecial of a constructor -/
theorem x_callI {k idx n a : Nat} {Ar : List Value} (hk : (mIn M)[k]? = some (pc, .invokespecial idx, 3)) (ho : xOk M' n) (h1 : (mY M').name = "<init>") (h2 : mRt M' = none) (hv : Cond.instanceMethod (mY M') ∈ gW) (hw : Cond.methodLink (mOwn M) idx (mY M') ∈ gW) (hR : xRm M M') (hlen : (lg_sl (.ref a :: Ar)).length ≤ mNL M') (hn : Ar.length = n) (hst : (st.map fun v => v.category).sum ≤ 8) (hs : stk = Ar.reverse ++ .ref a :: st)
    (hb : xMe G M' (.ref a :: Ar) s Q') (kk : ∀ (r : Option Value) (s1 : xA), Q' r s1 → xE G M (pc + 3) ls (r.toList ++ st) s1 Q) : xE G M pc ls stk s Q := by
  refine xE.call (idx := idx) hk ho hlen (fun p ev U m args below meth c R l0 Qf r s' r1 s1 C H locs lsA hA hS hl hd c1 c2 hM hV => ?_) hb kk
  exact ⟨_, va_runI (As := Ar) (rest := st) (Ts := mWs M) (own := mOwn M) (nL := mNL M) C.1 hM (cwI (y := mY M') (bytes := mCd M') (maxL := mNL M') n C.1.2.2.2.2 (gIn (mWsIn ho)) (by rw [← h2]; rfl) rfl rfl (C.1.2.2.2.2 _ (mWs_in ho.2.1)) (C.1.2.2.2.2 _ (mWs_in hw)) (C.1.2.2.2.2 _ (mWs_in hv)) h1 ho.2.2.2.1 (hR.to C)) ⟨xBlind, hV⟩ rfl hn hl.1 hs (by show 2 * 0 + _ ≤ 8; omega) hd ⟨c1, c2⟩⟩
/-- invokespecial of a nest mate's private constructor -/
theorem x_callIN {k idx n a : Nat} {Ar : List Value} (hk : (mIn M)[k]? = some (pc, .invokespecial idx, 3)) (ho : xOk M' n) (h1 : (mY M').name = "<init>") (h2 : mRt M' = none) (hv : Cond.instanceMethod (mY M') ∈ gW) (hw : (mOwn M, idx, mY M') ∈ nestM) (hR : xRm M M') (hlen : (lg_sl (.ref a :: Ar)).length ≤ mNL M') (hn : Ar.length = n) (hst : (st.map fun v => v.category).sum ≤ 8) (hs : stk = Ar.reverse ++ .ref a :: st)
    (hb : xMe G M' (.ref a :: Ar) s Q') (kk : ∀ (r : Option Value) (s1 : xA), Q' r s1 → xE G M (pc + 3) ls (r.toList ++ st) s1 Q) : xE G M pc ls stk s Q := by
  refine xE.call (idx := idx) hk ho hlen (fun p ev U m args below meth c R l0 Qf r s' r1 s1 C H locs lsA hA hS hl hd c1 c2 hM hV => ?_) hb kk
  exact ⟨_, va_runIN (As := Ar) (rest := st) (Ts := mWs M) (own := mOwn M) (nL := mNL M) C.1 hM ⟨va_cnB (y := mY M') (bytes := mCd M') (maxL := mNL M') n C.1.2.2.2.2 (gIn (mWsIn ho)) (by rw [← h2]; rfl) rfl rfl (C.2.2.1.2.2.2.1 _ hw) (C.1.2.2.2.2 _ (mWs_in ho.2.1)) ho.2.2.2.1 (hR.to C), h1, C.1.2.2.2.2 _ (mWs_in hv)⟩ ⟨xBlind, hV⟩ rfl hn hl.1 hs (by show 2 * 0 + _ ≤ 8; omega) hd ⟨c1, c2⟩⟩
end XCALL
end
