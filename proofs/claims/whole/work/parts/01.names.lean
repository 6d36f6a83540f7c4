-- ===== PART A: goes FIRST, ahead of the names: the tables' words, and 'selects' of the private methods out of them =====
/-- a private method of a class that the tables say can be made, by its rows of tables_1 -/
def lw_okq (q : MethodName × Nat) : Prop := (q.1.cls ≠ "java/lang/invoke/MethodHandle" ∧ q.1.cls ≠ "java/lang/invoke/VarHandle") ∧ Cond.instantiable q.1.cls q.2 ∈ tables_1 ∧ Cond.privateMethod q.1 ∈ tables_1 ∧ Cond.instanceMethod q.1 ∈ tables_1
theorem lw_p0 : lw_okq (⟨"RelayParcels$World", "overlapsATrip", "(III)Z"⟩, 10) := ⟨⟨by decide +kernel, by decide +kernel⟩, List.mem_of_getElem? (i := 29) (by decide +kernel), List.mem_of_getElem? (i := 332) (by decide +kernel), List.mem_of_getElem? (i := 333) (by decide +kernel)⟩
theorem lw_p1 : lw_okq (⟨"RelayParcels$World", "setHolder", "(II)V"⟩, 10) := ⟨⟨by decide +kernel, by decide +kernel⟩, List.mem_of_getElem? (i := 29) (by decide +kernel), List.mem_of_getElem? (i := 425) (by decide +kernel), List.mem_of_getElem? (i := 426) (by decide +kernel)⟩
theorem lw_p2 : lw_okq (⟨"RelayParcels$World", "endTrips", "()I"⟩, 10) := ⟨⟨by decide +kernel, by decide +kernel⟩, List.mem_of_getElem? (i := 29) (by decide +kernel), List.mem_of_getElem? (i := 449) (by decide +kernel), List.mem_of_getElem? (i := 450) (by decide +kernel)⟩
theorem lw_p3 : lw_okq (⟨"RelayParcels$World", "startTrips", "()V"⟩, 10) := ⟨⟨by decide +kernel, by decide +kernel⟩, List.mem_of_getElem? (i := 29) (by decide +kernel), List.mem_of_getElem? (i := 453) (by decide +kernel), List.mem_of_getElem? (i := 454) (by decide +kernel)⟩
theorem lw_p4 : lw_okq (⟨"RelayParcels$World", "startTrip", "(I)V"⟩, 10) := ⟨⟨by decide +kernel, by decide +kernel⟩, List.mem_of_getElem? (i := 29) (by decide +kernel), List.mem_of_getElem? (i := 457) (by decide +kernel), List.mem_of_getElem? (i := 458) (by decide +kernel)⟩
theorem lw_p5 : lw_okq (⟨"RelayParcels$World", "handOverIfWordsFit", "(II)I"⟩, 10) := ⟨⟨by decide +kernel, by decide +kernel⟩, List.mem_of_getElem? (i := 29) (by decide +kernel), List.mem_of_getElem? (i := 489) (by decide +kernel), List.mem_of_getElem? (i := 490) (by decide +kernel)⟩
theorem lw_p6 : lw_okq (⟨"RelayParcels$World", "handOver", "(II)V"⟩, 10) := ⟨⟨by decide +kernel, by decide +kernel⟩, List.mem_of_getElem? (i := 29) (by decide +kernel), List.mem_of_getElem? (i := 497) (by decide +kernel), List.mem_of_getElem? (i := 498) (by decide +kernel)⟩
theorem lw_p7 : lw_okq (⟨"RelayParcels$World", "settleWithTaker", "(II)V"⟩, 10) := ⟨⟨by decide +kernel, by decide +kernel⟩, List.mem_of_getElem? (i := 29) (by decide +kernel), List.mem_of_getElem? (i := 501) (by decide +kernel), List.mem_of_getElem? (i := 502) (by decide +kernel)⟩
theorem lw_p8 : lw_okq (⟨"RelayParcels$World", "payFee", "(II)V"⟩, 10) := ⟨⟨by decide +kernel, by decide +kernel⟩, List.mem_of_getElem? (i := 29) (by decide +kernel), List.mem_of_getElem? (i := 505) (by decide +kernel), List.mem_of_getElem? (i := 506) (by decide +kernel)⟩
theorem lw_p9 : lw_okq (⟨"RelayParcels$World", "nextTripOf", "(I)I"⟩, 10) := ⟨⟨by decide +kernel, by decide +kernel⟩, List.mem_of_getElem? (i := 29) (by decide +kernel), List.mem_of_getElem? (i := 509) (by decide +kernel), List.mem_of_getElem? (i := 510) (by decide +kernel)⟩
theorem lw_p10 : lw_okq (⟨"RelayParcels$World", "missing", "(I)I"⟩, 10) := ⟨⟨by decide +kernel, by decide +kernel⟩, List.mem_of_getElem? (i := 29) (by decide +kernel), List.mem_of_getElem? (i := 572) (by decide +kernel), List.mem_of_getElem? (i := 573) (by decide +kernel)⟩
theorem lw_p11 : lw_okq (⟨"RelayParcels", "followOrder", "(I)I"⟩, 5) := ⟨⟨by decide +kernel, by decide +kernel⟩, List.mem_of_getElem? (i := 15) (by decide +kernel), List.mem_of_getElem? (i := 631) (by decide +kernel), List.mem_of_getElem? (i := 632) (by decide +kernel)⟩
theorem lw_p12 : lw_okq (⟨"RelayParcels$World", "tripsThatAre", "(I)I"⟩, 10) := ⟨⟨by decide +kernel, by decide +kernel⟩, List.mem_of_getElem? (i := 29) (by decide +kernel), List.mem_of_getElem? (i := 652) (by decide +kernel), List.mem_of_getElem? (i := 653) (by decide +kernel)⟩
theorem lw_p13 : lw_okq (⟨"RelayParcels$World", "parcelsThatAre", "(I)I"⟩, 10) := ⟨⟨by decide +kernel, by decide +kernel⟩, List.mem_of_getElem? (i := 29) (by decide +kernel), List.mem_of_getElem? (i := 656) (by decide +kernel), List.mem_of_getElem? (i := 657) (by decide +kernel)⟩
theorem lw_p14 : lw_okq (⟨"RelayParcels$World", "coinsOfAll", "()I"⟩, 10) := ⟨⟨by decide +kernel, by decide +kernel⟩, List.mem_of_getElem? (i := 29) (by decide +kernel), List.mem_of_getElem? (i := 660) (by decide +kernel), List.mem_of_getElem? (i := 661) (by decide +kernel)⟩
theorem lw_p15 : lw_okq (⟨"RelayParcels$Ways", "lookAtAllTrips", "()V"⟩, 11) := ⟨⟨by decide +kernel, by decide +kernel⟩, List.mem_of_getElem? (i := 254) (by decide +kernel), List.mem_of_getElem? (i := 718) (by decide +kernel), List.mem_of_getElem? (i := 719) (by decide +kernel)⟩
def lw_privs_1 : List (MethodName × Nat) := [(⟨"RelayParcels$World", "overlapsATrip", "(III)Z"⟩, 10), (⟨"RelayParcels$World", "setHolder", "(II)V"⟩, 10), (⟨"RelayParcels$World", "endTrips", "()I"⟩, 10), (⟨"RelayParcels$World", "startTrips", "()V"⟩, 10), (⟨"RelayParcels$World", "startTrip", "(I)V"⟩, 10), (⟨"RelayParcels$World", "handOverIfWordsFit", "(II)I"⟩, 10), (⟨"RelayParcels$World", "handOver", "(II)V"⟩, 10), (⟨"RelayParcels$World", "settleWithTaker", "(II)V"⟩, 10), (⟨"RelayParcels$World", "payFee", "(II)V"⟩, 10), (⟨"RelayParcels$World", "nextTripOf", "(I)I"⟩, 10), (⟨"RelayParcels$World", "missing", "(I)I"⟩, 10), (⟨"RelayParcels", "followOrder", "(I)I"⟩, 5), (⟨"RelayParcels$World", "tripsThatAre", "(I)I"⟩, 10), (⟨"RelayParcels$World", "parcelsThatAre", "(I)I"⟩, 10), (⟨"RelayParcels$World", "coinsOfAll", "()I"⟩, 10), (⟨"RelayParcels$Ways", "lookAtAllTrips", "()V"⟩, 11)]
theorem lw_r1 : ∀ q ∈ lw_privs_1, lw_okq q := List.forall_mem_cons.mpr ⟨lw_p0, List.forall_mem_cons.mpr ⟨lw_p1, List.forall_mem_cons.mpr ⟨lw_p2, List.forall_mem_cons.mpr ⟨lw_p3, List.forall_mem_cons.mpr ⟨lw_p4, List.forall_mem_cons.mpr ⟨lw_p5, List.forall_mem_cons.mpr ⟨lw_p6, List.forall_mem_cons.mpr ⟨lw_p7, List.forall_mem_cons.mpr ⟨lw_p8, List.forall_mem_cons.mpr ⟨lw_p9, List.forall_mem_cons.mpr ⟨lw_p10, List.forall_mem_cons.mpr ⟨lw_p11, List.forall_mem_cons.mpr ⟨lw_p12, List.forall_mem_cons.mpr ⟨lw_p13, List.forall_mem_cons.mpr ⟨lw_p14, List.forall_mem_cons.mpr ⟨lw_p15, fun _ h => absurd h List.not_mem_nil⟩⟩⟩⟩⟩⟩⟩⟩⟩⟩⟩⟩⟩⟩⟩⟩
theorem lw_p16 : lw_okq (⟨"RelayParcels$Ways", "latestNotLookedAt", "()I"⟩, 11) := ⟨⟨by decide +kernel, by decide +kernel⟩, List.mem_of_getElem? (i := 254) (by decide +kernel), List.mem_of_getElem? (i := 722) (by decide +kernel), List.mem_of_getElem? (i := 723) (by decide +kernel)⟩
theorem lw_p17 : lw_okq (⟨"RelayParcels$Ways", "lookAt", "(I)V"⟩, 11) := ⟨⟨by decide +kernel, by decide +kernel⟩, List.mem_of_getElem? (i := 254) (by decide +kernel), List.mem_of_getElem? (i := 726) (by decide +kernel), List.mem_of_getElem? (i := 727) (by decide +kernel)⟩
theorem lw_p18 : lw_okq (⟨"RelayParcels$Ways", "bestFrom", "(II)I"⟩, 11) := ⟨⟨by decide +kernel, by decide +kernel⟩, List.mem_of_getElem? (i := 254) (by decide +kernel), List.mem_of_getElem? (i := 730) (by decide +kernel), List.mem_of_getElem? (i := 731) (by decide +kernel)⟩
theorem lw_p19 : lw_okq (⟨"RelayParcels$Ways", "isBetter", "(II)Z"⟩, 11) := ⟨⟨by decide +kernel, by decide +kernel⟩, List.mem_of_getElem? (i := 254) (by decide +kernel), List.mem_of_getElem? (i := 738) (by decide +kernel), List.mem_of_getElem? (i := 739) (by decide +kernel)⟩
theorem lw_p20 : lw_okq (⟨"RelayParcels$Ways", "begin", "(II)V"⟩, 11) := ⟨⟨by decide +kernel, by decide +kernel⟩, List.mem_of_getElem? (i := 254) (by decide +kernel), List.mem_of_getElem? (i := 742) (by decide +kernel), List.mem_of_getElem? (i := 743) (by decide +kernel)⟩
theorem lw_p21 : lw_okq (⟨"RelayParcelsModel", "setsP", "(IIJ)V"⟩, 9) := ⟨⟨by decide +kernel, by decide +kernel⟩, List.mem_of_getElem? (i := 758) (by decide +kernel), List.mem_of_getElem? (i := 765) (by decide +kernel), List.mem_of_getElem? (i := 766) (by decide +kernel)⟩
theorem lw_p22 : lw_okq (⟨"RelayParcelsModel", "records", "()V"⟩, 9) := ⟨⟨by decide +kernel, by decide +kernel⟩, List.mem_of_getElem? (i := 758) (by decide +kernel), List.mem_of_getElem? (i := 811) (by decide +kernel), List.mem_of_getElem? (i := 812) (by decide +kernel)⟩
theorem lw_p23 : lw_okq (⟨"RelayParcelsModel", "hour", "()I"⟩, 9) := ⟨⟨by decide +kernel, by decide +kernel⟩, List.mem_of_getElem? (i := 758) (by decide +kernel), List.mem_of_getElem? (i := 815) (by decide +kernel), List.mem_of_getElem? (i := 816) (by decide +kernel)⟩
theorem lw_p24 : lw_okq (⟨"RelayParcelsModel", "overlaps", "(IIII)Z"⟩, 9) := ⟨⟨by decide +kernel, by decide +kernel⟩, List.mem_of_getElem? (i := 758) (by decide +kernel), List.mem_of_getElem? (i := 837) (by decide +kernel), List.mem_of_getElem? (i := 838) (by decide +kernel)⟩
theorem lw_p25 : lw_okq (⟨"RelayParcelsModel", "ofT", "(II)I"⟩, 9) := ⟨⟨by decide +kernel, by decide +kernel⟩, List.mem_of_getElem? (i := 758) (by decide +kernel), List.mem_of_getElem? (i := 841) (by decide +kernel), List.mem_of_getElem? (i := 842) (by decide +kernel)⟩
theorem lw_p26 : lw_okq (⟨"RelayParcelsModel", "setsT", "(IIJ)V"⟩, 9) := ⟨⟨by decide +kernel, by decide +kernel⟩, List.mem_of_getElem? (i := 758) (by decide +kernel), List.mem_of_getElem? (i := 846) (by decide +kernel), List.mem_of_getElem? (i := 847) (by decide +kernel)⟩
theorem lw_p27 : lw_okq (⟨"RelayParcelsModel", "isTrip", "(I)Z"⟩, 9) := ⟨⟨by decide +kernel, by decide +kernel⟩, List.mem_of_getElem? (i := 758) (by decide +kernel), List.mem_of_getElem? (i := 854) (by decide +kernel), List.mem_of_getElem? (i := 855) (by decide +kernel)⟩
theorem lw_p28 : lw_okq (⟨"RelayParcelsModel", "passesHour", "()I"⟩, 9) := ⟨⟨by decide +kernel, by decide +kernel⟩, List.mem_of_getElem? (i := 758) (by decide +kernel), List.mem_of_getElem? (i := 864) (by decide +kernel), List.mem_of_getElem? (i := 865) (by decide +kernel)⟩
theorem lw_p29 : lw_okq (⟨"RelayParcelsModel", "leaves", "(I)V"⟩, 9) := ⟨⟨by decide +kernel, by decide +kernel⟩, List.mem_of_getElem? (i := 758) (by decide +kernel), List.mem_of_getElem? (i := 869) (by decide +kernel), List.mem_of_getElem? (i := 870) (by decide +kernel)⟩
theorem lw_p30 : lw_okq (⟨"RelayParcelsModel", "ofP", "(II)I"⟩, 9) := ⟨⟨by decide +kernel, by decide +kernel⟩, List.mem_of_getElem? (i := 758) (by decide +kernel), List.mem_of_getElem? (i := 873) (by decide +kernel), List.mem_of_getElem? (i := 874) (by decide +kernel)⟩
theorem lw_p31 : lw_okq (⟨"RelayParcelsModel", "stands", "(I)V"⟩, 9) := ⟨⟨by decide +kernel, by decide +kernel⟩, List.mem_of_getElem? (i := 758) (by decide +kernel), List.mem_of_getElem? (i := 877) (by decide +kernel), List.mem_of_getElem? (i := 878) (by decide +kernel)⟩
def lw_privs_2 : List (MethodName × Nat) := [(⟨"RelayParcels$Ways", "latestNotLookedAt", "()I"⟩, 11), (⟨"RelayParcels$Ways", "lookAt", "(I)V"⟩, 11), (⟨"RelayParcels$Ways", "bestFrom", "(II)I"⟩, 11), (⟨"RelayParcels$Ways", "isBetter", "(II)Z"⟩, 11), (⟨"RelayParcels$Ways", "begin", "(II)V"⟩, 11), (⟨"RelayParcelsModel", "setsP", "(IIJ)V"⟩, 9), (⟨"RelayParcelsModel", "records", "()V"⟩, 9), (⟨"RelayParcelsModel", "hour", "()I"⟩, 9), (⟨"RelayParcelsModel", "overlaps", "(IIII)Z"⟩, 9), (⟨"RelayParcelsModel", "ofT", "(II)I"⟩, 9), (⟨"RelayParcelsModel", "setsT", "(IIJ)V"⟩, 9), (⟨"RelayParcelsModel", "isTrip", "(I)Z"⟩, 9), (⟨"RelayParcelsModel", "passesHour", "()I"⟩, 9), (⟨"RelayParcelsModel", "leaves", "(I)V"⟩, 9), (⟨"RelayParcelsModel", "ofP", "(II)I"⟩, 9), (⟨"RelayParcelsModel", "stands", "(I)V"⟩, 9)]
theorem lw_r2 : ∀ q ∈ lw_privs_2, lw_okq q := List.forall_mem_cons.mpr ⟨lw_p16, List.forall_mem_cons.mpr ⟨lw_p17, List.forall_mem_cons.mpr ⟨lw_p18, List.forall_mem_cons.mpr ⟨lw_p19, List.forall_mem_cons.mpr ⟨lw_p20, List.forall_mem_cons.mpr ⟨lw_p21, List.forall_mem_cons.mpr ⟨lw_p22, List.forall_mem_cons.mpr ⟨lw_p23, List.forall_mem_cons.mpr ⟨lw_p24, List.forall_mem_cons.mpr ⟨lw_p25, List.forall_mem_cons.mpr ⟨lw_p26, List.forall_mem_cons.mpr ⟨lw_p27, List.forall_mem_cons.mpr ⟨lw_p28, List.forall_mem_cons.mpr ⟨lw_p29, List.forall_mem_cons.mpr ⟨lw_p30, List.forall_mem_cons.mpr ⟨lw_p31, fun _ h => absurd h List.not_mem_nil⟩⟩⟩⟩⟩⟩⟩⟩⟩⟩⟩⟩⟩⟩⟩⟩
theorem lw_p32 : lw_okq (⟨"RelayParcelsModel", "of", "(II)I"⟩, 9) := ⟨⟨by decide +kernel, by decide +kernel⟩, List.mem_of_getElem? (i := 758) (by decide +kernel), List.mem_of_getElem? (i := 881) (by decide +kernel), List.mem_of_getElem? (i := 882) (by decide +kernel)⟩
theorem lw_p33 : lw_okq (⟨"RelayParcelsModel", "heldBy", "(I)I"⟩, 9) := ⟨⟨by decide +kernel, by decide +kernel⟩, List.mem_of_getElem? (i := 758) (by decide +kernel), List.mem_of_getElem? (i := 895) (by decide +kernel), List.mem_of_getElem? (i := 896) (by decide +kernel)⟩
theorem lw_p34 : lw_okq (⟨"RelayParcelsModel", "sets", "(IIJ)V"⟩, 9) := ⟨⟨by decide +kernel, by decide +kernel⟩, List.mem_of_getElem? (i := 758) (by decide +kernel), List.mem_of_getElem? (i := 900) (by decide +kernel), List.mem_of_getElem? (i := 901) (by decide +kernel)⟩
theorem lw_p35 : lw_okq (⟨"RelayParcelsModel", "comesTo", "(II)V"⟩, 9) := ⟨⟨by decide +kernel, by decide +kernel⟩, List.mem_of_getElem? (i := 758) (by decide +kernel), List.mem_of_getElem? (i := 904) (by decide +kernel), List.mem_of_getElem? (i := 905) (by decide +kernel)⟩
theorem lw_p36 : lw_okq (⟨"RelayParcelsModel", "wordError", "(III)I"⟩, 9) := ⟨⟨by decide +kernel, by decide +kernel⟩, List.mem_of_getElem? (i := 758) (by decide +kernel), List.mem_of_getElem? (i := 912) (by decide +kernel), List.mem_of_getElem? (i := 913) (by decide +kernel)⟩
theorem lw_p37 : lw_okq (⟨"RelayParcelsModel", "isParcel", "(I)Z"⟩, 9) := ⟨⟨by decide +kernel, by decide +kernel⟩, List.mem_of_getElem? (i := 758) (by decide +kernel), List.mem_of_getElem? (i := 916) (by decide +kernel), List.mem_of_getElem? (i := 917) (by decide +kernel)⟩
theorem lw_p38 : lw_okq (⟨"RelayParcelsModel", "says", "(III)I"⟩, 9) := ⟨⟨by decide +kernel, by decide +kernel⟩, List.mem_of_getElem? (i := 758) (by decide +kernel), List.mem_of_getElem? (i := 920) (by decide +kernel), List.mem_of_getElem? (i := 921) (by decide +kernel)⟩
theorem lw_p39 : lw_okq (⟨"RelayParcelsModel", "receives", "(II)V"⟩, 9) := ⟨⟨by decide +kernel, by decide +kernel⟩, List.mem_of_getElem? (i := 758) (by decide +kernel), List.mem_of_getElem? (i := 924) (by decide +kernel), List.mem_of_getElem? (i := 925) (by decide +kernel)⟩
theorem lw_p40 : lw_okq (⟨"RelayParcelsModel", "firstTrip", "(II)I"⟩, 9) := ⟨⟨by decide +kernel, by decide +kernel⟩, List.mem_of_getElem? (i := 758) (by decide +kernel), List.mem_of_getElem? (i := 928) (by decide +kernel), List.mem_of_getElem? (i := 929) (by decide +kernel)⟩
theorem lw_p41 : lw_okq (⟨"RelayParcelsModel", "pays", "(III)V"⟩, 9) := ⟨⟨by decide +kernel, by decide +kernel⟩, List.mem_of_getElem? (i := 758) (by decide +kernel), List.mem_of_getElem? (i := 932) (by decide +kernel), List.mem_of_getElem? (i := 933) (by decide +kernel)⟩
theorem lw_p42 : lw_okq (⟨"RelayParcelsModel", "putError", "(II)I"⟩, 9) := ⟨⟨by decide +kernel, by decide +kernel⟩, List.mem_of_getElem? (i := 758) (by decide +kernel), List.mem_of_getElem? (i := 944) (by decide +kernel), List.mem_of_getElem? (i := 945) (by decide +kernel)⟩
theorem lw_p43 : lw_okq (⟨"RelayParcelsModel", "puts", "(II)I"⟩, 9) := ⟨⟨by decide +kernel, by decide +kernel⟩, List.mem_of_getElem? (i := 758) (by decide +kernel), List.mem_of_getElem? (i := 948) (by decide +kernel), List.mem_of_getElem? (i := 949) (by decide +kernel)⟩
theorem lw_p44 : lw_okq (⟨"RelayParcelsModel", "fetchError", "(II)I"⟩, 9) := ⟨⟨by decide +kernel, by decide +kernel⟩, List.mem_of_getElem? (i := 758) (by decide +kernel), List.mem_of_getElem? (i := 956) (by decide +kernel), List.mem_of_getElem? (i := 957) (by decide +kernel)⟩
theorem lw_p45 : lw_okq (⟨"RelayParcelsModel", "fetches", "(II)I"⟩, 9) := ⟨⟨by decide +kernel, by decide +kernel⟩, List.mem_of_getElem? (i := 758) (by decide +kernel), List.mem_of_getElem? (i := 960) (by decide +kernel), List.mem_of_getElem? (i := 961) (by decide +kernel)⟩
theorem lw_p46 : lw_okq (⟨"RelayParcelsModel", "fundPays", "(I)I"⟩, 9) := ⟨⟨by decide +kernel, by decide +kernel⟩, List.mem_of_getElem? (i := 758) (by decide +kernel), List.mem_of_getElem? (i := 968) (by decide +kernel), List.mem_of_getElem? (i := 969) (by decide +kernel)⟩
theorem lw_p47 : lw_okq (⟨"RelayParcelsModel", "owes", "(II)I"⟩, 9) := ⟨⟨by decide +kernel, by decide +kernel⟩, List.mem_of_getElem? (i := 758) (by decide +kernel), List.mem_of_getElem? (i := 975) (by decide +kernel), List.mem_of_getElem? (i := 976) (by decide +kernel)⟩
def lw_privs_3 : List (MethodName × Nat) := [(⟨"RelayParcelsModel", "of", "(II)I"⟩, 9), (⟨"RelayParcelsModel", "heldBy", "(I)I"⟩, 9), (⟨"RelayParcelsModel", "sets", "(IIJ)V"⟩, 9), (⟨"RelayParcelsModel", "comesTo", "(II)V"⟩, 9), (⟨"RelayParcelsModel", "wordError", "(III)I"⟩, 9), (⟨"RelayParcelsModel", "isParcel", "(I)Z"⟩, 9), (⟨"RelayParcelsModel", "says", "(III)I"⟩, 9), (⟨"RelayParcelsModel", "receives", "(II)V"⟩, 9), (⟨"RelayParcelsModel", "firstTrip", "(II)I"⟩, 9), (⟨"RelayParcelsModel", "pays", "(III)V"⟩, 9), (⟨"RelayParcelsModel", "putError", "(II)I"⟩, 9), (⟨"RelayParcelsModel", "puts", "(II)I"⟩, 9), (⟨"RelayParcelsModel", "fetchError", "(II)I"⟩, 9), (⟨"RelayParcelsModel", "fetches", "(II)I"⟩, 9), (⟨"RelayParcelsModel", "fundPays", "(I)I"⟩, 9), (⟨"RelayParcelsModel", "owes", "(II)I"⟩, 9)]
theorem lw_r3 : ∀ q ∈ lw_privs_3, lw_okq q := List.forall_mem_cons.mpr ⟨lw_p32, List.forall_mem_cons.mpr ⟨lw_p33, List.forall_mem_cons.mpr ⟨lw_p34, List.forall_mem_cons.mpr ⟨lw_p35, List.forall_mem_cons.mpr ⟨lw_p36, List.forall_mem_cons.mpr ⟨lw_p37, List.forall_mem_cons.mpr ⟨lw_p38, List.forall_mem_cons.mpr ⟨lw_p39, List.forall_mem_cons.mpr ⟨lw_p40, List.forall_mem_cons.mpr ⟨lw_p41, List.forall_mem_cons.mpr ⟨lw_p42, List.forall_mem_cons.mpr ⟨lw_p43, List.forall_mem_cons.mpr ⟨lw_p44, List.forall_mem_cons.mpr ⟨lw_p45, List.forall_mem_cons.mpr ⟨lw_p46, List.forall_mem_cons.mpr ⟨lw_p47, fun _ h => absurd h List.not_mem_nil⟩⟩⟩⟩⟩⟩⟩⟩⟩⟩⟩⟩⟩⟩⟩⟩
theorem lw_p48 : lw_okq (⟨"RelayParcelsModel", "faultOf", "()I"⟩, 9) := ⟨⟨by decide +kernel, by decide +kernel⟩, List.mem_of_getElem? (i := 758) (by decide +kernel), List.mem_of_getElem? (i := 996) (by decide +kernel), List.mem_of_getElem? (i := 997) (by decide +kernel)⟩
theorem lw_p49 : lw_okq (⟨"RelayParcelsModel", "passesOrder", "()Z"⟩, 9) := ⟨⟨by decide +kernel, by decide +kernel⟩, List.mem_of_getElem? (i := 758) (by decide +kernel), List.mem_of_getElem? (i := 1000) (by decide +kernel), List.mem_of_getElem? (i := 1001) (by decide +kernel)⟩
theorem lw_p50 : lw_okq (⟨"RelayParcelsModel", "isHere", "(II)Z"⟩, 9) := ⟨⟨by decide +kernel, by decide +kernel⟩, List.mem_of_getElem? (i := 758) (by decide +kernel), List.mem_of_getElem? (i := 1004) (by decide +kernel), List.mem_of_getElem? (i := 1005) (by decide +kernel)⟩
theorem lw_p51 : lw_okq (⟨"RelayParcelsModel", "orderError", "()I"⟩, 9) := ⟨⟨by decide +kernel, by decide +kernel⟩, List.mem_of_getElem? (i := 758) (by decide +kernel), List.mem_of_getElem? (i := 1008) (by decide +kernel), List.mem_of_getElem? (i := 1009) (by decide +kernel)⟩
theorem lw_p52 : lw_okq (⟨"RelayParcelsModel", "does", "()I"⟩, 9) := ⟨⟨by decide +kernel, by decide +kernel⟩, List.mem_of_getElem? (i := 758) (by decide +kernel), List.mem_of_getElem? (i := 1012) (by decide +kernel), List.mem_of_getElem? (i := 1013) (by decide +kernel)⟩
theorem lw_p53 : lw_okq (⟨"RelayParcelsModel", "tripsIn", "(I)I"⟩, 9) := ⟨⟨by decide +kernel, by decide +kernel⟩, List.mem_of_getElem? (i := 758) (by decide +kernel), List.mem_of_getElem? (i := 1021) (by decide +kernel), List.mem_of_getElem? (i := 1022) (by decide +kernel)⟩
theorem lw_p54 : lw_okq (⟨"RelayParcelsModel", "parcelsIn", "(I)I"⟩, 9) := ⟨⟨by decide +kernel, by decide +kernel⟩, List.mem_of_getElem? (i := 758) (by decide +kernel), List.mem_of_getElem? (i := 1027) (by decide +kernel), List.mem_of_getElem? (i := 1028) (by decide +kernel)⟩
theorem lw_p55 : lw_okq (⟨"RelayParcelsModel", "allCoins", "()I"⟩, 9) := ⟨⟨by decide +kernel, by decide +kernel⟩, List.mem_of_getElem? (i := 758) (by decide +kernel), List.mem_of_getElem? (i := 1031) (by decide +kernel), List.mem_of_getElem? (i := 1032) (by decide +kernel)⟩
theorem lw_p56 : lw_okq (⟨"RelayParcelsModel", "townOf", "(I)I"⟩, 9) := ⟨⟨by decide +kernel, by decide +kernel⟩, List.mem_of_getElem? (i := 758) (by decide +kernel), List.mem_of_getElem? (i := 1047) (by decide +kernel), List.mem_of_getElem? (i := 1048) (by decide +kernel)⟩
theorem lw_p57 : lw_okq (⟨"RelayParcelsModel", "stood", "(II)I"⟩, 9) := ⟨⟨by decide +kernel, by decide +kernel⟩, List.mem_of_getElem? (i := 758) (by decide +kernel), List.mem_of_getElem? (i := 1055) (by decide +kernel), List.mem_of_getElem? (i := 1056) (by decide +kernel)⟩
theorem lw_p58 : lw_okq (⟨"RelayParcelsModel", "wayError", "(III)I"⟩, 9) := ⟨⟨by decide +kernel, by decide +kernel⟩, List.mem_of_getElem? (i := 758) (by decide +kernel), List.mem_of_getElem? (i := 1067) (by decide +kernel), List.mem_of_getElem? (i := 1068) (by decide +kernel)⟩
theorem lw_p59 : lw_okq (⟨"RelayParcelsModel", "isThere", "(I)Z"⟩, 9) := ⟨⟨by decide +kernel, by decide +kernel⟩, List.mem_of_getElem? (i := 758) (by decide +kernel), List.mem_of_getElem? (i := 1071) (by decide +kernel), List.mem_of_getElem? (i := 1072) (by decide +kernel)⟩
theorem lw_p60 : lw_okq (⟨"RelayParcelsModel", "startTown", "(I)I"⟩, 9) := ⟨⟨by decide +kernel, by decide +kernel⟩, List.mem_of_getElem? (i := 758) (by decide +kernel), List.mem_of_getElem? (i := 1075) (by decide +kernel), List.mem_of_getElem? (i := 1076) (by decide +kernel)⟩
theorem lw_p61 : lw_okq (⟨"RelayParcelsModel", "startHour", "(I)I"⟩, 9) := ⟨⟨by decide +kernel, by decide +kernel⟩, List.mem_of_getElem? (i := 758) (by decide +kernel), List.mem_of_getElem? (i := 1079) (by decide +kernel), List.mem_of_getElem? (i := 1080) (by decide +kernel)⟩
theorem lw_p62 : lw_okq (⟨"RelayParcelsModel", "earliestBy", "(II)I"⟩, 9) := ⟨⟨by decide +kernel, by decide +kernel⟩, List.mem_of_getElem? (i := 758) (by decide +kernel), List.mem_of_getElem? (i := 1083) (by decide +kernel), List.mem_of_getElem? (i := 1084) (by decide +kernel)⟩
theorem lw_p63 : lw_okq (⟨"RelayParcelsModel", "findBest", "(III)V"⟩, 9) := ⟨⟨by decide +kernel, by decide +kernel⟩, List.mem_of_getElem? (i := 758) (by decide +kernel), List.mem_of_getElem? (i := 1087) (by decide +kernel), List.mem_of_getElem? (i := 1088) (by decide +kernel)⟩
def lw_privs_4 : List (MethodName × Nat) := [(⟨"RelayParcelsModel", "faultOf", "()I"⟩, 9), (⟨"RelayParcelsModel", "passesOrder", "()Z"⟩, 9), (⟨"RelayParcelsModel", "isHere", "(II)Z"⟩, 9), (⟨"RelayParcelsModel", "orderError", "()I"⟩, 9), (⟨"RelayParcelsModel", "does", "()I"⟩, 9), (⟨"RelayParcelsModel", "tripsIn", "(I)I"⟩, 9), (⟨"RelayParcelsModel", "parcelsIn", "(I)I"⟩, 9), (⟨"RelayParcelsModel", "allCoins", "()I"⟩, 9), (⟨"RelayParcelsModel", "townOf", "(I)I"⟩, 9), (⟨"RelayParcelsModel", "stood", "(II)I"⟩, 9), (⟨"RelayParcelsModel", "wayError", "(III)I"⟩, 9), (⟨"RelayParcelsModel", "isThere", "(I)Z"⟩, 9), (⟨"RelayParcelsModel", "startTown", "(I)I"⟩, 9), (⟨"RelayParcelsModel", "startHour", "(I)I"⟩, 9), (⟨"RelayParcelsModel", "earliestBy", "(II)I"⟩, 9), (⟨"RelayParcelsModel", "findBest", "(III)V"⟩, 9)]
theorem lw_r4 : ∀ q ∈ lw_privs_4, lw_okq q := List.forall_mem_cons.mpr ⟨lw_p48, List.forall_mem_cons.mpr ⟨lw_p49, List.forall_mem_cons.mpr ⟨lw_p50, List.forall_mem_cons.mpr ⟨lw_p51, List.forall_mem_cons.mpr ⟨lw_p52, List.forall_mem_cons.mpr ⟨lw_p53, List.forall_mem_cons.mpr ⟨lw_p54, List.forall_mem_cons.mpr ⟨lw_p55, List.forall_mem_cons.mpr ⟨lw_p56, List.forall_mem_cons.mpr ⟨lw_p57, List.forall_mem_cons.mpr ⟨lw_p58, List.forall_mem_cons.mpr ⟨lw_p59, List.forall_mem_cons.mpr ⟨lw_p60, List.forall_mem_cons.mpr ⟨lw_p61, List.forall_mem_cons.mpr ⟨lw_p62, List.forall_mem_cons.mpr ⟨lw_p63, fun _ h => absurd h List.not_mem_nil⟩⟩⟩⟩⟩⟩⟩⟩⟩⟩⟩⟩⟩⟩⟩⟩
theorem lw_p64 : lw_okq (⟨"RelayParcelsModel", "isFirst", "(II)Z"⟩, 9) := ⟨⟨by decide +kernel, by decide +kernel⟩, List.mem_of_getElem? (i := 758) (by decide +kernel), List.mem_of_getElem? (i := 1091) (by decide +kernel), List.mem_of_getElem? (i := 1092) (by decide +kernel)⟩
theorem lw_p65 : lw_okq (⟨"RelayParcelsModel", "adds", "(II)I"⟩, 9) := ⟨⟨by decide +kernel, by decide +kernel⟩, List.mem_of_getElem? (i := 758) (by decide +kernel), List.mem_of_getElem? (i := 1095) (by decide +kernel), List.mem_of_getElem? (i := 1096) (by decide +kernel)⟩
theorem lw_p66 : lw_okq (⟨"RelayParcelsModel", "joins", "(II)Z"⟩, 9) := ⟨⟨by decide +kernel, by decide +kernel⟩, List.mem_of_getElem? (i := 758) (by decide +kernel), List.mem_of_getElem? (i := 1100) (by decide +kernel), List.mem_of_getElem? (i := 1101) (by decide +kernel)⟩
theorem lw_p67 : lw_okq (⟨"RelayParcelsModel", "arrival", "(II)I"⟩, 9) := ⟨⟨by decide +kernel, by decide +kernel⟩, List.mem_of_getElem? (i := 758) (by decide +kernel), List.mem_of_getElem? (i := 1104) (by decide +kernel), List.mem_of_getElem? (i := 1105) (by decide +kernel)⟩
theorem lw_p68 : lw_okq (⟨"RelayParcelsModel", "least", "(II)I"⟩, 9) := ⟨⟨by decide +kernel, by decide +kernel⟩, List.mem_of_getElem? (i := 758) (by decide +kernel), List.mem_of_getElem? (i := 1108) (by decide +kernel), List.mem_of_getElem? (i := 1109) (by decide +kernel)⟩
theorem lw_p69 : lw_okq (⟨"RelayParcelsModel", "firstOf", "(II)I"⟩, 9) := ⟨⟨by decide +kernel, by decide +kernel⟩, List.mem_of_getElem? (i := 758) (by decide +kernel), List.mem_of_getElem? (i := 1112) (by decide +kernel), List.mem_of_getElem? (i := 1113) (by decide +kernel)⟩
def lw_privs_5 : List (MethodName × Nat) := [(⟨"RelayParcelsModel", "isFirst", "(II)Z"⟩, 9), (⟨"RelayParcelsModel", "adds", "(II)I"⟩, 9), (⟨"RelayParcelsModel", "joins", "(II)Z"⟩, 9), (⟨"RelayParcelsModel", "arrival", "(II)I"⟩, 9), (⟨"RelayParcelsModel", "least", "(II)I"⟩, 9), (⟨"RelayParcelsModel", "firstOf", "(II)I"⟩, 9)]
theorem lw_r5 : ∀ q ∈ lw_privs_5, lw_okq q := List.forall_mem_cons.mpr ⟨lw_p64, List.forall_mem_cons.mpr ⟨lw_p65, List.forall_mem_cons.mpr ⟨lw_p66, List.forall_mem_cons.mpr ⟨lw_p67, List.forall_mem_cons.mpr ⟨lw_p68, List.forall_mem_cons.mpr ⟨lw_p69, fun _ h => absurd h List.not_mem_nil⟩⟩⟩⟩⟩⟩
def lw_privs : List (MethodName × Nat) := lw_privs_1 ++ (lw_privs_2 ++ (lw_privs_3 ++ (lw_privs_4 ++ (lw_privs_5))))
def lw_tbl : List Cond := k2_sels lw_privs ++ tables_1
theorem lw_privs_ok : ∀ q ∈ lw_privs, lw_okq q := by
  show ∀ q ∈ lw_privs_1 ++ (lw_privs_2 ++ (lw_privs_3 ++ (lw_privs_4 ++ (lw_privs_5)))), lw_okq q
  exact List.forall_mem_append.mpr ⟨lw_r1, List.forall_mem_append.mpr ⟨lw_r2, List.forall_mem_append.mpr ⟨lw_r3, List.forall_mem_append.mpr ⟨lw_r4, lw_r5⟩⟩⟩⟩
def RX0 : String := "RelayParcels$History"
def TX0 : u_T := fun k => match k with
  | 0 => ("RelayParcels$History", "ring", "[LRelayParcels$State;", true)
  | 1 => ("RelayParcels$History", "newest", "I", false)
  | _ => ("RelayParcels$History", "kept", "I", false)
def tyX0 : Nat → FieldType := fun k => match k with
  | 0 => .array (.object "RelayParcels$State")
  | 1 => .int
  | _ => .int
abbrev wsX00 : List Cond := u_ws RX0 TX0 3
theorem nmX0 : ∀ a, a < 3 → ∀ b, b < 3 → a ≠ b → (TX0 a).2.1 ≠ (TX0 b).2.1 := by decide +kernel
theorem tyX0_ok : ∀ k, k < 3 → parseFieldDescriptor (TX0 k).2.2.1 = some (tyX0 k) := by decide +kernel
abbrev cX0_init : ByteArray := prog_2_method_1_code
def yX0_init : MethodName := ⟨RX0, "<init>", "()V"⟩
abbrev cX0_keep : ByteArray := prog_2_method_2_code
def yX0_keep : MethodName := ⟨RX0, "keep", "(LRelayParcels$State;)V"⟩
abbrev cX0_removeLatest : ByteArray := prog_2_method_3_code
def yX0_removeLatest : MethodName := ⟨RX0, "removeLatest", "()LRelayParcels$State;"⟩
def RX1 : String := "RelayParcels$Holders"
def TX1 : u_T := fun k => match k with
  | 0 => ("RelayParcels$Holders", "entries", "[I", true)
  | _ => ("RelayParcels$Holders", "size", "I", false)
def tyX1 : Nat → FieldType := fun k => match k with
  | 0 => .array .int
  | _ => .int
abbrev wsX10 : List Cond := u_ws RX1 TX1 2
theorem nmX1 : ∀ a, a < 2 → ∀ b, b < 2 → a ≠ b → (TX1 a).2.1 ≠ (TX1 b).2.1 := by decide +kernel
theorem tyX1_ok : ∀ k, k < 2 → parseFieldDescriptor (TX1 k).2.2.1 = some (tyX1 k) := by decide +kernel
abbrev cX1_init : ByteArray := prog_3_method_1_code
def yX1_init : MethodName := ⟨RX1, "<init>", "()V"⟩
abbrev cX1_copyFrom : ByteArray := prog_3_method_2_code
def yX1_copyFrom : MethodName := ⟨RX1, "copyFrom", "(LRelayParcels$Holders;)V"⟩
abbrev cX1_note : ByteArray := prog_3_method_3_code
def yX1_note : MethodName := ⟨RX1, "note", "(III)V"⟩
abbrev cX1_lookUp : ByteArray := prog_3_method_4_code
def yX1_lookUp : MethodName := ⟨RX1, "lookUp", "(II)I"⟩
def RX2 : String := "RelayParcels$Parcel"
def TX2 : u_T := fun k => match k with
  | 0 => ("RelayParcels$Parcel", "sender", "I", false)
  | 1 => ("RelayParcels$Parcel", "receiver", "I", false)
  | 2 => ("RelayParcels$Parcel", "destination", "I", false)
  | 3 => ("RelayParcels$Parcel", "worth", "I", false)
  | 4 => ("RelayParcels$Parcel", "tier", "I", false)
  | 5 => ("RelayParcels$Parcel", "state", "I", false)
  | 6 => ("RelayParcels$Parcel", "holder", "I", false)
  | 7 => ("RelayParcels$Parcel", "heldSince", "I", false)
  | 8 => ("RelayParcels$Parcel", "givenTo", "I", false)
  | _ => ("RelayParcels$Parcel", "takenBy", "I", false)
def tyX2 : Nat → FieldType := fun k => match k with
  | 0 => .int
  | 1 => .int
  | 2 => .int
  | 3 => .int
  | 4 => .int
  | 5 => .int
  | 6 => .int
  | 7 => .int
  | 8 => .int
  | _ => .int
abbrev wsX20 : List Cond := u_ws RX2 TX2 10
theorem nmX2 : ∀ a, a < 10 → ∀ b, b < 10 → a ≠ b → (TX2 a).2.1 ≠ (TX2 b).2.1 := by decide +kernel
theorem tyX2_ok : ∀ k, k < 10 → parseFieldDescriptor (TX2 k).2.2.1 = some (tyX2 k) := by decide +kernel
abbrev cX2_init : ByteArray := prog_4_method_1_code
def yX2_init : MethodName := ⟨RX2, "<init>", "()V"⟩
abbrev cX2_copyFrom : ByteArray := prog_4_method_2_code
def yX2_copyFrom : MethodName := ⟨RX2, "copyFrom", "(LRelayParcels$Parcel;)V"⟩
abbrev cX2_dropWords : ByteArray := prog_4_method_3_code
def yX2_dropWords : MethodName := ⟨RX2, "dropWords", "()V"⟩
abbrev cX2_wordsFit : ByteArray := prog_4_method_4_code
def yX2_wordsFit : MethodName := ⟨RX2, "wordsFit", "()Z"⟩
def RX3 : String := "RelayParcels$Person"
def TX3 : u_T := fun k => match k with
  | 0 => ("RelayParcels$Person", "coins", "I", false)
  | 1 => ("RelayParcels$Person", "deposit", "I", false)
  | 2 => ("RelayParcels$Person", "town", "I", false)
  | 3 => ("RelayParcels$Person", "tripOn", "I", false)
  | _ => ("RelayParcels$Person", "feesGot", "I", false)
def tyX3 : Nat → FieldType := fun k => match k with
  | 0 => .int
  | 1 => .int
  | 2 => .int
  | 3 => .int
  | _ => .int
abbrev wsX30 : List Cond := u_ws RX3 TX3 5
theorem nmX3 : ∀ a, a < 5 → ∀ b, b < 5 → a ≠ b → (TX3 a).2.1 ≠ (TX3 b).2.1 := by decide +kernel
theorem tyX3_ok : ∀ k, k < 5 → parseFieldDescriptor (TX3 k).2.2.1 = some (tyX3 k) := by decide +kernel
abbrev cX3_init : ByteArray := prog_5_method_1_code
def yX3_init : MethodName := ⟨RX3, "<init>", "(I)V"⟩
abbrev cX3_copyFrom : ByteArray := prog_5_method_2_code
def yX3_copyFrom : MethodName := ⟨RX3, "copyFrom", "(LRelayParcels$Person;)V"⟩
def RX4 : String := "RelayParcels$State"
def TX4 : u_T := fun k => match k with
  | 0 => ("RelayParcels$State", "world", "LRelayParcels$World;", true)
  | 1 => ("RelayParcels$State", "rows", "[LRelayParcels$World;", true)
  | _ => ("RelayParcels$State", "filled", "[Z", true)
def tyX4 : Nat → FieldType := fun k => match k with
  | 0 => .object "RelayParcels$World"
  | 1 => .array (.object "RelayParcels$World")
  | _ => .array .boolean
abbrev wsX40 : List Cond := u_ws RX4 TX4 3
theorem nmX4 : ∀ a, a < 3 → ∀ b, b < 3 → a ≠ b → (TX4 a).2.1 ≠ (TX4 b).2.1 := by decide +kernel
theorem tyX4_ok : ∀ k, k < 3 → parseFieldDescriptor (TX4 k).2.2.1 = some (tyX4 k) := by decide +kernel
abbrev cX4_init : ByteArray := prog_6_method_1_code
def yX4_init : MethodName := ⟨RX4, "<init>", "()V"⟩
abbrev cX4_copyFrom : ByteArray := prog_6_method_2_code
def yX4_copyFrom : MethodName := ⟨RX4, "copyFrom", "(LRelayParcels$State;)V"⟩
abbrev cX4_fillSlot : ByteArray := prog_6_method_3_code
def yX4_fillSlot : MethodName := ⟨RX4, "fillSlot", "(ILRelayParcels$World;)V"⟩
abbrev cX4_snapshotIn : ByteArray := prog_6_method_4_code
def yX4_snapshotIn : MethodName := ⟨RX4, "snapshotIn", "(I)LRelayParcels$World;"⟩
abbrev cX4_filledSlots : ByteArray := prog_6_method_5_code
def yX4_filledSlots : MethodName := ⟨RX4, "filledSlots", "()I"⟩
def RX5 : String := "RelayParcels$Text"
def TX5 : u_T := fun k => match k with
  | 0 => ("RelayParcels$Text", "signs", "[C", true)
  | _ => ("RelayParcels$Text", "length", "I", false)
def tyX5 : Nat → FieldType := fun k => match k with
  | 0 => .array .char
  | _ => .int
abbrev wsX50 : List Cond := u_ws RX5 TX5 2
theorem nmX5 : ∀ a, a < 2 → ∀ b, b < 2 → a ≠ b → (TX5 a).2.1 ≠ (TX5 b).2.1 := by decide +kernel
theorem tyX5_ok : ∀ k, k < 2 → parseFieldDescriptor (TX5 k).2.2.1 = some (tyX5 k) := by decide +kernel
abbrev cX5_init : ByteArray := prog_7_method_1_code
def yX5_init : MethodName := ⟨RX5, "<init>", "()V"⟩
abbrev cX5_add : ByteArray := prog_7_method_2_code
def yX5_add : MethodName := ⟨RX5, "add", "(C)V"⟩
abbrev cX5_sign : ByteArray := prog_7_method_3_code
def yX5_sign : MethodName := ⟨RX5, "sign", "(I)C"⟩
abbrev cX5_digit : ByteArray := prog_7_method_4_code
def yX5_digit : MethodName := ⟨RX5, "digit", "(I)I"⟩
abbrev cX5_beginsOrder : ByteArray := prog_7_method_5_code
def yX5_beginsOrder : MethodName := ⟨RX5, "beginsOrder", "(I)Z"⟩
abbrev cX5_digitsOf : ByteArray := prog_7_method_6_code
def yX5_digitsOf : MethodName := ⟨RX5, "digitsOf", "(C)I"⟩
abbrev cX5_fault : ByteArray := prog_7_method_7_code
def yX5_fault : MethodName := ⟨RX5, "fault", "()I"⟩
def RX6 : String := "RelayParcels$Trip"
def TX6 : u_T := fun k => match k with
  | 0 => ("RelayParcels$Trip", "traveller", "I", false)
  | 1 => ("RelayParcels$Trip", "from", "I", false)
  | 2 => ("RelayParcels$Trip", "to", "I", false)
  | 3 => ("RelayParcels$Trip", "leaves", "I", false)
  | 4 => ("RelayParcels$Trip", "arrives", "I", false)
  | 5 => ("RelayParcels$Trip", "fee", "I", false)
  | _ => ("RelayParcels$Trip", "state", "I", false)
def tyX6 : Nat → FieldType := fun k => match k with
  | 0 => .int
  | 1 => .int
  | 2 => .int
  | 3 => .int
  | 4 => .int
  | 5 => .int
  | _ => .int
abbrev wsX60 : List Cond := u_ws RX6 TX6 7
theorem nmX6 : ∀ a, a < 7 → ∀ b, b < 7 → a ≠ b → (TX6 a).2.1 ≠ (TX6 b).2.1 := by decide +kernel
theorem tyX6_ok : ∀ k, k < 7 → parseFieldDescriptor (TX6 k).2.2.1 = some (tyX6 k) := by decide +kernel
abbrev cX6_init : ByteArray := prog_8_method_1_code
def yX6_init : MethodName := ⟨RX6, "<init>", "()V"⟩
abbrev cX6_copyFrom : ByteArray := prog_8_method_2_code
def yX6_copyFrom : MethodName := ⟨RX6, "copyFrom", "(LRelayParcels$Trip;)V"⟩
abbrev cX6_isOpen : ByteArray := prog_8_method_3_code
def yX6_isOpen : MethodName := ⟨RX6, "isOpen", "()Z"⟩
abbrev cX6_overlaps : ByteArray := prog_8_method_4_code
def yX6_overlaps : MethodName := ⟨RX6, "overlaps", "(II)Z"⟩
abbrev cX6_canBeCaught : ByteArray := prog_8_method_5_code
def yX6_canBeCaught : MethodName := ⟨RX6, "canBeCaught", "(II)Z"⟩
abbrev cX6_tell : ByteArray := prog_8_method_6_code
def yX6_tell : MethodName := ⟨RX6, "tell", "(I)I"⟩
def RX7 : String := "RelayParcels$Ways"
def TX7 : u_T := fun k => match k with
  | 0 => ("RelayParcels$Ways", "found", "Z", false)
  | 1 => ("RelayParcels$Ways", "least", "I", false)
  | 2 => ("RelayParcels$Ways", "thenLeast", "I", false)
  | 3 => ("RelayParcels$Ways", "smallestFirst", "I", false)
  | 4 => ("RelayParcels$Ways", "world", "LRelayParcels$World;", true)
  | 5 => ("RelayParcels$Ways", "destination", "I", false)
  | 6 => ("RelayParcels$Ways", "byFees", "Z", false)
  | 7 => ("RelayParcels$Ways", "looked", "[Z", true)
  | 8 => ("RelayParcels$Ways", "leads", "[Z", true)
  | 9 => ("RelayParcels$Ways", "leastBy", "[I", true)
  | _ => ("RelayParcels$Ways", "thenLeastBy", "[I", true)
def tyX7 : Nat → FieldType := fun k => match k with
  | 0 => .boolean
  | 1 => .int
  | 2 => .int
  | 3 => .int
  | 4 => .object "RelayParcels$World"
  | 5 => .int
  | 6 => .boolean
  | 7 => .array .boolean
  | 8 => .array .boolean
  | 9 => .array .int
  | _ => .array .int
abbrev wsX70 : List Cond := u_ws RX7 TX7 11
theorem nmX7 : ∀ a, a < 11 → ∀ b, b < 11 → a ≠ b → (TX7 a).2.1 ≠ (TX7 b).2.1 := by decide +kernel
theorem tyX7_ok : ∀ k, k < 11 → parseFieldDescriptor (TX7 k).2.2.1 = some (tyX7 k) := by decide +kernel
abbrev cX7_init : ByteArray := prog_9_method_1_code
def yX7_init : MethodName := ⟨RX7, "<init>", "(LRelayParcels$World;)V"⟩
abbrev cX7_search : ByteArray := prog_9_method_2_code
def yX7_search : MethodName := ⟨RX7, "search", "(IZ)V"⟩
abbrev cX7_lookAtAllTrips : ByteArray := prog_9_method_3_code
def yX7_lookAtAllTrips : MethodName := ⟨RX7, "lookAtAllTrips", "()V"⟩
abbrev cX7_latestNotLookedAt : ByteArray := prog_9_method_4_code
def yX7_latestNotLookedAt : MethodName := ⟨RX7, "latestNotLookedAt", "()I"⟩
abbrev cX7_lookAt : ByteArray := prog_9_method_5_code
def yX7_lookAt : MethodName := ⟨RX7, "lookAt", "(I)V"⟩
abbrev cX7_bestFrom : ByteArray := prog_9_method_6_code
def yX7_bestFrom : MethodName := ⟨RX7, "bestFrom", "(II)I"⟩
abbrev cX7_isBetter : ByteArray := prog_9_method_7_code
def yX7_isBetter : MethodName := ⟨RX7, "isBetter", "(II)Z"⟩
abbrev cX7_begin : ByteArray := prog_9_method_8_code
def yX7_begin : MethodName := ⟨RX7, "begin", "(II)V"⟩
def RX8 : String := "RelayParcels$World"
def TX8 : u_T := fun k => match k with
  | 0 => ("RelayParcels$World", "hour", "I", false)
  | 1 => ("RelayParcels$World", "fund", "I", false)
  | 2 => ("RelayParcels$World", "handovers", "I", false)
  | 3 => ("RelayParcels$World", "feesPaid", "I", false)
  | 4 => ("RelayParcels$World", "tripCount", "I", false)
  | 5 => ("RelayParcels$World", "parcelCount", "I", false)
  | 6 => ("RelayParcels$World", "persons", "[LRelayParcels$Person;", true)
  | 7 => ("RelayParcels$World", "trips", "[LRelayParcels$Trip;", true)
  | 8 => ("RelayParcels$World", "parcels", "[LRelayParcels$Parcel;", true)
  | _ => ("RelayParcels$World", "holders", "LRelayParcels$Holders;", true)
def tyX8 : Nat → FieldType := fun k => match k with
  | 0 => .int
  | 1 => .int
  | 2 => .int
  | 3 => .int
  | 4 => .int
  | 5 => .int
  | 6 => .array (.object "RelayParcels$Person")
  | 7 => .array (.object "RelayParcels$Trip")
  | 8 => .array (.object "RelayParcels$Parcel")
  | _ => .object "RelayParcels$Holders"
abbrev wsX80 : List Cond := u_ws RX8 TX8 10
theorem nmX8 : ∀ a, a < 10 → ∀ b, b < 10 → a ≠ b → (TX8 a).2.1 ≠ (TX8 b).2.1 := by decide +kernel
theorem tyX8_ok : ∀ k, k < 10 → parseFieldDescriptor (TX8 k).2.2.1 = some (tyX8 k) := by decide +kernel
abbrev cX8_init : ByteArray := prog_10_method_1_code
def yX8_init : MethodName := ⟨RX8, "<init>", "()V"⟩
abbrev cX8_copyFrom : ByteArray := prog_10_method_2_code
def yX8_copyFrom : MethodName := ⟨RX8, "copyFrom", "(LRelayParcels$World;)V"⟩
abbrev cX8_isTrip : ByteArray := prog_10_method_3_code
def yX8_isTrip : MethodName := ⟨RX8, "isTrip", "(I)Z"⟩
abbrev cX8_isParcel : ByteArray := prog_10_method_4_code
def yX8_isParcel : MethodName := ⟨RX8, "isParcel", "(I)Z"⟩
abbrev cX8_heldBy : ByteArray := prog_10_method_5_code
def yX8_heldBy : MethodName := ⟨RX8, "heldBy", "(I)I"⟩
abbrev cX8_townOf : ByteArray := prog_10_method_6_code
def yX8_townOf : MethodName := ⟨RX8, "townOf", "(I)I"⟩
abbrev cX8_tripOf : ByteArray := prog_10_method_7_code
def yX8_tripOf : MethodName := ⟨RX8, "tripOf", "(I)I"⟩
abbrev cX8_areTogether : ByteArray := prog_10_method_8_code
def yX8_areTogether : MethodName := ⟨RX8, "areTogether", "(II)Z"⟩
abbrev cX8_isHeldUnderWay : ByteArray := prog_10_method_9_code
def yX8_isHeldUnderWay : MethodName := ⟨RX8, "isHeldUnderWay", "(II)Z"⟩
abbrev cX8_offerFault : ByteArray := prog_10_method_10_code
def yX8_offerFault : MethodName := ⟨RX8, "offerFault", "(IIIIII)I"⟩
abbrev cX8_overlapsATrip : ByteArray := prog_10_method_11_code
def yX8_overlapsATrip : MethodName := ⟨RX8, "overlapsATrip", "(III)Z"⟩
abbrev cX8_addTrip : ByteArray := prog_10_method_12_code
def yX8_addTrip : MethodName := ⟨RX8, "addTrip", "(IIIIII)I"⟩
abbrev cX8_takeBackFault : ByteArray := prog_10_method_13_code
def yX8_takeBackFault : MethodName := ⟨RX8, "takeBackFault", "(I)I"⟩
abbrev cX8_voidTrip : ByteArray := prog_10_method_14_code
def yX8_voidTrip : MethodName := ⟨RX8, "voidTrip", "(I)I"⟩
abbrev cX8_passFault : ByteArray := prog_10_method_15_code
def yX8_passFault : MethodName := ⟨RX8, "passFault", "(I)I"⟩
abbrev cX8_passHours : ByteArray := prog_10_method_16_code
def yX8_passHours : MethodName := ⟨RX8, "passHours", "(I)I"⟩
abbrev cX8_endTrips : ByteArray := prog_10_method_17_code
def yX8_endTrips : MethodName := ⟨RX8, "endTrips", "()I"⟩
abbrev cX8_startTrips : ByteArray := prog_10_method_18_code
def yX8_startTrips : MethodName := ⟨RX8, "startTrips", "()V"⟩
abbrev cX8_startTrip : ByteArray := prog_10_method_19_code
def yX8_startTrip : MethodName := ⟨RX8, "startTrip", "(I)V"⟩
abbrev cX8_postFault : ByteArray := prog_10_method_20_code
def yX8_postFault : MethodName := ⟨RX8, "postFault", "(IIIII)I"⟩
abbrev cX8_addParcel : ByteArray := prog_10_method_21_code
def yX8_addParcel : MethodName := ⟨RX8, "addParcel", "(IIIII)I"⟩
abbrev cX8_setHolder : ByteArray := prog_10_method_22_code
def yX8_setHolder : MethodName := ⟨RX8, "setHolder", "(II)V"⟩
abbrev cX8_handoverFault : ByteArray := prog_10_method_23_code
def yX8_handoverFault : MethodName := ⟨RX8, "handoverFault", "(III)I"⟩
abbrev cX8_sayGiven : ByteArray := prog_10_method_24_code
def yX8_sayGiven : MethodName := ⟨RX8, "sayGiven", "(II)I"⟩
abbrev cX8_sayTaken : ByteArray := prog_10_method_25_code
def yX8_sayTaken : MethodName := ⟨RX8, "sayTaken", "(II)I"⟩
abbrev cX8_handOverIfWordsFit : ByteArray := prog_10_method_26_code
def yX8_handOverIfWordsFit : MethodName := ⟨RX8, "handOverIfWordsFit", "(II)I"⟩
abbrev cX8_handOver : ByteArray := prog_10_method_27_code
def yX8_handOver : MethodName := ⟨RX8, "handOver", "(II)V"⟩
abbrev cX8_settleWithTaker : ByteArray := prog_10_method_28_code
def yX8_settleWithTaker : MethodName := ⟨RX8, "settleWithTaker", "(II)V"⟩
abbrev cX8_payFee : ByteArray := prog_10_method_29_code
def yX8_payFee : MethodName := ⟨RX8, "payFee", "(II)V"⟩
abbrev cX8_nextTripOf : ByteArray := prog_10_method_30_code
def yX8_nextTripOf : MethodName := ⟨RX8, "nextTripOf", "(I)I"⟩
abbrev cX8_putInFault : ByteArray := prog_10_method_31_code
def yX8_putInFault : MethodName := ⟨RX8, "putInFault", "(II)I"⟩
abbrev cX8_putIntoLocker : ByteArray := prog_10_method_32_code
def yX8_putIntoLocker : MethodName := ⟨RX8, "putIntoLocker", "(II)I"⟩
abbrev cX8_fetchFault : ByteArray := prog_10_method_33_code
def yX8_fetchFault : MethodName := ⟨RX8, "fetchFault", "(II)I"⟩
abbrev cX8_fetchFromLocker : ByteArray := prog_10_method_34_code
def yX8_fetchFromLocker : MethodName := ⟨RX8, "fetchFromLocker", "(II)I"⟩
abbrev cX8_isCoveredNow : ByteArray := prog_10_method_35_code
def yX8_isCoveredNow : MethodName := ⟨RX8, "isCoveredNow", "(I)Z"⟩
abbrev cX8_claimFault : ByteArray := prog_10_method_36_code
def yX8_claimFault : MethodName := ⟨RX8, "claimFault", "(I)I"⟩
abbrev cX8_fundPays : ByteArray := prog_10_method_37_code
def yX8_fundPays : MethodName := ⟨RX8, "fundPays", "(I)I"⟩
abbrev cX8_missing : ByteArray := prog_10_method_38_code
def yX8_missing : MethodName := ⟨RX8, "missing", "(I)I"⟩
abbrev cX8_holderPays : ByteArray := prog_10_method_39_code
def yX8_holderPays : MethodName := ⟨RX8, "holderPays", "(I)I"⟩
abbrev cX8_namedPays : ByteArray := prog_10_method_40_code
def yX8_namedPays : MethodName := ⟨RX8, "namedPays", "(I)I"⟩
abbrev cX8_loseParcel : ByteArray := prog_10_method_41_code
def yX8_loseParcel : MethodName := ⟨RX8, "loseParcel", "(I)I"⟩
abbrev cX8_number : ByteArray := prog_10_method_42_code
def yX8_number : MethodName := ⟨RX8, "number", "(I)I"⟩
abbrev cX8_tripsThatAre : ByteArray := prog_10_method_43_code
def yX8_tripsThatAre : MethodName := ⟨RX8, "tripsThatAre", "(I)I"⟩
abbrev cX8_parcelsThatAre : ByteArray := prog_10_method_44_code
def yX8_parcelsThatAre : MethodName := ⟨RX8, "parcelsThatAre", "(I)I"⟩
abbrev cX8_coinsOfAll : ByteArray := prog_10_method_45_code
def yX8_coinsOfAll : MethodName := ⟨RX8, "coinsOfAll", "()I"⟩
abbrev cX8_tellPerson : ByteArray := prog_10_method_46_code
def yX8_tellPerson : MethodName := ⟨RX8, "tellPerson", "(II)I"⟩
abbrev cX8_tellParcel : ByteArray := prog_10_method_47_code
def yX8_tellParcel : MethodName := ⟨RX8, "tellParcel", "(II)I"⟩
def RX9 : String := "RelayParcels"
def TX9 : u_T := fun k => match k with
  | 0 => ("RelayParcels", "present", "LRelayParcels$State;", true)
  | 1 => ("RelayParcels", "world", "LRelayParcels$World;", true)
  | 2 => ("RelayParcels", "history", "LRelayParcels$History;", true)
  | 3 => ("RelayParcels", "text", "LRelayParcels$Text;", true)
  | _ => ("RelayParcels", "ways", "LRelayParcels$Ways;", true)
def tyX9 : Nat → FieldType := fun k => match k with
  | 0 => .object "RelayParcels$State"
  | 1 => .object "RelayParcels$World"
  | 2 => .object "RelayParcels$History"
  | 3 => .object "RelayParcels$Text"
  | _ => .object "RelayParcels$Ways"
abbrev wsX90 : List Cond := u_ws RX9 TX9 5
theorem nmX9 : ∀ a, a < 5 → ∀ b, b < 5 → a ≠ b → (TX9 a).2.1 ≠ (TX9 b).2.1 := by decide +kernel
theorem tyX9_ok : ∀ k, k < 5 → parseFieldDescriptor (TX9 k).2.2.1 = some (tyX9 k) := by decide +kernel
abbrev cX9_init : ByteArray := prog_1_method_1_code
def yX9_init : MethodName := ⟨RX9, "<init>", "()V"⟩
abbrev cX9_offer : ByteArray := prog_1_method_2_code
def yX9_offer : MethodName := ⟨RX9, "offer", "(IIIIII)I"⟩
abbrev cX9_takeBack : ByteArray := prog_1_method_3_code
def yX9_takeBack : MethodName := ⟨RX9, "takeBack", "(I)I"⟩
abbrev cX9_post : ByteArray := prog_1_method_4_code
def yX9_post : MethodName := ⟨RX9, "post", "(IIIII)I"⟩
abbrev cX9_pass : ByteArray := prog_1_method_5_code
def yX9_pass : MethodName := ⟨RX9, "pass", "(I)I"⟩
abbrev cX9_gave : ByteArray := prog_1_method_6_code
def yX9_gave : MethodName := ⟨RX9, "gave", "(III)I"⟩
abbrev cX9_took : ByteArray := prog_1_method_7_code
def yX9_took : MethodName := ⟨RX9, "took", "(III)I"⟩
abbrev cX9_putIn : ByteArray := prog_1_method_8_code
def yX9_putIn : MethodName := ⟨RX9, "putIn", "(II)I"⟩
abbrev cX9_fetch : ByteArray := prog_1_method_9_code
def yX9_fetch : MethodName := ⟨RX9, "fetch", "(II)I"⟩
abbrev cX9_claim : ByteArray := prog_1_method_10_code
def yX9_claim : MethodName := ⟨RX9, "claim", "(I)I"⟩
abbrev cX9_take : ByteArray := prog_1_method_11_code
def yX9_take : MethodName := ⟨RX9, "take", "(I)I"⟩
abbrev cX9_restore : ByteArray := prog_1_method_12_code
def yX9_restore : MethodName := ⟨RX9, "restore", "(I)I"⟩
abbrev cX9_undo : ByteArray := prog_1_method_13_code
def yX9_undo : MethodName := ⟨RX9, "undo", "()I"⟩
abbrev cX9_append : ByteArray := prog_1_method_14_code
def yX9_append : MethodName := ⟨RX9, "append", "(I)I"⟩
abbrev cX9_clearText : ByteArray := prog_1_method_15_code
def yX9_clearText : MethodName := ⟨RX9, "clearText", "()I"⟩
abbrev cX9_carryOut : ByteArray := prog_1_method_16_code
def yX9_carryOut : MethodName := ⟨RX9, "carryOut", "()I"⟩
abbrev cX9_count : ByteArray := prog_1_method_17_code
def yX9_count : MethodName := ⟨RX9, "count", "(I)I"⟩
abbrev cX9_trip : ByteArray := prog_1_method_18_code
def yX9_trip : MethodName := ⟨RX9, "trip", "(II)I"⟩
abbrev cX9_person : ByteArray := prog_1_method_19_code
def yX9_person : MethodName := ⟨RX9, "person", "(II)I"⟩
abbrev cX9_parcel : ByteArray := prog_1_method_20_code
def yX9_parcel : MethodName := ⟨RX9, "parcel", "(II)I"⟩
abbrev cX9_holderAt : ByteArray := prog_1_method_21_code
def yX9_holderAt : MethodName := ⟨RX9, "holderAt", "(II)I"⟩
abbrev cX9_inLocker : ByteArray := prog_1_method_22_code
def yX9_inLocker : MethodName := ⟨RX9, "inLocker", "(I)I"⟩
abbrev cX9_earliest : ByteArray := prog_1_method_23_code
def yX9_earliest : MethodName := ⟨RX9, "earliest", "(II)I"⟩
abbrev cX9_cheapest : ByteArray := prog_1_method_24_code
def yX9_cheapest : MethodName := ⟨RX9, "cheapest", "(II)I"⟩
abbrev cX9_wouldClaim : ByteArray := prog_1_method_25_code
def yX9_wouldClaim : MethodName := ⟨RX9, "wouldClaim", "(II)I"⟩
abbrev cX9_followOrder : ByteArray := prog_1_method_26_code
def yX9_followOrder : MethodName := ⟨RX9, "followOrder", "(I)I"⟩
abbrev cX9_isWithin : ByteArray := prog_1_method_27_code
def yX9_isWithin : MethodName := ⟨RX9, "isWithin", "(III)Z"⟩
abbrev cX9_isPerson : ByteArray := prog_1_method_28_code
def yX9_isPerson : MethodName := ⟨RX9, "isPerson", "(I)Z"⟩
abbrev cX9_isTown : ByteArray := prog_1_method_29_code
def yX9_isTown : MethodName := ⟨RX9, "isTown", "(I)Z"⟩
def RX10 : String := "RelayParcelsModel"
def TX10 : u_T := fun k => match k with
  | 0 => ("RelayParcelsModel", "now", "[J", true)
  | 1 => ("RelayParcelsModel", "kept", "[J", true)
  | 2 => ("RelayParcelsModel", "states", "I", false)
  | 3 => ("RelayParcelsModel", "text", "[I", true)
  | 4 => ("RelayParcelsModel", "length", "I", false)
  | 5 => ("RelayParcelsModel", "at", "I", false)
  | 6 => ("RelayParcelsModel", "order", "I", false)
  | 7 => ("RelayParcelsModel", "digits", "[I", true)
  | _ => ("RelayParcelsModel", "best", "[I", true)
def tyX10 : Nat → FieldType := fun k => match k with
  | 0 => .array .long
  | 1 => .array .long
  | 2 => .int
  | 3 => .array .int
  | 4 => .int
  | 5 => .int
  | 6 => .int
  | 7 => .array .int
  | _ => .array .int
abbrev wsX100 : List Cond := u_ws RX10 TX10 9
theorem nmX10 : ∀ a, a < 9 → ∀ b, b < 9 → a ≠ b → (TX10 a).2.1 ≠ (TX10 b).2.1 := by decide +kernel
theorem tyX10_ok : ∀ k, k < 9 → parseFieldDescriptor (TX10 k).2.2.1 = some (tyX10 k) := by decide +kernel
abbrev cX10_init : ByteArray := prog_12_method_1_code
def yX10_init : MethodName := ⟨RX10, "<init>", "()V"⟩
abbrev cX10_isIn : ByteArray := prog_12_method_2_code
def yX10_isIn : MethodName := ⟨RX10, "isIn", "(JJJ)Z"⟩
abbrev cX10_ofP : ByteArray := prog_12_method_3_code
def yX10_ofP : MethodName := ⟨RX10, "ofP", "(II)I"⟩
abbrev cX10_setsP : ByteArray := prog_12_method_4_code
def yX10_setsP : MethodName := ⟨RX10, "setsP", "(IIJ)V"⟩
abbrev cX10_ofT : ByteArray := prog_12_method_5_code
def yX10_ofT : MethodName := ⟨RX10, "ofT", "(II)I"⟩
abbrev cX10_setsT : ByteArray := prog_12_method_6_code
def yX10_setsT : MethodName := ⟨RX10, "setsT", "(IIJ)V"⟩
abbrev cX10_of : ByteArray := prog_12_method_7_code
def yX10_of : MethodName := ⟨RX10, "of", "(II)I"⟩
abbrev cX10_sets : ByteArray := prog_12_method_8_code
def yX10_sets : MethodName := ⟨RX10, "sets", "(IIJ)V"⟩
abbrev cX10_hour : ByteArray := prog_12_method_9_code
def yX10_hour : MethodName := ⟨RX10, "hour", "()I"⟩
abbrev cX10_isPerson : ByteArray := prog_12_method_10_code
def yX10_isPerson : MethodName := ⟨RX10, "isPerson", "(I)Z"⟩
abbrev cX10_isTown : ByteArray := prog_12_method_11_code
def yX10_isTown : MethodName := ⟨RX10, "isTown", "(I)Z"⟩
abbrev cX10_isTrip : ByteArray := prog_12_method_12_code
def yX10_isTrip : MethodName := ⟨RX10, "isTrip", "(I)Z"⟩
abbrev cX10_isParcel : ByteArray := prog_12_method_13_code
def yX10_isParcel : MethodName := ⟨RX10, "isParcel", "(I)Z"⟩
abbrev cX10_records : ByteArray := prog_12_method_14_code
def yX10_records : MethodName := ⟨RX10, "records", "()V"⟩
abbrev cX10_undo : ByteArray := prog_12_method_15_code
def yX10_undo : MethodName := ⟨RX10, "undo", "()I"⟩
abbrev cX10_take : ByteArray := prog_12_method_16_code
def yX10_take : MethodName := ⟨RX10, "take", "(I)I"⟩
abbrev cX10_restore : ByteArray := prog_12_method_17_code
def yX10_restore : MethodName := ⟨RX10, "restore", "(I)I"⟩
abbrev cX10_overlaps : ByteArray := prog_12_method_18_code
def yX10_overlaps : MethodName := ⟨RX10, "overlaps", "(IIII)Z"⟩
abbrev cX10_offer : ByteArray := prog_12_method_19_code
def yX10_offer : MethodName := ⟨RX10, "offer", "(IIIIII)I"⟩
abbrev cX10_takeBack : ByteArray := prog_12_method_20_code
def yX10_takeBack : MethodName := ⟨RX10, "takeBack", "(I)I"⟩
abbrev cX10_stands : ByteArray := prog_12_method_21_code
def yX10_stands : MethodName := ⟨RX10, "stands", "(I)V"⟩
abbrev cX10_stood : ByteArray := prog_12_method_22_code
def yX10_stood : MethodName := ⟨RX10, "stood", "(II)I"⟩
abbrev cX10_leaves : ByteArray := prog_12_method_23_code
def yX10_leaves : MethodName := ⟨RX10, "leaves", "(I)V"⟩
abbrev cX10_passesHour : ByteArray := prog_12_method_24_code
def yX10_passesHour : MethodName := ⟨RX10, "passesHour", "()I"⟩
abbrev cX10_pass : ByteArray := prog_12_method_25_code
def yX10_pass : MethodName := ⟨RX10, "pass", "(I)I"⟩
abbrev cX10_costOf : ByteArray := prog_12_method_26_code
def yX10_costOf : MethodName := ⟨RX10, "costOf", "(I)I"⟩
abbrev cX10_coverOf : ByteArray := prog_12_method_27_code
def yX10_coverOf : MethodName := ⟨RX10, "coverOf", "(I)I"⟩
abbrev cX10_heldBy : ByteArray := prog_12_method_28_code
def yX10_heldBy : MethodName := ⟨RX10, "heldBy", "(I)I"⟩
abbrev cX10_post : ByteArray := prog_12_method_29_code
def yX10_post : MethodName := ⟨RX10, "post", "(IIIII)I"⟩
abbrev cX10_comesTo : ByteArray := prog_12_method_30_code
def yX10_comesTo : MethodName := ⟨RX10, "comesTo", "(II)V"⟩
abbrev cX10_firstTrip : ByteArray := prog_12_method_31_code
def yX10_firstTrip : MethodName := ⟨RX10, "firstTrip", "(II)I"⟩
abbrev cX10_pays : ByteArray := prog_12_method_32_code
def yX10_pays : MethodName := ⟨RX10, "pays", "(III)V"⟩
abbrev cX10_receives : ByteArray := prog_12_method_33_code
def yX10_receives : MethodName := ⟨RX10, "receives", "(II)V"⟩
abbrev cX10_wordError : ByteArray := prog_12_method_34_code
def yX10_wordError : MethodName := ⟨RX10, "wordError", "(III)I"⟩
abbrev cX10_says : ByteArray := prog_12_method_35_code
def yX10_says : MethodName := ⟨RX10, "says", "(III)I"⟩
abbrev cX10_gave : ByteArray := prog_12_method_36_code
def yX10_gave : MethodName := ⟨RX10, "gave", "(III)I"⟩
abbrev cX10_took : ByteArray := prog_12_method_37_code
def yX10_took : MethodName := ⟨RX10, "took", "(III)I"⟩
abbrev cX10_putError : ByteArray := prog_12_method_38_code
def yX10_putError : MethodName := ⟨RX10, "putError", "(II)I"⟩
abbrev cX10_puts : ByteArray := prog_12_method_39_code
def yX10_puts : MethodName := ⟨RX10, "puts", "(II)I"⟩
abbrev cX10_putIn : ByteArray := prog_12_method_40_code
def yX10_putIn : MethodName := ⟨RX10, "putIn", "(II)I"⟩
abbrev cX10_fetchError : ByteArray := prog_12_method_41_code
def yX10_fetchError : MethodName := ⟨RX10, "fetchError", "(II)I"⟩
abbrev cX10_fetches : ByteArray := prog_12_method_42_code
def yX10_fetches : MethodName := ⟨RX10, "fetches", "(II)I"⟩
abbrev cX10_fetch : ByteArray := prog_12_method_43_code
def yX10_fetch : MethodName := ⟨RX10, "fetch", "(II)I"⟩
abbrev cX10_fundPays : ByteArray := prog_12_method_44_code
def yX10_fundPays : MethodName := ⟨RX10, "fundPays", "(I)I"⟩
abbrev cX10_owes : ByteArray := prog_12_method_45_code
def yX10_owes : MethodName := ⟨RX10, "owes", "(II)I"⟩
abbrev cX10_claim : ByteArray := prog_12_method_46_code
def yX10_claim : MethodName := ⟨RX10, "claim", "(I)I"⟩
abbrev cX10_wouldClaim : ByteArray := prog_12_method_47_code
def yX10_wouldClaim : MethodName := ⟨RX10, "wouldClaim", "(II)I"⟩
abbrev cX10_append : ByteArray := prog_12_method_48_code
def yX10_append : MethodName := ⟨RX10, "append", "(I)I"⟩
abbrev cX10_clearText : ByteArray := prog_12_method_49_code
def yX10_clearText : MethodName := ⟨RX10, "clearText", "()I"⟩
abbrev cX10_isHere : ByteArray := prog_12_method_50_code
def yX10_isHere : MethodName := ⟨RX10, "isHere", "(II)Z"⟩
abbrev cX10_passesOrder : ByteArray := prog_12_method_51_code
def yX10_passesOrder : MethodName := ⟨RX10, "passesOrder", "()Z"⟩
abbrev cX10_faultOf : ByteArray := prog_12_method_52_code
def yX10_faultOf : MethodName := ⟨RX10, "faultOf", "()I"⟩
abbrev cX10_orderError : ByteArray := prog_12_method_53_code
def yX10_orderError : MethodName := ⟨RX10, "orderError", "()I"⟩
abbrev cX10_does : ByteArray := prog_12_method_54_code
def yX10_does : MethodName := ⟨RX10, "does", "()I"⟩
abbrev cX10_carryOut : ByteArray := prog_12_method_55_code
def yX10_carryOut : MethodName := ⟨RX10, "carryOut", "()I"⟩
abbrev cX10_tripsIn : ByteArray := prog_12_method_56_code
def yX10_tripsIn : MethodName := ⟨RX10, "tripsIn", "(I)I"⟩
abbrev cX10_parcelsIn : ByteArray := prog_12_method_57_code
def yX10_parcelsIn : MethodName := ⟨RX10, "parcelsIn", "(I)I"⟩
abbrev cX10_allCoins : ByteArray := prog_12_method_58_code
def yX10_allCoins : MethodName := ⟨RX10, "allCoins", "()I"⟩
abbrev cX10_count : ByteArray := prog_12_method_59_code
def yX10_count : MethodName := ⟨RX10, "count", "(I)I"⟩
abbrev cX10_trip : ByteArray := prog_12_method_60_code
def yX10_trip : MethodName := ⟨RX10, "trip", "(II)I"⟩
abbrev cX10_person : ByteArray := prog_12_method_61_code
def yX10_person : MethodName := ⟨RX10, "person", "(II)I"⟩
abbrev cX10_townOf : ByteArray := prog_12_method_62_code
def yX10_townOf : MethodName := ⟨RX10, "townOf", "(I)I"⟩
abbrev cX10_parcel : ByteArray := prog_12_method_63_code
def yX10_parcel : MethodName := ⟨RX10, "parcel", "(II)I"⟩
abbrev cX10_holderAt : ByteArray := prog_12_method_64_code
def yX10_holderAt : MethodName := ⟨RX10, "holderAt", "(II)I"⟩
abbrev cX10_inLocker : ByteArray := prog_12_method_65_code
def yX10_inLocker : MethodName := ⟨RX10, "inLocker", "(I)I"⟩
abbrev cX10_startTown : ByteArray := prog_12_method_66_code
def yX10_startTown : MethodName := ⟨RX10, "startTown", "(I)I"⟩
abbrev cX10_startHour : ByteArray := prog_12_method_67_code
def yX10_startHour : MethodName := ⟨RX10, "startHour", "(I)I"⟩
abbrev cX10_adds : ByteArray := prog_12_method_68_code
def yX10_adds : MethodName := ⟨RX10, "adds", "(II)I"⟩
abbrev cX10_isFirst : ByteArray := prog_12_method_69_code
def yX10_isFirst : MethodName := ⟨RX10, "isFirst", "(II)Z"⟩
abbrev cX10_joins : ByteArray := prog_12_method_70_code
def yX10_joins : MethodName := ⟨RX10, "joins", "(II)Z"⟩
abbrev cX10_findBest : ByteArray := prog_12_method_71_code
def yX10_findBest : MethodName := ⟨RX10, "findBest", "(III)V"⟩
abbrev cX10_isThere : ByteArray := prog_12_method_72_code
def yX10_isThere : MethodName := ⟨RX10, "isThere", "(I)Z"⟩
abbrev cX10_arrival : ByteArray := prog_12_method_73_code
def yX10_arrival : MethodName := ⟨RX10, "arrival", "(II)I"⟩
abbrev cX10_least : ByteArray := prog_12_method_74_code
def yX10_least : MethodName := ⟨RX10, "least", "(II)I"⟩
abbrev cX10_firstOf : ByteArray := prog_12_method_75_code
def yX10_firstOf : MethodName := ⟨RX10, "firstOf", "(II)I"⟩
abbrev cX10_earliestBy : ByteArray := prog_12_method_76_code
def yX10_earliestBy : MethodName := ⟨RX10, "earliestBy", "(II)I"⟩
abbrev cX10_wayError : ByteArray := prog_12_method_77_code
def yX10_wayError : MethodName := ⟨RX10, "wayError", "(III)I"⟩
abbrev cX10_earliest : ByteArray := prog_12_method_78_code
def yX10_earliest : MethodName := ⟨RX10, "earliest", "(II)I"⟩
abbrev cX10_cheapest : ByteArray := prog_12_method_79_code
def yX10_cheapest : MethodName := ⟨RX10, "cheapest", "(II)I"⟩
def RL : String := "RelayParcelsLaw"
abbrev cL_law : ByteArray := code
def yL_law : MethodName := ⟨RL, "law", "([I)Z"⟩
abbrev vwCl : List vw_C := [(RX0, TX0, 3), (RX1, TX1, 2), (RX2, TX2, 10), (RX3, TX3, 5), (RX4, TX4, 3), (RX5, TX5, 2), (RX6, TX6, 7), (RX7, TX7, 11), (RX8, TX8, 10), (RX9, TX9, 5), (RX10, TX10, 9)]
