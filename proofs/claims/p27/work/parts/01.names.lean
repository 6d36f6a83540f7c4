-- ===== PART A: goes FIRST, ahead of the names: the tables' words, and 'selects' of the private methods out of them =====
/-- a private method of a class that the tables say can be made, by its rows of tables_1 -/
def lw_okq (q : MethodName × Nat) : Prop := (q.1.cls ≠ "java/lang/invoke/MethodHandle" ∧ q.1.cls ≠ "java/lang/invoke/VarHandle") ∧ Cond.instantiable q.1.cls q.2 ∈ tables_1 ∧ Cond.privateMethod q.1 ∈ tables_1 ∧ Cond.instanceMethod q.1 ∈ tables_1
theorem lw_p0 : lw_okq (⟨"RelayParcels$World", "tripsThatAre", "(I)I"⟩, 10) := ⟨⟨by decide +kernel, by decide +kernel⟩, List.mem_of_getElem? (i := 28) (by decide +kernel), List.mem_of_getElem? (i := 305) (by decide +kernel), List.mem_of_getElem? (i := 306) (by decide +kernel)⟩
theorem lw_p1 : lw_okq (⟨"RelayParcels$World", "parcelsThatAre", "(I)I"⟩, 10) := ⟨⟨by decide +kernel, by decide +kernel⟩, List.mem_of_getElem? (i := 28) (by decide +kernel), List.mem_of_getElem? (i := 309) (by decide +kernel), List.mem_of_getElem? (i := 310) (by decide +kernel)⟩
theorem lw_p2 : lw_okq (⟨"RelayParcels$World", "coinsOfAll", "()I"⟩, 10) := ⟨⟨by decide +kernel, by decide +kernel⟩, List.mem_of_getElem? (i := 28) (by decide +kernel), List.mem_of_getElem? (i := 313) (by decide +kernel), List.mem_of_getElem? (i := 314) (by decide +kernel)⟩
theorem lw_p3 : lw_okq (⟨"RelayParcels$World", "overlapsATrip", "(III)Z"⟩, 10) := ⟨⟨by decide +kernel, by decide +kernel⟩, List.mem_of_getElem? (i := 28) (by decide +kernel), List.mem_of_getElem? (i := 397) (by decide +kernel), List.mem_of_getElem? (i := 398) (by decide +kernel)⟩
theorem lw_p4 : lw_okq (⟨"RelayParcels$World", "setHolder", "(II)V"⟩, 10) := ⟨⟨by decide +kernel, by decide +kernel⟩, List.mem_of_getElem? (i := 28) (by decide +kernel), List.mem_of_getElem? (i := 470) (by decide +kernel), List.mem_of_getElem? (i := 471) (by decide +kernel)⟩
theorem lw_p5 : lw_okq (⟨"RelayParcels$World", "endTrips", "()I"⟩, 10) := ⟨⟨by decide +kernel, by decide +kernel⟩, List.mem_of_getElem? (i := 28) (by decide +kernel), List.mem_of_getElem? (i := 494) (by decide +kernel), List.mem_of_getElem? (i := 495) (by decide +kernel)⟩
theorem lw_p6 : lw_okq (⟨"RelayParcels$World", "startTrips", "()V"⟩, 10) := ⟨⟨by decide +kernel, by decide +kernel⟩, List.mem_of_getElem? (i := 28) (by decide +kernel), List.mem_of_getElem? (i := 498) (by decide +kernel), List.mem_of_getElem? (i := 499) (by decide +kernel)⟩
theorem lw_p7 : lw_okq (⟨"RelayParcels$World", "startTrip", "(I)V"⟩, 10) := ⟨⟨by decide +kernel, by decide +kernel⟩, List.mem_of_getElem? (i := 28) (by decide +kernel), List.mem_of_getElem? (i := 502) (by decide +kernel), List.mem_of_getElem? (i := 503) (by decide +kernel)⟩
theorem lw_p8 : lw_okq (⟨"RelayParcels$World", "handOverIfWordsFit", "(II)I"⟩, 10) := ⟨⟨by decide +kernel, by decide +kernel⟩, List.mem_of_getElem? (i := 28) (by decide +kernel), List.mem_of_getElem? (i := 527) (by decide +kernel), List.mem_of_getElem? (i := 528) (by decide +kernel)⟩
theorem lw_p9 : lw_okq (⟨"RelayParcels$World", "handOver", "(II)V"⟩, 10) := ⟨⟨by decide +kernel, by decide +kernel⟩, List.mem_of_getElem? (i := 28) (by decide +kernel), List.mem_of_getElem? (i := 535) (by decide +kernel), List.mem_of_getElem? (i := 536) (by decide +kernel)⟩
theorem lw_p10 : lw_okq (⟨"RelayParcels$World", "settleWithTaker", "(II)V"⟩, 10) := ⟨⟨by decide +kernel, by decide +kernel⟩, List.mem_of_getElem? (i := 28) (by decide +kernel), List.mem_of_getElem? (i := 539) (by decide +kernel), List.mem_of_getElem? (i := 540) (by decide +kernel)⟩
theorem lw_p11 : lw_okq (⟨"RelayParcels$World", "payFee", "(II)V"⟩, 10) := ⟨⟨by decide +kernel, by decide +kernel⟩, List.mem_of_getElem? (i := 28) (by decide +kernel), List.mem_of_getElem? (i := 543) (by decide +kernel), List.mem_of_getElem? (i := 544) (by decide +kernel)⟩
theorem lw_p12 : lw_okq (⟨"RelayParcels$World", "nextTripOf", "(I)I"⟩, 10) := ⟨⟨by decide +kernel, by decide +kernel⟩, List.mem_of_getElem? (i := 28) (by decide +kernel), List.mem_of_getElem? (i := 547) (by decide +kernel), List.mem_of_getElem? (i := 548) (by decide +kernel)⟩
theorem lw_p13 : lw_okq (⟨"RelayParcels$World", "missing", "(I)I"⟩, 10) := ⟨⟨by decide +kernel, by decide +kernel⟩, List.mem_of_getElem? (i := 28) (by decide +kernel), List.mem_of_getElem? (i := 610) (by decide +kernel), List.mem_of_getElem? (i := 611) (by decide +kernel)⟩
def lw_privs_1 : List (MethodName × Nat) := [(⟨"RelayParcels$World", "tripsThatAre", "(I)I"⟩, 10), (⟨"RelayParcels$World", "parcelsThatAre", "(I)I"⟩, 10), (⟨"RelayParcels$World", "coinsOfAll", "()I"⟩, 10), (⟨"RelayParcels$World", "overlapsATrip", "(III)Z"⟩, 10), (⟨"RelayParcels$World", "setHolder", "(II)V"⟩, 10), (⟨"RelayParcels$World", "endTrips", "()I"⟩, 10), (⟨"RelayParcels$World", "startTrips", "()V"⟩, 10), (⟨"RelayParcels$World", "startTrip", "(I)V"⟩, 10), (⟨"RelayParcels$World", "handOverIfWordsFit", "(II)I"⟩, 10), (⟨"RelayParcels$World", "handOver", "(II)V"⟩, 10), (⟨"RelayParcels$World", "settleWithTaker", "(II)V"⟩, 10), (⟨"RelayParcels$World", "payFee", "(II)V"⟩, 10), (⟨"RelayParcels$World", "nextTripOf", "(I)I"⟩, 10), (⟨"RelayParcels$World", "missing", "(I)I"⟩, 10)]
theorem lw_r1 : ∀ q ∈ lw_privs_1, lw_okq q := List.forall_mem_cons.mpr ⟨lw_p0, List.forall_mem_cons.mpr ⟨lw_p1, List.forall_mem_cons.mpr ⟨lw_p2, List.forall_mem_cons.mpr ⟨lw_p3, List.forall_mem_cons.mpr ⟨lw_p4, List.forall_mem_cons.mpr ⟨lw_p5, List.forall_mem_cons.mpr ⟨lw_p6, List.forall_mem_cons.mpr ⟨lw_p7, List.forall_mem_cons.mpr ⟨lw_p8, List.forall_mem_cons.mpr ⟨lw_p9, List.forall_mem_cons.mpr ⟨lw_p10, List.forall_mem_cons.mpr ⟨lw_p11, List.forall_mem_cons.mpr ⟨lw_p12, List.forall_mem_cons.mpr ⟨lw_p13, fun _ h => absurd h List.not_mem_nil⟩⟩⟩⟩⟩⟩⟩⟩⟩⟩⟩⟩⟩⟩
def lw_privs : List (MethodName × Nat) := lw_privs_1
def lw_tbl : List Cond := k2_sels lw_privs ++ tables_1
theorem lw_privs_ok : ∀ q ∈ lw_privs, lw_okq q := lw_r1
def RX0 : String := "RelayParcels$History"
def TX0 : u_T := fun k => match k with
  | 0 => ("RelayParcels$History", "ring", "[LRelayParcels$State;", true)
  | 1 => ("RelayParcels$History", "newest", "I", false)
  | _ => ("RelayParcels$History", "kept", "I", false)
def tyX0 : Nat → FieldType := fun k => match k with
  | 0 => .array (.object "RelayParcels$State")
  | 1 => .int
  | _ => .int
abbrev wsX00 : List Cond := u_ws RX0 TX0 3
theorem nmX0 : ∀ a, a < 3 → ∀ b, b < 3 → a ≠ b → (TX0 a).2.1 ≠ (TX0 b).2.1 := by decide +kernel
theorem tyX0_ok : ∀ k, k < 3 → parseFieldDescriptor (TX0 k).2.2.1 = some (tyX0 k) := by decide +kernel
abbrev cX0_init : ByteArray := prog_2_method_1_code
def yX0_init : MethodName := ⟨RX0, "<init>", "()V"⟩
abbrev cX0_keep : ByteArray := prog_2_method_2_code
def yX0_keep : MethodName := ⟨RX0, "keep", "(LRelayParcels$State;)V"⟩
abbrev cX0_removeLatest : ByteArray := prog_2_method_3_code
def yX0_removeLatest : MethodName := ⟨RX0, "removeLatest", "()LRelayParcels$State;"⟩
def RX1 : String := "RelayParcels$Holders"
def TX1 : u_T := fun k => match k with
  | 0 => ("RelayParcels$Holders", "entries", "[I", true)
  | _ => ("RelayParcels$Holders", "size", "I", false)
def tyX1 : Nat → FieldType := fun k => match k with
  | 0 => .array .int
  | _ => .int
abbrev wsX10 : List Cond := u_ws RX1 TX1 2
theorem nmX1 : ∀ a, a < 2 → ∀ b, b < 2 → a ≠ b → (TX1 a).2.1 ≠ (TX1 b).2.1 := by decide +kernel
theorem tyX1_ok : ∀ k, k < 2 → parseFieldDescriptor (TX1 k).2.2.1 = some (tyX1 k) := by decide +kernel
abbrev cX1_init : ByteArray := prog_3_method_1_code
def yX1_init : MethodName := ⟨RX1, "<init>", "()V"⟩
abbrev cX1_copyFrom : ByteArray := prog_3_method_2_code
def yX1_copyFrom : MethodName := ⟨RX1, "copyFrom", "(LRelayParcels$Holders;)V"⟩
abbrev cX1_note : ByteArray := prog_3_method_3_code
def yX1_note : MethodName := ⟨RX1, "note", "(III)V"⟩
abbrev cX1_lookUp : ByteArray := prog_3_method_4_code
def yX1_lookUp : MethodName := ⟨RX1, "lookUp", "(II)I"⟩
def RX2 : String := "RelayParcels$Parcel"
def TX2 : u_T := fun k => match k with
  | 0 => ("RelayParcels$Parcel", "sender", "I", false)
  | 1 => ("RelayParcels$Parcel", "receiver", "I", false)
  | 2 => ("RelayParcels$Parcel", "destination", "I", false)
  | 3 => ("RelayParcels$Parcel", "worth", "I", false)
  | 4 => ("RelayParcels$Parcel", "tier", "I", false)
  | 5 => ("RelayParcels$Parcel", "state", "I", false)
  | 6 => ("RelayParcels$Parcel", "holder", "I", false)
  | 7 => ("RelayParcels$Parcel", "heldSince", "I", false)
  | 8 => ("RelayParcels$Parcel", "givenTo", "I", false)
  | _ => ("RelayParcels$Parcel", "takenBy", "I", false)
def tyX2 : Nat → FieldType := fun k => match k with
  | 0 => .int
  | 1 => .int
  | 2 => .int
  | 3 => .int
  | 4 => .int
  | 5 => .int
  | 6 => .int
  | 7 => .int
  | 8 => .int
  | _ => .int
abbrev wsX20 : List Cond := u_ws RX2 TX2 10
theorem nmX2 : ∀ a, a < 10 → ∀ b, b < 10 → a ≠ b → (TX2 a).2.1 ≠ (TX2 b).2.1 := by decide +kernel
theorem tyX2_ok : ∀ k, k < 10 → parseFieldDescriptor (TX2 k).2.2.1 = some (tyX2 k) := by decide +kernel
abbrev cX2_init : ByteArray := prog_4_method_1_code
def yX2_init : MethodName := ⟨RX2, "<init>", "()V"⟩
abbrev cX2_copyFrom : ByteArray := prog_4_method_2_code
def yX2_copyFrom : MethodName := ⟨RX2, "copyFrom", "(LRelayParcels$Parcel;)V"⟩
abbrev cX2_dropWords : ByteArray := prog_4_method_3_code
def yX2_dropWords : MethodName := ⟨RX2, "dropWords", "()V"⟩
abbrev cX2_wordsFit : ByteArray := prog_4_method_4_code
def yX2_wordsFit : MethodName := ⟨RX2, "wordsFit", "()Z"⟩
def RX3 : String := "RelayParcels$Person"
def TX3 : u_T := fun k => match k with
  | 0 => ("RelayParcels$Person", "coins", "I", false)
  | 1 => ("RelayParcels$Person", "deposit", "I", false)
  | 2 => ("RelayParcels$Person", "town", "I", false)
  | 3 => ("RelayParcels$Person", "tripOn", "I", false)
  | _ => ("RelayParcels$Person", "feesGot", "I", false)
def tyX3 : Nat → FieldType := fun k => match k with
  | 0 => .int
  | 1 => .int
  | 2 => .int
  | 3 => .int
  | _ => .int
abbrev wsX30 : List Cond := u_ws RX3 TX3 5
theorem nmX3 : ∀ a, a < 5 → ∀ b, b < 5 → a ≠ b → (TX3 a).2.1 ≠ (TX3 b).2.1 := by decide +kernel
theorem tyX3_ok : ∀ k, k < 5 → parseFieldDescriptor (TX3 k).2.2.1 = some (tyX3 k) := by decide +kernel
abbrev cX3_init : ByteArray := prog_5_method_1_code
def yX3_init : MethodName := ⟨RX3, "<init>", "(I)V"⟩
abbrev cX3_copyFrom : ByteArray := prog_5_method_2_code
def yX3_copyFrom : MethodName := ⟨RX3, "copyFrom", "(LRelayParcels$Person;)V"⟩
def RX4 : String := "RelayParcels$State"
def TX4 : u_T := fun k => match k with
  | 0 => ("RelayParcels$State", "world", "LRelayParcels$World;", true)
  | 1 => ("RelayParcels$State", "rows", "[LRelayParcels$World;", true)
  | _ => ("RelayParcels$State", "filled", "[Z", true)
def tyX4 : Nat → FieldType := fun k => match k with
  | 0 => .object "RelayParcels$World"
  | 1 => .array (.object "RelayParcels$World")
  | _ => .array .boolean
abbrev wsX40 : List Cond := u_ws RX4 TX4 3
theorem nmX4 : ∀ a, a < 3 → ∀ b, b < 3 → a ≠ b → (TX4 a).2.1 ≠ (TX4 b).2.1 := by decide +kernel
theorem tyX4_ok : ∀ k, k < 3 → parseFieldDescriptor (TX4 k).2.2.1 = some (tyX4 k) := by decide +kernel
abbrev cX4_init : ByteArray := prog_6_method_1_code
def yX4_init : MethodName := ⟨RX4, "<init>", "()V"⟩
abbrev cX4_copyFrom : ByteArray := prog_6_method_2_code
def yX4_copyFrom : MethodName := ⟨RX4, "copyFrom", "(LRelayParcels$State;)V"⟩
abbrev cX4_fillSlot : ByteArray := prog_6_method_3_code
def yX4_fillSlot : MethodName := ⟨RX4, "fillSlot", "(ILRelayParcels$World;)V"⟩
abbrev cX4_snapshotIn : ByteArray := prog_6_method_4_code
def yX4_snapshotIn : MethodName := ⟨RX4, "snapshotIn", "(I)LRelayParcels$World;"⟩
abbrev cX4_filledSlots : ByteArray := prog_6_method_5_code
def yX4_filledSlots : MethodName := ⟨RX4, "filledSlots", "()I"⟩
def RX5 : String := "RelayParcels$Text"
def TX5 : u_T := fun k => match k with
  | 0 => ("RelayParcels$Text", "signs", "[C", true)
  | _ => ("RelayParcels$Text", "length", "I", false)
def tyX5 : Nat → FieldType := fun k => match k with
  | 0 => .array .char
  | _ => .int
abbrev wsX50 : List Cond := u_ws RX5 TX5 2
theorem nmX5 : ∀ a, a < 2 → ∀ b, b < 2 → a ≠ b → (TX5 a).2.1 ≠ (TX5 b).2.1 := by decide +kernel
theorem tyX5_ok : ∀ k, k < 2 → parseFieldDescriptor (TX5 k).2.2.1 = some (tyX5 k) := by decide +kernel
abbrev cX5_init : ByteArray := prog_7_method_1_code
def yX5_init : MethodName := ⟨RX5, "<init>", "()V"⟩
def RX6 : String := "RelayParcels$Trip"
def TX6 : u_T := fun k => match k with
  | 0 => ("RelayParcels$Trip", "traveller", "I", false)
  | 1 => ("RelayParcels$Trip", "from", "I", false)
  | 2 => ("RelayParcels$Trip", "to", "I", false)
  | 3 => ("RelayParcels$Trip", "leaves", "I", false)
  | 4 => ("RelayParcels$Trip", "arrives", "I", false)
  | 5 => ("RelayParcels$Trip", "fee", "I", false)
  | _ => ("RelayParcels$Trip", "state", "I", false)
def tyX6 : Nat → FieldType := fun k => match k with
  | 0 => .int
  | 1 => .int
  | 2 => .int
  | 3 => .int
  | 4 => .int
  | 5 => .int
  | _ => .int
abbrev wsX60 : List Cond := u_ws RX6 TX6 7
theorem nmX6 : ∀ a, a < 7 → ∀ b, b < 7 → a ≠ b → (TX6 a).2.1 ≠ (TX6 b).2.1 := by decide +kernel
theorem tyX6_ok : ∀ k, k < 7 → parseFieldDescriptor (TX6 k).2.2.1 = some (tyX6 k) := by decide +kernel
abbrev cX6_init : ByteArray := prog_8_method_1_code
def yX6_init : MethodName := ⟨RX6, "<init>", "()V"⟩
abbrev cX6_copyFrom : ByteArray := prog_8_method_2_code
def yX6_copyFrom : MethodName := ⟨RX6, "copyFrom", "(LRelayParcels$Trip;)V"⟩
abbrev cX6_isOpen : ByteArray := prog_8_method_3_code
def yX6_isOpen : MethodName := ⟨RX6, "isOpen", "()Z"⟩
abbrev cX6_overlaps : ByteArray := prog_8_method_4_code
def yX6_overlaps : MethodName := ⟨RX6, "overlaps", "(II)Z"⟩
abbrev cX6_tell : ByteArray := prog_8_method_6_code
def yX6_tell : MethodName := ⟨RX6, "tell", "(I)I"⟩
def RX7 : String := "RelayParcels$Ways"
def TX7 : u_T := fun k => match k with
  | 0 => ("RelayParcels$Ways", "found", "Z", false)
  | 1 => ("RelayParcels$Ways", "least", "I", false)
  | 2 => ("RelayParcels$Ways", "thenLeast", "I", false)
  | 3 => ("RelayParcels$Ways", "smallestFirst", "I", false)
  | 4 => ("RelayParcels$Ways", "world", "LRelayParcels$World;", true)
  | 5 => ("RelayParcels$Ways", "destination", "I", false)
  | 6 => ("RelayParcels$Ways", "byFees", "Z", false)
  | 7 => ("RelayParcels$Ways", "looked", "[Z", true)
  | 8 => ("RelayParcels$Ways", "leads", "[Z", true)
  | 9 => ("RelayParcels$Ways", "leastBy", "[I", true)
  | _ => ("RelayParcels$Ways", "thenLeastBy", "[I", true)
def tyX7 : Nat → FieldType := fun k => match k with
  | 0 => .boolean
  | 1 => .int
  | 2 => .int
  | 3 => .int
  | 4 => .object "RelayParcels$World"
  | 5 => .int
  | 6 => .boolean
  | 7 => .array .boolean
  | 8 => .array .boolean
  | 9 => .array .int
  | _ => .array .int
abbrev wsX70 : List Cond := u_ws RX7 TX7 11
theorem nmX7 : ∀ a, a < 11 → ∀ b, b < 11 → a ≠ b → (TX7 a).2.1 ≠ (TX7 b).2.1 := by decide +kernel
theorem tyX7_ok : ∀ k, k < 11 → parseFieldDescriptor (TX7 k).2.2.1 = some (tyX7 k) := by decide +kernel
abbrev cX7_init : ByteArray := prog_9_method_1_code
def yX7_init : MethodName := ⟨RX7, "<init>", "(LRelayParcels$World;)V"⟩
def RX8 : String := "RelayParcels$World"
def TX8 : u_T := fun k => match k with
  | 0 => ("RelayParcels$World", "hour", "I", false)
  | 1 => ("RelayParcels$World", "fund", "I", false)
  | 2 => ("RelayParcels$World", "handovers", "I", false)
  | 3 => ("RelayParcels$World", "feesPaid", "I", false)
  | 4 => ("RelayParcels$World", "tripCount", "I", false)
  | 5 => ("RelayParcels$World", "parcelCount", "I", false)
  | 6 => ("RelayParcels$World", "persons", "[LRelayParcels$Person;", true)
  | 7 => ("RelayParcels$World", "trips", "[LRelayParcels$Trip;", true)
  | 8 => ("RelayParcels$World", "parcels", "[LRelayParcels$Parcel;", true)
  | _ => ("RelayParcels$World", "holders", "LRelayParcels$Holders;", true)
def tyX8 : Nat → FieldType := fun k => match k with
  | 0 => .int
  | 1 => .int
  | 2 => .int
  | 3 => .int
  | 4 => .int
  | 5 => .int
  | 6 => .array (.object "RelayParcels$Person")
  | 7 => .array (.object "RelayParcels$Trip")
  | 8 => .array (.object "RelayParcels$Parcel")
  | _ => .object "RelayParcels$Holders"
abbrev wsX80 : List Cond := u_ws RX8 TX8 10
theorem nmX8 : ∀ a, a < 10 → ∀ b, b < 10 → a ≠ b → (TX8 a).2.1 ≠ (TX8 b).2.1 := by decide +kernel
theorem tyX8_ok : ∀ k, k < 10 → parseFieldDescriptor (TX8 k).2.2.1 = some (tyX8 k) := by decide +kernel
abbrev cX8_init : ByteArray := prog_10_method_1_code
def yX8_init : MethodName := ⟨RX8, "<init>", "()V"⟩
abbrev cX8_copyFrom : ByteArray := prog_10_method_2_code
def yX8_copyFrom : MethodName := ⟨RX8, "copyFrom", "(LRelayParcels$World;)V"⟩
abbrev cX8_isTrip : ByteArray := prog_10_method_3_code
def yX8_isTrip : MethodName := ⟨RX8, "isTrip", "(I)Z"⟩
abbrev cX8_isParcel : ByteArray := prog_10_method_4_code
def yX8_isParcel : MethodName := ⟨RX8, "isParcel", "(I)Z"⟩
abbrev cX8_heldBy : ByteArray := prog_10_method_5_code
def yX8_heldBy : MethodName := ⟨RX8, "heldBy", "(I)I"⟩
abbrev cX8_townOf : ByteArray := prog_10_method_6_code
def yX8_townOf : MethodName := ⟨RX8, "townOf", "(I)I"⟩
abbrev cX8_areTogether : ByteArray := prog_10_method_8_code
def yX8_areTogether : MethodName := ⟨RX8, "areTogether", "(II)Z"⟩
abbrev cX8_isHeldUnderWay : ByteArray := prog_10_method_9_code
def yX8_isHeldUnderWay : MethodName := ⟨RX8, "isHeldUnderWay", "(II)Z"⟩
abbrev cX8_offerFault : ByteArray := prog_10_method_10_code
def yX8_offerFault : MethodName := ⟨RX8, "offerFault", "(IIIIII)I"⟩
abbrev cX8_overlapsATrip : ByteArray := prog_10_method_11_code
def yX8_overlapsATrip : MethodName := ⟨RX8, "overlapsATrip", "(III)Z"⟩
abbrev cX8_addTrip : ByteArray := prog_10_method_12_code
def yX8_addTrip : MethodName := ⟨RX8, "addTrip", "(IIIIII)I"⟩
abbrev cX8_takeBackFault : ByteArray := prog_10_method_13_code
def yX8_takeBackFault : MethodName := ⟨RX8, "takeBackFault", "(I)I"⟩
abbrev cX8_voidTrip : ByteArray := prog_10_method_14_code
def yX8_voidTrip : MethodName := ⟨RX8, "voidTrip", "(I)I"⟩
abbrev cX8_passFault : ByteArray := prog_10_method_15_code
def yX8_passFault : MethodName := ⟨RX8, "passFault", "(I)I"⟩
abbrev cX8_passHours : ByteArray := prog_10_method_16_code
def yX8_passHours : MethodName := ⟨RX8, "passHours", "(I)I"⟩
abbrev cX8_endTrips : ByteArray := prog_10_method_17_code
def yX8_endTrips : MethodName := ⟨RX8, "endTrips", "()I"⟩
abbrev cX8_startTrips : ByteArray := prog_10_method_18_code
def yX8_startTrips : MethodName := ⟨RX8, "startTrips", "()V"⟩
abbrev cX8_startTrip : ByteArray := prog_10_method_19_code
def yX8_startTrip : MethodName := ⟨RX8, "startTrip", "(I)V"⟩
abbrev cX8_postFault : ByteArray := prog_10_method_20_code
def yX8_postFault : MethodName := ⟨RX8, "postFault", "(IIIII)I"⟩
abbrev cX8_addParcel : ByteArray := prog_10_method_21_code
def yX8_addParcel : MethodName := ⟨RX8, "addParcel", "(IIIII)I"⟩
abbrev cX8_setHolder : ByteArray := prog_10_method_22_code
def yX8_setHolder : MethodName := ⟨RX8, "setHolder", "(II)V"⟩
abbrev cX8_handoverFault : ByteArray := prog_10_method_23_code
def yX8_handoverFault : MethodName := ⟨RX8, "handoverFault", "(III)I"⟩
abbrev cX8_sayGiven : ByteArray := prog_10_method_24_code
def yX8_sayGiven : MethodName := ⟨RX8, "sayGiven", "(II)I"⟩
abbrev cX8_sayTaken : ByteArray := prog_10_method_25_code
def yX8_sayTaken : MethodName := ⟨RX8, "sayTaken", "(II)I"⟩
abbrev cX8_handOverIfWordsFit : ByteArray := prog_10_method_26_code
def yX8_handOverIfWordsFit : MethodName := ⟨RX8, "handOverIfWordsFit", "(II)I"⟩
abbrev cX8_handOver : ByteArray := prog_10_method_27_code
def yX8_handOver : MethodName := ⟨RX8, "handOver", "(II)V"⟩
abbrev cX8_settleWithTaker : ByteArray := prog_10_method_28_code
def yX8_settleWithTaker : MethodName := ⟨RX8, "settleWithTaker", "(II)V"⟩
abbrev cX8_payFee : ByteArray := prog_10_method_29_code
def yX8_payFee : MethodName := ⟨RX8, "payFee", "(II)V"⟩
abbrev cX8_nextTripOf : ByteArray := prog_10_method_30_code
def yX8_nextTripOf : MethodName := ⟨RX8, "nextTripOf", "(I)I"⟩
abbrev cX8_putInFault : ByteArray := prog_10_method_31_code
def yX8_putInFault : MethodName := ⟨RX8, "putInFault", "(II)I"⟩
abbrev cX8_putIntoLocker : ByteArray := prog_10_method_32_code
def yX8_putIntoLocker : MethodName := ⟨RX8, "putIntoLocker", "(II)I"⟩
abbrev cX8_fetchFault : ByteArray := prog_10_method_33_code
def yX8_fetchFault : MethodName := ⟨RX8, "fetchFault", "(II)I"⟩
abbrev cX8_fetchFromLocker : ByteArray := prog_10_method_34_code
def yX8_fetchFromLocker : MethodName := ⟨RX8, "fetchFromLocker", "(II)I"⟩
abbrev cX8_isCoveredNow : ByteArray := prog_10_method_35_code
def yX8_isCoveredNow : MethodName := ⟨RX8, "isCoveredNow", "(I)Z"⟩
abbrev cX8_claimFault : ByteArray := prog_10_method_36_code
def yX8_claimFault : MethodName := ⟨RX8, "claimFault", "(I)I"⟩
abbrev cX8_fundPays : ByteArray := prog_10_method_37_code
def yX8_fundPays : MethodName := ⟨RX8, "fundPays", "(I)I"⟩
abbrev cX8_missing : ByteArray := prog_10_method_38_code
def yX8_missing : MethodName := ⟨RX8, "missing", "(I)I"⟩
abbrev cX8_holderPays : ByteArray := prog_10_method_39_code
def yX8_holderPays : MethodName := ⟨RX8, "holderPays", "(I)I"⟩
abbrev cX8_namedPays : ByteArray := prog_10_method_40_code
def yX8_namedPays : MethodName := ⟨RX8, "namedPays", "(I)I"⟩
abbrev cX8_loseParcel : ByteArray := prog_10_method_41_code
def yX8_loseParcel : MethodName := ⟨RX8, "loseParcel", "(I)I"⟩
abbrev cX8_number : ByteArray := prog_10_method_42_code
def yX8_number : MethodName := ⟨RX8, "number", "(I)I"⟩
abbrev cX8_tripsThatAre : ByteArray := prog_10_method_43_code
def yX8_tripsThatAre : MethodName := ⟨RX8, "tripsThatAre", "(I)I"⟩
abbrev cX8_parcelsThatAre : ByteArray := prog_10_method_44_code
def yX8_parcelsThatAre : MethodName := ⟨RX8, "parcelsThatAre", "(I)I"⟩
abbrev cX8_coinsOfAll : ByteArray := prog_10_method_45_code
def yX8_coinsOfAll : MethodName := ⟨RX8, "coinsOfAll", "()I"⟩
abbrev cX8_tellPerson : ByteArray := prog_10_method_46_code
def yX8_tellPerson : MethodName := ⟨RX8, "tellPerson", "(II)I"⟩
abbrev cX8_tellParcel : ByteArray := prog_10_method_47_code
def yX8_tellParcel : MethodName := ⟨RX8, "tellParcel", "(II)I"⟩
def RX9 : String := "RelayParcels"
def TX9 : u_T := fun k => match k with
  | 0 => ("RelayParcels", "present", "LRelayParcels$State;", true)
  | 1 => ("RelayParcels", "world", "LRelayParcels$World;", true)
  | 2 => ("RelayParcels", "history", "LRelayParcels$History;", true)
  | 3 => ("RelayParcels", "text", "LRelayParcels$Text;", true)
  | _ => ("RelayParcels", "ways", "LRelayParcels$Ways;", true)
def tyX9 : Nat → FieldType := fun k => match k with
  | 0 => .object "RelayParcels$State"
  | 1 => .object "RelayParcels$World"
  | 2 => .object "RelayParcels$History"
  | 3 => .object "RelayParcels$Text"
  | _ => .object "RelayParcels$Ways"
abbrev wsX90 : List Cond := u_ws RX9 TX9 5
theorem nmX9 : ∀ a, a < 5 → ∀ b, b < 5 → a ≠ b → (TX9 a).2.1 ≠ (TX9 b).2.1 := by decide +kernel
theorem tyX9_ok : ∀ k, k < 5 → parseFieldDescriptor (TX9 k).2.2.1 = some (tyX9 k) := by decide +kernel
abbrev cX9_init : ByteArray := prog_1_method_1_code
def yX9_init : MethodName := ⟨RX9, "<init>", "()V"⟩
abbrev cX9_offer : ByteArray := prog_1_method_2_code
def yX9_offer : MethodName := ⟨RX9, "offer", "(IIIIII)I"⟩
abbrev cX9_takeBack : ByteArray := prog_1_method_3_code
def yX9_takeBack : MethodName := ⟨RX9, "takeBack", "(I)I"⟩
abbrev cX9_post : ByteArray := prog_1_method_4_code
def yX9_post : MethodName := ⟨RX9, "post", "(IIIII)I"⟩
abbrev cX9_pass : ByteArray := prog_1_method_5_code
def yX9_pass : MethodName := ⟨RX9, "pass", "(I)I"⟩
abbrev cX9_gave : ByteArray := prog_1_method_6_code
def yX9_gave : MethodName := ⟨RX9, "gave", "(III)I"⟩
abbrev cX9_took : ByteArray := prog_1_method_7_code
def yX9_took : MethodName := ⟨RX9, "took", "(III)I"⟩
abbrev cX9_putIn : ByteArray := prog_1_method_8_code
def yX9_putIn : MethodName := ⟨RX9, "putIn", "(II)I"⟩
abbrev cX9_fetch : ByteArray := prog_1_method_9_code
def yX9_fetch : MethodName := ⟨RX9, "fetch", "(II)I"⟩
abbrev cX9_claim : ByteArray := prog_1_method_10_code
def yX9_claim : MethodName := ⟨RX9, "claim", "(I)I"⟩
abbrev cX9_take : ByteArray := prog_1_method_11_code
def yX9_take : MethodName := ⟨RX9, "take", "(I)I"⟩
abbrev cX9_restore : ByteArray := prog_1_method_12_code
def yX9_restore : MethodName := ⟨RX9, "restore", "(I)I"⟩
abbrev cX9_undo : ByteArray := prog_1_method_13_code
def yX9_undo : MethodName := ⟨RX9, "undo", "()I"⟩
abbrev cX9_count : ByteArray := prog_1_method_17_code
def yX9_count : MethodName := ⟨RX9, "count", "(I)I"⟩
abbrev cX9_trip : ByteArray := prog_1_method_18_code
def yX9_trip : MethodName := ⟨RX9, "trip", "(II)I"⟩
abbrev cX9_person : ByteArray := prog_1_method_19_code
def yX9_person : MethodName := ⟨RX9, "person", "(II)I"⟩
abbrev cX9_parcel : ByteArray := prog_1_method_20_code
def yX9_parcel : MethodName := ⟨RX9, "parcel", "(II)I"⟩
abbrev cX9_holderAt : ByteArray := prog_1_method_21_code
def yX9_holderAt : MethodName := ⟨RX9, "holderAt", "(II)I"⟩
abbrev cX9_inLocker : ByteArray := prog_1_method_22_code
def yX9_inLocker : MethodName := ⟨RX9, "inLocker", "(I)I"⟩
abbrev cX9_isWithin : ByteArray := prog_1_method_27_code
def yX9_isWithin : MethodName := ⟨RX9, "isWithin", "(III)Z"⟩
abbrev cX9_isPerson : ByteArray := prog_1_method_28_code
def yX9_isPerson : MethodName := ⟨RX9, "isPerson", "(I)Z"⟩
abbrev cX9_isTown : ByteArray := prog_1_method_29_code
def yX9_isTown : MethodName := ⟨RX9, "isTown", "(I)Z"⟩
def RX10 : String := "RelayParcelsModel"
def TX10 : u_T := fun k => match k with
  | _ => ("", "", "", false)
def tyX10 : Nat → FieldType := fun k => match k with
  | _ => .int
abbrev wsX100 : List Cond := u_ws RX10 TX10 0
theorem nmX10 : ∀ a, a < 0 → ∀ b, b < 0 → a ≠ b → (TX10 a).2.1 ≠ (TX10 b).2.1 := by decide +kernel
theorem tyX10_ok : ∀ k, k < 0 → parseFieldDescriptor (TX10 k).2.2.1 = some (tyX10 k) := by decide +kernel
def RL : String := "RelayParcelsLaw"
abbrev cL_cell : ByteArray := method_2_code
def yL_cell : MethodName := ⟨RL, "cell", "([II)I"⟩
abbrev cL_up : ByteArray := method_3_code
def yL_up : MethodName := ⟨RL, "up", "(II)I"⟩
abbrev cL_view : ByteArray := method_4_code
def yL_view : MethodName := ⟨RL, "view", "(LRelayParcels;)J"⟩
abbrev cL_any : ByteArray := method_5_code
def yL_any : MethodName := ⟨RL, "any", "(LRelayParcels;II)I"⟩
abbrev cL_turn : ByteArray := method_6_code
def yL_turn : MethodName := ⟨RL, "turn", "(LRelayParcels;III)I"⟩
abbrev cL_arePersons : ByteArray := method_7_code
def yL_arePersons : MethodName := ⟨RL, "arePersons", "(LRelayParcels;)Z"⟩
abbrev cL_areParcels : ByteArray := method_8_code
def yL_areParcels : MethodName := ⟨RL, "areParcels", "(LRelayParcels;)Z"⟩
abbrev cL_areTrips : ByteArray := method_9_code
def yL_areTrips : MethodName := ⟨RL, "areTrips", "(LRelayParcels;)Z"⟩
abbrev cL_isHandover : ByteArray := method_10_code
def yL_isHandover : MethodName := ⟨RL, "isHandover", "(II)Z"⟩
abbrev cL_holders : ByteArray := method_11_code
def yL_holders : MethodName := ⟨RL, "holders", "(LRelayParcels;I)J"⟩
abbrev cL_isUndone : ByteArray := method_12_code
def yL_isUndone : MethodName := ⟨RL, "isUndone", "(LRelayParcels;IIIIJ)Z"⟩
abbrev cL_isTaken : ByteArray := method_13_code
def yL_isTaken : MethodName := ⟨RL, "isTaken", "(LRelayParcels;II)Z"⟩
abbrev cL_law : ByteArray := code
def yL_law : MethodName := ⟨RL, "law", "([I)Z"⟩
abbrev vwCl : List vw_C := [(RX0, TX0, 3), (RX1, TX1, 2), (RX2, TX2, 10), (RX3, TX3, 5), (RX4, TX4, 3), (RX5, TX5, 2), (RX6, TX6, 7), (RX7, TX7, 11), (RX8, TX8, 10), (RX9, TX9, 5)]
