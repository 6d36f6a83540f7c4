-- ===== tables, by program =====
theorem dOk.app {cc : ByteArray} {a b : List (Nat × Instr × Nat)} (h1 : dOk cc a = true) (h2 : dOk cc b = true) : dOk cc (a ++ b) = true := by
  rw [dOk, List.all_append, Bool.and_eq_true]
  exact ⟨h1, h2⟩
theorem tW {w : Cond} (i : Nat) (h : tables_1[i]? = some w) (hg : goodWord w = true) : w ∈ gW := gW_in (List.mem_append_right _ (List.mem_of_getElem? h)) hg
theorem tS {w : Cond} (i : Nat) (h : (k2_sels lw_privs)[i]? = some w) (hg : goodWord w = true) : w ∈ gW := gW_in (List.mem_append_left _ (List.mem_of_getElem? h)) hg
theorem wi_RX0 : Cond.initialized RX0 ∈ gW := tW 8 (by decide +kernel) rfl
theorem wi_RX1 : Cond.initialized RX1 ∈ gW := tW 4 (by decide +kernel) rfl
theorem wi_RX2 : Cond.initialized RX2 ∈ gW := tW 7 (by decide +kernel) rfl
theorem wi_RX3 : Cond.initialized RX3 ∈ gW := tW 5 (by decide +kernel) rfl
theorem wi_RX4 : Cond.initialized RX4 ∈ gW := tW 2 (by decide +kernel) rfl
theorem wi_RX5 : Cond.initialized RX5 ∈ gW := tW 9 (by decide +kernel) rfl
theorem wi_RX6 : Cond.initialized RX6 ∈ gW := tW 6 (by decide +kernel) rfl
theorem wi_RX7 : Cond.initialized RX7 ∈ gW := tW 10 (by decide +kernel) rfl
theorem wi_RX8 : Cond.initialized RX8 ∈ gW := tW 3 (by decide +kernel) rfl
theorem wi_RX9 : Cond.initialized RX9 ∈ gW := tW 1 (by decide +kernel) rfl
theorem wi_RL : Cond.initialized RL ∈ gW := tW 0 (by decide +kernel) rfl
def LX0_init : List (Nat × Instr × Nat) := [(0, .aload_n 0, 1), (1, .invokespecial 3, 3), (4, .aload_n 0, 1), (5, .iconst 5, 1), (6, .anewarray 9, 3), (9, .putfield 11, 3), (12, .return_, 1)]
theorem dlX0_init : dOk cX0_init LX0_init = true := by decide +kernel
def MX0_init : xM := (RX0, yX0_init, cX0_init, 1, none, 1, 20, LX0_init)
theorem okX0_init : xOk MX0_init 0 := ⟨tW 210 (by decide +kernel) rfl, wi_RX0, by decide +kernel, ⟨by decide +kernel, by decide +kernel, by decide +kernel⟩, rfl, dOk.all dlX0_init⟩
theorem viX0_init : Cond.instanceMethod yX0_init ∈ gW := tW 209 (by decide +kernel) rfl
def LX0_keep : List (Nat × Instr × Nat) := [(0, .aload_n 0, 1), (1, .aload_n 0, 1), (2, .getfield 17, 3), (5, .iconst 1, 1), (6, .iadd, 1), (7, .iconst 5, 1), (8, .irem, 1), (9, .putfield 17, 3), (12, .aload_n 0, 1), (13, .getfield 11, 3), (16, .aload_n 0, 1), (17, .getfield 17, 3), (20, .aaload, 1), (21, .ifnonnull 19, 3), (24, .aload_n 0, 1), (25, .getfield 11, 3), (28, .aload_n 0, 1), (29, .getfield 17, 3), (32, .new 9, 3), (35, .dup, 1), (36, .invokespecial 21, 3), (39, .aastore, 1), (40, .aload_n 0, 1), (41, .getfield 11, 3), (44, .aload_n 0, 1), (45, .getfield 17, 3), (48, .aaload, 1), (49, .aload_n 1, 1), (50, .invokevirtual 22, 3), (53, .aload_n 0, 1), (54, .aload_n 0, 1), (55, .getfield 26, 3), (58, .iconst 1, 1), (59, .iadd, 1), (60, .iconst 5, 1), (61, .invokestatic 29, 3), (64, .putfield 26, 3), (67, .return_, 1)]
theorem dlX0_keep : dOk cX0_keep LX0_keep = true := by decide +kernel
def MX0_keep : xM := (RX0, yX0_keep, cX0_keep, 2, none, 5, 114, LX0_keep)
theorem okX0_keep : xOk MX0_keep 1 := ⟨tW 411 (by decide +kernel) rfl, wi_RX0, by decide +kernel, ⟨by decide +kernel, by decide +kernel, by decide +kernel⟩, rfl, dOk.all dlX0_keep⟩
theorem viX0_keep : xVi yX0_keep := ⟨tW 409 (by decide +kernel) rfl, tW 410 (by decide +kernel) rfl⟩
def LX0_removeLatest : List (Nat × Instr × Nat) := [(0, .aload_n 0, 1), (1, .getfield 26, 3), (4, .ifCond .ne 5, 3), (7, .aconst_null, 1), (8, .areturn, 1), (9, .aload_n 0, 1), (10, .getfield 11, 3), (13, .aload_n 0, 1), (14, .getfield 17, 3), (17, .aaload, 1), (18, .astore_n 1, 1), (19, .aload_n 0, 1), (20, .aload_n 0, 1), (21, .getfield 17, 3), (24, .iconst 5, 1), (25, .iadd, 1), (26, .iconst 1, 1), (27, .isub, 1), (28, .iconst 5, 1), (29, .irem, 1), (30, .putfield 17, 3), (33, .aload_n 0, 1), (34, .dup, 1), (35, .getfield 26, 3), (38, .iconst 1, 1), (39, .isub, 1), (40, .putfield 26, 3), (43, .aload_n 1, 1), (44, .areturn, 1)]
theorem dlX0_removeLatest : dOk cX0_removeLatest LX0_removeLatest = true := by decide +kernel
def MX0_removeLatest : xM := (RX0, yX0_removeLatest, cX0_removeLatest, 2, (some (.object "RelayParcels$State")), 0, 0, LX0_removeLatest)
theorem okX0_removeLatest : xOk MX0_removeLatest 0 := ⟨tW 670 (by decide +kernel) rfl, wi_RX0, by decide +kernel, ⟨by decide +kernel, by decide +kernel, by decide +kernel⟩, rfl, dOk.all dlX0_removeLatest⟩
theorem viX0_removeLatest : xVi yX0_removeLatest := ⟨tW 668 (by decide +kernel) rfl, tW 669 (by decide +kernel) rfl⟩
def LX1_init : List (Nat × Instr × Nat) := [(0, .aload_n 0, 1), (1, .invokespecial 3, 3), (4, .aload_n 0, 1), (5, .sipush 512, 3), (8, .newarray .int, 2), (10, .putfield 11, 3), (13, .return_, 1)]
theorem dlX1_init : dOk cX1_init LX1_init = true := by decide +kernel
def MX1_init : xM := (RX1, yX1_init, cX1_init, 1, none, 1, 20, LX1_init)
theorem okX1_init : xOk MX1_init 0 := ⟨tW 43 (by decide +kernel) rfl, wi_RX1, by decide +kernel, ⟨by decide +kernel, by decide +kernel, by decide +kernel⟩, rfl, dOk.all dlX1_init⟩
theorem viX1_init : Cond.instanceMethod yX1_init ∈ gW := tW 42 (by decide +kernel) rfl
def LX1_copyFrom : List (Nat × Instr × Nat) := [(0, .aload_n 0, 1), (1, .aload_n 1, 1), (2, .getfield 15, 3), (5, .putfield 15, 3), (8, .aload_n 1, 1), (9, .getfield 11, 3), (12, .iconst 0, 1), (13, .aload_n 0, 1), (14, .getfield 11, 3), (17, .iconst 0, 1), (18, .aload_n 0, 1), (19, .getfield 15, 3), (22, .invokestatic 19, 3), (25, .return_, 1)]
theorem dlX1_copyFrom : dOk cX1_copyFrom LX1_copyFrom = true := by decide +kernel
def MX1_copyFrom : xM := (RX1, yX1_copyFrom, cX1_copyFrom, 2, none, 1, 26, LX1_copyFrom)
theorem okX1_copyFrom : xOk MX1_copyFrom 1 := ⟨tW 436 (by decide +kernel) rfl, wi_RX1, by decide +kernel, ⟨by decide +kernel, by decide +kernel, by decide +kernel⟩, rfl, dOk.all dlX1_copyFrom⟩
theorem viX1_copyFrom : xVi yX1_copyFrom := ⟨tW 434 (by decide +kernel) rfl, tW 435 (by decide +kernel) rfl⟩
def LX1_note : List (Nat × Instr × Nat) := [(0, .aload_n 0, 1), (1, .getfield 15, 3), (4, .sipush 512, 3), (7, .if_icmp .ge 34, 3), (10, .aload_n 0, 1), (11, .getfield 11, 3), (14, .aload_n 0, 1), (15, .getfield 15, 3), (18, .iload_n 1, 1), (19, .sipush 256, 3), (22, .imul, 1), (23, .iload_n 2, 1), (24, .bipush 16, 2), (26, .imul, 1), (27, .iadd, 1), (28, .iload_n 3, 1), (29, .iadd, 1), (30, .iastore, 1), (31, .aload_n 0, 1), (32, .dup, 1), (33, .getfield 15, 3), (36, .iconst 1, 1), (37, .iadd, 1), (38, .putfield 15, 3), (41, .return_, 1)]
theorem dlX1_note : dOk cX1_note LX1_note = true := by decide +kernel
def MX1_note : xM := (RX1, yX1_note, cX1_note, 4, none, 0, 0, LX1_note)
theorem okX1_note : xOk MX1_note 3 := ⟨tW 480 (by decide +kernel) rfl, wi_RX1, by decide +kernel, ⟨by decide +kernel, by decide +kernel, by decide +kernel⟩, rfl, dOk.all dlX1_note⟩
theorem viX1_note : xVi yX1_note := ⟨tW 478 (by decide +kernel) rfl, tW 479 (by decide +kernel) rfl⟩
def LX1_lookUp : List (Nat × Instr × Nat) := [(0, .aload_n 0, 1), (1, .getfield 15, 3), (4, .iconst 1, 1), (5, .isub, 1), (6, .istore_n 3, 1), (7, .iload_n 3, 1), (8, .ifCond .lt 46, 3), (11, .aload_n 0, 1), (12, .getfield 11, 3), (15, .iload_n 3, 1), (16, .iaload, 1), (17, .istore 4, 2), (19, .iload 4, 2), (21, .sipush 256, 3), (24, .irem, 1), (25, .bipush 16, 2), (27, .idiv, 1), (28, .iload_n 1, 1), (29, .if_icmp .ne 19, 3), (32, .iload 4, 2), (34, .sipush 256, 3), (37, .idiv, 1), (38, .iload_n 2, 1), (39, .if_icmp .gt 9, 3), (42, .iload 4, 2), (44, .bipush 16, 2), (46, .irem, 1), (47, .ireturn, 1), (48, .iinc 3 (-1), 3), (51, .goto (-44), 3), (54, .bipush (-9), 2), (56, .ireturn, 1)]
theorem dlX1_lookUp : dOk cX1_lookUp LX1_lookUp = true := by decide +kernel
def MX1_lookUp : xM := (RX1, yX1_lookUp, cX1_lookUp, 5, (some .int), 0, 0, LX1_lookUp)
theorem okX1_lookUp : xOk MX1_lookUp 2 := ⟨tW 375 (by decide +kernel) rfl, wi_RX1, by decide +kernel, ⟨by decide +kernel, by decide +kernel, by decide +kernel⟩, rfl, dOk.all dlX1_lookUp⟩
theorem viX1_lookUp : xVi yX1_lookUp := ⟨tW 373 (by decide +kernel) rfl, tW 374 (by decide +kernel) rfl⟩
def LX2_init : List (Nat × Instr × Nat) := [(0, .aload_n 0, 1), (1, .invokespecial 3, 3), (4, .return_, 1)]
theorem dlX2_init : dOk cX2_init LX2_init = true := by decide +kernel
def MX2_init : xM := (RX2, yX2_init, cX2_init, 1, none, 1, 20, LX2_init)
theorem okX2_init : xOk MX2_init 0 := ⟨tW 116 (by decide +kernel) rfl, wi_RX2, by decide +kernel, ⟨by decide +kernel, by decide +kernel, by decide +kernel⟩, rfl, dOk.all dlX2_init⟩
theorem viX2_init : Cond.instanceMethod yX2_init ∈ gW := tW 115 (by decide +kernel) rfl
def LX2_copyFrom_q0 : List (Nat × Instr × Nat) := [(0, .aload_n 0, 1), (1, .aload_n 1, 1), (2, .getfield 9, 3), (5, .putfield 9, 3), (8, .aload_n 0, 1), (9, .aload_n 1, 1), (10, .getfield 15, 3), (13, .putfield 15, 3), (16, .aload_n 0, 1), (17, .aload_n 1, 1), (18, .getfield 18, 3), (21, .putfield 18, 3), (24, .aload_n 0, 1), (25, .aload_n 1, 1), (26, .getfield 21, 3), (29, .putfield 21, 3), (32, .aload_n 0, 1), (33, .aload_n 1, 1), (34, .getfield 24, 3), (37, .putfield 24, 3), (40, .aload_n 0, 1), (41, .aload_n 1, 1), (42, .getfield 27, 3), (45, .putfield 27, 3), (48, .aload_n 0, 1), (49, .aload_n 1, 1), (50, .getfield 30, 3), (53, .putfield 30, 3), (56, .aload_n 0, 1), (57, .aload_n 1, 1), (58, .getfield 33, 3), (61, .putfield 33, 3), (64, .aload_n 0, 1), (65, .aload_n 1, 1), (66, .getfield 36, 3), (69, .putfield 36, 3), (72, .aload_n 0, 1), (73, .aload_n 1, 1), (74, .getfield 39, 3), (77, .putfield 39, 3)]
theorem dlX2_copyFrom_q0 : dOk cX2_copyFrom LX2_copyFrom_q0 = true := by decide +kernel
def LX2_copyFrom_q1 : List (Nat × Instr × Nat) := [(80, .return_, 1)]
theorem dlX2_copyFrom_q1 : dOk cX2_copyFrom LX2_copyFrom_q1 = true := by decide +kernel
def LX2_copyFrom : List (Nat × Instr × Nat) := (LX2_copyFrom_q0 ++ LX2_copyFrom_q1)
theorem dlX2_copyFrom : dOk cX2_copyFrom LX2_copyFrom = true := (dOk.app dlX2_copyFrom_q0 dlX2_copyFrom_q1)
def MX2_copyFrom : xM := (RX2, yX2_copyFrom, cX2_copyFrom, 2, none, 0, 0, LX2_copyFrom)
theorem okX2_copyFrom : xOk MX2_copyFrom 1 := ⟨tW 432 (by decide +kernel) rfl, wi_RX2, by decide +kernel, ⟨by decide +kernel, by decide +kernel, by decide +kernel⟩, rfl, dOk.all dlX2_copyFrom⟩
theorem viX2_copyFrom : xVi yX2_copyFrom := ⟨tW 430 (by decide +kernel) rfl, tW 431 (by decide +kernel) rfl⟩
def LX2_dropWords : List (Nat × Instr × Nat) := [(0, .aload_n 0, 1), (1, .bipush (-9), 2), (3, .putfield 36, 3), (6, .aload_n 0, 1), (7, .bipush (-9), 2), (9, .putfield 39, 3), (12, .return_, 1)]
theorem dlX2_dropWords : dOk cX2_dropWords LX2_dropWords = true := by decide +kernel
def MX2_dropWords : xM := (RX2, yX2_dropWords, cX2_dropWords, 1, none, 0, 0, LX2_dropWords)
theorem okX2_dropWords : xOk MX2_dropWords 0 := ⟨tW 476 (by decide +kernel) rfl, wi_RX2, by decide +kernel, ⟨by decide +kernel, by decide +kernel, by decide +kernel⟩, rfl, dOk.all dlX2_dropWords⟩
theorem viX2_dropWords : xVi yX2_dropWords := ⟨tW 474 (by decide +kernel) rfl, tW 475 (by decide +kernel) rfl⟩
def LX2_wordsFit : List (Nat × Instr × Nat) := [(0, .aload_n 0, 1), (1, .getfield 36, 3), (4, .bipush (-9), 2), (6, .if_icmp .eq 18, 3), (9, .aload_n 0, 1), (10, .getfield 36, 3), (13, .aload_n 0, 1), (14, .getfield 39, 3), (17, .if_icmp .ne 7, 3), (20, .iconst 1, 1), (21, .goto 4, 3), (24, .iconst 0, 1), (25, .ireturn, 1)]
theorem dlX2_wordsFit : dOk cX2_wordsFit LX2_wordsFit = true := by decide +kernel
def MX2_wordsFit : xM := (RX2, yX2_wordsFit, cX2_wordsFit, 1, (some .boolean), 0, 0, LX2_wordsFit)
theorem okX2_wordsFit : xOk MX2_wordsFit 0 := ⟨tW 533 (by decide +kernel) rfl, wi_RX2, by decide +kernel, ⟨by decide +kernel, by decide +kernel, by decide +kernel⟩, rfl, dOk.all dlX2_wordsFit⟩
theorem viX2_wordsFit : xVi yX2_wordsFit := ⟨tW 531 (by decide +kernel) rfl, tW 532 (by decide +kernel) rfl⟩
def LX3_init : List (Nat × Instr × Nat) := [(0, .aload_n 0, 1), (1, .invokespecial 3, 3), (4, .aload_n 0, 1), (5, .bipush 100, 2), (7, .putfield 9, 3), (10, .aload_n 0, 1), (11, .bipush 40, 2), (13, .putfield 15, 3), (16, .aload_n 0, 1), (17, .bipush (-9), 2), (19, .putfield 18, 3), (22, .aload_n 0, 1), (23, .iload_n 1, 1), (24, .putfield 21, 3), (27, .return_, 1)]
theorem dlX3_init : dOk cX3_init LX3_init = true := by decide +kernel
def MX3_init : xM := (RX3, yX3_init, cX3_init, 2, none, 1, 20, LX3_init)
theorem okX3_init : xOk MX3_init 1 := ⟨tW 56 (by decide +kernel) rfl, wi_RX3, by decide +kernel, ⟨by decide +kernel, by decide +kernel, by decide +kernel⟩, rfl, dOk.all dlX3_init⟩
theorem viX3_init : Cond.instanceMethod yX3_init ∈ gW := tW 55 (by decide +kernel) rfl
def LX3_copyFrom : List (Nat × Instr × Nat) := [(0, .aload_n 0, 1), (1, .aload_n 1, 1), (2, .getfield 9, 3), (5, .putfield 9, 3), (8, .aload_n 0, 1), (9, .aload_n 1, 1), (10, .getfield 15, 3), (13, .putfield 15, 3), (16, .aload_n 0, 1), (17, .aload_n 1, 1), (18, .getfield 21, 3), (21, .putfield 21, 3), (24, .aload_n 0, 1), (25, .aload_n 1, 1), (26, .getfield 18, 3), (29, .putfield 18, 3), (32, .aload_n 0, 1), (33, .aload_n 1, 1), (34, .getfield 24, 3), (37, .putfield 24, 3), (40, .return_, 1)]
theorem dlX3_copyFrom : dOk cX3_copyFrom LX3_copyFrom = true := by decide +kernel
def MX3_copyFrom : xM := (RX3, yX3_copyFrom, cX3_copyFrom, 2, none, 0, 0, LX3_copyFrom)
theorem okX3_copyFrom : xOk MX3_copyFrom 1 := ⟨tW 424 (by decide +kernel) rfl, wi_RX3, by decide +kernel, ⟨by decide +kernel, by decide +kernel, by decide +kernel⟩, rfl, dOk.all dlX3_copyFrom⟩
theorem viX3_copyFrom : xVi yX3_copyFrom := ⟨tW 422 (by decide +kernel) rfl, tW 423 (by decide +kernel) rfl⟩
def LX4_init : List (Nat × Instr × Nat) := [(0, .aload_n 0, 1), (1, .invokespecial 3, 3), (4, .aload_n 0, 1), (5, .new 9, 3), (8, .dup, 1), (9, .invokespecial 11, 3), (12, .putfield 12, 3), (15, .aload_n 0, 1), (16, .iconst 2, 1), (17, .anewarray 9, 3), (20, .putfield 18, 3), (23, .aload_n 0, 1), (24, .iconst 2, 1), (25, .newarray .boolean, 2), (27, .putfield 22, 3), (30, .return_, 1)]
theorem dlX4_init : dOk cX4_init LX4_init = true := by decide +kernel
def MX4_init : xM := (RX4, yX4_init, cX4_init, 1, none, 3, 62, LX4_init)
theorem okX4_init : xOk MX4_init 0 := ⟨tW 25 (by decide +kernel) rfl, wi_RX4, by decide +kernel, ⟨by decide +kernel, by decide +kernel, by decide +kernel⟩, rfl, dOk.all dlX4_init⟩
theorem viX4_init : Cond.instanceMethod yX4_init ∈ gW := tW 24 (by decide +kernel) rfl
def LX4_copyFrom : List (Nat × Instr × Nat) := [(0, .aload_n 0, 1), (1, .getfield 12, 3), (4, .aload_n 1, 1), (5, .getfield 12, 3), (8, .invokevirtual 26, 3), (11, .iconst 0, 1), (12, .istore_n 2, 1), (13, .iload_n 2, 1), (14, .iconst 2, 1), (15, .if_icmp .ge 32, 3), (18, .aload_n 1, 1), (19, .iload_n 2, 1), (20, .invokevirtual 30, 3), (23, .astore_n 3, 1), (24, .aload_n 0, 1), (25, .getfield 22, 3), (28, .iload_n 2, 1), (29, .iconst 0, 1), (30, .bastore, 1), (31, .aload_n 3, 1), (32, .ifnull 9, 3), (35, .aload_n 0, 1), (36, .iload_n 2, 1), (37, .aload_n 3, 1), (38, .invokevirtual 34, 3), (41, .iinc 2 1, 3), (44, .goto (-31), 3), (47, .return_, 1)]
theorem dlX4_copyFrom : dOk cX4_copyFrom LX4_copyFrom = true := by decide +kernel
def MX4_copyFrom : xM := (RX4, yX4_copyFrom, cX4_copyFrom, 4, none, 4, 91, LX4_copyFrom)
theorem okX4_copyFrom : xOk MX4_copyFrom 1 := ⟨tW 416 (by decide +kernel) rfl, wi_RX4, by decide +kernel, ⟨by decide +kernel, by decide +kernel, by decide +kernel⟩, rfl, dOk.all dlX4_copyFrom⟩
theorem viX4_copyFrom : xVi yX4_copyFrom := ⟨tW 414 (by decide +kernel) rfl, tW 415 (by decide +kernel) rfl⟩
def LX4_fillSlot : List (Nat × Instr × Nat) := [(0, .aload_n 0, 1), (1, .getfield 18, 3), (4, .iload_n 1, 1), (5, .aaload, 1), (6, .ifnonnull 16, 3), (9, .aload_n 0, 1), (10, .getfield 18, 3), (13, .iload_n 1, 1), (14, .new 9, 3), (17, .dup, 1), (18, .invokespecial 11, 3), (21, .aastore, 1), (22, .aload_n 0, 1), (23, .getfield 18, 3), (26, .iload_n 1, 1), (27, .aaload, 1), (28, .aload_n 2, 1), (29, .invokevirtual 26, 3), (32, .aload_n 0, 1), (33, .getfield 22, 3), (36, .iload_n 1, 1), (37, .iconst 1, 1), (38, .bastore, 1), (39, .return_, 1)]
theorem dlX4_fillSlot : dOk cX4_fillSlot LX4_fillSlot = true := by decide +kernel
def MX4_fillSlot : xM := (RX4, yX4_fillSlot, cX4_fillSlot, 3, none, 3, 69, LX4_fillSlot)
theorem okX4_fillSlot : xOk MX4_fillSlot 2 := ⟨tW 447 (by decide +kernel) rfl, wi_RX4, by decide +kernel, ⟨by decide +kernel, by decide +kernel, by decide +kernel⟩, rfl, dOk.all dlX4_fillSlot⟩
theorem viX4_fillSlot : xVi yX4_fillSlot := ⟨tW 445 (by decide +kernel) rfl, tW 446 (by decide +kernel) rfl⟩
def LX4_snapshotIn : List (Nat × Instr × Nat) := [(0, .aload_n 0, 1), (1, .getfield 22, 3), (4, .iload_n 1, 1), (5, .baload, 1), (6, .ifCond .eq 12, 3), (9, .aload_n 0, 1), (10, .getfield 18, 3), (13, .iload_n 1, 1), (14, .aaload, 1), (15, .goto 4, 3), (18, .aconst_null, 1), (19, .areturn, 1)]
theorem dlX4_snapshotIn : dOk cX4_snapshotIn LX4_snapshotIn = true := by decide +kernel
def MX4_snapshotIn : xM := (RX4, yX4_snapshotIn, cX4_snapshotIn, 2, (some (.object "RelayParcels$World")), 0, 0, LX4_snapshotIn)
theorem okX4_snapshotIn : xOk MX4_snapshotIn 1 := ⟨tW 443 (by decide +kernel) rfl, wi_RX4, by decide +kernel, ⟨by decide +kernel, by decide +kernel, by decide +kernel⟩, rfl, dOk.all dlX4_snapshotIn⟩
theorem viX4_snapshotIn : xVi yX4_snapshotIn := ⟨tW 441 (by decide +kernel) rfl, tW 442 (by decide +kernel) rfl⟩
def LX4_filledSlots : List (Nat × Instr × Nat) := [(0, .iconst 0, 1), (1, .istore_n 1, 1), (2, .iconst 0, 1), (3, .istore_n 2, 1), (4, .iload_n 2, 1), (5, .iconst 2, 1), (6, .if_icmp .ge 21, 3), (9, .aload_n 0, 1), (10, .getfield 22, 3), (13, .iload_n 2, 1), (14, .baload, 1), (15, .ifCond .eq 6, 3), (18, .iinc 1 1, 3), (21, .iinc 2 1, 3), (24, .goto (-20), 3), (27, .iload_n 1, 1), (28, .ireturn, 1)]
theorem dlX4_filledSlots : dOk cX4_filledSlots LX4_filledSlots = true := by decide +kernel
def MX4_filledSlots : xM := (RX4, yX4_filledSlots, cX4_filledSlots, 3, (some .int), 0, 0, LX4_filledSlots)
theorem okX4_filledSlots : xOk MX4_filledSlots 0 := ⟨tW 299 (by decide +kernel) rfl, wi_RX4, by decide +kernel, ⟨by decide +kernel, by decide +kernel, by decide +kernel⟩, rfl, dOk.all dlX4_filledSlots⟩
theorem viX4_filledSlots : xVi yX4_filledSlots := ⟨tW 297 (by decide +kernel) rfl, tW 298 (by decide +kernel) rfl⟩
def LX5_init : List (Nat × Instr × Nat) := [(0, .aload_n 0, 1), (1, .invokespecial 3, 3), (4, .aload_n 0, 1), (5, .bipush 80, 2), (7, .newarray .char, 2), (9, .putfield 9, 3), (12, .return_, 1)]
theorem dlX5_init : dOk cX5_init LX5_init = true := by decide +kernel
def MX5_init : xM := (RX5, yX5_init, cX5_init, 1, none, 1, 20, LX5_init)
theorem okX5_init : xOk MX5_init 0 := ⟨tW 229 (by decide +kernel) rfl, wi_RX5, by decide +kernel, ⟨by decide +kernel, by decide +kernel, by decide +kernel⟩, rfl, dOk.all dlX5_init⟩
theorem viX5_init : Cond.instanceMethod yX5_init ∈ gW := tW 228 (by decide +kernel) rfl
def LX6_init : List (Nat × Instr × Nat) := [(0, .aload_n 0, 1), (1, .invokespecial 3, 3), (4, .return_, 1)]
theorem dlX6_init : dOk cX6_init LX6_init = true := by decide +kernel
def MX6_init : xM := (RX6, yX6_init, cX6_init, 1, none, 1, 20, LX6_init)
theorem okX6_init : xOk MX6_init 0 := ⟨tW 82 (by decide +kernel) rfl, wi_RX6, by decide +kernel, ⟨by decide +kernel, by decide +kernel, by decide +kernel⟩, rfl, dOk.all dlX6_init⟩
theorem viX6_init : Cond.instanceMethod yX6_init ∈ gW := tW 81 (by decide +kernel) rfl
def LX6_copyFrom : List (Nat × Instr × Nat) := [(0, .aload_n 0, 1), (1, .aload_n 1, 1), (2, .getfield 9, 3), (5, .putfield 9, 3), (8, .aload_n 0, 1), (9, .aload_n 1, 1), (10, .getfield 15, 3), (13, .putfield 15, 3), (16, .aload_n 0, 1), (17, .aload_n 1, 1), (18, .getfield 18, 3), (21, .putfield 18, 3), (24, .aload_n 0, 1), (25, .aload_n 1, 1), (26, .getfield 21, 3), (29, .putfield 21, 3), (32, .aload_n 0, 1), (33, .aload_n 1, 1), (34, .getfield 24, 3), (37, .putfield 24, 3), (40, .aload_n 0, 1), (41, .aload_n 1, 1), (42, .getfield 27, 3), (45, .putfield 27, 3), (48, .aload_n 0, 1), (49, .aload_n 1, 1), (50, .getfield 30, 3), (53, .putfield 30, 3), (56, .return_, 1)]
theorem dlX6_copyFrom : dOk cX6_copyFrom LX6_copyFrom = true := by decide +kernel
def MX6_copyFrom : xM := (RX6, yX6_copyFrom, cX6_copyFrom, 2, none, 0, 0, LX6_copyFrom)
theorem okX6_copyFrom : xOk MX6_copyFrom 1 := ⟨tW 428 (by decide +kernel) rfl, wi_RX6, by decide +kernel, ⟨by decide +kernel, by decide +kernel, by decide +kernel⟩, rfl, dOk.all dlX6_copyFrom⟩
theorem viX6_copyFrom : xVi yX6_copyFrom := ⟨tW 426 (by decide +kernel) rfl, tW 427 (by decide +kernel) rfl⟩
def LX6_isOpen : List (Nat × Instr × Nat) := [(0, .aload_n 0, 1), (1, .getfield 30, 3), (4, .ifCond .eq 11, 3), (7, .aload_n 0, 1), (8, .getfield 30, 3), (11, .iconst 1, 1), (12, .if_icmp .ne 7, 3), (15, .iconst 1, 1), (16, .goto 4, 3), (19, .iconst 0, 1), (20, .ireturn, 1)]
theorem dlX6_isOpen : dOk cX6_isOpen LX6_isOpen = true := by decide +kernel
def MX6_isOpen : xM := (RX6, yX6_isOpen, cX6_isOpen, 1, (some .boolean), 0, 0, LX6_isOpen)
theorem okX6_isOpen : xOk MX6_isOpen 0 := ⟨tW 403 (by decide +kernel) rfl, wi_RX6, by decide +kernel, ⟨by decide +kernel, by decide +kernel, by decide +kernel⟩, rfl, dOk.all dlX6_isOpen⟩
theorem viX6_isOpen : xVi yX6_isOpen := ⟨tW 401 (by decide +kernel) rfl, tW 402 (by decide +kernel) rfl⟩
def LX6_overlaps : List (Nat × Instr × Nat) := [(0, .aload_n 0, 1), (1, .getfield 21, 3), (4, .iload_n 2, 1), (5, .if_icmp .ge 15, 3), (8, .iload_n 1, 1), (9, .aload_n 0, 1), (10, .getfield 24, 3), (13, .if_icmp .ge 7, 3), (16, .iconst 1, 1), (17, .goto 4, 3), (20, .iconst 0, 1), (21, .ireturn, 1)]
theorem dlX6_overlaps : dOk cX6_overlaps LX6_overlaps = true := by decide +kernel
def MX6_overlaps : xM := (RX6, yX6_overlaps, cX6_overlaps, 3, (some .boolean), 0, 0, LX6_overlaps)
theorem okX6_overlaps : xOk MX6_overlaps 2 := ⟨tW 407 (by decide +kernel) rfl, wi_RX6, by decide +kernel, ⟨by decide +kernel, by decide +kernel, by decide +kernel⟩, rfl, dOk.all dlX6_overlaps⟩
theorem viX6_overlaps : xVi yX6_overlaps := ⟨tW 405 (by decide +kernel) rfl, tW 406 (by decide +kernel) rfl⟩
def LX6_tell : List (Nat × Instr × Nat) := [(0, .iload_n 1, 1), (1, .tableswitch 69 0 5 #[39, 44, 49, 54, 59, 64], 39), (40, .aload_n 0, 1), (41, .getfield 9, 3), (44, .ireturn, 1), (45, .aload_n 0, 1), (46, .getfield 15, 3), (49, .ireturn, 1), (50, .aload_n 0, 1), (51, .getfield 18, 3), (54, .ireturn, 1), (55, .aload_n 0, 1), (56, .getfield 21, 3), (59, .ireturn, 1), (60, .aload_n 0, 1), (61, .getfield 24, 3), (64, .ireturn, 1), (65, .aload_n 0, 1), (66, .getfield 27, 3), (69, .ireturn, 1), (70, .aload_n 0, 1), (71, .getfield 30, 3), (74, .ireturn, 1)]
theorem dlX6_tell : dOk cX6_tell LX6_tell = true := by decide +kernel
def MX6_tell : xM := (RX6, yX6_tell, cX6_tell, 2, (some .int), 0, 0, LX6_tell)
theorem okX6_tell : xOk MX6_tell 1 := ⟨tW 351 (by decide +kernel) rfl, wi_RX6, by decide +kernel, ⟨by decide +kernel, by decide +kernel, by decide +kernel⟩, rfl, dOk.all dlX6_tell⟩
theorem viX6_tell : xVi yX6_tell := ⟨tW 349 (by decide +kernel) rfl, tW 350 (by decide +kernel) rfl⟩
def LX7_init : List (Nat × Instr × Nat) := [(0, .aload_n 0, 1), (1, .invokespecial 3, 3), (4, .aload_n 0, 1), (5, .bipush 16, 2), (7, .newarray .boolean, 2), (9, .putfield 9, 3), (12, .aload_n 0, 1), (13, .bipush 16, 2), (15, .newarray .boolean, 2), (17, .putfield 15, 3), (20, .aload_n 0, 1), (21, .bipush 16, 2), (23, .newarray .int, 2), (25, .putfield 18, 3), (28, .aload_n 0, 1), (29, .bipush 16, 2), (31, .newarray .int, 2), (33, .putfield 22, 3), (36, .aload_n 0, 1), (37, .aload_n 1, 1), (38, .putfield 25, 3), (41, .return_, 1)]
theorem dlX7_init : dOk cX7_init LX7_init = true := by decide +kernel
def MX7_init : xM := (RX7, yX7_init, cX7_init, 2, none, 1, 20, LX7_init)
theorem okX7_init : xOk MX7_init 1 := ⟨tW 243 (by decide +kernel) rfl, wi_RX7, by decide +kernel, ⟨by decide +kernel, by decide +kernel, by decide +kernel⟩, rfl, dOk.all dlX7_init⟩
theorem viX7_init : Cond.instanceMethod yX7_init ∈ gW := tW 242 (by decide +kernel) rfl
def LX8_init_q0 : List (Nat × Instr × Nat) := [(0, .aload_n 0, 1), (1, .invokespecial 3, 3), (4, .aload_n 0, 1), (5, .bipush 8, 2), (7, .anewarray 9, 3), (10, .putfield 11, 3), (13, .aload_n 0, 1), (14, .bipush 16, 2), (16, .anewarray 17, 3), (19, .putfield 19, 3), (22, .aload_n 0, 1), (23, .bipush 10, 2), (25, .anewarray 23, 3), (28, .putfield 25, 3), (31, .aload_n 0, 1), (32, .new 29, 3), (35, .dup, 1), (36, .invokespecial 31, 3), (39, .putfield 32, 3), (42, .iconst 0, 1), (43, .istore_n 1, 1), (44, .iload_n 1, 1), (45, .bipush 8, 2), (47, .if_icmp .ge 26, 3), (50, .aload_n 0, 1), (51, .getfield 11, 3), (54, .iload_n 1, 1), (55, .new 9, 3), (58, .dup, 1), (59, .iload_n 1, 1), (60, .bipush 6, 2), (62, .irem, 1), (63, .invokespecial 36, 3), (66, .aastore, 1), (67, .iinc 1 1, 3), (70, .goto (-26), 3), (73, .iconst 0, 1), (74, .istore_n 1, 1), (75, .iload_n 1, 1), (76, .bipush 16, 2)]
theorem dlX8_init_q0 : dOk cX8_init LX8_init_q0 = true := by decide +kernel
def LX8_init_q1 : List (Nat × Instr × Nat) := [(78, .if_icmp .ge 22, 3), (81, .aload_n 0, 1), (82, .getfield 19, 3), (85, .iload_n 1, 1), (86, .new 17, 3), (89, .dup, 1), (90, .invokespecial 39, 3), (93, .aastore, 1), (94, .iinc 1 1, 3), (97, .goto (-22), 3), (100, .iconst 0, 1), (101, .istore_n 1, 1), (102, .iload_n 1, 1), (103, .bipush 10, 2), (105, .if_icmp .ge 22, 3), (108, .aload_n 0, 1), (109, .getfield 25, 3), (112, .iload_n 1, 1), (113, .new 23, 3), (116, .dup, 1), (117, .invokespecial 40, 3), (120, .aastore, 1), (121, .iinc 1 1, 3), (124, .goto (-22), 3), (127, .return_, 1)]
theorem dlX8_init_q1 : dOk cX8_init LX8_init_q1 = true := by decide +kernel
def LX8_init : List (Nat × Instr × Nat) := (LX8_init_q0 ++ LX8_init_q1)
theorem dlX8_init : dOk cX8_init LX8_init = true := (dOk.app dlX8_init_q0 dlX8_init_q1)
def MX8_init : xM := (RX8, yX8_init, cX8_init, 2, none, 2, 41, LX8_init)
theorem okX8_init : xOk MX8_init 0 := ⟨tW 31 (by decide +kernel) rfl, wi_RX8, by decide +kernel, ⟨by decide +kernel, by decide +kernel, by decide +kernel⟩, rfl, dOk.all dlX8_init⟩
theorem viX8_init : Cond.instanceMethod yX8_init ∈ gW := tW 30 (by decide +kernel) rfl
def LX8_copyFrom_q0 : List (Nat × Instr × Nat) := [(0, .aload_n 0, 1), (1, .aload_n 1, 1), (2, .getfield 41, 3), (5, .putfield 41, 3), (8, .aload_n 0, 1), (9, .aload_n 1, 1), (10, .getfield 45, 3), (13, .putfield 45, 3), (16, .aload_n 0, 1), (17, .aload_n 1, 1), (18, .getfield 48, 3), (21, .putfield 48, 3), (24, .aload_n 0, 1), (25, .aload_n 1, 1), (26, .getfield 51, 3), (29, .putfield 51, 3), (32, .aload_n 0, 1), (33, .aload_n 1, 1), (34, .getfield 54, 3), (37, .putfield 54, 3), (40, .aload_n 0, 1), (41, .aload_n 1, 1), (42, .getfield 57, 3), (45, .putfield 57, 3), (48, .iconst 0, 1), (49, .istore_n 2, 1), (50, .iload_n 2, 1), (51, .bipush 8, 2), (53, .if_icmp .ge 24, 3), (56, .aload_n 0, 1), (57, .getfield 11, 3), (60, .iload_n 2, 1), (61, .aaload, 1), (62, .aload_n 1, 1), (63, .getfield 11, 3), (66, .iload_n 2, 1), (67, .aaload, 1), (68, .invokevirtual 60, 3), (71, .iinc 2 1, 3), (74, .goto (-24), 3)]
theorem dlX8_copyFrom_q0 : dOk cX8_copyFrom LX8_copyFrom_q0 = true := by decide +kernel
def LX8_copyFrom_q1 : List (Nat × Instr × Nat) := [(77, .iconst 0, 1), (78, .istore_n 2, 1), (79, .iload_n 2, 1), (80, .aload_n 0, 1), (81, .getfield 54, 3), (84, .if_icmp .ge 24, 3), (87, .aload_n 0, 1), (88, .getfield 19, 3), (91, .iload_n 2, 1), (92, .aaload, 1), (93, .aload_n 1, 1), (94, .getfield 19, 3), (97, .iload_n 2, 1), (98, .aaload, 1), (99, .invokevirtual 64, 3), (102, .iinc 2 1, 3), (105, .goto (-26), 3), (108, .iconst 0, 1), (109, .istore_n 2, 1), (110, .iload_n 2, 1), (111, .aload_n 0, 1), (112, .getfield 57, 3), (115, .if_icmp .ge 24, 3), (118, .aload_n 0, 1), (119, .getfield 25, 3), (122, .iload_n 2, 1), (123, .aaload, 1), (124, .aload_n 1, 1), (125, .getfield 25, 3), (128, .iload_n 2, 1), (129, .aaload, 1), (130, .invokevirtual 67, 3), (133, .iinc 2 1, 3), (136, .goto (-26), 3), (139, .aload_n 0, 1), (140, .getfield 32, 3), (143, .aload_n 1, 1), (144, .getfield 32, 3), (147, .invokevirtual 70, 3), (150, .return_, 1)]
theorem dlX8_copyFrom_q1 : dOk cX8_copyFrom LX8_copyFrom_q1 = true := by decide +kernel
def LX8_copyFrom : List (Nat × Instr × Nat) := (LX8_copyFrom_q0 ++ LX8_copyFrom_q1)
theorem dlX8_copyFrom : dOk cX8_copyFrom LX8_copyFrom = true := (dOk.app dlX8_copyFrom_q0 dlX8_copyFrom_q1)
def MX8_copyFrom : xM := (RX8, yX8_copyFrom, cX8_copyFrom, 3, none, 2, 47, LX8_copyFrom)
theorem okX8_copyFrom : xOk MX8_copyFrom 1 := ⟨tW 420 (by decide +kernel) rfl, wi_RX8, by decide +kernel, ⟨by decide +kernel, by decide +kernel, by decide +kernel⟩, rfl, dOk.all dlX8_copyFrom⟩
theorem viX8_copyFrom : xVi yX8_copyFrom := ⟨tW 418 (by decide +kernel) rfl, tW 419 (by decide +kernel) rfl⟩
def LX8_isTrip : List (Nat × Instr × Nat) := [(0, .iload_n 1, 1), (1, .ifCond .lt 15, 3), (4, .iload_n 1, 1), (5, .aload_n 0, 1), (6, .getfield 54, 3), (9, .if_icmp .ge 7, 3), (12, .iconst 1, 1), (13, .goto 4, 3), (16, .iconst 0, 1), (17, .ireturn, 1)]
theorem dlX8_isTrip : dOk cX8_isTrip LX8_isTrip = true := by decide +kernel
def MX8_isTrip : xM := (RX8, yX8_isTrip, cX8_isTrip, 2, (some .boolean), 0, 0, LX8_isTrip)
theorem okX8_isTrip : xOk MX8_isTrip 1 := ⟨tW 347 (by decide +kernel) rfl, wi_RX8, by decide +kernel, ⟨by decide +kernel, by decide +kernel, by decide +kernel⟩, rfl, dOk.all dlX8_isTrip⟩
theorem viX8_isTrip : xVi yX8_isTrip := ⟨tW 345 (by decide +kernel) rfl, tW 346 (by decide +kernel) rfl⟩
def LX8_isParcel : List (Nat × Instr × Nat) := [(0, .iload_n 1, 1), (1, .ifCond .lt 15, 3), (4, .iload_n 1, 1), (5, .aload_n 0, 1), (6, .getfield 57, 3), (9, .if_icmp .ge 7, 3), (12, .iconst 1, 1), (13, .goto 4, 3), (16, .iconst 0, 1), (17, .ireturn, 1)]
theorem dlX8_isParcel : dOk cX8_isParcel LX8_isParcel = true := by decide +kernel
def MX8_isParcel : xM := (RX8, yX8_isParcel, cX8_isParcel, 2, (some .boolean), 0, 0, LX8_isParcel)
theorem okX8_isParcel : xOk MX8_isParcel 1 := ⟨tW 359 (by decide +kernel) rfl, wi_RX8, by decide +kernel, ⟨by decide +kernel, by decide +kernel, by decide +kernel⟩, rfl, dOk.all dlX8_isParcel⟩
theorem viX8_isParcel : xVi yX8_isParcel := ⟨tW 357 (by decide +kernel) rfl, tW 358 (by decide +kernel) rfl⟩
def LX8_heldBy : List (Nat × Instr × Nat) := [(0, .iconst 0, 1), (1, .istore_n 2, 1), (2, .iconst 0, 1), (3, .istore_n 3, 1), (4, .iload_n 3, 1), (5, .aload_n 0, 1), (6, .getfield 57, 3), (9, .if_icmp .ge 37, 3), (12, .aload_n 0, 1), (13, .getfield 25, 3), (16, .iload_n 3, 1), (17, .aaload, 1), (18, .getfield 73, 3), (21, .ifCond .ne 19, 3), (24, .aload_n 0, 1), (25, .getfield 25, 3), (28, .iload_n 3, 1), (29, .aaload, 1), (30, .getfield 76, 3), (33, .iload_n 1, 1), (34, .if_icmp .ne 6, 3), (37, .iinc 2 1, 3), (40, .iinc 3 1, 3), (43, .goto (-39), 3), (46, .iload_n 2, 1), (47, .ireturn, 1)]
theorem dlX8_heldBy : dOk cX8_heldBy LX8_heldBy = true := by decide +kernel
def MX8_heldBy : xM := (RX8, yX8_heldBy, cX8_heldBy, 4, (some .int), 0, 0, LX8_heldBy)
theorem okX8_heldBy : xOk MX8_heldBy 1 := ⟨tW 339 (by decide +kernel) rfl, wi_RX8, by decide +kernel, ⟨by decide +kernel, by decide +kernel, by decide +kernel⟩, rfl, dOk.all dlX8_heldBy⟩
theorem viX8_heldBy : xVi yX8_heldBy := ⟨tW 337 (by decide +kernel) rfl, tW 338 (by decide +kernel) rfl⟩
def LX8_townOf : List (Nat × Instr × Nat) := [(0, .iload_n 1, 1), (1, .bipush 10, 2), (3, .if_icmp .lt 10, 3), (6, .iload_n 1, 1), (7, .bipush 10, 2), (9, .isub, 1), (10, .goto 12, 3), (13, .aload_n 0, 1), (14, .getfield 11, 3), (17, .iload_n 1, 1), (18, .aaload, 1), (19, .getfield 79, 3), (22, .ireturn, 1)]
theorem dlX8_townOf : dOk cX8_townOf LX8_townOf = true := by decide +kernel
def MX8_townOf : xM := (RX8, yX8_townOf, cX8_townOf, 2, (some .int), 0, 0, LX8_townOf)
theorem okX8_townOf : xOk MX8_townOf 1 := ⟨tW 367 (by decide +kernel) rfl, wi_RX8, by decide +kernel, ⟨by decide +kernel, by decide +kernel, by decide +kernel⟩, rfl, dOk.all dlX8_townOf⟩
theorem viX8_townOf : xVi yX8_townOf := ⟨tW 365 (by decide +kernel) rfl, tW 366 (by decide +kernel) rfl⟩
def LX8_areTogether : List (Nat × Instr × Nat) := [(0, .aload_n 0, 1), (1, .iload_n 1, 1), (2, .invokevirtual 85, 3), (5, .bipush (-9), 2), (7, .if_icmp .eq 20, 3), (10, .aload_n 0, 1), (11, .iload_n 1, 1), (12, .invokevirtual 85, 3), (15, .aload_n 0, 1), (16, .iload_n 2, 1), (17, .invokevirtual 85, 3), (20, .if_icmp .ne 7, 3), (23, .iconst 1, 1), (24, .goto 4, 3), (27, .iconst 0, 1), (28, .ireturn, 1)]
theorem dlX8_areTogether : dOk cX8_areTogether LX8_areTogether = true := by decide +kernel
def MX8_areTogether : xM := (RX8, yX8_areTogether, cX8_areTogether, 3, (some .boolean), 1, 21, LX8_areTogether)
theorem okX8_areTogether : xOk MX8_areTogether 2 := ⟨tW 521 (by decide +kernel) rfl, wi_RX8, by decide +kernel, ⟨by decide +kernel, by decide +kernel, by decide +kernel⟩, rfl, dOk.all dlX8_areTogether⟩
theorem viX8_areTogether : xVi yX8_areTogether := ⟨tW 519 (by decide +kernel) rfl, tW 520 (by decide +kernel) rfl⟩
def LX8_isHeldUnderWay : List (Nat × Instr × Nat) := [(0, .aload_n 0, 1), (1, .getfield 25, 3), (4, .iload_n 1, 1), (5, .aaload, 1), (6, .getfield 73, 3), (9, .ifCond .ne 20, 3), (12, .aload_n 0, 1), (13, .getfield 25, 3), (16, .iload_n 1, 1), (17, .aaload, 1), (18, .getfield 76, 3), (21, .iload_n 2, 1), (22, .if_icmp .ne 7, 3), (25, .iconst 1, 1), (26, .goto 4, 3), (29, .iconst 0, 1), (30, .ireturn, 1)]
theorem dlX8_isHeldUnderWay : dOk cX8_isHeldUnderWay LX8_isHeldUnderWay = true := by decide +kernel
def MX8_isHeldUnderWay : xM := (RX8, yX8_isHeldUnderWay, cX8_isHeldUnderWay, 3, (some .boolean), 0, 0, LX8_isHeldUnderWay)
theorem okX8_isHeldUnderWay : xOk MX8_isHeldUnderWay 2 := ⟨tW 517 (by decide +kernel) rfl, wi_RX8, by decide +kernel, ⟨by decide +kernel, by decide +kernel, by decide +kernel⟩, rfl, dOk.all dlX8_isHeldUnderWay⟩
theorem viX8_isHeldUnderWay : xVi yX8_isHeldUnderWay := ⟨tW 515 (by decide +kernel) rfl, tW 516 (by decide +kernel) rfl⟩
def LX8_offerFault_q0 : List (Nat × Instr × Nat) := [(0, .iload_n 1, 1), (1, .invokestatic 89, 3), (4, .ifCond .eq 22, 3), (7, .iload_n 2, 1), (8, .invokestatic 93, 3), (11, .ifCond .eq 15, 3), (14, .iload_n 3, 1), (15, .invokestatic 93, 3), (18, .ifCond .eq 8, 3), (21, .iload_n 2, 1), (22, .iload_n 3, 1), (23, .if_icmp .ne 5, 3), (26, .iconst (-1), 1), (27, .ireturn, 1), (28, .iload 4, 2), (30, .iconst 1, 1), (31, .bipush 50, 2), (33, .invokestatic 96, 3), (36, .ifCond .eq 25, 3), (39, .iload 5, 2), (41, .iconst 1, 1), (42, .bipush 50, 2), (44, .invokestatic 96, 3), (47, .ifCond .eq 14, 3), (50, .iload 6, 2), (52, .iconst 0, 1), (53, .bipush 99, 2), (55, .invokestatic 96, 3), (58, .ifCond .ne 5, 3), (61, .iconst (-1), 1), (62, .ireturn, 1), (63, .aload_n 0, 1), (64, .iload_n 1, 1), (65, .aload_n 0, 1), (66, .getfield 41, 3), (69, .iload 4, 2), (71, .iadd, 1), (72, .aload_n 0, 1), (73, .getfield 41, 3), (76, .iload 4, 2)]
theorem dlX8_offerFault_q0 : dOk cX8_offerFault LX8_offerFault_q0 = true := by decide +kernel
def LX8_offerFault_q1 : List (Nat × Instr × Nat) := [(78, .iadd, 1), (79, .iload 5, 2), (81, .iadd, 1), (82, .invokevirtual 100, 3), (85, .ifCond .eq 6, 3), (88, .bipush (-2), 2), (90, .ireturn, 1), (91, .aload_n 0, 1), (92, .getfield 54, 3), (95, .bipush 16, 2), (97, .if_icmp .ge 7, 3), (100, .iconst 0, 1), (101, .goto 5, 3), (104, .bipush (-3), 2), (106, .ireturn, 1)]
theorem dlX8_offerFault_q1 : dOk cX8_offerFault LX8_offerFault_q1 = true := by decide +kernel
def LX8_offerFault : List (Nat × Instr × Nat) := (LX8_offerFault_q0 ++ LX8_offerFault_q1)
theorem dlX8_offerFault : dOk cX8_offerFault LX8_offerFault = true := (dOk.app dlX8_offerFault_q0 dlX8_offerFault_q1)
def MX8_offerFault : xM := (RX8, yX8_offerFault, cX8_offerFault, 7, (some .int), 2, 47, LX8_offerFault)
theorem okX8_offerFault : xOk MX8_offerFault 6 := ⟨tW 390 (by decide +kernel) rfl, wi_RX8, by decide +kernel, ⟨by decide +kernel, by decide +kernel, by decide +kernel⟩, rfl, dOk.all dlX8_offerFault⟩
theorem viX8_offerFault : xVi yX8_offerFault := ⟨tW 388 (by decide +kernel) rfl, tW 389 (by decide +kernel) rfl⟩
def LX8_overlapsATrip : List (Nat × Instr × Nat) := [(0, .iconst 0, 1), (1, .istore 4, 2), (3, .iload 4, 2), (5, .aload_n 0, 1), (6, .getfield 54, 3), (9, .if_icmp .ge 47, 3), (12, .aload_n 0, 1), (13, .getfield 19, 3), (16, .iload 4, 2), (18, .aaload, 1), (19, .astore 5, 2), (21, .aload 5, 2), (23, .getfield 103, 3), (26, .iload_n 1, 1), (27, .if_icmp .ne 23, 3), (30, .aload 5, 2), (32, .invokevirtual 106, 3), (35, .ifCond .eq 15, 3), (38, .aload 5, 2), (40, .iload_n 2, 1), (41, .iload_n 3, 1), (42, .invokevirtual 110, 3), (45, .ifCond .eq 5, 3), (48, .iconst 1, 1), (49, .ireturn, 1), (50, .iinc 4 1, 3), (53, .goto (-50), 3), (56, .iconst 0, 1), (57, .ireturn, 1)]
theorem dlX8_overlapsATrip : dOk cX8_overlapsATrip LX8_overlapsATrip = true := by decide +kernel
def MX8_overlapsATrip : xM := (RX8, yX8_overlapsATrip, cX8_overlapsATrip, 6, (some .boolean), 1, 22, LX8_overlapsATrip)
theorem okX8_overlapsATrip : xOk MX8_overlapsATrip 3 := ⟨tW 399 (by decide +kernel) rfl, wi_RX8, by decide +kernel, ⟨by decide +kernel, by decide +kernel, by decide +kernel⟩, rfl, dOk.all dlX8_overlapsATrip⟩
theorem viX8_overlapsATrip : xVi yX8_overlapsATrip := ⟨tW 398 (by decide +kernel) rfl, tS 3 (by decide +kernel) rfl⟩
def LX8_addTrip_q0 : List (Nat × Instr × Nat) := [(0, .aload_n 0, 1), (1, .getfield 19, 3), (4, .aload_n 0, 1), (5, .getfield 54, 3), (8, .aaload, 1), (9, .astore 7, 2), (11, .aload 7, 2), (13, .iload_n 1, 1), (14, .putfield 103, 3), (17, .aload 7, 2), (19, .iload_n 2, 1), (20, .putfield 114, 3), (23, .aload 7, 2), (25, .iload_n 3, 1), (26, .putfield 117, 3), (29, .aload 7, 2), (31, .aload_n 0, 1), (32, .getfield 41, 3), (35, .iload 4, 2), (37, .iadd, 1), (38, .putfield 120, 3), (41, .aload 7, 2), (43, .aload_n 0, 1), (44, .getfield 41, 3), (47, .iload 4, 2), (49, .iadd, 1), (50, .iload 5, 2), (52, .iadd, 1), (53, .putfield 123, 3), (56, .aload 7, 2), (58, .iload 6, 2), (60, .putfield 126, 3), (63, .aload 7, 2), (65, .iconst 0, 1), (66, .putfield 129, 3), (69, .aload_n 0, 1), (70, .dup, 1), (71, .getfield 54, 3), (74, .iconst 1, 1), (75, .iadd, 1)]
theorem dlX8_addTrip_q0 : dOk cX8_addTrip LX8_addTrip_q0 = true := by decide +kernel
def LX8_addTrip_q1 : List (Nat × Instr × Nat) := [(76, .putfield 54, 3), (79, .aload_n 0, 1), (80, .getfield 54, 3), (83, .iconst 1, 1), (84, .isub, 1), (85, .ireturn, 1)]
theorem dlX8_addTrip_q1 : dOk cX8_addTrip LX8_addTrip_q1 = true := by decide +kernel
def LX8_addTrip : List (Nat × Instr × Nat) := (LX8_addTrip_q0 ++ LX8_addTrip_q1)
theorem dlX8_addTrip : dOk cX8_addTrip LX8_addTrip = true := (dOk.app dlX8_addTrip_q0 dlX8_addTrip_q1)
def MX8_addTrip : xM := (RX8, yX8_addTrip, cX8_addTrip, 8, (some .int), 0, 0, LX8_addTrip)
theorem okX8_addTrip : xOk MX8_addTrip 6 := ⟨tW 454 (by decide +kernel) rfl, wi_RX8, by decide +kernel, ⟨by decide +kernel, by decide +kernel, by decide +kernel⟩, rfl, dOk.all dlX8_addTrip⟩
theorem viX8_addTrip : xVi yX8_addTrip := ⟨tW 452 (by decide +kernel) rfl, tW 453 (by decide +kernel) rfl⟩
def LX8_takeBackFault : List (Nat × Instr × Nat) := [(0, .aload_n 0, 1), (1, .iload_n 1, 1), (2, .invokevirtual 130, 3), (5, .ifCond .ne 5, 3), (8, .iconst (-1), 1), (9, .ireturn, 1), (10, .aload_n 0, 1), (11, .getfield 19, 3), (14, .iload_n 1, 1), (15, .aaload, 1), (16, .getfield 129, 3), (19, .ifCond .ne 7, 3), (22, .iconst 0, 1), (23, .goto 5, 3), (26, .bipush (-2), 2), (28, .ireturn, 1)]
theorem dlX8_takeBackFault : dOk cX8_takeBackFault LX8_takeBackFault = true := by decide +kernel
def MX8_takeBackFault : xM := (RX8, yX8_takeBackFault, cX8_takeBackFault, 2, (some .int), 1, 21, LX8_takeBackFault)
theorem okX8_takeBackFault : xOk MX8_takeBackFault 1 := ⟨tW 624 (by decide +kernel) rfl, wi_RX8, by decide +kernel, ⟨by decide +kernel, by decide +kernel, by decide +kernel⟩, rfl, dOk.all dlX8_takeBackFault⟩
theorem viX8_takeBackFault : xVi yX8_takeBackFault := ⟨tW 622 (by decide +kernel) rfl, tW 623 (by decide +kernel) rfl⟩
def LX8_voidTrip : List (Nat × Instr × Nat) := [(0, .aload_n 0, 1), (1, .getfield 19, 3), (4, .iload_n 1, 1), (5, .aaload, 1), (6, .iconst 3, 1), (7, .putfield 129, 3), (10, .aload_n 0, 1), (11, .getfield 19, 3), (14, .iload_n 1, 1), (15, .aaload, 1), (16, .getfield 120, 3), (19, .ireturn, 1)]
theorem dlX8_voidTrip : dOk cX8_voidTrip LX8_voidTrip = true := by decide +kernel
def MX8_voidTrip : xM := (RX8, yX8_voidTrip, cX8_voidTrip, 2, (some .int), 0, 0, LX8_voidTrip)
theorem okX8_voidTrip : xOk MX8_voidTrip 1 := ⟨tW 629 (by decide +kernel) rfl, wi_RX8, by decide +kernel, ⟨by decide +kernel, by decide +kernel, by decide +kernel⟩, rfl, dOk.all dlX8_voidTrip⟩
theorem viX8_voidTrip : xVi yX8_voidTrip := ⟨tW 627 (by decide +kernel) rfl, tW 628 (by decide +kernel) rfl⟩
def LX8_passFault : List (Nat × Instr × Nat) := [(0, .iload_n 1, 1), (1, .iconst 1, 1), (2, .bipush 24, 2), (4, .invokestatic 96, 3), (7, .ifCond .ne 5, 3), (10, .iconst (-1), 1), (11, .ireturn, 1), (12, .aload_n 0, 1), (13, .getfield 41, 3), (16, .iload_n 1, 1), (17, .iadd, 1), (18, .sipush 500, 3), (21, .if_icmp .gt 7, 3), (24, .iconst 0, 1), (25, .goto 5, 3), (28, .bipush (-3), 2), (30, .ireturn, 1)]
theorem dlX8_passFault : dOk cX8_passFault LX8_passFault = true := by decide +kernel
def MX8_passFault : xM := (RX8, yX8_passFault, cX8_passFault, 2, (some .int), 1, 22, LX8_passFault)
theorem okX8_passFault : xOk MX8_passFault 1 := ⟨tW 488 (by decide +kernel) rfl, wi_RX8, by decide +kernel, ⟨by decide +kernel, by decide +kernel, by decide +kernel⟩, rfl, dOk.all dlX8_passFault⟩
theorem viX8_passFault : xVi yX8_passFault := ⟨tW 486 (by decide +kernel) rfl, tW 487 (by decide +kernel) rfl⟩
def LX8_passHours : List (Nat × Instr × Nat) := [(0, .iconst 0, 1), (1, .istore_n 2, 1), (2, .iconst 0, 1), (3, .istore_n 3, 1), (4, .iload_n 3, 1), (5, .iload_n 1, 1), (6, .if_icmp .ge 30, 3), (9, .aload_n 0, 1), (10, .dup, 1), (11, .getfield 41, 3), (14, .iconst 1, 1), (15, .iadd, 1), (16, .putfield 41, 3), (19, .iload_n 2, 1), (20, .aload_n 0, 1), (21, .invokevirtual 133, 3), (24, .iadd, 1), (25, .istore_n 2, 1), (26, .aload_n 0, 1), (27, .invokevirtual 137, 3), (30, .iinc 3 1, 3), (33, .goto (-29), 3), (36, .iload_n 2, 1), (37, .ireturn, 1)]
theorem dlX8_passHours : dOk cX8_passHours LX8_passHours = true := by decide +kernel
def MX8_passHours : xM := (RX8, yX8_passHours, cX8_passHours, 4, (some .int), 2, 45, LX8_passHours)
theorem okX8_passHours : xOk MX8_passHours 1 := ⟨tW 492 (by decide +kernel) rfl, wi_RX8, by decide +kernel, ⟨by decide +kernel, by decide +kernel, by decide +kernel⟩, rfl, dOk.all dlX8_passHours⟩
theorem viX8_passHours : xVi yX8_passHours := ⟨tW 490 (by decide +kernel) rfl, tW 491 (by decide +kernel) rfl⟩
def LX8_endTrips_q0 : List (Nat × Instr × Nat) := [(0, .iconst 0, 1), (1, .istore_n 1, 1), (2, .iconst 0, 1), (3, .istore_n 2, 1), (4, .iload_n 2, 1), (5, .aload_n 0, 1), (6, .getfield 54, 3), (9, .if_icmp .ge 73, 3), (12, .aload_n 0, 1), (13, .getfield 19, 3), (16, .iload_n 2, 1), (17, .aaload, 1), (18, .astore_n 3, 1), (19, .aload_n 3, 1), (20, .getfield 129, 3), (23, .iconst 1, 1), (24, .if_icmp .ne 52, 3), (27, .aload_n 3, 1), (28, .getfield 123, 3), (31, .aload_n 0, 1), (32, .getfield 41, 3), (35, .if_icmp .ne 41, 3), (38, .aload_n 3, 1), (39, .iconst 2, 1), (40, .putfield 129, 3), (43, .aload_n 0, 1), (44, .getfield 11, 3), (47, .aload_n 3, 1), (48, .getfield 103, 3), (51, .aaload, 1), (52, .aload_n 3, 1), (53, .getfield 117, 3), (56, .putfield 79, 3), (59, .aload_n 0, 1), (60, .getfield 11, 3), (63, .aload_n 3, 1), (64, .getfield 103, 3), (67, .aaload, 1), (68, .bipush (-9), 2), (70, .putfield 82, 3)]
theorem dlX8_endTrips_q0 : dOk cX8_endTrips LX8_endTrips_q0 = true := by decide +kernel
def LX8_endTrips_q1 : List (Nat × Instr × Nat) := [(73, .iinc 1 1, 3), (76, .iinc 2 1, 3), (79, .goto (-75), 3), (82, .iload_n 1, 1), (83, .ireturn, 1)]
theorem dlX8_endTrips_q1 : dOk cX8_endTrips LX8_endTrips_q1 = true := by decide +kernel
def LX8_endTrips : List (Nat × Instr × Nat) := (LX8_endTrips_q0 ++ LX8_endTrips_q1)
theorem dlX8_endTrips : dOk cX8_endTrips LX8_endTrips = true := (dOk.app dlX8_endTrips_q0 dlX8_endTrips_q1)
def MX8_endTrips : xM := (RX8, yX8_endTrips, cX8_endTrips, 4, (some .int), 0, 0, LX8_endTrips)
theorem okX8_endTrips : xOk MX8_endTrips 0 := ⟨tW 496 (by decide +kernel) rfl, wi_RX8, by decide +kernel, ⟨by decide +kernel, by decide +kernel, by decide +kernel⟩, rfl, dOk.all dlX8_endTrips⟩
theorem viX8_endTrips : xVi yX8_endTrips := ⟨tW 495 (by decide +kernel) rfl, tS 5 (by decide +kernel) rfl⟩
def LX8_startTrips : List (Nat × Instr × Nat) := [(0, .iconst 0, 1), (1, .istore_n 1, 1), (2, .iload_n 1, 1), (3, .aload_n 0, 1), (4, .getfield 54, 3), (7, .if_icmp .ge 39, 3), (10, .aload_n 0, 1), (11, .getfield 19, 3), (14, .iload_n 1, 1), (15, .aaload, 1), (16, .astore_n 2, 1), (17, .aload_n 2, 1), (18, .getfield 129, 3), (21, .ifCond .ne 19, 3), (24, .aload_n 2, 1), (25, .getfield 120, 3), (28, .aload_n 0, 1), (29, .getfield 41, 3), (32, .if_icmp .ne 8, 3), (35, .aload_n 0, 1), (36, .iload_n 1, 1), (37, .invokevirtual 140, 3), (40, .iinc 1 1, 3), (43, .goto (-41), 3), (46, .return_, 1)]
theorem dlX8_startTrips : dOk cX8_startTrips LX8_startTrips = true := by decide +kernel
def MX8_startTrips : xM := (RX8, yX8_startTrips, cX8_startTrips, 3, none, 1, 23, LX8_startTrips)
theorem okX8_startTrips : xOk MX8_startTrips 0 := ⟨tW 500 (by decide +kernel) rfl, wi_RX8, by decide +kernel, ⟨by decide +kernel, by decide +kernel, by decide +kernel⟩, rfl, dOk.all dlX8_startTrips⟩
theorem viX8_startTrips : xVi yX8_startTrips := ⟨tW 499 (by decide +kernel) rfl, tS 6 (by decide +kernel) rfl⟩
def LX8_startTrip : List (Nat × Instr × Nat) := [(0, .aload_n 0, 1), (1, .getfield 19, 3), (4, .iload_n 1, 1), (5, .aaload, 1), (6, .astore_n 2, 1), (7, .aload_n 0, 1), (8, .getfield 11, 3), (11, .aload_n 2, 1), (12, .getfield 103, 3), (15, .aaload, 1), (16, .astore_n 3, 1), (17, .aload_n 3, 1), (18, .getfield 79, 3), (21, .aload_n 2, 1), (22, .getfield 114, 3), (25, .if_icmp .ne 22, 3), (28, .aload_n 2, 1), (29, .iconst 1, 1), (30, .putfield 129, 3), (33, .aload_n 3, 1), (34, .bipush (-9), 2), (36, .putfield 79, 3), (39, .aload_n 3, 1), (40, .iload_n 1, 1), (41, .putfield 82, 3), (44, .goto 8, 3), (47, .aload_n 2, 1), (48, .iconst 3, 1), (49, .putfield 129, 3), (52, .return_, 1)]
theorem dlX8_startTrip : dOk cX8_startTrip LX8_startTrip = true := by decide +kernel
def MX8_startTrip : xM := (RX8, yX8_startTrip, cX8_startTrip, 4, none, 0, 0, LX8_startTrip)
theorem okX8_startTrip : xOk MX8_startTrip 1 := ⟨tW 504 (by decide +kernel) rfl, wi_RX8, by decide +kernel, ⟨by decide +kernel, by decide +kernel, by decide +kernel⟩, rfl, dOk.all dlX8_startTrip⟩
theorem viX8_startTrip : xVi yX8_startTrip := ⟨tW 503 (by decide +kernel) rfl, tS 7 (by decide +kernel) rfl⟩
def LX8_postFault_q0 : List (Nat × Instr × Nat) := [(0, .iload_n 1, 1), (1, .invokestatic 89, 3), (4, .ifCond .eq 22, 3), (7, .iload_n 2, 1), (8, .invokestatic 89, 3), (11, .ifCond .eq 15, 3), (14, .iload_n 1, 1), (15, .iload_n 2, 1), (16, .if_icmp .eq 10, 3), (19, .iload_n 3, 1), (20, .invokestatic 93, 3), (23, .ifCond .ne 5, 3), (26, .iconst (-1), 1), (27, .ireturn, 1), (28, .iload 4, 2), (30, .iconst 1, 1), (31, .sipush 999, 3), (34, .invokestatic 96, 3), (37, .ifCond .eq 13, 3), (40, .iload 5, 2), (42, .iconst 0, 1), (43, .iconst 3, 1), (44, .invokestatic 96, 3), (47, .ifCond .ne 5, 3), (50, .iconst (-1), 1), (51, .ireturn, 1), (52, .aload_n 0, 1), (53, .getfield 11, 3), (56, .iload_n 1, 1), (57, .aaload, 1), (58, .getfield 79, 3), (61, .bipush (-9), 2), (63, .if_icmp .ne 7, 3), (66, .iconst 1, 1), (67, .goto 4, 3), (70, .iconst 0, 1), (71, .istore 6, 2), (73, .aload_n 0, 1), (74, .getfield 11, 3), (77, .iload_n 1, 1)]
theorem dlX8_postFault_q0 : dOk cX8_postFault LX8_postFault_q0 = true := by decide +kernel
def LX8_postFault_q1 : List (Nat × Instr × Nat) := [(78, .aaload, 1), (79, .getfield 143, 3), (82, .getstatic 146, 3), (85, .iload 5, 2), (87, .iaload, 1), (88, .if_icmp .ge 7, 3), (91, .iconst 1, 1), (92, .goto 4, 3), (95, .iconst 0, 1), (96, .istore 7, 2), (98, .iload 6, 2), (100, .ifCond .ne 17, 3), (103, .iload 7, 2), (105, .ifCond .ne 12, 3), (108, .aload_n 0, 1), (109, .iload_n 1, 1), (110, .invokevirtual 150, 3), (113, .iconst 3, 1), (114, .if_icmp .lt 6, 3), (117, .bipush (-2), 2), (119, .ireturn, 1), (120, .aload_n 0, 1), (121, .getfield 57, 3), (124, .bipush 10, 2), (126, .if_icmp .ge 7, 3), (129, .iconst 0, 1), (130, .goto 5, 3), (133, .bipush (-3), 2), (135, .ireturn, 1)]
theorem dlX8_postFault_q1 : dOk cX8_postFault LX8_postFault_q1 = true := by decide +kernel
def LX8_postFault : List (Nat × Instr × Nat) := (LX8_postFault_q0 ++ LX8_postFault_q1)
theorem dlX8_postFault : dOk cX8_postFault LX8_postFault = true := (dOk.app dlX8_postFault_q0 dlX8_postFault_q1)
def MX8_postFault : xM := (RX8, yX8_postFault, cX8_postFault, 8, (some .int), 2, 42, LX8_postFault)
theorem okX8_postFault : xOk MX8_postFault 5 := ⟨tW 462 (by decide +kernel) rfl, wi_RX8, by decide +kernel, ⟨by decide +kernel, by decide +kernel, by decide +kernel⟩, rfl, dOk.all dlX8_postFault⟩
theorem viX8_postFault : xVi yX8_postFault := ⟨tW 460 (by decide +kernel) rfl, tW 461 (by decide +kernel) rfl⟩
def LX8_addParcel_q0 : List (Nat × Instr × Nat) := [(0, .aload_n 0, 1), (1, .getfield 25, 3), (4, .aload_n 0, 1), (5, .getfield 57, 3), (8, .aaload, 1), (9, .astore 6, 2), (11, .aload 6, 2), (13, .iload_n 1, 1), (14, .putfield 153, 3), (17, .aload 6, 2), (19, .iload_n 2, 1), (20, .putfield 156, 3), (23, .aload 6, 2), (25, .iload_n 3, 1), (26, .putfield 159, 3), (29, .aload 6, 2), (31, .iload 4, 2), (33, .putfield 162, 3), (36, .aload 6, 2), (38, .iload 5, 2), (40, .putfield 165, 3), (43, .aload 6, 2), (45, .iconst 0, 1), (46, .putfield 73, 3), (49, .aload_n 0, 1), (50, .getfield 11, 3), (53, .iload_n 1, 1), (54, .aaload, 1), (55, .dup, 1), (56, .getfield 143, 3), (59, .getstatic 146, 3), (62, .iload 5, 2), (64, .iaload, 1), (65, .isub, 1), (66, .putfield 143, 3), (69, .aload_n 0, 1), (70, .dup, 1), (71, .getfield 45, 3), (74, .getstatic 146, 3), (77, .iload 5, 2)]
theorem dlX8_addParcel_q0 : dOk cX8_addParcel LX8_addParcel_q0 = true := by decide +kernel
def LX8_addParcel_q1 : List (Nat × Instr × Nat) := [(79, .iaload, 1), (80, .iadd, 1), (81, .putfield 45, 3), (84, .aload_n 0, 1), (85, .dup, 1), (86, .getfield 57, 3), (89, .iconst 1, 1), (90, .iadd, 1), (91, .putfield 57, 3), (94, .aload_n 0, 1), (95, .aload_n 0, 1), (96, .getfield 57, 3), (99, .iconst 1, 1), (100, .isub, 1), (101, .iload_n 1, 1), (102, .invokevirtual 168, 3), (105, .aload_n 0, 1), (106, .getfield 57, 3), (109, .iconst 1, 1), (110, .isub, 1), (111, .ireturn, 1)]
theorem dlX8_addParcel_q1 : dOk cX8_addParcel LX8_addParcel_q1 = true := by decide +kernel
def LX8_addParcel : List (Nat × Instr × Nat) := (LX8_addParcel_q0 ++ LX8_addParcel_q1)
theorem dlX8_addParcel : dOk cX8_addParcel LX8_addParcel = true := (dOk.app dlX8_addParcel_q0 dlX8_addParcel_q1)
def MX8_addParcel : xM := (RX8, yX8_addParcel, cX8_addParcel, 7, (some .int), 2, 46, LX8_addParcel)
theorem okX8_addParcel : xOk MX8_addParcel 5 := ⟨tW 468 (by decide +kernel) rfl, wi_RX8, by decide +kernel, ⟨by decide +kernel, by decide +kernel, by decide +kernel⟩, rfl, dOk.all dlX8_addParcel⟩
theorem viX8_addParcel : xVi yX8_addParcel := ⟨tW 466 (by decide +kernel) rfl, tW 467 (by decide +kernel) rfl⟩
def LX8_setHolder : List (Nat × Instr × Nat) := [(0, .aload_n 0, 1), (1, .getfield 25, 3), (4, .iload_n 1, 1), (5, .aaload, 1), (6, .astore_n 3, 1), (7, .aload_n 3, 1), (8, .iload_n 2, 1), (9, .putfield 76, 3), (12, .aload_n 3, 1), (13, .aload_n 0, 1), (14, .getfield 41, 3), (17, .putfield 172, 3), (20, .aload_n 3, 1), (21, .invokevirtual 175, 3), (24, .aload_n 0, 1), (25, .getfield 32, 3), (28, .aload_n 0, 1), (29, .getfield 41, 3), (32, .iload_n 1, 1), (33, .iload_n 2, 1), (34, .invokevirtual 178, 3), (37, .return_, 1)]
theorem dlX8_setHolder : dOk cX8_setHolder LX8_setHolder = true := by decide +kernel
def MX8_setHolder : xM := (RX8, yX8_setHolder, cX8_setHolder, 4, none, 1, 23, LX8_setHolder)
theorem okX8_setHolder : xOk MX8_setHolder 2 := ⟨tW 472 (by decide +kernel) rfl, wi_RX8, by decide +kernel, ⟨by decide +kernel, by decide +kernel, by decide +kernel⟩, rfl, dOk.all dlX8_setHolder⟩
theorem viX8_setHolder : xVi yX8_setHolder := ⟨tW 471 (by decide +kernel) rfl, tS 4 (by decide +kernel) rfl⟩
def LX8_handoverFault : List (Nat × Instr × Nat) := [(0, .iload_n 1, 1), (1, .invokestatic 89, 3), (4, .ifCond .eq 23, 3), (7, .aload_n 0, 1), (8, .iload_n 2, 1), (9, .invokevirtual 182, 3), (12, .ifCond .eq 15, 3), (15, .iload_n 3, 1), (16, .invokestatic 89, 3), (19, .ifCond .eq 8, 3), (22, .iload_n 1, 1), (23, .iload_n 3, 1), (24, .if_icmp .ne 5, 3), (27, .iconst (-1), 1), (28, .ireturn, 1), (29, .aload_n 0, 1), (30, .iload_n 2, 1), (31, .iload_n 1, 1), (32, .invokevirtual 185, 3), (35, .ifCond .eq 16, 3), (38, .aload_n 0, 1), (39, .iload_n 1, 1), (40, .iload_n 3, 1), (41, .invokevirtual 188, 3), (44, .ifCond .eq 7, 3), (47, .iconst 1, 1), (48, .goto 4, 3), (51, .iconst 0, 1), (52, .istore 4, 2), (54, .iload 4, 2), (56, .ifCond .eq 16, 3), (59, .aload_n 0, 1), (60, .iload_n 3, 1), (61, .invokevirtual 150, 3), (64, .iconst 3, 1), (65, .if_icmp .ge 7, 3), (68, .iconst 0, 1), (69, .goto 5, 3), (72, .bipush (-2), 2), (74, .ireturn, 1)]
theorem dlX8_handoverFault : dOk cX8_handoverFault LX8_handoverFault = true := by decide +kernel
def MX8_handoverFault : xM := (RX8, yX8_handoverFault, cX8_handoverFault, 5, (some .int), 2, 43, LX8_handoverFault)
theorem okX8_handoverFault : xOk MX8_handoverFault 3 := ⟨tW 512 (by decide +kernel) rfl, wi_RX8, by decide +kernel, ⟨by decide +kernel, by decide +kernel, by decide +kernel⟩, rfl, dOk.all dlX8_handoverFault⟩
theorem viX8_handoverFault : xVi yX8_handoverFault := ⟨tW 510 (by decide +kernel) rfl, tW 511 (by decide +kernel) rfl⟩
def LX8_sayGiven : List (Nat × Instr × Nat) := [(0, .aload_n 0, 1), (1, .getfield 25, 3), (4, .iload_n 1, 1), (5, .aaload, 1), (6, .iload_n 2, 1), (7, .putfield 191, 3), (10, .aload_n 0, 1), (11, .iload_n 1, 1), (12, .iload_n 2, 1), (13, .invokevirtual 194, 3), (16, .ireturn, 1)]
theorem dlX8_sayGiven : dOk cX8_sayGiven LX8_sayGiven = true := by decide +kernel
def MX8_sayGiven : xM := (RX8, yX8_sayGiven, cX8_sayGiven, 3, (some .int), 4, 94, LX8_sayGiven)
theorem okX8_sayGiven : xOk MX8_sayGiven 2 := ⟨tW 525 (by decide +kernel) rfl, wi_RX8, by decide +kernel, ⟨by decide +kernel, by decide +kernel, by decide +kernel⟩, rfl, dOk.all dlX8_sayGiven⟩
theorem viX8_sayGiven : xVi yX8_sayGiven := ⟨tW 523 (by decide +kernel) rfl, tW 524 (by decide +kernel) rfl⟩
def LX8_sayTaken : List (Nat × Instr × Nat) := [(0, .aload_n 0, 1), (1, .getfield 25, 3), (4, .iload_n 1, 1), (5, .aaload, 1), (6, .iload_n 2, 1), (7, .putfield 198, 3), (10, .aload_n 0, 1), (11, .iload_n 1, 1), (12, .iload_n 2, 1), (13, .invokevirtual 194, 3), (16, .ireturn, 1)]
theorem dlX8_sayTaken : dOk cX8_sayTaken LX8_sayTaken = true := by decide +kernel
def MX8_sayTaken : xM := (RX8, yX8_sayTaken, cX8_sayTaken, 3, (some .int), 4, 94, LX8_sayTaken)
theorem okX8_sayTaken : xOk MX8_sayTaken 2 := ⟨tW 558 (by decide +kernel) rfl, wi_RX8, by decide +kernel, ⟨by decide +kernel, by decide +kernel, by decide +kernel⟩, rfl, dOk.all dlX8_sayTaken⟩
theorem viX8_sayTaken : xVi yX8_sayTaken := ⟨tW 556 (by decide +kernel) rfl, tW 557 (by decide +kernel) rfl⟩
def LX8_handOverIfWordsFit : List (Nat × Instr × Nat) := [(0, .aload_n 0, 1), (1, .getfield 25, 3), (4, .iload_n 1, 1), (5, .aaload, 1), (6, .invokevirtual 201, 3), (9, .ifCond .ne 5, 3), (12, .iconst 0, 1), (13, .ireturn, 1), (14, .aload_n 0, 1), (15, .iload_n 1, 1), (16, .iload_n 2, 1), (17, .invokevirtual 204, 3), (20, .aload_n 0, 1), (21, .iload_n 1, 1), (22, .iload_n 2, 1), (23, .invokevirtual 207, 3), (26, .iconst 1, 1), (27, .ireturn, 1)]
theorem dlX8_handOverIfWordsFit : dOk cX8_handOverIfWordsFit LX8_handOverIfWordsFit = true := by decide +kernel
def MX8_handOverIfWordsFit : xM := (RX8, yX8_handOverIfWordsFit, cX8_handOverIfWordsFit, 3, (some .int), 3, 72, LX8_handOverIfWordsFit)
theorem okX8_handOverIfWordsFit : xOk MX8_handOverIfWordsFit 2 := ⟨tW 529 (by decide +kernel) rfl, wi_RX8, by decide +kernel, ⟨by decide +kernel, by decide +kernel, by decide +kernel⟩, rfl, dOk.all dlX8_handOverIfWordsFit⟩
theorem viX8_handOverIfWordsFit : xVi yX8_handOverIfWordsFit := ⟨tW 528 (by decide +kernel) rfl, tS 8 (by decide +kernel) rfl⟩
def LX8_handOver : List (Nat × Instr × Nat) := [(0, .aload_n 0, 1), (1, .dup, 1), (2, .getfield 48, 3), (5, .iconst 1, 1), (6, .iadd, 1), (7, .putfield 48, 3), (10, .aload_n 0, 1), (11, .iload_n 1, 1), (12, .iload_n 2, 1), (13, .invokevirtual 168, 3), (16, .return_, 1)]
theorem dlX8_handOver : dOk cX8_handOver LX8_handOver = true := by decide +kernel
def MX8_handOver : xM := (RX8, yX8_handOver, cX8_handOver, 3, none, 2, 46, LX8_handOver)
theorem okX8_handOver : xOk MX8_handOver 2 := ⟨tW 537 (by decide +kernel) rfl, wi_RX8, by decide +kernel, ⟨by decide +kernel, by decide +kernel, by decide +kernel⟩, rfl, dOk.all dlX8_handOver⟩
theorem viX8_handOver : xVi yX8_handOver := ⟨tW 536 (by decide +kernel) rfl, tS 9 (by decide +kernel) rfl⟩
def LX8_settleWithTaker : List (Nat × Instr × Nat) := [(0, .aload_n 0, 1), (1, .getfield 25, 3), (4, .iload_n 1, 1), (5, .aaload, 1), (6, .astore_n 3, 1), (7, .iload_n 2, 1), (8, .aload_n 3, 1), (9, .getfield 156, 3), (12, .if_icmp .eq 15, 3), (15, .aload_n 0, 1), (16, .aload_n 3, 1), (17, .getfield 153, 3), (20, .iload_n 2, 1), (21, .invokevirtual 210, 3), (24, .goto 24, 3), (27, .aload_n 0, 1), (28, .getfield 11, 3), (31, .iload_n 2, 1), (32, .aaload, 1), (33, .getfield 79, 3), (36, .aload_n 3, 1), (37, .getfield 159, 3), (40, .if_icmp .ne 8, 3), (43, .aload_n 3, 1), (44, .iconst 1, 1), (45, .putfield 73, 3), (48, .return_, 1)]
theorem dlX8_settleWithTaker : dOk cX8_settleWithTaker LX8_settleWithTaker = true := by decide +kernel
def MX8_settleWithTaker : xM := (RX8, yX8_settleWithTaker, cX8_settleWithTaker, 4, none, 2, 49, LX8_settleWithTaker)
theorem okX8_settleWithTaker : xOk MX8_settleWithTaker 2 := ⟨tW 541 (by decide +kernel) rfl, wi_RX8, by decide +kernel, ⟨by decide +kernel, by decide +kernel, by decide +kernel⟩, rfl, dOk.all dlX8_settleWithTaker⟩
theorem viX8_settleWithTaker : xVi yX8_settleWithTaker := ⟨tW 540 (by decide +kernel) rfl, tS 10 (by decide +kernel) rfl⟩
def LX8_payFee_q0 : List (Nat × Instr × Nat) := [(0, .aload_n 0, 1), (1, .iload_n 2, 1), (2, .invokevirtual 213, 3), (5, .istore_n 3, 1), (6, .iload_n 3, 1), (7, .bipush (-9), 2), (9, .if_icmp .ne 4, 3), (12, .return_, 1), (13, .aload_n 0, 1), (14, .getfield 19, 3), (17, .iload_n 3, 1), (18, .aaload, 1), (19, .getfield 126, 3), (22, .aload_n 0, 1), (23, .getfield 11, 3), (26, .iload_n 1, 1), (27, .aaload, 1), (28, .getfield 143, 3), (31, .invokestatic 216, 3), (34, .istore 4, 2), (36, .aload_n 0, 1), (37, .getfield 11, 3), (40, .iload_n 1, 1), (41, .aaload, 1), (42, .dup, 1), (43, .getfield 143, 3), (46, .iload 4, 2), (48, .isub, 1), (49, .putfield 143, 3), (52, .aload_n 0, 1), (53, .getfield 11, 3), (56, .iload_n 2, 1), (57, .aaload, 1), (58, .dup, 1), (59, .getfield 143, 3), (62, .iload 4, 2), (64, .iadd, 1), (65, .putfield 143, 3), (68, .aload_n 0, 1), (69, .getfield 11, 3)]
theorem dlX8_payFee_q0 : dOk cX8_payFee LX8_payFee_q0 = true := by decide +kernel
def LX8_payFee_q1 : List (Nat × Instr × Nat) := [(72, .iload_n 2, 1), (73, .aaload, 1), (74, .dup, 1), (75, .getfield 221, 3), (78, .iload 4, 2), (80, .iadd, 1), (81, .putfield 221, 3), (84, .aload_n 0, 1), (85, .dup, 1), (86, .getfield 51, 3), (89, .iload 4, 2), (91, .iadd, 1), (92, .putfield 51, 3), (95, .return_, 1)]
theorem dlX8_payFee_q1 : dOk cX8_payFee LX8_payFee_q1 = true := by decide +kernel
def LX8_payFee : List (Nat × Instr × Nat) := (LX8_payFee_q0 ++ LX8_payFee_q1)
theorem dlX8_payFee : dOk cX8_payFee LX8_payFee = true := (dOk.app dlX8_payFee_q0 dlX8_payFee_q1)
def MX8_payFee : xM := (RX8, yX8_payFee, cX8_payFee, 5, none, 1, 25, LX8_payFee)
theorem okX8_payFee : xOk MX8_payFee 2 := ⟨tW 545 (by decide +kernel) rfl, wi_RX8, by decide +kernel, ⟨by decide +kernel, by decide +kernel, by decide +kernel⟩, rfl, dOk.all dlX8_payFee⟩
theorem viX8_payFee : xVi yX8_payFee := ⟨tW 544 (by decide +kernel) rfl, tS 11 (by decide +kernel) rfl⟩
def LX8_nextTripOf_q0 : List (Nat × Instr × Nat) := [(0, .bipush (-9), 2), (2, .istore_n 2, 1), (3, .iconst 0, 1), (4, .istore_n 3, 1), (5, .iload_n 3, 1), (6, .aload_n 0, 1), (7, .getfield 54, 3), (10, .if_icmp .ge 91, 3), (13, .aload_n 0, 1), (14, .getfield 19, 3), (17, .iload_n 3, 1), (18, .aaload, 1), (19, .astore 4, 2), (21, .aload 4, 2), (23, .getfield 129, 3), (26, .ifCond .ne 24, 3), (29, .aload 4, 2), (31, .getfield 114, 3), (34, .aload_n 0, 1), (35, .getfield 11, 3), (38, .iload_n 1, 1), (39, .aaload, 1), (40, .getfield 79, 3), (43, .if_icmp .ne 7, 3), (46, .iconst 1, 1), (47, .goto 4, 3), (50, .iconst 0, 1), (51, .istore 5, 2), (53, .aload 4, 2), (55, .getfield 103, 3), (58, .iload_n 1, 1), (59, .if_icmp .ne 36, 3), (62, .iload 5, 2), (64, .ifCond .ne 6, 3), (67, .goto 28, 3), (70, .iload_n 2, 1), (71, .bipush (-9), 2), (73, .if_icmp .eq 20, 3), (76, .aload 4, 2), (78, .getfield 120, 3)]
theorem dlX8_nextTripOf_q0 : dOk cX8_nextTripOf LX8_nextTripOf_q0 = true := by decide +kernel
def LX8_nextTripOf_q1 : List (Nat × Instr × Nat) := [(81, .aload_n 0, 1), (82, .getfield 19, 3), (85, .iload_n 2, 1), (86, .aaload, 1), (87, .getfield 120, 3), (90, .if_icmp .ge 5, 3), (93, .iload_n 3, 1), (94, .istore_n 2, 1), (95, .iinc 3 1, 3), (98, .goto (-93), 3), (101, .iload_n 2, 1), (102, .ireturn, 1)]
theorem dlX8_nextTripOf_q1 : dOk cX8_nextTripOf LX8_nextTripOf_q1 = true := by decide +kernel
def LX8_nextTripOf : List (Nat × Instr × Nat) := (LX8_nextTripOf_q0 ++ LX8_nextTripOf_q1)
theorem dlX8_nextTripOf : dOk cX8_nextTripOf LX8_nextTripOf = true := (dOk.app dlX8_nextTripOf_q0 dlX8_nextTripOf_q1)
def MX8_nextTripOf : xM := (RX8, yX8_nextTripOf, cX8_nextTripOf, 6, (some .int), 0, 0, LX8_nextTripOf)
theorem okX8_nextTripOf : xOk MX8_nextTripOf 1 := ⟨tW 549 (by decide +kernel) rfl, wi_RX8, by decide +kernel, ⟨by decide +kernel, by decide +kernel, by decide +kernel⟩, rfl, dOk.all dlX8_nextTripOf⟩
theorem viX8_nextTripOf : xVi yX8_nextTripOf := ⟨tW 548 (by decide +kernel) rfl, tS 12 (by decide +kernel) rfl⟩
def LX8_putInFault : List (Nat × Instr × Nat) := [(0, .iload_n 1, 1), (1, .invokestatic 89, 3), (4, .ifCond .eq 11, 3), (7, .aload_n 0, 1), (8, .iload_n 2, 1), (9, .invokevirtual 182, 3), (12, .ifCond .ne 5, 3), (15, .iconst (-1), 1), (16, .ireturn, 1), (17, .aload_n 0, 1), (18, .getfield 11, 3), (21, .iload_n 1, 1), (22, .aaload, 1), (23, .getfield 79, 3), (26, .istore_n 3, 1), (27, .aload_n 0, 1), (28, .iload_n 2, 1), (29, .iload_n 1, 1), (30, .invokevirtual 185, 3), (33, .ifCond .eq 9, 3), (36, .iload_n 3, 1), (37, .bipush (-9), 2), (39, .if_icmp .ne 6, 3), (42, .bipush (-2), 2), (44, .ireturn, 1), (45, .aload_n 0, 1), (46, .bipush 10, 2), (48, .iload_n 3, 1), (49, .iadd, 1), (50, .invokevirtual 150, 3), (53, .iconst 3, 1), (54, .if_icmp .ge 7, 3), (57, .iconst 0, 1), (58, .goto 5, 3), (61, .bipush (-3), 2), (63, .ireturn, 1)]
theorem dlX8_putInFault : dOk cX8_putInFault LX8_putInFault = true := by decide +kernel
def MX8_putInFault : xM := (RX8, yX8_putInFault, cX8_putInFault, 4, (some .int), 2, 42, LX8_putInFault)
theorem okX8_putInFault : xOk MX8_putInFault 2 := ⟨tW 566 (by decide +kernel) rfl, wi_RX8, by decide +kernel, ⟨by decide +kernel, by decide +kernel, by decide +kernel⟩, rfl, dOk.all dlX8_putInFault⟩
theorem viX8_putInFault : xVi yX8_putInFault := ⟨tW 564 (by decide +kernel) rfl, tW 565 (by decide +kernel) rfl⟩
def LX8_putIntoLocker : List (Nat × Instr × Nat) := [(0, .bipush 10, 2), (2, .aload_n 0, 1), (3, .getfield 11, 3), (6, .iload_n 1, 1), (7, .aaload, 1), (8, .getfield 79, 3), (11, .iadd, 1), (12, .istore_n 3, 1), (13, .aload_n 0, 1), (14, .iload_n 2, 1), (15, .iload_n 3, 1), (16, .invokevirtual 204, 3), (19, .aload_n 0, 1), (20, .iload_n 3, 1), (21, .invokevirtual 150, 3), (24, .ireturn, 1)]
theorem dlX8_putIntoLocker : dOk cX8_putIntoLocker LX8_putIntoLocker = true := by decide +kernel
def MX8_putIntoLocker : xM := (RX8, yX8_putIntoLocker, cX8_putIntoLocker, 4, (some .int), 3, 68, LX8_putIntoLocker)
theorem okX8_putIntoLocker : xOk MX8_putIntoLocker 2 := ⟨tW 570 (by decide +kernel) rfl, wi_RX8, by decide +kernel, ⟨by decide +kernel, by decide +kernel, by decide +kernel⟩, rfl, dOk.all dlX8_putIntoLocker⟩
theorem viX8_putIntoLocker : xVi yX8_putIntoLocker := ⟨tW 568 (by decide +kernel) rfl, tW 569 (by decide +kernel) rfl⟩
def LX8_fetchFault : List (Nat × Instr × Nat) := [(0, .iload_n 1, 1), (1, .invokestatic 89, 3), (4, .ifCond .eq 11, 3), (7, .aload_n 0, 1), (8, .iload_n 2, 1), (9, .invokevirtual 182, 3), (12, .ifCond .ne 5, 3), (15, .iconst (-1), 1), (16, .ireturn, 1), (17, .aload_n 0, 1), (18, .getfield 11, 3), (21, .iload_n 1, 1), (22, .aaload, 1), (23, .getfield 79, 3), (26, .istore_n 3, 1), (27, .iload_n 3, 1), (28, .bipush (-9), 2), (30, .if_icmp .eq 19, 3), (33, .aload_n 0, 1), (34, .iload_n 2, 1), (35, .bipush 10, 2), (37, .iload_n 3, 1), (38, .iadd, 1), (39, .invokevirtual 185, 3), (42, .ifCond .eq 7, 3), (45, .iconst 1, 1), (46, .goto 4, 3), (49, .iconst 0, 1), (50, .istore 4, 2), (52, .iload 4, 2), (54, .ifCond .eq 16, 3), (57, .aload_n 0, 1), (58, .iload_n 1, 1), (59, .invokevirtual 150, 3), (62, .iconst 3, 1), (63, .if_icmp .ge 7, 3), (66, .iconst 0, 1), (67, .goto 5, 3), (70, .bipush (-2), 2), (72, .ireturn, 1)]
theorem dlX8_fetchFault : dOk cX8_fetchFault LX8_fetchFault = true := by decide +kernel
def MX8_fetchFault : xM := (RX8, yX8_fetchFault, cX8_fetchFault, 5, (some .int), 2, 42, LX8_fetchFault)
theorem okX8_fetchFault : xOk MX8_fetchFault 2 := ⟨tW 578 (by decide +kernel) rfl, wi_RX8, by decide +kernel, ⟨by decide +kernel, by decide +kernel, by decide +kernel⟩, rfl, dOk.all dlX8_fetchFault⟩
theorem viX8_fetchFault : xVi yX8_fetchFault := ⟨tW 576 (by decide +kernel) rfl, tW 577 (by decide +kernel) rfl⟩
def LX8_fetchFromLocker : List (Nat × Instr × Nat) := [(0, .aload_n 0, 1), (1, .iload_n 2, 1), (2, .iload_n 1, 1), (3, .invokevirtual 204, 3), (6, .aload_n 0, 1), (7, .iload_n 2, 1), (8, .iload_n 1, 1), (9, .invokevirtual 207, 3), (12, .aload_n 0, 1), (13, .bipush 10, 2), (15, .aload_n 0, 1), (16, .getfield 11, 3), (19, .iload_n 1, 1), (20, .aaload, 1), (21, .getfield 79, 3), (24, .iadd, 1), (25, .invokevirtual 150, 3), (28, .ireturn, 1)]
theorem dlX8_fetchFromLocker : dOk cX8_fetchFromLocker LX8_fetchFromLocker = true := by decide +kernel
def MX8_fetchFromLocker : xM := (RX8, yX8_fetchFromLocker, cX8_fetchFromLocker, 3, (some .int), 3, 72, LX8_fetchFromLocker)
theorem okX8_fetchFromLocker : xOk MX8_fetchFromLocker 2 := ⟨tW 582 (by decide +kernel) rfl, wi_RX8, by decide +kernel, ⟨by decide +kernel, by decide +kernel, by decide +kernel⟩, rfl, dOk.all dlX8_fetchFromLocker⟩
theorem viX8_fetchFromLocker : xVi yX8_fetchFromLocker := ⟨tW 580 (by decide +kernel) rfl, tW 581 (by decide +kernel) rfl⟩
def LX8_isCoveredNow : List (Nat × Instr × Nat) := [(0, .aload_n 0, 1), (1, .getfield 25, 3), (4, .iload_n 1, 1), (5, .aaload, 1), (6, .astore_n 2, 1), (7, .aload_n 2, 1), (8, .getfield 73, 3), (11, .ifCond .ne 18, 3), (14, .aload_n 2, 1), (15, .getfield 76, 3), (18, .aload_n 2, 1), (19, .getfield 153, 3), (22, .if_icmp .eq 7, 3), (25, .iconst 1, 1), (26, .goto 4, 3), (29, .iconst 0, 1), (30, .ireturn, 1)]
theorem dlX8_isCoveredNow : dOk cX8_isCoveredNow LX8_isCoveredNow = true := by decide +kernel
def MX8_isCoveredNow : xM := (RX8, yX8_isCoveredNow, cX8_isCoveredNow, 3, (some .boolean), 0, 0, LX8_isCoveredNow)
theorem okX8_isCoveredNow : xOk MX8_isCoveredNow 1 := ⟨tW 594 (by decide +kernel) rfl, wi_RX8, by decide +kernel, ⟨by decide +kernel, by decide +kernel, by decide +kernel⟩, rfl, dOk.all dlX8_isCoveredNow⟩
theorem viX8_isCoveredNow : xVi yX8_isCoveredNow := ⟨tW 592 (by decide +kernel) rfl, tW 593 (by decide +kernel) rfl⟩
def LX8_claimFault : List (Nat × Instr × Nat) := [(0, .aload_n 0, 1), (1, .iload_n 1, 1), (2, .invokevirtual 182, 3), (5, .ifCond .ne 5, 3), (8, .iconst (-1), 1), (9, .ireturn, 1), (10, .aload_n 0, 1), (11, .getfield 41, 3), (14, .aload_n 0, 1), (15, .getfield 25, 3), (18, .iload_n 1, 1), (19, .aaload, 1), (20, .getfield 172, 3), (23, .isub, 1), (24, .bipush 10, 2), (26, .if_icmp .lt 7, 3), (29, .iconst 1, 1), (30, .goto 4, 3), (33, .iconst 0, 1), (34, .istore_n 2, 1), (35, .aload_n 0, 1), (36, .iload_n 1, 1), (37, .invokevirtual 224, 3), (40, .ifCond .eq 11, 3), (43, .iload_n 2, 1), (44, .ifCond .eq 7, 3), (47, .iconst 0, 1), (48, .goto 5, 3), (51, .bipush (-2), 2), (53, .ireturn, 1)]
theorem dlX8_claimFault : dOk cX8_claimFault LX8_claimFault = true := by decide +kernel
def MX8_claimFault : xM := (RX8, yX8_claimFault, cX8_claimFault, 3, (some .int), 1, 22, LX8_claimFault)
theorem okX8_claimFault : xOk MX8_claimFault 1 := ⟨tW 590 (by decide +kernel) rfl, wi_RX8, by decide +kernel, ⟨by decide +kernel, by decide +kernel, by decide +kernel⟩, rfl, dOk.all dlX8_claimFault⟩
theorem viX8_claimFault : xVi yX8_claimFault := ⟨tW 588 (by decide +kernel) rfl, tW 589 (by decide +kernel) rfl⟩
def LX8_fundPays : List (Nat × Instr × Nat) := [(0, .aload_n 0, 1), (1, .getfield 25, 3), (4, .iload_n 1, 1), (5, .aaload, 1), (6, .getfield 162, 3), (9, .getstatic 227, 3), (12, .aload_n 0, 1), (13, .getfield 25, 3), (16, .iload_n 1, 1), (17, .aaload, 1), (18, .getfield 165, 3), (21, .iaload, 1), (22, .invokestatic 216, 3), (25, .istore_n 2, 1), (26, .iload_n 2, 1), (27, .aload_n 0, 1), (28, .getfield 45, 3), (31, .invokestatic 216, 3), (34, .ireturn, 1)]
theorem dlX8_fundPays : dOk cX8_fundPays LX8_fundPays = true := by decide +kernel
def MX8_fundPays : xM := (RX8, yX8_fundPays, cX8_fundPays, 3, (some .int), 1, 21, LX8_fundPays)
theorem okX8_fundPays : xOk MX8_fundPays 1 := ⟨tW 602 (by decide +kernel) rfl, wi_RX8, by decide +kernel, ⟨by decide +kernel, by decide +kernel, by decide +kernel⟩, rfl, dOk.all dlX8_fundPays⟩
theorem viX8_fundPays : xVi yX8_fundPays := ⟨tW 600 (by decide +kernel) rfl, tW 601 (by decide +kernel) rfl⟩
def LX8_missing : List (Nat × Instr × Nat) := [(0, .aload_n 0, 1), (1, .getfield 25, 3), (4, .iload_n 1, 1), (5, .aaload, 1), (6, .getfield 162, 3), (9, .aload_n 0, 1), (10, .iload_n 1, 1), (11, .invokevirtual 230, 3), (14, .isub, 1), (15, .ireturn, 1)]
theorem dlX8_missing : dOk cX8_missing LX8_missing = true := by decide +kernel
def MX8_missing : xM := (RX8, yX8_missing, cX8_missing, 2, (some .int), 2, 43, LX8_missing)
theorem okX8_missing : xOk MX8_missing 1 := ⟨tW 612 (by decide +kernel) rfl, wi_RX8, by decide +kernel, ⟨by decide +kernel, by decide +kernel, by decide +kernel⟩, rfl, dOk.all dlX8_missing⟩
theorem viX8_missing : xVi yX8_missing := ⟨tW 611 (by decide +kernel) rfl, tS 13 (by decide +kernel) rfl⟩
def LX8_holderPays : List (Nat × Instr × Nat) := [(0, .aload_n 0, 1), (1, .getfield 25, 3), (4, .iload_n 1, 1), (5, .aaload, 1), (6, .astore_n 2, 1), (7, .aload_n 2, 1), (8, .getfield 76, 3), (11, .bipush 10, 2), (13, .if_icmp .lt 5, 3), (16, .iconst 0, 1), (17, .ireturn, 1), (18, .aload_n 0, 1), (19, .iload_n 1, 1), (20, .invokevirtual 233, 3), (23, .istore_n 3, 1), (24, .aload_n 2, 1), (25, .getfield 191, 3), (28, .bipush (-9), 2), (30, .if_icmp .ne 7, 3), (33, .iload_n 3, 1), (34, .goto 8, 3), (37, .iload_n 3, 1), (38, .iload_n 3, 1), (39, .iconst 2, 1), (40, .idiv, 1), (41, .isub, 1), (42, .istore 4, 2), (44, .iload 4, 2), (46, .aload_n 0, 1), (47, .getfield 11, 3), (50, .aload_n 2, 1), (51, .getfield 76, 3), (54, .aaload, 1), (55, .getfield 236, 3), (58, .invokestatic 216, 3), (61, .ireturn, 1)]
theorem dlX8_holderPays : dOk cX8_holderPays LX8_holderPays = true := by decide +kernel
def MX8_holderPays : xM := (RX8, yX8_holderPays, cX8_holderPays, 5, (some .int), 3, 64, LX8_holderPays)
theorem okX8_holderPays : xOk MX8_holderPays 1 := ⟨tW 608 (by decide +kernel) rfl, wi_RX8, by decide +kernel, ⟨by decide +kernel, by decide +kernel, by decide +kernel⟩, rfl, dOk.all dlX8_holderPays⟩
theorem viX8_holderPays : xVi yX8_holderPays := ⟨tW 606 (by decide +kernel) rfl, tW 607 (by decide +kernel) rfl⟩
def LX8_namedPays : List (Nat × Instr × Nat) := [(0, .aload_n 0, 1), (1, .getfield 25, 3), (4, .iload_n 1, 1), (5, .aaload, 1), (6, .getfield 191, 3), (9, .istore_n 2, 1), (10, .iload_n 2, 1), (11, .bipush (-9), 2), (13, .if_icmp .ne 7, 3), (16, .iconst 0, 1), (17, .goto 22, 3), (20, .aload_n 0, 1), (21, .iload_n 1, 1), (22, .invokevirtual 233, 3), (25, .iconst 2, 1), (26, .idiv, 1), (27, .aload_n 0, 1), (28, .getfield 11, 3), (31, .iload_n 2, 1), (32, .aaload, 1), (33, .getfield 236, 3), (36, .invokestatic 216, 3), (39, .ireturn, 1)]
theorem dlX8_namedPays : dOk cX8_namedPays LX8_namedPays = true := by decide +kernel
def MX8_namedPays : xM := (RX8, yX8_namedPays, cX8_namedPays, 3, (some .int), 3, 64, LX8_namedPays)
theorem okX8_namedPays : xOk MX8_namedPays 1 := ⟨tW 616 (by decide +kernel) rfl, wi_RX8, by decide +kernel, ⟨by decide +kernel, by decide +kernel, by decide +kernel⟩, rfl, dOk.all dlX8_namedPays⟩
theorem viX8_namedPays : xVi yX8_namedPays := ⟨tW 614 (by decide +kernel) rfl, tW 615 (by decide +kernel) rfl⟩
def LX8_loseParcel_q0 : List (Nat × Instr × Nat) := [(0, .aload_n 0, 1), (1, .getfield 25, 3), (4, .iload_n 1, 1), (5, .aaload, 1), (6, .astore_n 2, 1), (7, .aload_n 0, 1), (8, .iload_n 1, 1), (9, .invokevirtual 230, 3), (12, .istore_n 3, 1), (13, .aload_n 0, 1), (14, .iload_n 1, 1), (15, .invokevirtual 239, 3), (18, .istore 4, 2), (20, .aload_n 0, 1), (21, .iload_n 1, 1), (22, .invokevirtual 242, 3), (25, .istore 5, 2), (27, .aload_n 0, 1), (28, .dup, 1), (29, .getfield 45, 3), (32, .iload_n 3, 1), (33, .isub, 1), (34, .putfield 45, 3), (37, .aload_n 2, 1), (38, .getfield 76, 3), (41, .bipush 10, 2), (43, .if_icmp .ge 22, 3), (46, .aload_n 0, 1), (47, .getfield 11, 3), (50, .aload_n 2, 1), (51, .getfield 76, 3), (54, .aaload, 1), (55, .dup, 1), (56, .getfield 236, 3), (59, .iload 4, 2), (61, .isub, 1), (62, .putfield 236, 3), (65, .aload_n 2, 1), (66, .getfield 191, 3), (69, .bipush (-9), 2)]
theorem dlX8_loseParcel_q0 : dOk cX8_loseParcel LX8_loseParcel_q0 = true := by decide +kernel
def LX8_loseParcel_q1 : List (Nat × Instr × Nat) := [(71, .if_icmp .eq 22, 3), (74, .aload_n 0, 1), (75, .getfield 11, 3), (78, .aload_n 2, 1), (79, .getfield 191, 3), (82, .aaload, 1), (83, .dup, 1), (84, .getfield 236, 3), (87, .iload 5, 2), (89, .isub, 1), (90, .putfield 236, 3), (93, .iload_n 3, 1), (94, .iload 4, 2), (96, .iadd, 1), (97, .iload 5, 2), (99, .iadd, 1), (100, .istore 6, 2), (102, .aload_n 0, 1), (103, .getfield 11, 3), (106, .aload_n 2, 1), (107, .getfield 153, 3), (110, .aaload, 1), (111, .dup, 1), (112, .getfield 143, 3), (115, .iload 6, 2), (117, .iadd, 1), (118, .putfield 143, 3), (121, .aload_n 2, 1), (122, .iconst 2, 1), (123, .putfield 73, 3), (126, .aload_n 2, 1), (127, .invokevirtual 175, 3), (130, .iload 6, 2), (132, .ireturn, 1)]
theorem dlX8_loseParcel_q1 : dOk cX8_loseParcel LX8_loseParcel_q1 = true := by decide +kernel
def LX8_loseParcel : List (Nat × Instr × Nat) := (LX8_loseParcel_q0 ++ LX8_loseParcel_q1)
theorem dlX8_loseParcel : dOk cX8_loseParcel LX8_loseParcel = true := (dOk.app dlX8_loseParcel_q0 dlX8_loseParcel_q1)
def MX8_loseParcel : xM := (RX8, yX8_loseParcel, cX8_loseParcel, 7, (some .int), 4, 88, LX8_loseParcel)
theorem okX8_loseParcel : xOk MX8_loseParcel 1 := ⟨tW 598 (by decide +kernel) rfl, wi_RX8, by decide +kernel, ⟨by decide +kernel, by decide +kernel, by decide +kernel⟩, rfl, dOk.all dlX8_loseParcel⟩
theorem viX8_loseParcel : xVi yX8_loseParcel := ⟨tW 596 (by decide +kernel) rfl, tW 597 (by decide +kernel) rfl⟩
def LX8_number_q0 : List (Nat × Instr × Nat) := [(0, .iload_n 1, 1), (1, .tableswitch 129 0 11 #[63, 68, 73, 79, 85, 91, 96, 102, 108, 114, 119, 124], 63), (64, .aload_n 0, 1), (65, .getfield 41, 3), (68, .ireturn, 1), (69, .aload_n 0, 1), (70, .getfield 54, 3), (73, .ireturn, 1), (74, .aload_n 0, 1), (75, .iconst 0, 1), (76, .invokevirtual 245, 3), (79, .ireturn, 1), (80, .aload_n 0, 1), (81, .iconst 1, 1), (82, .invokevirtual 245, 3), (85, .ireturn, 1), (86, .aload_n 0, 1), (87, .iconst 2, 1), (88, .invokevirtual 245, 3), (91, .ireturn, 1), (92, .aload_n 0, 1), (93, .getfield 57, 3), (96, .ireturn, 1), (97, .aload_n 0, 1), (98, .iconst 0, 1), (99, .invokevirtual 248, 3), (102, .ireturn, 1), (103, .aload_n 0, 1), (104, .iconst 1, 1), (105, .invokevirtual 248, 3), (108, .ireturn, 1), (109, .aload_n 0, 1), (110, .iconst 2, 1), (111, .invokevirtual 248, 3), (114, .ireturn, 1), (115, .aload_n 0, 1), (116, .getfield 45, 3), (119, .ireturn, 1), (120, .aload_n 0, 1), (121, .invokevirtual 251, 3)]
theorem dlX8_number_q0 : dOk cX8_number LX8_number_q0 = true := by decide +kernel
def LX8_number_q1 : List (Nat × Instr × Nat) := [(124, .ireturn, 1), (125, .aload_n 0, 1), (126, .getfield 48, 3), (129, .ireturn, 1), (130, .aload_n 0, 1), (131, .getfield 51, 3), (134, .ireturn, 1)]
theorem dlX8_number_q1 : dOk cX8_number LX8_number_q1 = true := by decide +kernel
def LX8_number : List (Nat × Instr × Nat) := (LX8_number_q0 ++ LX8_number_q1)
theorem dlX8_number : dOk cX8_number LX8_number = true := (dOk.app dlX8_number_q0 dlX8_number_q1)
def MX8_number : xM := (RX8, yX8_number, cX8_number, 2, (some .int), 1, 23, LX8_number)
theorem okX8_number : xOk MX8_number 1 := ⟨tW 303 (by decide +kernel) rfl, wi_RX8, by decide +kernel, ⟨by decide +kernel, by decide +kernel, by decide +kernel⟩, rfl, dOk.all dlX8_number⟩
theorem viX8_number : xVi yX8_number := ⟨tW 301 (by decide +kernel) rfl, tW 302 (by decide +kernel) rfl⟩
def LX8_tripsThatAre : List (Nat × Instr × Nat) := [(0, .iconst 0, 1), (1, .istore_n 2, 1), (2, .iconst 0, 1), (3, .istore_n 3, 1), (4, .iload_n 3, 1), (5, .aload_n 0, 1), (6, .getfield 54, 3), (9, .if_icmp .ge 25, 3), (12, .aload_n 0, 1), (13, .getfield 19, 3), (16, .iload_n 3, 1), (17, .aaload, 1), (18, .getfield 129, 3), (21, .iload_n 1, 1), (22, .if_icmp .ne 6, 3), (25, .iinc 2 1, 3), (28, .iinc 3 1, 3), (31, .goto (-27), 3), (34, .iload_n 2, 1), (35, .ireturn, 1)]
theorem dlX8_tripsThatAre : dOk cX8_tripsThatAre LX8_tripsThatAre = true := by decide +kernel
def MX8_tripsThatAre : xM := (RX8, yX8_tripsThatAre, cX8_tripsThatAre, 4, (some .int), 0, 0, LX8_tripsThatAre)
theorem okX8_tripsThatAre : xOk MX8_tripsThatAre 1 := ⟨tW 307 (by decide +kernel) rfl, wi_RX8, by decide +kernel, ⟨by decide +kernel, by decide +kernel, by decide +kernel⟩, rfl, dOk.all dlX8_tripsThatAre⟩
theorem viX8_tripsThatAre : xVi yX8_tripsThatAre := ⟨tW 306 (by decide +kernel) rfl, tS 0 (by decide +kernel) rfl⟩
def LX8_parcelsThatAre : List (Nat × Instr × Nat) := [(0, .iconst 0, 1), (1, .istore_n 2, 1), (2, .iconst 0, 1), (3, .istore_n 3, 1), (4, .iload_n 3, 1), (5, .aload_n 0, 1), (6, .getfield 57, 3), (9, .if_icmp .ge 25, 3), (12, .aload_n 0, 1), (13, .getfield 25, 3), (16, .iload_n 3, 1), (17, .aaload, 1), (18, .getfield 73, 3), (21, .iload_n 1, 1), (22, .if_icmp .ne 6, 3), (25, .iinc 2 1, 3), (28, .iinc 3 1, 3), (31, .goto (-27), 3), (34, .iload_n 2, 1), (35, .ireturn, 1)]
theorem dlX8_parcelsThatAre : dOk cX8_parcelsThatAre LX8_parcelsThatAre = true := by decide +kernel
def MX8_parcelsThatAre : xM := (RX8, yX8_parcelsThatAre, cX8_parcelsThatAre, 4, (some .int), 0, 0, LX8_parcelsThatAre)
theorem okX8_parcelsThatAre : xOk MX8_parcelsThatAre 1 := ⟨tW 311 (by decide +kernel) rfl, wi_RX8, by decide +kernel, ⟨by decide +kernel, by decide +kernel, by decide +kernel⟩, rfl, dOk.all dlX8_parcelsThatAre⟩
theorem viX8_parcelsThatAre : xVi yX8_parcelsThatAre := ⟨tW 310 (by decide +kernel) rfl, tS 1 (by decide +kernel) rfl⟩
def LX8_coinsOfAll : List (Nat × Instr × Nat) := [(0, .iconst 0, 1), (1, .istore_n 1, 1), (2, .iconst 0, 1), (3, .istore_n 2, 1), (4, .iload_n 2, 1), (5, .bipush 8, 2), (7, .if_icmp .ge 31, 3), (10, .iload_n 1, 1), (11, .aload_n 0, 1), (12, .getfield 11, 3), (15, .iload_n 2, 1), (16, .aaload, 1), (17, .getfield 143, 3), (20, .aload_n 0, 1), (21, .getfield 11, 3), (24, .iload_n 2, 1), (25, .aaload, 1), (26, .getfield 236, 3), (29, .iadd, 1), (30, .iadd, 1), (31, .istore_n 1, 1), (32, .iinc 2 1, 3), (35, .goto (-31), 3), (38, .iload_n 1, 1), (39, .ireturn, 1)]
theorem dlX8_coinsOfAll : dOk cX8_coinsOfAll LX8_coinsOfAll = true := by decide +kernel
def MX8_coinsOfAll : xM := (RX8, yX8_coinsOfAll, cX8_coinsOfAll, 3, (some .int), 0, 0, LX8_coinsOfAll)
theorem okX8_coinsOfAll : xOk MX8_coinsOfAll 0 := ⟨tW 315 (by decide +kernel) rfl, wi_RX8, by decide +kernel, ⟨by decide +kernel, by decide +kernel, by decide +kernel⟩, rfl, dOk.all dlX8_coinsOfAll⟩
theorem viX8_coinsOfAll : xVi yX8_coinsOfAll := ⟨tW 314 (by decide +kernel) rfl, tS 2 (by decide +kernel) rfl⟩
def LX8_tellPerson : List (Nat × Instr × Nat) := [(0, .aload_n 0, 1), (1, .getfield 11, 3), (4, .iload_n 1, 1), (5, .aaload, 1), (6, .astore_n 3, 1), (7, .iload_n 2, 1), (8, .tableswitch 62 0 4 #[36, 41, 46, 51, 56], 36), (44, .aload_n 3, 1), (45, .getfield 143, 3), (48, .ireturn, 1), (49, .aload_n 3, 1), (50, .getfield 236, 3), (53, .ireturn, 1), (54, .aload_n 3, 1), (55, .getfield 79, 3), (58, .ireturn, 1), (59, .aload_n 3, 1), (60, .getfield 82, 3), (63, .ireturn, 1), (64, .aload_n 0, 1), (65, .iload_n 1, 1), (66, .invokevirtual 150, 3), (69, .ireturn, 1), (70, .aload_n 3, 1), (71, .getfield 221, 3), (74, .ireturn, 1)]
theorem dlX8_tellPerson : dOk cX8_tellPerson LX8_tellPerson = true := by decide +kernel
def MX8_tellPerson : xM := (RX8, yX8_tellPerson, cX8_tellPerson, 4, (some .int), 1, 23, LX8_tellPerson)
theorem okX8_tellPerson : xOk MX8_tellPerson 2 := ⟨tW 335 (by decide +kernel) rfl, wi_RX8, by decide +kernel, ⟨by decide +kernel, by decide +kernel, by decide +kernel⟩, rfl, dOk.all dlX8_tellPerson⟩
theorem viX8_tellPerson : xVi yX8_tellPerson := ⟨tW 333 (by decide +kernel) rfl, tW 334 (by decide +kernel) rfl⟩
def LX8_tellParcel_q0 : List (Nat × Instr × Nat) := [(0, .aload_n 0, 1), (1, .getfield 25, 3), (4, .iload_n 1, 1), (5, .aaload, 1), (6, .astore_n 3, 1), (7, .iload_n 2, 1), (8, .tableswitch 106 0 9 #[56, 61, 66, 71, 76, 81, 86, 91, 96, 101], 56), (64, .aload_n 3, 1), (65, .getfield 153, 3), (68, .ireturn, 1), (69, .aload_n 3, 1), (70, .getfield 156, 3), (73, .ireturn, 1), (74, .aload_n 3, 1), (75, .getfield 159, 3), (78, .ireturn, 1), (79, .aload_n 3, 1), (80, .getfield 162, 3), (83, .ireturn, 1), (84, .aload_n 3, 1), (85, .getfield 165, 3), (88, .ireturn, 1), (89, .aload_n 3, 1), (90, .getfield 73, 3), (93, .ireturn, 1), (94, .aload_n 3, 1), (95, .getfield 76, 3), (98, .ireturn, 1), (99, .aload_n 3, 1), (100, .getfield 172, 3), (103, .ireturn, 1), (104, .aload_n 3, 1), (105, .getfield 191, 3), (108, .ireturn, 1), (109, .aload_n 3, 1), (110, .getfield 198, 3), (113, .ireturn, 1), (114, .aload_n 3, 1), (115, .getfield 73, 3), (118, .ifCond .ne 14, 3)]
theorem dlX8_tellParcel_q0 : dOk cX8_tellParcel LX8_tellParcel_q0 = true := by decide +kernel
def LX8_tellParcel_q1 : List (Nat × Instr × Nat) := [(121, .aload_n 0, 1), (122, .aload_n 3, 1), (123, .getfield 76, 3), (126, .invokevirtual 85, 3), (129, .goto 5, 3), (132, .bipush (-9), 2), (134, .ireturn, 1)]
theorem dlX8_tellParcel_q1 : dOk cX8_tellParcel LX8_tellParcel_q1 = true := by decide +kernel
def LX8_tellParcel : List (Nat × Instr × Nat) := (LX8_tellParcel_q0 ++ LX8_tellParcel_q1)
theorem dlX8_tellParcel : dOk cX8_tellParcel LX8_tellParcel = true := (dOk.app dlX8_tellParcel_q0 dlX8_tellParcel_q1)
def MX8_tellParcel : xM := (RX8, yX8_tellParcel, cX8_tellParcel, 4, (some .int), 1, 21, LX8_tellParcel)
theorem okX8_tellParcel : xOk MX8_tellParcel 2 := ⟨tW 363 (by decide +kernel) rfl, wi_RX8, by decide +kernel, ⟨by decide +kernel, by decide +kernel, by decide +kernel⟩, rfl, dOk.all dlX8_tellParcel⟩
theorem viX8_tellParcel : xVi yX8_tellParcel := ⟨tW 361 (by decide +kernel) rfl, tW 362 (by decide +kernel) rfl⟩
def LX9_init : List (Nat × Instr × Nat) := [(0, .aload_n 0, 1), (1, .invokespecial 1, 3), (4, .aload_n 0, 1), (5, .new 7, 3), (8, .dup, 1), (9, .invokespecial 9, 3), (12, .putfield 10, 3), (15, .aload_n 0, 1), (16, .aload_n 0, 1), (17, .getfield 10, 3), (20, .getfield 16, 3), (23, .putfield 20, 3), (26, .aload_n 0, 1), (27, .new 21, 3), (30, .dup, 1), (31, .invokespecial 23, 3), (34, .putfield 24, 3), (37, .aload_n 0, 1), (38, .new 28, 3), (41, .dup, 1), (42, .invokespecial 30, 3), (45, .putfield 31, 3), (48, .aload_n 0, 1), (49, .new 35, 3), (52, .dup, 1), (53, .aload_n 0, 1), (54, .getfield 20, 3), (57, .invokespecial 37, 3), (60, .putfield 40, 3), (63, .return_, 1)]
theorem dlX9_init : dOk cX9_init LX9_init = true := by decide +kernel
def MX9_init : xM := (RX9, yX9_init, cX9_init, 1, none, 4, 82, LX9_init)
theorem okX9_init : xOk MX9_init 0 := ⟨tW 17 (by decide +kernel) rfl, wi_RX9, by decide +kernel, ⟨by decide +kernel, by decide +kernel, by decide +kernel⟩, rfl, dOk.all dlX9_init⟩
theorem viX9_init : Cond.instanceMethod yX9_init ∈ gW := tW 16 (by decide +kernel) rfl
def LX9_offer : List (Nat × Instr × Nat) := [(0, .aload_n 0, 1), (1, .getfield 20, 3), (4, .iload_n 1, 1), (5, .iload_n 2, 1), (6, .iload_n 3, 1), (7, .iload 4, 2), (9, .iload 5, 2), (11, .iload 6, 2), (13, .invokevirtual 44, 3), (16, .istore 7, 2), (18, .iload 7, 2), (20, .ifCond .ge 6, 3), (23, .iload 7, 2), (25, .ireturn, 1), (26, .aload_n 0, 1), (27, .getfield 24, 3), (30, .aload_n 0, 1), (31, .getfield 10, 3), (34, .invokevirtual 50, 3), (37, .aload_n 0, 1), (38, .getfield 20, 3), (41, .iload_n 1, 1), (42, .iload_n 2, 1), (43, .iload_n 3, 1), (44, .iload 4, 2), (46, .iload 5, 2), (48, .iload 6, 2), (50, .invokevirtual 54, 3), (53, .ireturn, 1)]
theorem dlX9_offer : dOk cX9_offer LX9_offer = true := by decide +kernel
def MX9_offer : xM := (RX9, yX9_offer, cX9_offer, 8, (some .int), 6, 135, LX9_offer)
theorem okX9_offer : xOk MX9_offer 6 := ⟨tW 386 (by decide +kernel) rfl, wi_RX9, by decide +kernel, ⟨by decide +kernel, by decide +kernel, by decide +kernel⟩, rfl, dOk.all dlX9_offer⟩
theorem viX9_offer : xVi yX9_offer := ⟨tW 384 (by decide +kernel) rfl, tW 385 (by decide +kernel) rfl⟩
def LX9_takeBack : List (Nat × Instr × Nat) := [(0, .aload_n 0, 1), (1, .getfield 20, 3), (4, .iload_n 1, 1), (5, .invokevirtual 57, 3), (8, .istore_n 2, 1), (9, .iload_n 2, 1), (10, .ifCond .ge 5, 3), (13, .iload_n 2, 1), (14, .ireturn, 1), (15, .aload_n 0, 1), (16, .getfield 24, 3), (19, .aload_n 0, 1), (20, .getfield 10, 3), (23, .invokevirtual 50, 3), (26, .aload_n 0, 1), (27, .getfield 20, 3), (30, .iload_n 1, 1), (31, .invokevirtual 61, 3), (34, .ireturn, 1)]
theorem dlX9_takeBack : dOk cX9_takeBack LX9_takeBack = true := by decide +kernel
def MX9_takeBack : xM := (RX9, yX9_takeBack, cX9_takeBack, 3, (some .int), 6, 135, LX9_takeBack)
theorem okX9_takeBack : xOk MX9_takeBack 1 := ⟨tW 620 (by decide +kernel) rfl, wi_RX9, by decide +kernel, ⟨by decide +kernel, by decide +kernel, by decide +kernel⟩, rfl, dOk.all dlX9_takeBack⟩
theorem viX9_takeBack : xVi yX9_takeBack := ⟨tW 618 (by decide +kernel) rfl, tW 619 (by decide +kernel) rfl⟩
def LX9_post : List (Nat × Instr × Nat) := [(0, .aload_n 0, 1), (1, .getfield 20, 3), (4, .iload_n 1, 1), (5, .iload_n 2, 1), (6, .iload_n 3, 1), (7, .iload 4, 2), (9, .iload 5, 2), (11, .invokevirtual 64, 3), (14, .istore 6, 2), (16, .iload 6, 2), (18, .ifCond .ge 6, 3), (21, .iload 6, 2), (23, .ireturn, 1), (24, .aload_n 0, 1), (25, .getfield 24, 3), (28, .aload_n 0, 1), (29, .getfield 10, 3), (32, .invokevirtual 50, 3), (35, .aload_n 0, 1), (36, .getfield 20, 3), (39, .iload_n 1, 1), (40, .iload_n 2, 1), (41, .iload_n 3, 1), (42, .iload 4, 2), (44, .iload 5, 2), (46, .invokevirtual 68, 3), (49, .ireturn, 1)]
theorem dlX9_post : dOk cX9_post LX9_post = true := by decide +kernel
def MX9_post : xM := (RX9, yX9_post, cX9_post, 7, (some .int), 6, 135, LX9_post)
theorem okX9_post : xOk MX9_post 5 := ⟨tW 458 (by decide +kernel) rfl, wi_RX9, by decide +kernel, ⟨by decide +kernel, by decide +kernel, by decide +kernel⟩, rfl, dOk.all dlX9_post⟩
theorem viX9_post : xVi yX9_post := ⟨tW 456 (by decide +kernel) rfl, tW 457 (by decide +kernel) rfl⟩
def LX9_pass : List (Nat × Instr × Nat) := [(0, .aload_n 0, 1), (1, .getfield 20, 3), (4, .iload_n 1, 1), (5, .invokevirtual 71, 3), (8, .istore_n 2, 1), (9, .iload_n 2, 1), (10, .ifCond .ge 5, 3), (13, .iload_n 2, 1), (14, .ireturn, 1), (15, .aload_n 0, 1), (16, .getfield 24, 3), (19, .aload_n 0, 1), (20, .getfield 10, 3), (23, .invokevirtual 50, 3), (26, .aload_n 0, 1), (27, .getfield 20, 3), (30, .iload_n 1, 1), (31, .invokevirtual 74, 3), (34, .ireturn, 1)]
theorem dlX9_pass : dOk cX9_pass LX9_pass = true := by decide +kernel
def MX9_pass : xM := (RX9, yX9_pass, cX9_pass, 3, (some .int), 6, 135, LX9_pass)
theorem okX9_pass : xOk MX9_pass 1 := ⟨tW 484 (by decide +kernel) rfl, wi_RX9, by decide +kernel, ⟨by decide +kernel, by decide +kernel, by decide +kernel⟩, rfl, dOk.all dlX9_pass⟩
theorem viX9_pass : xVi yX9_pass := ⟨tW 482 (by decide +kernel) rfl, tW 483 (by decide +kernel) rfl⟩
def LX9_gave : List (Nat × Instr × Nat) := [(0, .aload_n 0, 1), (1, .getfield 20, 3), (4, .iload_n 1, 1), (5, .iload_n 2, 1), (6, .iload_n 3, 1), (7, .invokevirtual 77, 3), (10, .istore 4, 2), (12, .iload 4, 2), (14, .ifCond .ge 6, 3), (17, .iload 4, 2), (19, .ireturn, 1), (20, .aload_n 0, 1), (21, .getfield 24, 3), (24, .aload_n 0, 1), (25, .getfield 10, 3), (28, .invokevirtual 50, 3), (31, .aload_n 0, 1), (32, .getfield 20, 3), (35, .iload_n 2, 1), (36, .iload_n 3, 1), (37, .invokevirtual 81, 3), (40, .ireturn, 1)]
theorem dlX9_gave : dOk cX9_gave LX9_gave = true := by decide +kernel
def MX9_gave : xM := (RX9, yX9_gave, cX9_gave, 5, (some .int), 6, 135, LX9_gave)
theorem okX9_gave : xOk MX9_gave 3 := ⟨tW 508 (by decide +kernel) rfl, wi_RX9, by decide +kernel, ⟨by decide +kernel, by decide +kernel, by decide +kernel⟩, rfl, dOk.all dlX9_gave⟩
theorem viX9_gave : xVi yX9_gave := ⟨tW 506 (by decide +kernel) rfl, tW 507 (by decide +kernel) rfl⟩
def LX9_took : List (Nat × Instr × Nat) := [(0, .aload_n 0, 1), (1, .getfield 20, 3), (4, .iload_n 3, 1), (5, .iload_n 2, 1), (6, .iload_n 1, 1), (7, .invokevirtual 77, 3), (10, .istore 4, 2), (12, .iload 4, 2), (14, .ifCond .ge 6, 3), (17, .iload 4, 2), (19, .ireturn, 1), (20, .aload_n 0, 1), (21, .getfield 24, 3), (24, .aload_n 0, 1), (25, .getfield 10, 3), (28, .invokevirtual 50, 3), (31, .aload_n 0, 1), (32, .getfield 20, 3), (35, .iload_n 2, 1), (36, .iload_n 1, 1), (37, .invokevirtual 85, 3), (40, .ireturn, 1)]
theorem dlX9_took : dOk cX9_took LX9_took = true := by decide +kernel
def MX9_took : xM := (RX9, yX9_took, cX9_took, 5, (some .int), 6, 135, LX9_took)
theorem okX9_took : xOk MX9_took 3 := ⟨tW 554 (by decide +kernel) rfl, wi_RX9, by decide +kernel, ⟨by decide +kernel, by decide +kernel, by decide +kernel⟩, rfl, dOk.all dlX9_took⟩
theorem viX9_took : xVi yX9_took := ⟨tW 552 (by decide +kernel) rfl, tW 553 (by decide +kernel) rfl⟩
def LX9_putIn : List (Nat × Instr × Nat) := [(0, .aload_n 0, 1), (1, .getfield 20, 3), (4, .iload_n 1, 1), (5, .iload_n 2, 1), (6, .invokevirtual 88, 3), (9, .istore_n 3, 1), (10, .iload_n 3, 1), (11, .ifCond .ge 5, 3), (14, .iload_n 3, 1), (15, .ireturn, 1), (16, .aload_n 0, 1), (17, .getfield 24, 3), (20, .aload_n 0, 1), (21, .getfield 10, 3), (24, .invokevirtual 50, 3), (27, .aload_n 0, 1), (28, .getfield 20, 3), (31, .iload_n 1, 1), (32, .iload_n 2, 1), (33, .invokevirtual 91, 3), (36, .ireturn, 1)]
theorem dlX9_putIn : dOk cX9_putIn LX9_putIn = true := by decide +kernel
def MX9_putIn : xM := (RX9, yX9_putIn, cX9_putIn, 4, (some .int), 6, 135, LX9_putIn)
theorem okX9_putIn : xOk MX9_putIn 2 := ⟨tW 562 (by decide +kernel) rfl, wi_RX9, by decide +kernel, ⟨by decide +kernel, by decide +kernel, by decide +kernel⟩, rfl, dOk.all dlX9_putIn⟩
theorem viX9_putIn : xVi yX9_putIn := ⟨tW 560 (by decide +kernel) rfl, tW 561 (by decide +kernel) rfl⟩
def LX9_fetch : List (Nat × Instr × Nat) := [(0, .aload_n 0, 1), (1, .getfield 20, 3), (4, .iload_n 1, 1), (5, .iload_n 2, 1), (6, .invokevirtual 94, 3), (9, .istore_n 3, 1), (10, .iload_n 3, 1), (11, .ifCond .ge 5, 3), (14, .iload_n 3, 1), (15, .ireturn, 1), (16, .aload_n 0, 1), (17, .getfield 24, 3), (20, .aload_n 0, 1), (21, .getfield 10, 3), (24, .invokevirtual 50, 3), (27, .aload_n 0, 1), (28, .getfield 20, 3), (31, .iload_n 1, 1), (32, .iload_n 2, 1), (33, .invokevirtual 97, 3), (36, .ireturn, 1)]
theorem dlX9_fetch : dOk cX9_fetch LX9_fetch = true := by decide +kernel
def MX9_fetch : xM := (RX9, yX9_fetch, cX9_fetch, 4, (some .int), 6, 135, LX9_fetch)
theorem okX9_fetch : xOk MX9_fetch 2 := ⟨tW 574 (by decide +kernel) rfl, wi_RX9, by decide +kernel, ⟨by decide +kernel, by decide +kernel, by decide +kernel⟩, rfl, dOk.all dlX9_fetch⟩
theorem viX9_fetch : xVi yX9_fetch := ⟨tW 572 (by decide +kernel) rfl, tW 573 (by decide +kernel) rfl⟩
def LX9_claim : List (Nat × Instr × Nat) := [(0, .aload_n 0, 1), (1, .getfield 20, 3), (4, .iload_n 1, 1), (5, .invokevirtual 100, 3), (8, .istore_n 2, 1), (9, .iload_n 2, 1), (10, .ifCond .ge 5, 3), (13, .iload_n 2, 1), (14, .ireturn, 1), (15, .aload_n 0, 1), (16, .getfield 24, 3), (19, .aload_n 0, 1), (20, .getfield 10, 3), (23, .invokevirtual 50, 3), (26, .aload_n 0, 1), (27, .getfield 20, 3), (30, .iload_n 1, 1), (31, .invokevirtual 103, 3), (34, .ireturn, 1)]
theorem dlX9_claim : dOk cX9_claim LX9_claim = true := by decide +kernel
def MX9_claim : xM := (RX9, yX9_claim, cX9_claim, 3, (some .int), 6, 135, LX9_claim)
theorem okX9_claim : xOk MX9_claim 1 := ⟨tW 586 (by decide +kernel) rfl, wi_RX9, by decide +kernel, ⟨by decide +kernel, by decide +kernel, by decide +kernel⟩, rfl, dOk.all dlX9_claim⟩
theorem viX9_claim : xVi yX9_claim := ⟨tW 584 (by decide +kernel) rfl, tW 585 (by decide +kernel) rfl⟩
def LX9_take : List (Nat × Instr × Nat) := [(0, .iload_n 1, 1), (1, .iconst 0, 1), (2, .iconst 1, 1), (3, .invokestatic 106, 3), (6, .ifCond .ne 5, 3), (9, .iconst (-1), 1), (10, .ireturn, 1), (11, .aload_n 0, 1), (12, .getfield 24, 3), (15, .aload_n 0, 1), (16, .getfield 10, 3), (19, .invokevirtual 50, 3), (22, .aload_n 0, 1), (23, .getfield 10, 3), (26, .iload_n 1, 1), (27, .aload_n 0, 1), (28, .getfield 20, 3), (31, .invokevirtual 110, 3), (34, .aload_n 0, 1), (35, .getfield 20, 3), (38, .getfield 114, 3), (41, .ireturn, 1)]
theorem dlX9_take : dOk cX9_take LX9_take = true := by decide +kernel
def MX9_take : xM := (RX9, yX9_take, cX9_take, 2, (some .int), 6, 135, LX9_take)
theorem okX9_take : xOk MX9_take 1 := ⟨tW 678 (by decide +kernel) rfl, wi_RX9, by decide +kernel, ⟨by decide +kernel, by decide +kernel, by decide +kernel⟩, rfl, dOk.all dlX9_take⟩
theorem viX9_take : xVi yX9_take := ⟨tW 676 (by decide +kernel) rfl, tW 677 (by decide +kernel) rfl⟩
def LX9_restore : List (Nat × Instr × Nat) := [(0, .iload_n 1, 1), (1, .iconst 0, 1), (2, .iconst 1, 1), (3, .invokestatic 106, 3), (6, .ifCond .ne 5, 3), (9, .iconst (-1), 1), (10, .ireturn, 1), (11, .aload_n 0, 1), (12, .getfield 10, 3), (15, .iload_n 1, 1), (16, .invokevirtual 118, 3), (19, .astore_n 2, 1), (20, .aload_n 2, 1), (21, .ifnonnull 6, 3), (24, .bipush (-2), 2), (26, .ireturn, 1), (27, .aload_n 0, 1), (28, .getfield 24, 3), (31, .aload_n 0, 1), (32, .getfield 10, 3), (35, .invokevirtual 50, 3), (38, .aload_n 0, 1), (39, .getfield 20, 3), (42, .aload_n 2, 1), (43, .invokevirtual 122, 3), (46, .aload_n 0, 1), (47, .getfield 20, 3), (50, .getfield 114, 3), (53, .ireturn, 1)]
theorem dlX9_restore : dOk cX9_restore LX9_restore = true := by decide +kernel
def MX9_restore : xM := (RX9, yX9_restore, cX9_restore, 3, (some .int), 6, 135, LX9_restore)
theorem okX9_restore : xOk MX9_restore 1 := ⟨tW 633 (by decide +kernel) rfl, wi_RX9, by decide +kernel, ⟨by decide +kernel, by decide +kernel, by decide +kernel⟩, rfl, dOk.all dlX9_restore⟩
theorem viX9_restore : xVi yX9_restore := ⟨tW 631 (by decide +kernel) rfl, tW 632 (by decide +kernel) rfl⟩
def LX9_undo : List (Nat × Instr × Nat) := [(0, .aload_n 0, 1), (1, .getfield 24, 3), (4, .invokevirtual 125, 3), (7, .astore_n 1, 1), (8, .aload_n 1, 1), (9, .ifnonnull 6, 3), (12, .bipush (-2), 2), (14, .ireturn, 1), (15, .aload_n 0, 1), (16, .getfield 10, 3), (19, .aload_n 1, 1), (20, .invokevirtual 129, 3), (23, .aload_n 0, 1), (24, .getfield 24, 3), (27, .getfield 131, 3), (30, .ireturn, 1)]
theorem dlX9_undo : dOk cX9_undo LX9_undo = true := by decide +kernel
def MX9_undo : xM := (RX9, yX9_undo, cX9_undo, 2, (some .int), 5, 114, LX9_undo)
theorem okX9_undo : xOk MX9_undo 0 := ⟨tW 666 (by decide +kernel) rfl, wi_RX9, by decide +kernel, ⟨by decide +kernel, by decide +kernel, by decide +kernel⟩, rfl, dOk.all dlX9_undo⟩
theorem viX9_undo : xVi yX9_undo := ⟨tW 664 (by decide +kernel) rfl, tW 665 (by decide +kernel) rfl⟩
def LX9_count : List (Nat × Instr × Nat) := [(0, .iload_n 1, 1), (1, .iconst 0, 1), (2, .bipush 15, 2), (4, .invokestatic 106, 3), (7, .ifCond .ne 5, 3), (10, .iconst (-1), 1), (11, .ireturn, 1), (12, .iload_n 1, 1), (13, .tableswitch 51 13 15 #[27, 35, 43], 27), (40, .aload_n 0, 1), (41, .getfield 10, 3), (44, .invokevirtual 152, 3), (47, .ireturn, 1), (48, .aload_n 0, 1), (49, .getfield 24, 3), (52, .getfield 131, 3), (55, .ireturn, 1), (56, .aload_n 0, 1), (57, .getfield 31, 3), (60, .getfield 134, 3), (63, .ireturn, 1), (64, .aload_n 0, 1), (65, .getfield 20, 3), (68, .iload_n 1, 1), (69, .invokevirtual 155, 3), (72, .ireturn, 1)]
theorem dlX9_count : dOk cX9_count LX9_count = true := by decide +kernel
def MX9_count : xM := (RX9, yX9_count, cX9_count, 2, (some .int), 2, 44, LX9_count)
theorem okX9_count : xOk MX9_count 1 := ⟨tW 292 (by decide +kernel) rfl, wi_RX9, by decide +kernel, ⟨by decide +kernel, by decide +kernel, by decide +kernel⟩, rfl, dOk.all dlX9_count⟩
theorem viX9_count : xVi yX9_count := ⟨tW 290 (by decide +kernel) rfl, tW 291 (by decide +kernel) rfl⟩
def LX9_trip : List (Nat × Instr × Nat) := [(0, .aload_n 0, 1), (1, .getfield 20, 3), (4, .iload_n 1, 1), (5, .invokevirtual 158, 3), (8, .ifCond .eq 13, 3), (11, .iload_n 2, 1), (12, .iconst 0, 1), (13, .bipush 6, 2), (15, .invokestatic 106, 3), (18, .ifCond .ne 5, 3), (21, .iconst (-1), 1), (22, .ireturn, 1), (23, .aload_n 0, 1), (24, .getfield 20, 3), (27, .getfield 161, 3), (30, .iload_n 1, 1), (31, .aaload, 1), (32, .iload_n 2, 1), (33, .invokevirtual 165, 3), (36, .ireturn, 1)]
theorem dlX9_trip : dOk cX9_trip LX9_trip = true := by decide +kernel
def MX9_trip : xM := (RX9, yX9_trip, cX9_trip, 3, (some .int), 1, 22, LX9_trip)
theorem okX9_trip : xOk MX9_trip 2 := ⟨tW 343 (by decide +kernel) rfl, wi_RX9, by decide +kernel, ⟨by decide +kernel, by decide +kernel, by decide +kernel⟩, rfl, dOk.all dlX9_trip⟩
theorem viX9_trip : xVi yX9_trip := ⟨tW 341 (by decide +kernel) rfl, tW 342 (by decide +kernel) rfl⟩
def LX9_person : List (Nat × Instr × Nat) := [(0, .iload_n 1, 1), (1, .invokestatic 170, 3), (4, .ifCond .eq 12, 3), (7, .iload_n 2, 1), (8, .iconst 0, 1), (9, .iconst 5, 1), (10, .invokestatic 106, 3), (13, .ifCond .ne 5, 3), (16, .iconst (-1), 1), (17, .ireturn, 1), (18, .aload_n 0, 1), (19, .getfield 20, 3), (22, .iload_n 1, 1), (23, .iload_n 2, 1), (24, .invokevirtual 173, 3), (27, .ireturn, 1)]
theorem dlX9_person : dOk cX9_person LX9_person = true := by decide +kernel
def MX9_person : xM := (RX9, yX9_person, cX9_person, 3, (some .int), 2, 46, LX9_person)
theorem okX9_person : xOk MX9_person 2 := ⟨tW 328 (by decide +kernel) rfl, wi_RX9, by decide +kernel, ⟨by decide +kernel, by decide +kernel, by decide +kernel⟩, rfl, dOk.all dlX9_person⟩
theorem viX9_person : xVi yX9_person := ⟨tW 326 (by decide +kernel) rfl, tW 327 (by decide +kernel) rfl⟩
def LX9_parcel : List (Nat × Instr × Nat) := [(0, .aload_n 0, 1), (1, .getfield 20, 3), (4, .iload_n 1, 1), (5, .invokevirtual 176, 3), (8, .ifCond .eq 13, 3), (11, .iload_n 2, 1), (12, .iconst 0, 1), (13, .bipush 10, 2), (15, .invokestatic 106, 3), (18, .ifCond .ne 5, 3), (21, .iconst (-1), 1), (22, .ireturn, 1), (23, .aload_n 0, 1), (24, .getfield 20, 3), (27, .iload_n 1, 1), (28, .iload_n 2, 1), (29, .invokevirtual 179, 3), (32, .ireturn, 1)]
theorem dlX9_parcel : dOk cX9_parcel LX9_parcel = true := by decide +kernel
def MX9_parcel : xM := (RX9, yX9_parcel, cX9_parcel, 3, (some .int), 2, 44, LX9_parcel)
theorem okX9_parcel : xOk MX9_parcel 2 := ⟨tW 355 (by decide +kernel) rfl, wi_RX9, by decide +kernel, ⟨by decide +kernel, by decide +kernel, by decide +kernel⟩, rfl, dOk.all dlX9_parcel⟩
theorem viX9_parcel : xVi yX9_parcel := ⟨tW 353 (by decide +kernel) rfl, tW 354 (by decide +kernel) rfl⟩
def LX9_holderAt : List (Nat × Instr × Nat) := [(0, .aload_n 0, 1), (1, .getfield 20, 3), (4, .iload_n 1, 1), (5, .invokevirtual 176, 3), (8, .ifCond .eq 18, 3), (11, .iload_n 2, 1), (12, .iconst 0, 1), (13, .aload_n 0, 1), (14, .getfield 20, 3), (17, .getfield 114, 3), (20, .invokestatic 106, 3), (23, .ifCond .ne 5, 3), (26, .iconst (-1), 1), (27, .ireturn, 1), (28, .aload_n 0, 1), (29, .getfield 20, 3), (32, .getfield 182, 3), (35, .iload_n 1, 1), (36, .iload_n 2, 1), (37, .invokevirtual 186, 3), (40, .ireturn, 1)]
theorem dlX9_holderAt : dOk cX9_holderAt LX9_holderAt = true := by decide +kernel
def MX9_holderAt : xM := (RX9, yX9_holderAt, cX9_holderAt, 3, (some .int), 1, 24, LX9_holderAt)
theorem okX9_holderAt : xOk MX9_holderAt 2 := ⟨tW 371 (by decide +kernel) rfl, wi_RX9, by decide +kernel, ⟨by decide +kernel, by decide +kernel, by decide +kernel⟩, rfl, dOk.all dlX9_holderAt⟩
theorem viX9_holderAt : xVi yX9_holderAt := ⟨tW 369 (by decide +kernel) rfl, tW 370 (by decide +kernel) rfl⟩
def LX9_inLocker : List (Nat × Instr × Nat) := [(0, .iload_n 1, 1), (1, .invokestatic 191, 3), (4, .ifCond .ne 5, 3), (7, .iconst (-1), 1), (8, .ireturn, 1), (9, .aload_n 0, 1), (10, .getfield 20, 3), (13, .bipush 10, 2), (15, .iload_n 1, 1), (16, .iadd, 1), (17, .invokevirtual 194, 3), (20, .ireturn, 1)]
theorem dlX9_inLocker : dOk cX9_inLocker LX9_inLocker = true := by decide +kernel
def MX9_inLocker : xM := (RX9, yX9_inLocker, cX9_inLocker, 2, (some .int), 2, 42, LX9_inLocker)
theorem okX9_inLocker : xOk MX9_inLocker 1 := ⟨tW 648 (by decide +kernel) rfl, wi_RX9, by decide +kernel, ⟨by decide +kernel, by decide +kernel, by decide +kernel⟩, rfl, dOk.all dlX9_inLocker⟩
theorem viX9_inLocker : xVi yX9_inLocker := ⟨tW 646 (by decide +kernel) rfl, tW 647 (by decide +kernel) rfl⟩
def LX9_isWithin : List (Nat × Instr × Nat) := [(0, .iload_n 0, 1), (1, .iload_n 1, 1), (2, .if_icmp .lt 12, 3), (5, .iload_n 0, 1), (6, .iload_n 2, 1), (7, .if_icmp .gt 7, 3), (10, .iconst 1, 1), (11, .goto 4, 3), (14, .iconst 0, 1), (15, .ireturn, 1)]
theorem dlX9_isWithin : dOk cX9_isWithin LX9_isWithin = true := by decide +kernel
def MX9_isWithin : xM := (RX9, yX9_isWithin, cX9_isWithin, 3, (some .boolean), 0, 0, LX9_isWithin)
theorem okX9_isWithin : xOk MX9_isWithin 3 := ⟨tW 295 (by decide +kernel) rfl, wi_RX9, by decide +kernel, ⟨by decide +kernel, by decide +kernel, by decide +kernel⟩, rfl, dOk.all dlX9_isWithin⟩
theorem viX9_isWithin : Cond.static yX9_isWithin ∈ gW := tW 294 (by decide +kernel) rfl
def LX9_isPerson : List (Nat × Instr × Nat) := [(0, .iload_n 0, 1), (1, .iconst 0, 1), (2, .bipush 7, 2), (4, .invokestatic 106, 3), (7, .ireturn, 1)]
theorem dlX9_isPerson : dOk cX9_isPerson LX9_isPerson = true := by decide +kernel
def MX9_isPerson : xM := (RX9, yX9_isPerson, cX9_isPerson, 1, (some .boolean), 1, 22, LX9_isPerson)
theorem okX9_isPerson : xOk MX9_isPerson 1 := ⟨tW 331 (by decide +kernel) rfl, wi_RX9, by decide +kernel, ⟨by decide +kernel, by decide +kernel, by decide +kernel⟩, rfl, dOk.all dlX9_isPerson⟩
theorem viX9_isPerson : Cond.static yX9_isPerson ∈ gW := tW 330 (by decide +kernel) rfl
def LX9_isTown : List (Nat × Instr × Nat) := [(0, .iload_n 0, 1), (1, .iconst 0, 1), (2, .iconst 5, 1), (3, .invokestatic 106, 3), (6, .ireturn, 1)]
theorem dlX9_isTown : dOk cX9_isTown LX9_isTown = true := by decide +kernel
def MX9_isTown : xM := (RX9, yX9_isTown, cX9_isTown, 1, (some .boolean), 1, 22, LX9_isTown)
theorem okX9_isTown : xOk MX9_isTown 1 := ⟨tW 394 (by decide +kernel) rfl, wi_RX9, by decide +kernel, ⟨by decide +kernel, by decide +kernel, by decide +kernel⟩, rfl, dOk.all dlX9_isTown⟩
theorem viX9_isTown : Cond.static yX9_isTown ∈ gW := tW 393 (by decide +kernel) rfl
def LL_cell : List (Nat × Instr × Nat) := [(0, .iload_n 1, 1), (1, .aload_n 0, 1), (2, .arraylength, 1), (3, .if_icmp .ge 9, 3), (6, .aload_n 0, 1), (7, .iload_n 1, 1), (8, .iaload, 1), (9, .goto 9, 3), (12, .ldc 7, 2), (14, .iload_n 1, 1), (15, .iconst 3, 1), (16, .iadd, 1), (17, .imul, 1), (18, .ireturn, 1)]
theorem dlL_cell : dOk cL_cell LL_cell = true := by decide +kernel
def ML_cell : xM := (RL, yL_cell, cL_cell, 2, (some .int), 0, 0, LL_cell)
theorem okL_cell : xOk ML_cell 2 := ⟨tW 318 (by decide +kernel) rfl, wi_RL, by decide +kernel, ⟨by decide +kernel, by decide +kernel, by decide +kernel⟩, rfl, dOk.all dlL_cell⟩
theorem viL_cell : Cond.static yL_cell ∈ gW := tW 317 (by decide +kernel) rfl
def LL_up : List (Nat × Instr × Nat) := [(0, .iload_n 0, 1), (1, .ldc 8, 2), (3, .iand, 1), (4, .iload_n 1, 1), (5, .irem, 1), (6, .ireturn, 1)]
theorem dlL_up : dOk cL_up LL_up = true := by decide +kernel
def ML_up : xM := (RL, yL_up, cL_up, 2, (some .int), 0, 0, LL_up)
theorem okL_up : xOk ML_up 2 := ⟨tW 381 (by decide +kernel) rfl, wi_RL, by decide +kernel, ⟨by decide +kernel, by decide +kernel, by decide +kernel⟩, rfl, dOk.all dlL_up⟩
theorem viL_up : Cond.static yL_up ∈ gW := tW 380 (by decide +kernel) rfl
def LL_view_q0 : List (Nat × Instr × Nat) := [(0, .ldc2_w 9, 3), (3, .lstore_n 1, 1), (4, .iconst 0, 1), (5, .istore_n 3, 1), (6, .iload_n 3, 1), (7, .bipush 13, 2), (9, .if_icmp .ge 22, 3), (12, .ldc2_w 11, 3), (15, .lload_n 1, 1), (16, .lmul, 1), (17, .aload_n 0, 1), (18, .iload_n 3, 1), (19, .invokevirtual 13, 3), (22, .i2l, 1), (23, .ladd, 1), (24, .lstore_n 1, 1), (25, .iinc 3 1, 3), (28, .goto (-22), 3), (31, .iconst 0, 1), (32, .istore_n 3, 1), (33, .iload_n 3, 1), (34, .bipush 8, 2), (36, .if_icmp .ge 40, 3), (39, .iconst 0, 1), (40, .istore 4, 2), (42, .iload 4, 2), (44, .bipush 6, 2), (46, .if_icmp .ge 24, 3), (49, .ldc2_w 11, 3), (52, .lload_n 1, 1), (53, .lmul, 1), (54, .aload_n 0, 1), (55, .iload_n 3, 1), (56, .iload 4, 2), (58, .invokevirtual 19, 3), (61, .i2l, 1), (62, .ladd, 1), (63, .lstore_n 1, 1), (64, .iinc 4 1, 3), (67, .goto (-25), 3)]
theorem dlL_view_q0 : dOk cL_view LL_view_q0 = true := by decide +kernel
def LL_view_q1 : List (Nat × Instr × Nat) := [(70, .iinc 3 1, 3), (73, .goto (-40), 3), (76, .iconst 0, 1), (77, .istore_n 3, 1), (78, .iload_n 3, 1), (79, .aload_n 0, 1), (80, .iconst 1, 1), (81, .invokevirtual 13, 3), (84, .if_icmp .ge 40, 3), (87, .iconst 0, 1), (88, .istore 4, 2), (90, .iload 4, 2), (92, .bipush 7, 2), (94, .if_icmp .ge 24, 3), (97, .ldc2_w 11, 3), (100, .lload_n 1, 1), (101, .lmul, 1), (102, .aload_n 0, 1), (103, .iload_n 3, 1), (104, .iload 4, 2), (106, .invokevirtual 23, 3), (109, .i2l, 1), (110, .ladd, 1), (111, .lstore_n 1, 1), (112, .iinc 4 1, 3), (115, .goto (-25), 3), (118, .iinc 3 1, 3), (121, .goto (-43), 3), (124, .iconst 0, 1), (125, .istore_n 3, 1), (126, .iload_n 3, 1), (127, .aload_n 0, 1), (128, .iconst 5, 1), (129, .invokevirtual 13, 3), (132, .if_icmp .ge 74, 3), (135, .iconst 0, 1), (136, .istore 4, 2), (138, .iload 4, 2), (140, .bipush 11, 2), (142, .if_icmp .ge 24, 3)]
theorem dlL_view_q1 : dOk cL_view LL_view_q1 = true := by decide +kernel
def LL_view_q2 : List (Nat × Instr × Nat) := [(145, .ldc2_w 11, 3), (148, .lload_n 1, 1), (149, .lmul, 1), (150, .aload_n 0, 1), (151, .iload_n 3, 1), (152, .iload 4, 2), (154, .invokevirtual 26, 3), (157, .i2l, 1), (158, .ladd, 1), (159, .lstore_n 1, 1), (160, .iinc 4 1, 3), (163, .goto (-25), 3), (166, .iconst 0, 1), (167, .istore 4, 2), (169, .iload 4, 2), (171, .aload_n 0, 1), (172, .iconst 0, 1), (173, .invokevirtual 13, 3), (176, .if_icmp .gt 24, 3), (179, .ldc2_w 11, 3), (182, .lload_n 1, 1), (183, .lmul, 1), (184, .aload_n 0, 1), (185, .iload_n 3, 1), (186, .iload 4, 2), (188, .invokevirtual 29, 3), (191, .i2l, 1), (192, .ladd, 1), (193, .lstore_n 1, 1), (194, .iinc 4 1, 3), (197, .goto (-28), 3), (200, .iinc 3 1, 3), (203, .goto (-77), 3), (206, .lload_n 1, 1), (207, .lreturn, 1)]
theorem dlL_view_q2 : dOk cL_view LL_view_q2 = true := by decide +kernel
def LL_view : List (Nat × Instr × Nat) := (LL_view_q0 ++ (LL_view_q1 ++ LL_view_q2))
theorem dlL_view : dOk cL_view LL_view = true := (dOk.app dlL_view_q0 (dOk.app dlL_view_q1 dlL_view_q2))
def ML_view : xM := (RL, yL_view, cL_view, 5, (some .long), 3, 68, LL_view)
theorem okL_view : xOk ML_view 1 := ⟨tW 322 (by decide +kernel) rfl, wi_RL, by decide +kernel, ⟨by decide +kernel, by decide +kernel, by decide +kernel⟩, rfl, dOk.all dlL_view⟩
theorem viL_view : Cond.static yL_view ∈ gW := tW 321 (by decide +kernel) rfl
def LL_any_q0 : List (Nat × Instr × Nat) := [(0, .iload_n 2, 1), (1, .bipush 7, 2), (3, .iand, 1), (4, .tableswitch 101 0 6 #[44, 55, 65, 73, 81, 88, 95], 44), (48, .aload_n 0, 1), (49, .iload_n 1, 1), (50, .iload_n 2, 1), (51, .iload_n 1, 1), (52, .iload_n 2, 1), (53, .iload_n 1, 1), (54, .iload_n 2, 1), (55, .invokevirtual 32, 3), (58, .ireturn, 1), (59, .aload_n 0, 1), (60, .iload_n 1, 1), (61, .iload_n 2, 1), (62, .iload_n 1, 1), (63, .iload_n 2, 1), (64, .iload_n 1, 1), (65, .invokevirtual 36, 3), (68, .ireturn, 1), (69, .aload_n 0, 1), (70, .iload_n 1, 1), (71, .iload_n 2, 1), (72, .iload_n 1, 1), (73, .invokevirtual 40, 3), (76, .ireturn, 1), (77, .aload_n 0, 1), (78, .iload_n 1, 1), (79, .iload_n 2, 1), (80, .iload_n 2, 1), (81, .invokevirtual 44, 3), (84, .ireturn, 1), (85, .aload_n 0, 1), (86, .iload_n 1, 1), (87, .iload_n 2, 1), (88, .invokevirtual 47, 3), (91, .ireturn, 1), (92, .aload_n 0, 1), (93, .iload_n 1, 1)]
theorem dlL_any_q0 : dOk cL_any LL_any_q0 = true := by decide +kernel
def LL_any_q1 : List (Nat × Instr × Nat) := [(94, .iload_n 2, 1), (95, .invokevirtual 50, 3), (98, .ireturn, 1), (99, .aload_n 0, 1), (100, .iload_n 1, 1), (101, .invokevirtual 53, 3), (104, .ireturn, 1), (105, .aload_n 0, 1), (106, .iload_n 1, 1), (107, .invokevirtual 56, 3), (110, .ireturn, 1)]
theorem dlL_any_q1 : dOk cL_any LL_any_q1 = true := by decide +kernel
def LL_any : List (Nat × Instr × Nat) := (LL_any_q0 ++ LL_any_q1)
theorem dlL_any : dOk cL_any LL_any = true := (dOk.app dlL_any_q0 dlL_any_q1)
def ML_any : xM := (RL, yL_any, cL_any, 3, (some .int), 7, 162, LL_any)
theorem okL_any : xOk ML_any 3 := ⟨tW 638 (by decide +kernel) rfl, wi_RL, by decide +kernel, ⟨by decide +kernel, by decide +kernel, by decide +kernel⟩, rfl, dOk.all dlL_any⟩
theorem viL_any : Cond.static yL_any ∈ gW := tW 637 (by decide +kernel) rfl
def LL_turn_q0 : List (Nat × Instr × Nat) := [(0, .iload_n 2, 1), (1, .aload_n 0, 1), (2, .iconst 5, 1), (3, .invokevirtual 13, 3), (6, .iconst 1, 1), (7, .iadd, 1), (8, .invokestatic 59, 3), (11, .istore 4, 2), (13, .aload_n 0, 1), (14, .iload 4, 2), (16, .bipush 6, 2), (18, .invokevirtual 26, 3), (21, .istore 5, 2), (23, .iload_n 3, 1), (24, .bipush 8, 2), (26, .invokestatic 59, 3), (29, .istore 6, 2), (31, .iload_n 1, 1), (32, .tableswitch 374 0 14 #[76, 76, 146, 146, 190, 214, 214, 244, 244, 274, 305, 322, 331, 340, 347], 76), (108, .aload_n 0, 1), (109, .iload 6, 2), (111, .aload_n 0, 1), (112, .iload 6, 2), (114, .iconst 2, 1), (115, .invokevirtual 19, 3), (118, .ifCond .ge 12, 3), (121, .iload_n 2, 1), (122, .bipush 6, 2), (124, .invokestatic 59, 3), (127, .goto 10, 3), (130, .aload_n 0, 1), (131, .iload 6, 2), (133, .iconst 2, 1), (134, .invokevirtual 19, 3), (137, .iload_n 3, 1), (138, .iconst 3, 1), (139, .ishr, 1), (140, .bipush 6, 2), (142, .invokestatic 59, 3), (145, .iconst 1, 1)]
theorem dlL_turn_q0 : dOk cL_turn LL_turn_q0 = true := by decide +kernel
def LL_turn_q1 : List (Nat × Instr × Nat) := [(146, .iload_n 3, 1), (147, .bipush 6, 2), (149, .ishr, 1), (150, .iconst 4, 1), (151, .invokestatic 59, 3), (154, .iadd, 1), (155, .iconst 1, 1), (156, .iload_n 3, 1), (157, .bipush 8, 2), (159, .ishr, 1), (160, .iconst 5, 1), (161, .invokestatic 59, 3), (164, .iadd, 1), (165, .iload_n 3, 1), (166, .bipush 11, 2), (168, .ishr, 1), (169, .bipush 30, 2), (171, .invokestatic 59, 3), (174, .invokevirtual 32, 3), (177, .ireturn, 1), (178, .aload_n 0, 1), (179, .iload 6, 2), (181, .iload_n 3, 1), (182, .iconst 3, 1), (183, .ishr, 1), (184, .bipush 8, 2), (186, .invokestatic 59, 3), (189, .iload_n 3, 1), (190, .bipush 6, 2), (192, .ishr, 1), (193, .bipush 6, 2), (195, .invokestatic 59, 3), (198, .iconst 1, 1), (199, .iload_n 3, 1), (200, .bipush 9, 2), (202, .ishr, 1), (203, .sipush 300, 3), (206, .invokestatic 59, 3), (209, .iadd, 1), (210, .iload_n 3, 1)]
theorem dlL_turn_q1 : dOk cL_turn LL_turn_q1 = true := by decide +kernel
def LL_turn_q2 : List (Nat × Instr × Nat) := [(211, .bipush 18, 2), (213, .ishr, 1), (214, .iconst 4, 1), (215, .invokestatic 59, 3), (218, .invokevirtual 36, 3), (221, .ireturn, 1), (222, .aload_n 0, 1), (223, .iconst 1, 1), (224, .iload_n 3, 1), (225, .iload_n 2, 1), (226, .bipush 7, 2), (228, .iand, 1), (229, .ifCond .ne 8, 3), (232, .bipush 12, 2), (234, .goto 4, 3), (237, .iconst 2, 1), (238, .invokestatic 59, 3), (241, .iadd, 1), (242, .invokevirtual 53, 3), (245, .ireturn, 1), (246, .aload_n 0, 1), (247, .iload 5, 2), (249, .iload 4, 2), (251, .iload_n 2, 1), (252, .sipush 512, 3), (255, .iand, 1), (256, .ifCond .ne 8, 3), (259, .iload 6, 2), (261, .goto 11, 3), (264, .aload_n 0, 1), (265, .iload 4, 2), (267, .bipush 9, 2), (269, .invokevirtual 26, 3), (272, .invokevirtual 40, 3), (275, .ireturn, 1), (276, .aload_n 0, 1), (277, .iload_n 2, 1), (278, .sipush 512, 3), (281, .iand, 1), (282, .ifCond .ne 8, 3)]
theorem dlL_turn_q2 : dOk cL_turn LL_turn_q2 = true := by decide +kernel
def LL_turn_q3 : List (Nat × Instr × Nat) := [(285, .iload 6, 2), (287, .goto 11, 3), (290, .aload_n 0, 1), (291, .iload 4, 2), (293, .bipush 8, 2), (295, .invokevirtual 26, 3), (298, .iload 4, 2), (300, .iload 5, 2), (302, .invokevirtual 44, 3), (305, .ireturn, 1), (306, .aload_n 0, 1), (307, .iload 5, 2), (309, .iload 4, 2), (311, .iload 5, 2), (313, .bipush 8, 2), (315, .irem, 1), (316, .iconst 2, 1), (317, .if_icmp .ge 14, 3), (320, .iload 5, 2), (322, .bipush 6, 2), (324, .iadd, 1), (325, .bipush 8, 2), (327, .irem, 1), (328, .goto 5, 3), (331, .iload 6, 2), (333, .invokevirtual 40, 3), (336, .ireturn, 1), (337, .aload_n 0, 1), (338, .iload 5, 2), (340, .bipush 6, 2), (342, .iadd, 1), (343, .bipush 8, 2), (345, .irem, 1), (346, .iload 4, 2), (348, .iload 5, 2), (350, .invokevirtual 44, 3), (353, .ireturn, 1), (354, .aload_n 0, 1), (355, .iload 5, 2), (357, .iload 4, 2)]
theorem dlL_turn_q3 : dOk cL_turn LL_turn_q3 = true := by decide +kernel
def LL_turn_q4 : List (Nat × Instr × Nat) := [(359, .invokevirtual 47, 3), (362, .ireturn, 1), (363, .aload_n 0, 1), (364, .iload 6, 2), (366, .iload 4, 2), (368, .invokevirtual 50, 3), (371, .ireturn, 1), (372, .aload_n 0, 1), (373, .iload 4, 2), (375, .invokevirtual 56, 3), (378, .ireturn, 1), (379, .iload_n 2, 1), (380, .iconst 1, 1), (381, .iand, 1), (382, .ifCond .ne 16, 3), (385, .aload_n 0, 1), (386, .iload_n 3, 1), (387, .bipush 8, 2), (389, .invokestatic 59, 3), (392, .invokevirtual 64, 3), (395, .goto 10, 3), (398, .aload_n 0, 1), (399, .iload_n 3, 1), (400, .iconst 1, 1), (401, .iand, 1), (402, .invokevirtual 67, 3), (405, .ireturn, 1), (406, .aload_n 0, 1), (407, .iload_n 2, 1), (408, .iload_n 3, 1), (409, .invokestatic 70, 3), (412, .ireturn, 1)]
theorem dlL_turn_q4 : dOk cL_turn LL_turn_q4 = true := by decide +kernel
def LL_turn : List (Nat × Instr × Nat) := (LL_turn_q0 ++ (LL_turn_q1 ++ (LL_turn_q2 ++ (LL_turn_q3 ++ LL_turn_q4))))
theorem dlL_turn : dOk cL_turn LL_turn = true := (dOk.app dlL_turn_q0 (dOk.app dlL_turn_q1 (dOk.app dlL_turn_q2 (dOk.app dlL_turn_q3 dlL_turn_q4))))
def ML_turn : xM := (RL, yL_turn, cL_turn, 7, (some .int), 8, 184, LL_turn)
theorem okL_turn : xOk ML_turn 4 := ⟨tW 378 (by decide +kernel) rfl, wi_RL, by decide +kernel, ⟨by decide +kernel, by decide +kernel, by decide +kernel⟩, rfl, dOk.all dlL_turn⟩
theorem viL_turn : Cond.static yL_turn ∈ gW := tW 377 (by decide +kernel) rfl
def LL_arePersons_q0 : List (Nat × Instr × Nat) := [(0, .iconst 0, 1), (1, .istore_n 1, 1), (2, .iconst 0, 1), (3, .istore_n 2, 1), (4, .aload_n 0, 1), (5, .bipush 9, 2), (7, .invokevirtual 13, 3), (10, .ifCond .lt 7, 3), (13, .iconst 1, 1), (14, .goto 4, 3), (17, .iconst 0, 1), (18, .istore_n 3, 1), (19, .iconst 0, 1), (20, .istore 4, 2), (22, .iload 4, 2), (24, .bipush 8, 2), (26, .if_icmp .ge 215, 3), (29, .iload_n 3, 1), (30, .ifCond .eq 211, 3), (33, .iconst 0, 1), (34, .istore 5, 2), (36, .iconst 0, 1), (37, .istore 6, 2), (39, .iload 6, 2), (41, .aload_n 0, 1), (42, .iconst 5, 1), (43, .invokevirtual 13, 3), (46, .if_icmp .ge 42, 3), (49, .iload 5, 2), (51, .aload_n 0, 1), (52, .iload 6, 2), (54, .iconst 5, 1), (55, .invokevirtual 26, 3), (58, .ifCond .ne 20, 3), (61, .aload_n 0, 1), (62, .iload 6, 2), (64, .bipush 6, 2), (66, .invokevirtual 26, 3), (69, .iload 4, 2), (71, .if_icmp .ne 7, 3)]
theorem dlL_arePersons_q0 : dOk cL_arePersons LL_arePersons_q0 = true := by decide +kernel
def LL_arePersons_q1 : List (Nat × Instr × Nat) := [(74, .iconst 1, 1), (75, .goto 4, 3), (78, .iconst 0, 1), (79, .iadd, 1), (80, .istore 5, 2), (82, .iinc 6 1, 3), (85, .goto (-46), 3), (88, .aload_n 0, 1), (89, .iload 4, 2), (91, .iconst 3, 1), (92, .invokevirtual 19, 3), (95, .istore 6, 2), (97, .aload_n 0, 1), (98, .iload 4, 2), (100, .iconst 0, 1), (101, .invokevirtual 19, 3), (104, .ifCond .lt 35, 3), (107, .aload_n 0, 1), (108, .iload 4, 2), (110, .iconst 1, 1), (111, .invokevirtual 19, 3), (114, .ifCond .lt 25, 3), (117, .iload 5, 2), (119, .aload_n 0, 1), (120, .iload 4, 2), (122, .iconst 4, 1), (123, .invokevirtual 19, 3), (126, .if_icmp .ne 13, 3), (129, .iload 5, 2), (131, .iconst 3, 1), (132, .if_icmp .gt 7, 3), (135, .iconst 1, 1), (136, .goto 4, 3), (139, .iconst 0, 1), (140, .istore_n 3, 1), (141, .iload_n 3, 1), (142, .ifCond .eq 63, 3), (145, .iload 6, 2), (147, .bipush (-9), 2), (149, .if_icmp .ne 16, 3)]
theorem dlL_arePersons_q1 : dOk cL_arePersons LL_arePersons_q1 = true := by decide +kernel
def LL_arePersons_q2 : List (Nat × Instr × Nat) := [(152, .aload_n 0, 1), (153, .iload 4, 2), (155, .iconst 2, 1), (156, .invokevirtual 19, 3), (159, .ifCond .lt 46, 3), (162, .goto 39, 3), (165, .aload_n 0, 1), (166, .iload 4, 2), (168, .iconst 2, 1), (169, .invokevirtual 19, 3), (172, .bipush (-9), 2), (174, .if_icmp .ne 31, 3), (177, .aload_n 0, 1), (178, .iload 6, 2), (180, .bipush 6, 2), (182, .invokevirtual 23, 3), (185, .iconst 1, 1), (186, .if_icmp .ne 19, 3), (189, .aload_n 0, 1), (190, .iload 6, 2), (192, .iconst 0, 1), (193, .invokevirtual 23, 3), (196, .iload 4, 2), (198, .if_icmp .ne 7, 3), (201, .iconst 1, 1), (202, .goto 4, 3), (205, .iconst 0, 1), (206, .istore_n 3, 1), (207, .iload_n 1, 1), (208, .aload_n 0, 1), (209, .iload 4, 2), (211, .iconst 0, 1), (212, .invokevirtual 19, 3), (215, .aload_n 0, 1), (216, .iload 4, 2), (218, .iconst 1, 1), (219, .invokevirtual 19, 3), (222, .iadd, 1), (223, .iadd, 1), (224, .istore_n 1, 1)]
theorem dlL_arePersons_q2 : dOk cL_arePersons LL_arePersons_q2 = true := by decide +kernel
def LL_arePersons_q3 : List (Nat × Instr × Nat) := [(225, .iload_n 2, 1), (226, .aload_n 0, 1), (227, .iload 4, 2), (229, .iconst 5, 1), (230, .invokevirtual 19, 3), (233, .iadd, 1), (234, .istore_n 2, 1), (235, .iinc 4 1, 3), (238, .goto (-216), 3), (241, .iload_n 3, 1), (242, .ifCond .eq 41, 3), (245, .iload_n 1, 1), (246, .aload_n 0, 1), (247, .bipush 10, 2), (249, .invokevirtual 13, 3), (252, .if_icmp .ne 31, 3), (255, .iload_n 1, 1), (256, .aload_n 0, 1), (257, .bipush 9, 2), (259, .invokevirtual 13, 3), (262, .iadd, 1), (263, .sipush 1120, 3), (266, .if_icmp .ne 17, 3), (269, .iload_n 2, 1), (270, .aload_n 0, 1), (271, .bipush 12, 2), (273, .invokevirtual 13, 3), (276, .if_icmp .ne 7, 3), (279, .iconst 1, 1), (280, .goto 4, 3), (283, .iconst 0, 1), (284, .ireturn, 1)]
theorem dlL_arePersons_q3 : dOk cL_arePersons LL_arePersons_q3 = true := by decide +kernel
def LL_arePersons : List (Nat × Instr × Nat) := (LL_arePersons_q0 ++ (LL_arePersons_q1 ++ (LL_arePersons_q2 ++ LL_arePersons_q3)))
theorem dlL_arePersons : dOk cL_arePersons LL_arePersons = true := (dOk.app dlL_arePersons_q0 (dOk.app dlL_arePersons_q1 (dOk.app dlL_arePersons_q2 dlL_arePersons_q3)))
def ML_arePersons : xM := (RL, yL_arePersons, cL_arePersons, 7, (some .boolean), 3, 68, LL_arePersons)
theorem okL_arePersons : xOk ML_arePersons 1 := ⟨tW 641 (by decide +kernel) rfl, wi_RL, by decide +kernel, ⟨by decide +kernel, by decide +kernel, by decide +kernel⟩, rfl, dOk.all dlL_arePersons⟩
theorem viL_arePersons : Cond.static yL_arePersons ∈ gW := tW 640 (by decide +kernel) rfl
def LL_areParcels_q0 : List (Nat × Instr × Nat) := [(0, .aload_n 0, 1), (1, .bipush 6, 2), (3, .invokevirtual 13, 3), (6, .aload_n 0, 1), (7, .bipush 7, 2), (9, .invokevirtual 13, 3), (12, .iadd, 1), (13, .aload_n 0, 1), (14, .bipush 8, 2), (16, .invokevirtual 13, 3), (19, .iadd, 1), (20, .aload_n 0, 1), (21, .iconst 5, 1), (22, .invokevirtual 13, 3), (25, .if_icmp .ne 7, 3), (28, .iconst 1, 1), (29, .goto 4, 3), (32, .iconst 0, 1), (33, .istore_n 1, 1), (34, .aload_n 0, 1), (35, .iconst 0, 1), (36, .invokevirtual 13, 3), (39, .istore_n 2, 1), (40, .iconst 0, 1), (41, .istore_n 3, 1), (42, .iload_n 3, 1), (43, .aload_n 0, 1), (44, .iconst 5, 1), (45, .invokevirtual 13, 3), (48, .if_icmp .ge 176, 3), (51, .iload_n 1, 1), (52, .ifCond .eq 172, 3), (55, .aload_n 0, 1), (56, .iload_n 3, 1), (57, .bipush 6, 2), (59, .invokevirtual 26, 3), (62, .istore 4, 2), (64, .aload_n 0, 1), (65, .iload_n 3, 1), (66, .iconst 5, 1)]
theorem dlL_areParcels_q0 : dOk cL_areParcels LL_areParcels_q0 = true := by decide +kernel
def LL_areParcels_q1 : List (Nat × Instr × Nat) := [(67, .invokevirtual 26, 3), (70, .istore 5, 2), (72, .aload_n 0, 1), (73, .iload_n 3, 1), (74, .iload_n 2, 1), (75, .invokevirtual 29, 3), (78, .iload 4, 2), (80, .if_icmp .ne 41, 3), (83, .iload 5, 2), (85, .iconst 1, 1), (86, .if_icmp .ne 14, 3), (89, .iload 4, 2), (91, .aload_n 0, 1), (92, .iload_n 3, 1), (93, .iconst 1, 1), (94, .invokevirtual 26, 3), (97, .if_icmp .ne 24, 3), (100, .aload_n 0, 1), (101, .iload_n 3, 1), (102, .aload_n 0, 1), (103, .iload_n 3, 1), (104, .bipush 7, 2), (106, .invokevirtual 26, 3), (109, .invokevirtual 29, 3), (112, .iload 4, 2), (114, .if_icmp .ne 7, 3), (117, .iconst 1, 1), (118, .goto 4, 3), (121, .iconst 0, 1), (122, .istore_n 1, 1), (123, .iload 4, 2), (125, .bipush 9, 2), (127, .if_icmp .le 11, 3), (130, .iload 4, 2), (132, .bipush 10, 2), (134, .isub, 1), (135, .goto 10, 3), (138, .aload_n 0, 1), (139, .iload 4, 2), (141, .iconst 2, 1)]
theorem dlL_areParcels_q1 : dOk cL_areParcels LL_areParcels_q1 = true := by decide +kernel
def LL_areParcels_q2 : List (Nat × Instr × Nat) := [(142, .invokevirtual 19, 3), (145, .istore 6, 2), (147, .iload_n 1, 1), (148, .ifCond .eq 29, 3), (151, .aload_n 0, 1), (152, .iload_n 3, 1), (153, .bipush 10, 2), (155, .invokevirtual 26, 3), (158, .iload 5, 2), (160, .ifCond .ne 8, 3), (163, .iload 6, 2), (165, .goto 5, 3), (168, .bipush (-9), 2), (170, .if_icmp .ne 7, 3), (173, .iconst 1, 1), (174, .goto 4, 3), (177, .iconst 0, 1), (178, .istore_n 1, 1), (179, .iload_n 1, 1), (180, .ifCond .eq 36, 3), (183, .iload 5, 2), (185, .ifCond .eq 27, 3), (188, .aload_n 0, 1), (189, .iload_n 3, 1), (190, .bipush 8, 2), (192, .invokevirtual 26, 3), (195, .bipush (-9), 2), (197, .if_icmp .ne 19, 3), (200, .aload_n 0, 1), (201, .iload_n 3, 1), (202, .bipush 9, 2), (204, .invokevirtual 26, 3), (207, .bipush (-9), 2), (209, .if_icmp .ne 7, 3), (212, .iconst 1, 1), (213, .goto 4, 3), (216, .iconst 0, 1), (217, .istore_n 1, 1), (218, .iinc 3 1, 3), (221, .goto (-179), 3)]
theorem dlL_areParcels_q2 : dOk cL_areParcels LL_areParcels_q2 = true := by decide +kernel
def LL_areParcels_q3 : List (Nat × Instr × Nat) := [(224, .iconst 0, 1), (225, .istore_n 3, 1), (226, .iconst 0, 1), (227, .istore 4, 2), (229, .iload 4, 2), (231, .bipush 6, 2), (233, .if_icmp .ge 47, 3), (236, .iload_n 1, 1), (237, .ifCond .eq 43, 3), (240, .iload_n 3, 1), (241, .aload_n 0, 1), (242, .iload 4, 2), (244, .invokevirtual 74, 3), (247, .iadd, 1), (248, .istore_n 3, 1), (249, .aload_n 0, 1), (250, .iload 4, 2), (252, .invokevirtual 74, 3), (255, .ifCond .lt 17, 3), (258, .aload_n 0, 1), (259, .iload 4, 2), (261, .invokevirtual 74, 3), (264, .iconst 3, 1), (265, .if_icmp .gt 7, 3), (268, .iconst 1, 1), (269, .goto 4, 3), (272, .iconst 0, 1), (273, .istore_n 1, 1), (274, .iinc 4 1, 3), (277, .goto (-48), 3), (280, .iconst 0, 1), (281, .istore 4, 2), (283, .iconst 0, 1), (284, .istore 5, 2), (286, .iload 5, 2), (288, .bipush 8, 2), (290, .if_icmp .ge 21, 3), (293, .iload 4, 2), (295, .aload_n 0, 1), (296, .iload 5, 2)]
theorem dlL_areParcels_q3 : dOk cL_areParcels LL_areParcels_q3 = true := by decide +kernel
def LL_areParcels_q4 : List (Nat × Instr × Nat) := [(298, .iconst 4, 1), (299, .invokevirtual 19, 3), (302, .iadd, 1), (303, .istore 4, 2), (305, .iinc 5 1, 3), (308, .goto (-22), 3), (311, .iload_n 1, 1), (312, .ifCond .eq 20, 3), (315, .iload_n 3, 1), (316, .iload 4, 2), (318, .iadd, 1), (319, .aload_n 0, 1), (320, .bipush 6, 2), (322, .invokevirtual 13, 3), (325, .if_icmp .ne 7, 3), (328, .iconst 1, 1), (329, .goto 4, 3), (332, .iconst 0, 1), (333, .ireturn, 1)]
theorem dlL_areParcels_q4 : dOk cL_areParcels LL_areParcels_q4 = true := by decide +kernel
def LL_areParcels : List (Nat × Instr × Nat) := (LL_areParcels_q0 ++ (LL_areParcels_q1 ++ (LL_areParcels_q2 ++ (LL_areParcels_q3 ++ LL_areParcels_q4))))
theorem dlL_areParcels : dOk cL_areParcels LL_areParcels = true := (dOk.app dlL_areParcels_q0 (dOk.app dlL_areParcels_q1 (dOk.app dlL_areParcels_q2 (dOk.app dlL_areParcels_q3 dlL_areParcels_q4))))
def ML_areParcels : xM := (RL, yL_areParcels, cL_areParcels, 7, (some .boolean), 3, 68, LL_areParcels)
theorem okL_areParcels : xOk ML_areParcels 1 := ⟨tW 644 (by decide +kernel) rfl, wi_RL, by decide +kernel, ⟨by decide +kernel, by decide +kernel, by decide +kernel⟩, rfl, dOk.all dlL_areParcels⟩
theorem viL_areParcels : Cond.static yL_areParcels ∈ gW := tW 643 (by decide +kernel) rfl
def LL_areTrips_q0 : List (Nat × Instr × Nat) := [(0, .iconst 1, 1), (1, .istore_n 1, 1), (2, .iconst 0, 1), (3, .istore_n 2, 1), (4, .iload_n 2, 1), (5, .aload_n 0, 1), (6, .iconst 1, 1), (7, .invokevirtual 13, 3), (10, .if_icmp .ge 224, 3), (13, .iload_n 1, 1), (14, .ifCond .eq 220, 3), (17, .aload_n 0, 1), (18, .iload_n 2, 1), (19, .iconst 4, 1), (20, .invokevirtual 23, 3), (23, .aload_n 0, 1), (24, .iload_n 2, 1), (25, .iconst 3, 1), (26, .invokevirtual 23, 3), (29, .if_icmp .le 22, 3), (32, .aload_n 0, 1), (33, .iload_n 2, 1), (34, .iconst 1, 1), (35, .invokevirtual 23, 3), (38, .aload_n 0, 1), (39, .iload_n 2, 1), (40, .iconst 2, 1), (41, .invokevirtual 23, 3), (44, .if_icmp .eq 7, 3), (47, .iconst 1, 1), (48, .goto 4, 3), (51, .iconst 0, 1), (52, .istore_n 1, 1), (53, .iload_n 1, 1), (54, .ifCond .eq 70, 3), (57, .aload_n 0, 1), (58, .iload_n 2, 1), (59, .bipush 6, 2), (61, .invokevirtual 23, 3), (64, .ifCond .ne 17, 3)]
theorem dlL_areTrips_q0 : dOk cL_areTrips LL_areTrips_q0 = true := by decide +kernel
def LL_areTrips_q1 : List (Nat × Instr × Nat) := [(67, .aload_n 0, 1), (68, .iload_n 2, 1), (69, .iconst 3, 1), (70, .invokevirtual 23, 3), (73, .aload_n 0, 1), (74, .iconst 0, 1), (75, .invokevirtual 13, 3), (78, .if_icmp .le 46, 3), (81, .aload_n 0, 1), (82, .iload_n 2, 1), (83, .bipush 6, 2), (85, .invokevirtual 23, 3), (88, .iconst 1, 1), (89, .if_icmp .ne 31, 3), (92, .aload_n 0, 1), (93, .iload_n 2, 1), (94, .iconst 3, 1), (95, .invokevirtual 23, 3), (98, .aload_n 0, 1), (99, .iconst 0, 1), (100, .invokevirtual 13, 3), (103, .if_icmp .gt 21, 3), (106, .aload_n 0, 1), (107, .iload_n 2, 1), (108, .iconst 4, 1), (109, .invokevirtual 23, 3), (112, .aload_n 0, 1), (113, .iconst 0, 1), (114, .invokevirtual 13, 3), (117, .if_icmp .le 7, 3), (120, .iconst 1, 1), (121, .goto 4, 3), (124, .iconst 0, 1), (125, .istore_n 1, 1), (126, .iconst 0, 1), (127, .istore_n 3, 1), (128, .iload_n 3, 1), (129, .iload_n 2, 1), (130, .if_icmp .ge 98, 3), (133, .iload_n 1, 1)]
theorem dlL_areTrips_q1 : dOk cL_areTrips LL_areTrips_q1 = true := by decide +kernel
def LL_areTrips_q2 : List (Nat × Instr × Nat) := [(134, .ifCond .eq 94, 3), (137, .aload_n 0, 1), (138, .iload_n 2, 1), (139, .iconst 0, 1), (140, .invokevirtual 23, 3), (143, .aload_n 0, 1), (144, .iload_n 3, 1), (145, .iconst 0, 1), (146, .invokevirtual 23, 3), (149, .if_icmp .ne 29, 3), (152, .aload_n 0, 1), (153, .iload_n 2, 1), (154, .bipush 6, 2), (156, .invokevirtual 23, 3), (159, .iconst 3, 1), (160, .if_icmp .eq 18, 3), (163, .aload_n 0, 1), (164, .iload_n 3, 1), (165, .bipush 6, 2), (167, .invokevirtual 23, 3), (170, .iconst 3, 1), (171, .if_icmp .eq 7, 3), (174, .iconst 1, 1), (175, .goto 4, 3), (178, .iconst 0, 1), (179, .istore 4, 2), (181, .iload 4, 2), (183, .ifCond .eq 33, 3), (186, .aload_n 0, 1), (187, .iload_n 2, 1), (188, .iconst 3, 1), (189, .invokevirtual 23, 3), (192, .aload_n 0, 1), (193, .iload_n 3, 1), (194, .iconst 4, 1), (195, .invokevirtual 23, 3), (198, .if_icmp .ge 18, 3), (201, .aload_n 0, 1), (202, .iload_n 3, 1), (203, .iconst 3, 1)]
theorem dlL_areTrips_q2 : dOk cL_areTrips LL_areTrips_q2 = true := by decide +kernel
def LL_areTrips_q3 : List (Nat × Instr × Nat) := [(204, .invokevirtual 23, 3), (207, .aload_n 0, 1), (208, .iload_n 2, 1), (209, .iconst 4, 1), (210, .invokevirtual 23, 3), (213, .if_icmp .lt 7, 3), (216, .iconst 1, 1), (217, .goto 4, 3), (220, .iconst 0, 1), (221, .istore_n 1, 1), (222, .iinc 3 1, 3), (225, .goto (-97), 3), (228, .iinc 2 1, 3), (231, .goto (-227), 3), (234, .iload_n 1, 1), (235, .ireturn, 1)]
theorem dlL_areTrips_q3 : dOk cL_areTrips LL_areTrips_q3 = true := by decide +kernel
def LL_areTrips : List (Nat × Instr × Nat) := (LL_areTrips_q0 ++ (LL_areTrips_q1 ++ (LL_areTrips_q2 ++ LL_areTrips_q3)))
theorem dlL_areTrips : dOk cL_areTrips LL_areTrips = true := (dOk.app dlL_areTrips_q0 (dOk.app dlL_areTrips_q1 (dOk.app dlL_areTrips_q2 dlL_areTrips_q3)))
def ML_areTrips : xM := (RL, yL_areTrips, cL_areTrips, 5, (some .boolean), 3, 65, LL_areTrips)
theorem okL_areTrips : xOk ML_areTrips 1 := ⟨tW 653 (by decide +kernel) rfl, wi_RL, by decide +kernel, ⟨by decide +kernel, by decide +kernel, by decide +kernel⟩, rfl, dOk.all dlL_areTrips⟩
theorem viL_areTrips : Cond.static yL_areTrips ∈ gW := tW 652 (by decide +kernel) rfl
def LL_isHandover : List (Nat × Instr × Nat) := [(0, .iload_n 0, 1), (1, .iconst 4, 1), (2, .if_icmp .le 9, 3), (5, .iload_n 0, 1), (6, .bipush 13, 2), (8, .if_icmp .lt 26, 3), (11, .iload_n 0, 1), (12, .bipush 15, 2), (14, .if_icmp .ne 24, 3), (17, .iload_n 1, 1), (18, .bipush 7, 2), (20, .iand, 1), (21, .iconst 1, 1), (22, .if_icmp .le 16, 3), (25, .iload_n 1, 1), (26, .bipush 7, 2), (28, .iand, 1), (29, .bipush 6, 2), (31, .if_icmp .ge 7, 3), (34, .iconst 1, 1), (35, .goto 4, 3), (38, .iconst 0, 1), (39, .ireturn, 1)]
theorem dlL_isHandover : dOk cL_isHandover LL_isHandover = true := by decide +kernel
def ML_isHandover : xM := (RL, yL_isHandover, cL_isHandover, 2, (some .boolean), 0, 0, LL_isHandover)
theorem okL_isHandover : xOk ML_isHandover 2 := ⟨tW 656 (by decide +kernel) rfl, wi_RL, by decide +kernel, ⟨by decide +kernel, by decide +kernel, by decide +kernel⟩, rfl, dOk.all dlL_isHandover⟩
theorem viL_isHandover : Cond.static yL_isHandover ∈ gW := tW 655 (by decide +kernel) rfl
def LL_holders : List (Nat × Instr × Nat) := [(0, .ldc2_w 9, 3), (3, .lstore_n 2, 1), (4, .iconst 0, 1), (5, .istore 4, 2), (7, .iload 4, 2), (9, .iload_n 1, 1), (10, .if_icmp .ge 25, 3), (13, .ldc2_w 11, 3), (16, .lload_n 2, 1), (17, .lmul, 1), (18, .aload_n 0, 1), (19, .iload 4, 2), (21, .bipush 6, 2), (23, .invokevirtual 26, 3), (26, .i2l, 1), (27, .ladd, 1), (28, .lstore_n 2, 1), (29, .iinc 4 1, 3), (32, .goto (-25), 3), (35, .lload_n 2, 1), (36, .lreturn, 1)]
theorem dlL_holders : dOk cL_holders LL_holders = true := by decide +kernel
def ML_holders : xM := (RL, yL_holders, cL_holders, 5, (some .long), 3, 66, LL_holders)
theorem okL_holders : xOk ML_holders 2 := ⟨tW 659 (by decide +kernel) rfl, wi_RL, by decide +kernel, ⟨by decide +kernel, by decide +kernel, by decide +kernel⟩, rfl, dOk.all dlL_holders⟩
theorem viL_holders : Cond.static yL_holders ∈ gW := tW 658 (by decide +kernel) rfl
def LL_isUndone : List (Nat × Instr × Nat) := [(0, .aload_n 0, 1), (1, .bipush 14, 2), (3, .invokevirtual 13, 3), (6, .istore 7, 2), (8, .aload_n 0, 1), (9, .invokevirtual 77, 3), (12, .iload 7, 2), (14, .iconst 1, 1), (15, .isub, 1), (16, .if_icmp .ne 53, 3), (19, .aload_n 0, 1), (20, .bipush 14, 2), (22, .invokevirtual 13, 3), (25, .iload 7, 2), (27, .iconst 1, 1), (28, .isub, 1), (29, .if_icmp .ne 40, 3), (32, .aload_n 0, 1), (33, .invokestatic 81, 3), (36, .lload 5, 2), (38, .lcmp, 1), (39, .ifCond .ne 30, 3), (42, .aload_n 0, 1), (43, .iload_n 1, 1), (44, .iload_n 2, 1), (45, .iload_n 3, 1), (46, .invokestatic 85, 3), (49, .iload 4, 2), (51, .if_icmp .ne 18, 3), (54, .aload_n 0, 1), (55, .bipush 14, 2), (57, .invokevirtual 13, 3), (60, .iload 7, 2), (62, .if_icmp .ne 7, 3), (65, .iconst 1, 1), (66, .goto 4, 3), (69, .iconst 0, 1), (70, .ireturn, 1)]
theorem dlL_isUndone : dOk cL_isUndone LL_isUndone = true := by decide +kernel
def ML_isUndone : xM := (RL, yL_isUndone, cL_isUndone, 8, (some .boolean), 9, 210, LL_isUndone)
theorem okL_isUndone : xOk ML_isUndone 6 := ⟨tW 662 (by decide +kernel) rfl, wi_RL, by decide +kernel, ⟨by decide +kernel, by decide +kernel, by decide +kernel⟩, rfl, dOk.all dlL_isUndone⟩
theorem viL_isUndone : Cond.static yL_isUndone ∈ gW := tW 661 (by decide +kernel) rfl
def LL_isTaken : List (Nat × Instr × Nat) := [(0, .aload_n 0, 1), (1, .invokestatic 81, 3), (4, .lstore_n 3, 1), (5, .aload_n 0, 1), (6, .iload_n 1, 1), (7, .iconst 1, 1), (8, .iand, 1), (9, .invokevirtual 89, 3), (12, .aload_n 0, 1), (13, .iconst 0, 1), (14, .invokevirtual 13, 3), (17, .if_icmp .eq 5, 3), (20, .iconst 0, 1), (21, .ireturn, 1), (22, .aload_n 0, 1), (23, .iload_n 2, 1), (24, .bipush 14, 2), (26, .invokestatic 59, 3), (29, .iload_n 2, 1), (30, .iload_n 1, 1), (31, .invokestatic 85, 3), (34, .pop, 1), (35, .aload_n 0, 1), (36, .iload_n 1, 1), (37, .iconst 1, 1), (38, .iand, 1), (39, .invokevirtual 67, 3), (42, .aload_n 0, 1), (43, .iconst 0, 1), (44, .invokevirtual 13, 3), (47, .if_icmp .ne 16, 3), (50, .aload_n 0, 1), (51, .invokestatic 81, 3), (54, .lload_n 3, 1), (55, .lcmp, 1), (56, .ifCond .ne 7, 3), (59, .iconst 1, 1), (60, .goto 4, 3), (63, .iconst 0, 1), (64, .ireturn, 1)]
theorem dlL_isTaken : dOk cL_isTaken LL_isTaken = true := by decide +kernel
def ML_isTaken : xM := (RL, yL_isTaken, cL_isTaken, 5, (some .boolean), 9, 210, LL_isTaken)
theorem okL_isTaken : xOk ML_isTaken 3 := ⟨tW 674 (by decide +kernel) rfl, wi_RL, by decide +kernel, ⟨by decide +kernel, by decide +kernel, by decide +kernel⟩, rfl, dOk.all dlL_isTaken⟩
theorem viL_isTaken : Cond.static yL_isTaken ∈ gW := tW 673 (by decide +kernel) rfl
theorem mlRL_92 : Cond.methodLink RL 92 yX9_init ∈ gW := tW 15 (by decide +kernel) rfl
theorem mlRX9_1 : Cond.methodLink RX9 1 Lib.objectInit ∈ gW := tW 18 (by decide +kernel) rfl
theorem mlRX4_3 : Cond.methodLink RX4 3 Lib.objectInit ∈ gW := tW 26 (by decide +kernel) rfl
theorem mlRX4_11 : Cond.methodLink RX4 11 yX8_init ∈ gW := tW 29 (by decide +kernel) rfl
theorem mlRX8_3 : Cond.methodLink RX8 3 Lib.objectInit ∈ gW := tW 32 (by decide +kernel) rfl
theorem mlRX1_3 : Cond.methodLink RX1 3 Lib.objectInit ∈ gW := tW 44 (by decide +kernel) rfl
theorem mlRX8_36 : Cond.methodLink RX8 36 yX3_init ∈ gW := tW 54 (by decide +kernel) rfl
theorem mlRX3_3 : Cond.methodLink RX3 3 Lib.objectInit ∈ gW := tW 57 (by decide +kernel) rfl
theorem mlRX6_3 : Cond.methodLink RX6 3 Lib.objectInit ∈ gW := tW 83 (by decide +kernel) rfl
theorem mlRX2_3 : Cond.methodLink RX2 3 Lib.objectInit ∈ gW := tW 117 (by decide +kernel) rfl
theorem mlRX0_3 : Cond.methodLink RX0 3 Lib.objectInit ∈ gW := tW 211 (by decide +kernel) rfl
theorem mlRX5_3 : Cond.methodLink RX5 3 Lib.objectInit ∈ gW := tW 230 (by decide +kernel) rfl
theorem mlRX9_37 : Cond.methodLink RX9 37 yX7_init ∈ gW := tW 241 (by decide +kernel) rfl
theorem mlRX7_3 : Cond.methodLink RX7 3 Lib.objectInit ∈ gW := tW 244 (by decide +kernel) rfl
theorem mlRL_13 : Cond.methodLink RL 13 yX9_count ∈ gW := tW 289 (by decide +kernel) rfl
theorem mlRX9_106 : Cond.methodLink RX9 106 yX9_isWithin ∈ gW := tW 293 (by decide +kernel) rfl
theorem mlRX9_152 : Cond.methodLink RX9 152 yX4_filledSlots ∈ gW := tW 296 (by decide +kernel) rfl
theorem mlRX9_155 : Cond.methodLink RX9 155 yX8_number ∈ gW := tW 300 (by decide +kernel) rfl
theorem mlRX8_245 : Cond.methodLink RX8 245 yX8_tripsThatAre ∈ gW := tW 304 (by decide +kernel) rfl
theorem mlRX8_248 : Cond.methodLink RX8 248 yX8_parcelsThatAre ∈ gW := tW 308 (by decide +kernel) rfl
theorem mlRX8_251 : Cond.methodLink RX8 251 yX8_coinsOfAll ∈ gW := tW 312 (by decide +kernel) rfl
theorem mlRL_93 : Cond.methodLink RL 93 yL_cell ∈ gW := tW 316 (by decide +kernel) rfl
theorem mlRL_81 : Cond.methodLink RL 81 yL_view ∈ gW := tW 320 (by decide +kernel) rfl
theorem mlRL_19 : Cond.methodLink RL 19 yX9_person ∈ gW := tW 325 (by decide +kernel) rfl
theorem mlRX9_170 : Cond.methodLink RX9 170 yX9_isPerson ∈ gW := tW 329 (by decide +kernel) rfl
theorem mlRX9_173 : Cond.methodLink RX9 173 yX8_tellPerson ∈ gW := tW 332 (by decide +kernel) rfl
theorem mlRX8_150 : Cond.methodLink RX8 150 yX8_heldBy ∈ gW := tW 336 (by decide +kernel) rfl
theorem mlRL_23 : Cond.methodLink RL 23 yX9_trip ∈ gW := tW 340 (by decide +kernel) rfl
theorem mlRX9_158 : Cond.methodLink RX9 158 yX8_isTrip ∈ gW := tW 344 (by decide +kernel) rfl
theorem mlRX9_165 : Cond.methodLink RX9 165 yX6_tell ∈ gW := tW 348 (by decide +kernel) rfl
theorem mlRL_26 : Cond.methodLink RL 26 yX9_parcel ∈ gW := tW 352 (by decide +kernel) rfl
theorem mlRX9_176 : Cond.methodLink RX9 176 yX8_isParcel ∈ gW := tW 356 (by decide +kernel) rfl
theorem mlRX9_179 : Cond.methodLink RX9 179 yX8_tellParcel ∈ gW := tW 360 (by decide +kernel) rfl
theorem mlRX8_85 : Cond.methodLink RX8 85 yX8_townOf ∈ gW := tW 364 (by decide +kernel) rfl
theorem mlRL_29 : Cond.methodLink RL 29 yX9_holderAt ∈ gW := tW 368 (by decide +kernel) rfl
theorem mlRX9_186 : Cond.methodLink RX9 186 yX1_lookUp ∈ gW := tW 372 (by decide +kernel) rfl
theorem mlRL_85 : Cond.methodLink RL 85 yL_turn ∈ gW := tW 376 (by decide +kernel) rfl
theorem mlRL_59 : Cond.methodLink RL 59 yL_up ∈ gW := tW 379 (by decide +kernel) rfl
theorem mlRL_32 : Cond.methodLink RL 32 yX9_offer ∈ gW := tW 383 (by decide +kernel) rfl
theorem mlRX9_44 : Cond.methodLink RX9 44 yX8_offerFault ∈ gW := tW 387 (by decide +kernel) rfl
theorem mlRX8_100 : Cond.methodLink RX8 100 yX8_overlapsATrip ∈ gW := tW 396 (by decide +kernel) rfl
theorem mlRX8_106 : Cond.methodLink RX8 106 yX6_isOpen ∈ gW := tW 400 (by decide +kernel) rfl
theorem mlRX8_110 : Cond.methodLink RX8 110 yX6_overlaps ∈ gW := tW 404 (by decide +kernel) rfl
theorem mlRX9_50 : Cond.methodLink RX9 50 yX0_keep ∈ gW := tW 408 (by decide +kernel) rfl
theorem mlRX0_22 : Cond.methodLink RX0 22 yX4_copyFrom ∈ gW := tW 413 (by decide +kernel) rfl
theorem mlRX4_26 : Cond.methodLink RX4 26 yX8_copyFrom ∈ gW := tW 417 (by decide +kernel) rfl
theorem mlRX8_60 : Cond.methodLink RX8 60 yX3_copyFrom ∈ gW := tW 421 (by decide +kernel) rfl
theorem mlRX8_64 : Cond.methodLink RX8 64 yX6_copyFrom ∈ gW := tW 425 (by decide +kernel) rfl
theorem mlRX8_67 : Cond.methodLink RX8 67 yX2_copyFrom ∈ gW := tW 429 (by decide +kernel) rfl
theorem mlRX8_70 : Cond.methodLink RX8 70 yX1_copyFrom ∈ gW := tW 433 (by decide +kernel) rfl
theorem mlRX1_19 : Cond.methodLink RX1 19 arraycopyName ∈ gW := tW 437 (by decide +kernel) rfl
theorem mlRX4_30 : Cond.methodLink RX4 30 yX4_snapshotIn ∈ gW := tW 440 (by decide +kernel) rfl
theorem mlRX4_34 : Cond.methodLink RX4 34 yX4_fillSlot ∈ gW := tW 444 (by decide +kernel) rfl
theorem mlRX0_29 : Cond.methodLink RX0 29 Lib.Math.min.name ∈ gW := tW 448 (by decide +kernel) rfl
theorem mlRX9_54 : Cond.methodLink RX9 54 yX8_addTrip ∈ gW := tW 451 (by decide +kernel) rfl
theorem mlRL_36 : Cond.methodLink RL 36 yX9_post ∈ gW := tW 455 (by decide +kernel) rfl
theorem mlRX9_64 : Cond.methodLink RX9 64 yX8_postFault ∈ gW := tW 459 (by decide +kernel) rfl
theorem mlRX9_68 : Cond.methodLink RX9 68 yX8_addParcel ∈ gW := tW 465 (by decide +kernel) rfl
theorem mlRX8_168 : Cond.methodLink RX8 168 yX8_setHolder ∈ gW := tW 469 (by decide +kernel) rfl
theorem mlRX8_175 : Cond.methodLink RX8 175 yX2_dropWords ∈ gW := tW 473 (by decide +kernel) rfl
theorem mlRX8_178 : Cond.methodLink RX8 178 yX1_note ∈ gW := tW 477 (by decide +kernel) rfl
theorem mlRL_53 : Cond.methodLink RL 53 yX9_pass ∈ gW := tW 481 (by decide +kernel) rfl
theorem mlRX9_71 : Cond.methodLink RX9 71 yX8_passFault ∈ gW := tW 485 (by decide +kernel) rfl
theorem mlRX9_74 : Cond.methodLink RX9 74 yX8_passHours ∈ gW := tW 489 (by decide +kernel) rfl
theorem mlRX8_133 : Cond.methodLink RX8 133 yX8_endTrips ∈ gW := tW 493 (by decide +kernel) rfl
theorem mlRX8_137 : Cond.methodLink RX8 137 yX8_startTrips ∈ gW := tW 497 (by decide +kernel) rfl
theorem mlRX8_140 : Cond.methodLink RX8 140 yX8_startTrip ∈ gW := tW 501 (by decide +kernel) rfl
theorem mlRL_40 : Cond.methodLink RL 40 yX9_gave ∈ gW := tW 505 (by decide +kernel) rfl
theorem mlRX9_77 : Cond.methodLink RX9 77 yX8_handoverFault ∈ gW := tW 509 (by decide +kernel) rfl
theorem mlRX8_182 : Cond.methodLink RX8 182 yX8_isParcel ∈ gW := tW 513 (by decide +kernel) rfl
theorem mlRX8_185 : Cond.methodLink RX8 185 yX8_isHeldUnderWay ∈ gW := tW 514 (by decide +kernel) rfl
theorem mlRX8_188 : Cond.methodLink RX8 188 yX8_areTogether ∈ gW := tW 518 (by decide +kernel) rfl
theorem mlRX9_81 : Cond.methodLink RX9 81 yX8_sayGiven ∈ gW := tW 522 (by decide +kernel) rfl
theorem mlRX8_194 : Cond.methodLink RX8 194 yX8_handOverIfWordsFit ∈ gW := tW 526 (by decide +kernel) rfl
theorem mlRX8_201 : Cond.methodLink RX8 201 yX2_wordsFit ∈ gW := tW 530 (by decide +kernel) rfl
theorem mlRX8_204 : Cond.methodLink RX8 204 yX8_handOver ∈ gW := tW 534 (by decide +kernel) rfl
theorem mlRX8_207 : Cond.methodLink RX8 207 yX8_settleWithTaker ∈ gW := tW 538 (by decide +kernel) rfl
theorem mlRX8_210 : Cond.methodLink RX8 210 yX8_payFee ∈ gW := tW 542 (by decide +kernel) rfl
theorem mlRX8_213 : Cond.methodLink RX8 213 yX8_nextTripOf ∈ gW := tW 546 (by decide +kernel) rfl
theorem mlRX8_216 : Cond.methodLink RX8 216 Lib.Math.min.name ∈ gW := tW 550 (by decide +kernel) rfl
theorem mlRL_44 : Cond.methodLink RL 44 yX9_took ∈ gW := tW 551 (by decide +kernel) rfl
theorem mlRX9_85 : Cond.methodLink RX9 85 yX8_sayTaken ∈ gW := tW 555 (by decide +kernel) rfl
theorem mlRL_47 : Cond.methodLink RL 47 yX9_putIn ∈ gW := tW 559 (by decide +kernel) rfl
theorem mlRX9_88 : Cond.methodLink RX9 88 yX8_putInFault ∈ gW := tW 563 (by decide +kernel) rfl
theorem mlRX9_91 : Cond.methodLink RX9 91 yX8_putIntoLocker ∈ gW := tW 567 (by decide +kernel) rfl
theorem mlRL_50 : Cond.methodLink RL 50 yX9_fetch ∈ gW := tW 571 (by decide +kernel) rfl
theorem mlRX9_94 : Cond.methodLink RX9 94 yX8_fetchFault ∈ gW := tW 575 (by decide +kernel) rfl
theorem mlRX9_97 : Cond.methodLink RX9 97 yX8_fetchFromLocker ∈ gW := tW 579 (by decide +kernel) rfl
theorem mlRL_56 : Cond.methodLink RL 56 yX9_claim ∈ gW := tW 583 (by decide +kernel) rfl
theorem mlRX9_100 : Cond.methodLink RX9 100 yX8_claimFault ∈ gW := tW 587 (by decide +kernel) rfl
theorem mlRX8_224 : Cond.methodLink RX8 224 yX8_isCoveredNow ∈ gW := tW 591 (by decide +kernel) rfl
theorem mlRX9_103 : Cond.methodLink RX9 103 yX8_loseParcel ∈ gW := tW 595 (by decide +kernel) rfl
theorem mlRX8_230 : Cond.methodLink RX8 230 yX8_fundPays ∈ gW := tW 599 (by decide +kernel) rfl
theorem mlRX8_239 : Cond.methodLink RX8 239 yX8_holderPays ∈ gW := tW 605 (by decide +kernel) rfl
theorem mlRX8_233 : Cond.methodLink RX8 233 yX8_missing ∈ gW := tW 609 (by decide +kernel) rfl
theorem mlRX8_242 : Cond.methodLink RX8 242 yX8_namedPays ∈ gW := tW 613 (by decide +kernel) rfl
theorem mlRL_64 : Cond.methodLink RL 64 yX9_takeBack ∈ gW := tW 617 (by decide +kernel) rfl
theorem mlRX9_57 : Cond.methodLink RX9 57 yX8_takeBackFault ∈ gW := tW 621 (by decide +kernel) rfl
theorem mlRX8_130 : Cond.methodLink RX8 130 yX8_isTrip ∈ gW := tW 625 (by decide +kernel) rfl
theorem mlRX9_61 : Cond.methodLink RX9 61 yX8_voidTrip ∈ gW := tW 626 (by decide +kernel) rfl
theorem mlRL_67 : Cond.methodLink RL 67 yX9_restore ∈ gW := tW 630 (by decide +kernel) rfl
theorem mlRX9_118 : Cond.methodLink RX9 118 yX4_snapshotIn ∈ gW := tW 634 (by decide +kernel) rfl
theorem mlRX9_122 : Cond.methodLink RX9 122 yX8_copyFrom ∈ gW := tW 635 (by decide +kernel) rfl
theorem mlRL_70 : Cond.methodLink RL 70 yL_any ∈ gW := tW 636 (by decide +kernel) rfl
theorem mlRL_113 : Cond.methodLink RL 113 yL_arePersons ∈ gW := tW 639 (by decide +kernel) rfl
theorem mlRL_117 : Cond.methodLink RL 117 yL_areParcels ∈ gW := tW 642 (by decide +kernel) rfl
theorem mlRL_74 : Cond.methodLink RL 74 yX9_inLocker ∈ gW := tW 645 (by decide +kernel) rfl
theorem mlRX9_191 : Cond.methodLink RX9 191 yX9_isTown ∈ gW := tW 649 (by decide +kernel) rfl
theorem mlRX9_194 : Cond.methodLink RX9 194 yX8_heldBy ∈ gW := tW 650 (by decide +kernel) rfl
theorem mlRL_120 : Cond.methodLink RL 120 yL_areTrips ∈ gW := tW 651 (by decide +kernel) rfl
theorem mlRL_105 : Cond.methodLink RL 105 yL_isHandover ∈ gW := tW 654 (by decide +kernel) rfl
theorem mlRL_97 : Cond.methodLink RL 97 yL_holders ∈ gW := tW 657 (by decide +kernel) rfl
theorem mlRL_101 : Cond.methodLink RL 101 yL_isUndone ∈ gW := tW 660 (by decide +kernel) rfl
theorem mlRL_77 : Cond.methodLink RL 77 yX9_undo ∈ gW := tW 663 (by decide +kernel) rfl
theorem mlRX9_125 : Cond.methodLink RX9 125 yX0_removeLatest ∈ gW := tW 667 (by decide +kernel) rfl
theorem mlRX9_129 : Cond.methodLink RX9 129 yX4_copyFrom ∈ gW := tW 671 (by decide +kernel) rfl
theorem mlRL_109 : Cond.methodLink RL 109 yL_isTaken ∈ gW := tW 672 (by decide +kernel) rfl
theorem mlRL_89 : Cond.methodLink RL 89 yX9_take ∈ gW := tW 675 (by decide +kernel) rfl
theorem mlRX9_110 : Cond.methodLink RX9 110 yX4_fillSlot ∈ gW := tW 679 (by decide +kernel) rfl
theorem nlRX9_9 : (RX9, 9, yX4_init) ∈ nestM := by simp [nestM]
theorem nlRX8_31 : (RX8, 31, yX1_init) ∈ nestM := by simp [nestM]
theorem nlRX8_39 : (RX8, 39, yX6_init) ∈ nestM := by simp [nestM]
theorem nlRX8_40 : (RX8, 40, yX2_init) ∈ nestM := by simp [nestM]
theorem nlRX9_23 : (RX9, 23, yX0_init) ∈ nestM := by simp [nestM]
theorem nlRX9_30 : (RX9, 30, yX5_init) ∈ nestM := by simp [nestM]
theorem nlRX8_89 : (RX8, 89, yX9_isPerson) ∈ nestM := by simp [nestM]
theorem nlRX8_93 : (RX8, 93, yX9_isTown) ∈ nestM := by simp [nestM]
theorem nlRX8_96 : (RX8, 96, yX9_isWithin) ∈ nestM := by simp [nestM]
theorem nlRX0_21 : (RX0, 21, yX4_init) ∈ nestM := by simp [nestM]
theorem flRX1_11 : xFl RX1 11 1 0 := ⟨(RX1, TX1, 2), rfl, by decide, rfl, tW 45 (by decide +kernel) rfl⟩
theorem flRX1_15 : xFl RX1 15 1 1 := ⟨(RX1, TX1, 2), rfl, by decide, rfl, tW 46 (by decide +kernel) rfl⟩
theorem flRX3_9 : xFl RX3 9 3 0 := ⟨(RX3, TX3, 5), rfl, by decide, rfl, tW 58 (by decide +kernel) rfl⟩
theorem flRX8_143 : xFl RX8 143 3 0 := ⟨(RX3, TX3, 5), rfl, by decide, rfl, tW 59 (by decide +kernel) rfl⟩
theorem flRX3_15 : xFl RX3 15 3 1 := ⟨(RX3, TX3, 5), rfl, by decide, rfl, tW 60 (by decide +kernel) rfl⟩
theorem flRX8_236 : xFl RX8 236 3 1 := ⟨(RX3, TX3, 5), rfl, by decide, rfl, tW 61 (by decide +kernel) rfl⟩
theorem flRX3_21 : xFl RX3 21 3 2 := ⟨(RX3, TX3, 5), rfl, by decide, rfl, tW 62 (by decide +kernel) rfl⟩
theorem flRX8_79 : xFl RX8 79 3 2 := ⟨(RX3, TX3, 5), rfl, by decide, rfl, tW 63 (by decide +kernel) rfl⟩
theorem flRX3_18 : xFl RX3 18 3 3 := ⟨(RX3, TX3, 5), rfl, by decide, rfl, tW 64 (by decide +kernel) rfl⟩
theorem flRX8_82 : xFl RX8 82 3 3 := ⟨(RX3, TX3, 5), rfl, by decide, rfl, tW 65 (by decide +kernel) rfl⟩
theorem flRX3_24 : xFl RX3 24 3 4 := ⟨(RX3, TX3, 5), rfl, by decide, rfl, tW 66 (by decide +kernel) rfl⟩
theorem flRX8_221 : xFl RX8 221 3 4 := ⟨(RX3, TX3, 5), rfl, by decide, rfl, tW 67 (by decide +kernel) rfl⟩
theorem flRX6_9 : xFl RX6 9 6 0 := ⟨(RX6, TX6, 7), rfl, by decide, rfl, tW 84 (by decide +kernel) rfl⟩
theorem flRX8_103 : xFl RX8 103 6 0 := ⟨(RX6, TX6, 7), rfl, by decide, rfl, tW 85 (by decide +kernel) rfl⟩
theorem flRX6_15 : xFl RX6 15 6 1 := ⟨(RX6, TX6, 7), rfl, by decide, rfl, tW 86 (by decide +kernel) rfl⟩
theorem flRX8_114 : xFl RX8 114 6 1 := ⟨(RX6, TX6, 7), rfl, by decide, rfl, tW 87 (by decide +kernel) rfl⟩
theorem flRX6_18 : xFl RX6 18 6 2 := ⟨(RX6, TX6, 7), rfl, by decide, rfl, tW 88 (by decide +kernel) rfl⟩
theorem flRX8_117 : xFl RX8 117 6 2 := ⟨(RX6, TX6, 7), rfl, by decide, rfl, tW 89 (by decide +kernel) rfl⟩
theorem flRX6_21 : xFl RX6 21 6 3 := ⟨(RX6, TX6, 7), rfl, by decide, rfl, tW 90 (by decide +kernel) rfl⟩
theorem flRX8_120 : xFl RX8 120 6 3 := ⟨(RX6, TX6, 7), rfl, by decide, rfl, tW 91 (by decide +kernel) rfl⟩
theorem flRX6_24 : xFl RX6 24 6 4 := ⟨(RX6, TX6, 7), rfl, by decide, rfl, tW 92 (by decide +kernel) rfl⟩
theorem flRX8_123 : xFl RX8 123 6 4 := ⟨(RX6, TX6, 7), rfl, by decide, rfl, tW 93 (by decide +kernel) rfl⟩
theorem flRX6_27 : xFl RX6 27 6 5 := ⟨(RX6, TX6, 7), rfl, by decide, rfl, tW 94 (by decide +kernel) rfl⟩
theorem flRX8_126 : xFl RX8 126 6 5 := ⟨(RX6, TX6, 7), rfl, by decide, rfl, tW 95 (by decide +kernel) rfl⟩
theorem flRX6_30 : xFl RX6 30 6 6 := ⟨(RX6, TX6, 7), rfl, by decide, rfl, tW 96 (by decide +kernel) rfl⟩
theorem flRX8_129 : xFl RX8 129 6 6 := ⟨(RX6, TX6, 7), rfl, by decide, rfl, tW 97 (by decide +kernel) rfl⟩
theorem flRX2_9 : xFl RX2 9 2 0 := ⟨(RX2, TX2, 10), rfl, by decide, rfl, tW 118 (by decide +kernel) rfl⟩
theorem flRX8_153 : xFl RX8 153 2 0 := ⟨(RX2, TX2, 10), rfl, by decide, rfl, tW 119 (by decide +kernel) rfl⟩
theorem flRX2_15 : xFl RX2 15 2 1 := ⟨(RX2, TX2, 10), rfl, by decide, rfl, tW 120 (by decide +kernel) rfl⟩
theorem flRX8_156 : xFl RX8 156 2 1 := ⟨(RX2, TX2, 10), rfl, by decide, rfl, tW 121 (by decide +kernel) rfl⟩
theorem flRX2_18 : xFl RX2 18 2 2 := ⟨(RX2, TX2, 10), rfl, by decide, rfl, tW 122 (by decide +kernel) rfl⟩
theorem flRX8_159 : xFl RX8 159 2 2 := ⟨(RX2, TX2, 10), rfl, by decide, rfl, tW 123 (by decide +kernel) rfl⟩
theorem flRX2_21 : xFl RX2 21 2 3 := ⟨(RX2, TX2, 10), rfl, by decide, rfl, tW 124 (by decide +kernel) rfl⟩
theorem flRX8_162 : xFl RX8 162 2 3 := ⟨(RX2, TX2, 10), rfl, by decide, rfl, tW 125 (by decide +kernel) rfl⟩
theorem flRX2_24 : xFl RX2 24 2 4 := ⟨(RX2, TX2, 10), rfl, by decide, rfl, tW 126 (by decide +kernel) rfl⟩
theorem flRX8_165 : xFl RX8 165 2 4 := ⟨(RX2, TX2, 10), rfl, by decide, rfl, tW 127 (by decide +kernel) rfl⟩
theorem flRX2_27 : xFl RX2 27 2 5 := ⟨(RX2, TX2, 10), rfl, by decide, rfl, tW 128 (by decide +kernel) rfl⟩
theorem flRX8_73 : xFl RX8 73 2 5 := ⟨(RX2, TX2, 10), rfl, by decide, rfl, tW 129 (by decide +kernel) rfl⟩
theorem flRX2_30 : xFl RX2 30 2 6 := ⟨(RX2, TX2, 10), rfl, by decide, rfl, tW 130 (by decide +kernel) rfl⟩
theorem flRX8_76 : xFl RX8 76 2 6 := ⟨(RX2, TX2, 10), rfl, by decide, rfl, tW 131 (by decide +kernel) rfl⟩
theorem flRX2_33 : xFl RX2 33 2 7 := ⟨(RX2, TX2, 10), rfl, by decide, rfl, tW 132 (by decide +kernel) rfl⟩
theorem flRX8_172 : xFl RX8 172 2 7 := ⟨(RX2, TX2, 10), rfl, by decide, rfl, tW 133 (by decide +kernel) rfl⟩
theorem flRX2_36 : xFl RX2 36 2 8 := ⟨(RX2, TX2, 10), rfl, by decide, rfl, tW 134 (by decide +kernel) rfl⟩
theorem flRX8_191 : xFl RX8 191 2 8 := ⟨(RX2, TX2, 10), rfl, by decide, rfl, tW 135 (by decide +kernel) rfl⟩
theorem flRX2_39 : xFl RX2 39 2 9 := ⟨(RX2, TX2, 10), rfl, by decide, rfl, tW 136 (by decide +kernel) rfl⟩
theorem flRX8_198 : xFl RX8 198 2 9 := ⟨(RX2, TX2, 10), rfl, by decide, rfl, tW 137 (by decide +kernel) rfl⟩
theorem flRX8_41 : xFl RX8 41 8 0 := ⟨(RX8, TX8, 10), rfl, by decide, rfl, tW 159 (by decide +kernel) rfl⟩
theorem flRX9_114 : xFl RX9 114 8 0 := ⟨(RX8, TX8, 10), rfl, by decide, rfl, tW 160 (by decide +kernel) rfl⟩
theorem flRX8_45 : xFl RX8 45 8 1 := ⟨(RX8, TX8, 10), rfl, by decide, rfl, tW 161 (by decide +kernel) rfl⟩
theorem flRX8_48 : xFl RX8 48 8 2 := ⟨(RX8, TX8, 10), rfl, by decide, rfl, tW 162 (by decide +kernel) rfl⟩
theorem flRX8_51 : xFl RX8 51 8 3 := ⟨(RX8, TX8, 10), rfl, by decide, rfl, tW 163 (by decide +kernel) rfl⟩
theorem flRX8_54 : xFl RX8 54 8 4 := ⟨(RX8, TX8, 10), rfl, by decide, rfl, tW 164 (by decide +kernel) rfl⟩
theorem flRX8_57 : xFl RX8 57 8 5 := ⟨(RX8, TX8, 10), rfl, by decide, rfl, tW 165 (by decide +kernel) rfl⟩
theorem flRX8_11 : xFl RX8 11 8 6 := ⟨(RX8, TX8, 10), rfl, by decide, rfl, tW 166 (by decide +kernel) rfl⟩
theorem flRX8_19 : xFl RX8 19 8 7 := ⟨(RX8, TX8, 10), rfl, by decide, rfl, tW 167 (by decide +kernel) rfl⟩
theorem flRX9_161 : xFl RX9 161 8 7 := ⟨(RX8, TX8, 10), rfl, by decide, rfl, tW 168 (by decide +kernel) rfl⟩
theorem flRX8_25 : xFl RX8 25 8 8 := ⟨(RX8, TX8, 10), rfl, by decide, rfl, tW 169 (by decide +kernel) rfl⟩
theorem flRX8_32 : xFl RX8 32 8 9 := ⟨(RX8, TX8, 10), rfl, by decide, rfl, tW 170 (by decide +kernel) rfl⟩
theorem flRX9_182 : xFl RX9 182 8 9 := ⟨(RX8, TX8, 10), rfl, by decide, rfl, tW 171 (by decide +kernel) rfl⟩
theorem flRX4_12 : xFl RX4 12 4 0 := ⟨(RX4, TX4, 3), rfl, by decide, rfl, tW 194 (by decide +kernel) rfl⟩
theorem flRX9_16 : xFl RX9 16 4 0 := ⟨(RX4, TX4, 3), rfl, by decide, rfl, tW 195 (by decide +kernel) rfl⟩
theorem flRX4_18 : xFl RX4 18 4 1 := ⟨(RX4, TX4, 3), rfl, by decide, rfl, tW 196 (by decide +kernel) rfl⟩
theorem flRX4_22 : xFl RX4 22 4 2 := ⟨(RX4, TX4, 3), rfl, by decide, rfl, tW 197 (by decide +kernel) rfl⟩
theorem flRX0_11 : xFl RX0 11 0 0 := ⟨(RX0, TX0, 3), rfl, by decide, rfl, tW 214 (by decide +kernel) rfl⟩
theorem flRX0_17 : xFl RX0 17 0 1 := ⟨(RX0, TX0, 3), rfl, by decide, rfl, tW 215 (by decide +kernel) rfl⟩
theorem flRX0_26 : xFl RX0 26 0 2 := ⟨(RX0, TX0, 3), rfl, by decide, rfl, tW 216 (by decide +kernel) rfl⟩
theorem flRX9_131 : xFl RX9 131 0 2 := ⟨(RX0, TX0, 3), rfl, by decide, rfl, tW 217 (by decide +kernel) rfl⟩
theorem flRX5_9 : xFl RX5 9 5 0 := ⟨(RX5, TX5, 2), rfl, by decide, rfl, tW 231 (by decide +kernel) rfl⟩
theorem flRX9_134 : xFl RX9 134 5 1 := ⟨(RX5, TX5, 2), rfl, by decide, rfl, tW 232 (by decide +kernel) rfl⟩
theorem flRX7_25 : xFl RX7 25 7 4 := ⟨(RX7, TX7, 11), rfl, by decide, rfl, tW 245 (by decide +kernel) rfl⟩
theorem flRX7_9 : xFl RX7 9 7 7 := ⟨(RX7, TX7, 11), rfl, by decide, rfl, tW 246 (by decide +kernel) rfl⟩
theorem flRX7_15 : xFl RX7 15 7 8 := ⟨(RX7, TX7, 11), rfl, by decide, rfl, tW 247 (by decide +kernel) rfl⟩
theorem flRX7_18 : xFl RX7 18 7 9 := ⟨(RX7, TX7, 11), rfl, by decide, rfl, tW 248 (by decide +kernel) rfl⟩
theorem flRX7_22 : xFl RX7 22 7 10 := ⟨(RX7, TX7, 11), rfl, by decide, rfl, tW 249 (by decide +kernel) rfl⟩
theorem flRX9_10 : xFl RX9 10 9 0 := ⟨(RX9, TX9, 5), rfl, by decide, rfl, tW 273 (by decide +kernel) rfl⟩
theorem flRX9_20 : xFl RX9 20 9 1 := ⟨(RX9, TX9, 5), rfl, by decide, rfl, tW 274 (by decide +kernel) rfl⟩
theorem flRX9_24 : xFl RX9 24 9 2 := ⟨(RX9, TX9, 5), rfl, by decide, rfl, tW 275 (by decide +kernel) rfl⟩
theorem flRX9_31 : xFl RX9 31 9 3 := ⟨(RX9, TX9, 5), rfl, by decide, rfl, tW 276 (by decide +kernel) rfl⟩
theorem flRX9_40 : xFl RX9 40 9 4 := ⟨(RX9, TX9, 5), rfl, by decide, rfl, tW 277 (by decide +kernel) rfl⟩
theorem ft0_0 : xFt 0 0 true (.array (.object "RelayParcels$State")) := ⟨(RX0, TX0, 3), rfl, rfl, by decide +kernel⟩
theorem ft0_1 : xFt 0 1 false .int := ⟨(RX0, TX0, 3), rfl, rfl, by decide +kernel⟩
theorem ft0_2 : xFt 0 2 false .int := ⟨(RX0, TX0, 3), rfl, rfl, by decide +kernel⟩
theorem ft1_0 : xFt 1 0 true (.array .int) := ⟨(RX1, TX1, 2), rfl, rfl, by decide +kernel⟩
theorem ft1_1 : xFt 1 1 false .int := ⟨(RX1, TX1, 2), rfl, rfl, by decide +kernel⟩
theorem ft2_0 : xFt 2 0 false .int := ⟨(RX2, TX2, 10), rfl, rfl, by decide +kernel⟩
theorem ft2_1 : xFt 2 1 false .int := ⟨(RX2, TX2, 10), rfl, rfl, by decide +kernel⟩
theorem ft2_2 : xFt 2 2 false .int := ⟨(RX2, TX2, 10), rfl, rfl, by decide +kernel⟩
theorem ft2_3 : xFt 2 3 false .int := ⟨(RX2, TX2, 10), rfl, rfl, by decide +kernel⟩
theorem ft2_4 : xFt 2 4 false .int := ⟨(RX2, TX2, 10), rfl, rfl, by decide +kernel⟩
theorem ft2_5 : xFt 2 5 false .int := ⟨(RX2, TX2, 10), rfl, rfl, by decide +kernel⟩
theorem ft2_6 : xFt 2 6 false .int := ⟨(RX2, TX2, 10), rfl, rfl, by decide +kernel⟩
theorem ft2_7 : xFt 2 7 false .int := ⟨(RX2, TX2, 10), rfl, rfl, by decide +kernel⟩
theorem ft2_8 : xFt 2 8 false .int := ⟨(RX2, TX2, 10), rfl, rfl, by decide +kernel⟩
theorem ft2_9 : xFt 2 9 false .int := ⟨(RX2, TX2, 10), rfl, rfl, by decide +kernel⟩
theorem ft3_0 : xFt 3 0 false .int := ⟨(RX3, TX3, 5), rfl, rfl, by decide +kernel⟩
theorem ft3_1 : xFt 3 1 false .int := ⟨(RX3, TX3, 5), rfl, rfl, by decide +kernel⟩
theorem ft3_2 : xFt 3 2 false .int := ⟨(RX3, TX3, 5), rfl, rfl, by decide +kernel⟩
theorem ft3_3 : xFt 3 3 false .int := ⟨(RX3, TX3, 5), rfl, rfl, by decide +kernel⟩
theorem ft3_4 : xFt 3 4 false .int := ⟨(RX3, TX3, 5), rfl, rfl, by decide +kernel⟩
theorem ft4_0 : xFt 4 0 true (.object "RelayParcels$World") := ⟨(RX4, TX4, 3), rfl, rfl, by decide +kernel⟩
theorem ft4_1 : xFt 4 1 true (.array (.object "RelayParcels$World")) := ⟨(RX4, TX4, 3), rfl, rfl, by decide +kernel⟩
theorem ft4_2 : xFt 4 2 true (.array .boolean) := ⟨(RX4, TX4, 3), rfl, rfl, by decide +kernel⟩
theorem ft5_0 : xFt 5 0 true (.array .char) := ⟨(RX5, TX5, 2), rfl, rfl, by decide +kernel⟩
theorem ft5_1 : xFt 5 1 false .int := ⟨(RX5, TX5, 2), rfl, rfl, by decide +kernel⟩
theorem ft6_0 : xFt 6 0 false .int := ⟨(RX6, TX6, 7), rfl, rfl, by decide +kernel⟩
theorem ft6_1 : xFt 6 1 false .int := ⟨(RX6, TX6, 7), rfl, rfl, by decide +kernel⟩
theorem ft6_2 : xFt 6 2 false .int := ⟨(RX6, TX6, 7), rfl, rfl, by decide +kernel⟩
theorem ft6_3 : xFt 6 3 false .int := ⟨(RX6, TX6, 7), rfl, rfl, by decide +kernel⟩
theorem ft6_4 : xFt 6 4 false .int := ⟨(RX6, TX6, 7), rfl, rfl, by decide +kernel⟩
theorem ft6_5 : xFt 6 5 false .int := ⟨(RX6, TX6, 7), rfl, rfl, by decide +kernel⟩
theorem ft6_6 : xFt 6 6 false .int := ⟨(RX6, TX6, 7), rfl, rfl, by decide +kernel⟩
theorem ft7_0 : xFt 7 0 false .boolean := ⟨(RX7, TX7, 11), rfl, rfl, by decide +kernel⟩
theorem ft7_1 : xFt 7 1 false .int := ⟨(RX7, TX7, 11), rfl, rfl, by decide +kernel⟩
theorem ft7_2 : xFt 7 2 false .int := ⟨(RX7, TX7, 11), rfl, rfl, by decide +kernel⟩
theorem ft7_3 : xFt 7 3 false .int := ⟨(RX7, TX7, 11), rfl, rfl, by decide +kernel⟩
theorem ft7_4 : xFt 7 4 true (.object "RelayParcels$World") := ⟨(RX7, TX7, 11), rfl, rfl, by decide +kernel⟩
theorem ft7_5 : xFt 7 5 false .int := ⟨(RX7, TX7, 11), rfl, rfl, by decide +kernel⟩
theorem ft7_6 : xFt 7 6 false .boolean := ⟨(RX7, TX7, 11), rfl, rfl, by decide +kernel⟩
theorem ft7_7 : xFt 7 7 true (.array .boolean) := ⟨(RX7, TX7, 11), rfl, rfl, by decide +kernel⟩
theorem ft7_8 : xFt 7 8 true (.array .boolean) := ⟨(RX7, TX7, 11), rfl, rfl, by decide +kernel⟩
theorem ft7_9 : xFt 7 9 true (.array .int) := ⟨(RX7, TX7, 11), rfl, rfl, by decide +kernel⟩
theorem ft7_10 : xFt 7 10 true (.array .int) := ⟨(RX7, TX7, 11), rfl, rfl, by decide +kernel⟩
theorem ft8_0 : xFt 8 0 false .int := ⟨(RX8, TX8, 10), rfl, rfl, by decide +kernel⟩
theorem ft8_1 : xFt 8 1 false .int := ⟨(RX8, TX8, 10), rfl, rfl, by decide +kernel⟩
theorem ft8_2 : xFt 8 2 false .int := ⟨(RX8, TX8, 10), rfl, rfl, by decide +kernel⟩
theorem ft8_3 : xFt 8 3 false .int := ⟨(RX8, TX8, 10), rfl, rfl, by decide +kernel⟩
theorem ft8_4 : xFt 8 4 false .int := ⟨(RX8, TX8, 10), rfl, rfl, by decide +kernel⟩
theorem ft8_5 : xFt 8 5 false .int := ⟨(RX8, TX8, 10), rfl, rfl, by decide +kernel⟩
theorem ft8_6 : xFt 8 6 true (.array (.object "RelayParcels$Person")) := ⟨(RX8, TX8, 10), rfl, rfl, by decide +kernel⟩
theorem ft8_7 : xFt 8 7 true (.array (.object "RelayParcels$Trip")) := ⟨(RX8, TX8, 10), rfl, rfl, by decide +kernel⟩
theorem ft8_8 : xFt 8 8 true (.array (.object "RelayParcels$Parcel")) := ⟨(RX8, TX8, 10), rfl, rfl, by decide +kernel⟩
theorem ft8_9 : xFt 8 9 true (.object "RelayParcels$Holders") := ⟨(RX8, TX8, 10), rfl, rfl, by decide +kernel⟩
theorem ft9_0 : xFt 9 0 true (.object "RelayParcels$State") := ⟨(RX9, TX9, 5), rfl, rfl, by decide +kernel⟩
theorem ft9_1 : xFt 9 1 true (.object "RelayParcels$World") := ⟨(RX9, TX9, 5), rfl, rfl, by decide +kernel⟩
theorem ft9_2 : xFt 9 2 true (.object "RelayParcels$History") := ⟨(RX9, TX9, 5), rfl, rfl, by decide +kernel⟩
theorem ft9_3 : xFt 9 3 true (.object "RelayParcels$Text") := ⟨(RX9, TX9, 5), rfl, rfl, by decide +kernel⟩
theorem ft9_4 : xFt 9 4 true (.object "RelayParcels$Ways") := ⟨(RX9, TX9, 5), rfl, rfl, by decide +kernel⟩
theorem clRL_14 : Cond.classLink RL 14 RX9 ∈ gW := tW 13 (by decide +kernel) rfl
theorem clRX9_7 : Cond.classLink RX9 7 RX4 ∈ gW := tW 21 (by decide +kernel) rfl
theorem clRX4_9 : Cond.classLink RX4 9 RX8 ∈ gW := tW 27 (by decide +kernel) rfl
theorem clRX8_9 : Cond.classLink RX8 9 RX3 ∈ gW := tW 33 (by decide +kernel) rfl
theorem clRX8_17 : Cond.classLink RX8 17 RX6 ∈ gW := tW 35 (by decide +kernel) rfl
theorem clRX8_23 : Cond.classLink RX8 23 RX2 ∈ gW := tW 37 (by decide +kernel) rfl
theorem clRX8_29 : Cond.classLink RX8 29 RX1 ∈ gW := tW 39 (by decide +kernel) rfl
theorem clRX9_21 : Cond.classLink RX9 21 RX0 ∈ gW := tW 206 (by decide +kernel) rfl
theorem clRX0_9 : Cond.classLink RX0 9 RX4 ∈ gW := tW 212 (by decide +kernel) rfl
theorem clRX9_28 : Cond.classLink RX9 28 RX5 ∈ gW := tW 225 (by decide +kernel) rfl
theorem clRX9_35 : Cond.classLink RX9 35 RX7 ∈ gW := tW 239 (by decide +kernel) rfl
theorem klRL_7 : Cond.constant RL 7 (763049417) ∈ gW := tW 319 (by decide +kernel) rfl
theorem klRL_9 : Cond.constantLong RL 9 (7) ∈ gW := tW 323 (by decide +kernel) rfl
theorem klRL_11 : Cond.constantLong RL 11 (31) ∈ gW := tW 324 (by decide +kernel) rfl
theorem klRL_8 : Cond.constant RL 8 (2147483647) ∈ gW := tW 382 (by decide +kernel) rfl
theorem wn0 : Cond.instantiable RX0 3 ∈ gW := tW 207 (by decide +kernel) rfl
theorem wn1 : Cond.instantiable RX1 2 ∈ gW := tW 40 (by decide +kernel) rfl
theorem wn2 : Cond.instantiable RX2 10 ∈ gW := tW 113 (by decide +kernel) rfl
theorem wn3 : Cond.instantiable RX3 5 ∈ gW := tW 53 (by decide +kernel) rfl
theorem wn4 : Cond.instantiable RX4 3 ∈ gW := tW 22 (by decide +kernel) rfl
theorem wn5 : Cond.instantiable RX5 2 ∈ gW := tW 226 (by decide +kernel) rfl
theorem wn6 : Cond.instantiable RX6 7 ∈ gW := tW 79 (by decide +kernel) rfl
theorem wn7 : Cond.instantiable RX7 11 ∈ gW := tW 240 (by decide +kernel) rfl
theorem wn8 : Cond.instantiable RX8 10 ∈ gW := tW 28 (by decide +kernel) rfl
theorem wn9 : Cond.instantiable RX9 5 ∈ gW := tW 14 (by decide +kernel) rfl
theorem wa_int : Cond.arrayClass .int ∈ gW := tW 52 (by decide +kernel) rfl
theorem wa_char : Cond.arrayClass .char ∈ gW := tW 238 (by decide +kernel) rfl
theorem wa_boolean : Cond.arrayClass .boolean ∈ gW := tW 205 (by decide +kernel) rfl
theorem wSys1 : Cond.native arraycopyName ∈ gW := tW 439 (by decide +kernel) rfl
theorem wSys2 : Cond.static arraycopyName ∈ gW := tW 438 (by decide +kernel) rfl
theorem wSys3 : Cond.initialized "java/lang/System" ∈ gW := tW 11 (by decide +kernel) rfl
theorem wMin1 : Cond.static Lib.Math.min.name ∈ gW := tW 449 (by decide +kernel) rfl
theorem wMin2 : Cond.initialized "java/lang/Math" ∈ gW := tW 12 (by decide +kernel) rfl
theorem wMin3 : Cond.code Lib.Math.min.name Lib.Math.min.code 2 (some .int) ∈ gW := tW 450 (by decide +kernel) rfl
theorem wObj1 : Cond.instanceMethod Lib.objectInit ∈ gW := tW 19 (by decide +kernel) rfl
theorem wObj2 : Cond.code Lib.objectInit ⟨#[0xb1]⟩ 1 none ∈ gW := tW 20 (by decide +kernel) rfl
