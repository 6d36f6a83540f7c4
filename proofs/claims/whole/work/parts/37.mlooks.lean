-- ===== the model: claim; looks =====
theorem Chh.fund {V0 V : Vd} {h0 hr f nt nk q : Nat} {W : Wd} (h : Chh V0 h0 hr f nt nk W V) (hq : q ≤ f) : Chh V0 h0 hr (f - q) nt nk (wSet W 3 0 1 (W 3 0 1 - nI q)) (mNo V 1 (V.1 1 - lN q)) := by
  have hM := h.m
  obtain ⟨g1, g2, ⟨⟨r1, r2, r3, r4, r5⟩, hb⟩, h2, h3⟩ := h
  have e1 : V.1 1 - lN q = lN (f - q) := by rw [show V.1 1 = lN f from r3, lN_sub hq]
  refine ⟨g1, ge_no g2 (by decide), ⟨⟨r1.set (a := 3) (i := 0) (k := 1) hb.2.2.1 hb.2.2.2 (Or.inr (Or.inr (Or.inr ⟨rfl, rfl, by decide⟩))) (by rw [e1, lN_i, hM.eF, pk_sub hq]), (mNo_ne (V := V) (p := 1) (v := V.1 1 - lN q) (by decide)).trans r2, (mNo_at (V := V) (p := 1) (v := V.1 1 - lN q)).trans e1, (mNo_ne (V := V) (p := 1) (v := V.1 1 - lN q) (by decide)).trans r4, (mNo_ne (V := V) (p := 1) (v := V.1 1 - lN q) (by decide)).trans r5⟩, hb.1, by omega, hb.2.2⟩, h2.eq (wSet_a (by decide)) (fun j _ => wSet_a (by decide)), fun k hk => (h3 k hk).eq (fun h _ => LU_eq (wSet_a (by decide)) (fun j _ => wSet_a (by decide)) k h) (wSet_a (by decide)) (mNo_ne (by omega)) (fun h _ => mNo_ne (by unfold nbA; omega))⟩
theorem sLoA_r {W : Wd} {k a i j : Nat} (h : a ≠ 3) : sLoA W k a i j = W a i j := wSet_a h
theorem sLoB_r {W : Wd} {k a i j : Nat} (h : a ≠ 3) (h2 : a ≠ 0 ∨ j ≠ 1) : sLoB W k a i j = W a i j := by
  unfold sLoB
  split
  · exact sLoA_r h
  · rcases h2 with h2 | h2
    · exact (wSet_a h2).trans (sLoA_r h)
    · exact (wSet_k h2).trans (sLoA_r h)
theorem sLoC_r {W : Wd} {k a i j : Nat} (h : a ≠ 3) (h2 : a ≠ 0 ∨ j ≠ 1) : sLoC W k a i j = W a i j := by
  unfold sLoC
  split
  · exact sLoB_r h h2
  · rcases h2 with h2' | h2'
    · exact (wSet_a h2').trans (sLoB_r h (Or.inl h2'))
    · exact (wSet_k h2').trans (sLoB_r h (Or.inr h2'))
/-- what a claim asks of a parcel -/
def clG (W : Wd) (f k : Nat) : Prop := (∃ q : Nat, q < 4 ∧ W 2 k 4 = nI q) ∧ (W 2 k 6 < 10 → isP (W 2 k 6)) ∧ (¬ W 2 k 8 = -9 → isP (W 2 k 8)) ∧ (10 ≤ W 2 k 6 → W 2 k 8 = -9) ∧ (∃ q, q ≤ f ∧ sFund W k = nI q) ∧ ¬ sHoP W k < 0 ∧ ¬ sNaP W k < 0 ∧ isP (W 2 k 0)
theorem sLoB_0 {W : Wd} {k : Nat} (z : sHoP W k = 0) : sLoA W k = sLoB W k := by
  unfold sLoB
  split
  · rfl
  · rw [z, Int32.sub_zero, wSet_id (sLoA_r (by decide))]
theorem sLoC_0 {W : Wd} {k : Nat} (z : sNaP W k = 0) : sLoB W k = sLoC W k := by
  unfold sLoC
  split
  · rfl
  · rw [z, Int32.sub_zero, wSet_id rfl]
theorem l_claim4 {G : xG} {s : xA} {m hr f nt nk : Nat} {W : Wd} {V0 V : Vd} {k a : Nat} (hk : k < nk) (hk10 : k < 10) (ha : a < 8) (ea : W 2 k 0 = nI a) (c3 : Ch V0 hr f nt nk (sLoC W k) V) : mE G MX10_claim 151 [(0, .ref m), (1, .int (nI k)), (2, .int (nI a)), (3, .int (W 2 k 6)), (4, .int (sFund W k)), (5, .int (sHoP W k)), (6, .int (sNaP W k))] [] s m V (fun r V1 => r = some (.int (sFund W k + sHoP W k + sNaP W k)) ∧ Ch V0 hr f nt nk (sLos W k) V1) := by
  refine x_aload_n (k := 91) rfl rfl ?_
  refine x_iload_n (k := 92) rfl rfl ?_
  refine x_iconst (v := 0) (k := 93) rfl (by decide) ?_
  refine x_aload_n (k := 94) rfl rfl ?_
  refine x_iload_n (k := 95) rfl rfl ?_
  refine x_iconst (v := 0) (k := 96) rfl (by decide) ?_
  refine m_callI (ci := 10) (k := 97) rfl (by rfl) (m_ofP c3.m (k := 0) ha (by decide)) okX10_ofP viX10_ofP mlRX10_91 ⟨Nat.le_of_ble_eq_true rfl, Nat.le_of_ble_eq_true rfl⟩ (by exact Nat.le_of_ble_eq_true rfl) rfl rfl mG0 (by exact Nat.le_of_ble_eq_true rfl) ?_
  rw [show sLoC W k 0 a 0 = W 0 a 0 from sLoC_r (by decide) (Or.inr (by decide))]
  refine x_iload (k := 98) rfl rfl ?_
  refine x_iadd (k := 99) rfl ?_
  refine x_iload (k := 100) rfl rfl ?_
  refine x_iadd (k := 101) rfl ?_
  refine x_iload (k := 102) rfl rfl ?_
  refine x_iadd (k := 103) rfl ?_
  refine x_top (y := W 0 a 0 + (sFund W k + sHoP W k + sNaP W k)) (by simp only [Int32.add_assoc]) ?_
  refine x_i2l (k := 104) rfl ?_
  refine m_callV (ci := 10) (k := 105) rfl (by rfl) (m_setsP (k := 0) ha (by decide) _) okX10_setsP viX10_setsP mlRX10_28 ⟨Nat.le_of_ble_eq_true rfl, Nat.le_of_ble_eq_true rfl⟩ (by exact Nat.le_of_ble_eq_true rfl) rfl rfl mG0 (by exact Nat.le_of_ble_eq_true rfl) ?_
  have c4 := c3.setP (k := 0) ha (by decide) (t32 (W 0 a 0 + (sFund W k + sHoP W k + sNaP W k)))
  refine x_aload_n (k := 106) rfl rfl ?_
  refine x_iload_n (k := 107) rfl rfl ?_
  refine x_iconst (v := 5) (k := 108) rfl (by decide) ?_
  refine x_ldc2 (k := 109) rfl klRX10_94 ?_
  refine m_callV (ci := 10) (k := 110) rfl (by rfl) (m_sets (k := 5) (by omega) (by decide) _) okX10_sets viX10_sets mlRX10_119 ⟨Nat.le_of_ble_eq_true rfl, Nat.le_of_ble_eq_true rfl⟩ (by exact Nat.le_of_ble_eq_true rfl) rfl rfl mG0 (by exact Nat.le_of_ble_eq_true rfl) ?_
  have c5 := c4.setK (k := 5) (x := 2) (v := 2) hk (by decide) (by decide) (by decide)
  refine x_aload_n (k := 111) rfl rfl ?_
  refine x_iload_n (k := 112) rfl rfl ?_
  refine x_bipush (v := 8) (k := 113) rfl (by decide) ?_
  refine x_ldc2 (k := 114) rfl klRX10_34 ?_
  refine m_callV (ci := 10) (k := 115) rfl (by rfl) (m_sets (k := 8) (by omega) (by decide) _) okX10_sets viX10_sets mlRX10_119 ⟨Nat.le_of_ble_eq_true rfl, Nat.le_of_ble_eq_true rfl⟩ (by exact Nat.le_of_ble_eq_true rfl) rfl rfl mG0 (by exact Nat.le_of_ble_eq_true rfl) ?_
  have c6 := c5.setK (k := 8) (x := -9) (v := -9) hk (by decide) (by decide) (by decide)
  refine x_aload_n (k := 116) rfl rfl ?_
  refine x_iload_n (k := 117) rfl rfl ?_
  refine x_bipush (v := 9) (k := 118) rfl (by decide) ?_
  refine x_ldc2 (k := 119) rfl klRX10_34 ?_
  refine m_callV (ci := 10) (k := 120) rfl (by rfl) (m_sets (k := 9) (by omega) (by decide) _) okX10_sets viX10_sets mlRX10_119 ⟨Nat.le_of_ble_eq_true rfl, Nat.le_of_ble_eq_true rfl⟩ (by exact Nat.le_of_ble_eq_true rfl) rfl rfl mG0 (by exact Nat.le_of_ble_eq_true rfl) ?_
  have c7 := (c6.setK (k := 9) (x := -9) (v := -9) hk (by decide) (by decide) (by decide)).w (show _ = sLos W k by rw [sLos, ea, ixP ha]; rfl)
  refine x_iload (k := 121) rfl rfl ?_
  refine x_iload (k := 122) rfl rfl ?_
  refine x_iadd (k := 123) rfl ?_
  refine x_iload (k := 124) rfl rfl ?_
  refine x_iadd (k := 125) rfl ?_
  exact m_irQ (k := 126) rfl rfl rfl rfl c7
theorem l_claim3 {G : xG} {s : xA} {m hr f nt nk : Nat} {W : Wd} {V0 V : Vd} {k a : Nat} (hk : k < nk) (hk10 : k < 10) (ha : a < 8) (ea : W 2 k 0 = nI a) (hw : ¬ W 2 k 8 = -9 → isP (W 2 k 8)) (hna : ¬ sNaP W k < 0) (c2 : Ch V0 hr f nt nk (sLoB W k) V) : mE G MX10_claim 119 [(0, .ref m), (1, .int (nI k)), (2, .int (nI a)), (3, .int (W 2 k 6)), (4, .int (sFund W k)), (5, .int (sHoP W k)), (6, .int (sNaP W k))] [] s m V (fun r V1 => r = some (.int (sFund W k + sHoP W k + sNaP W k)) ∧ Ch V0 hr f nt nk (sLos W k) V1) := by
  refine x_iload (k := 73) rfl rfl ?_
  refine x_if_le (tgt := 151) (k := 74) rfl (by decide) (fun c121 => ?_) (fun c121 => ?_)
  · have c3 := c2.w (sLoC_0 (Int32.le_antisymm c121 (Int32.not_lt.mp hna)))
    refine x_sub (ls' := [(0, .ref m), (1, .int (nI k)), (2, .int (nI a)), (3, .int (W 2 k 6)), (4, .int (sFund W k)), (5, .int (sHoP W k)), (6, .int (sNaP W k))]) (by intro q hq; simp only [List.mem_cons, List.not_mem_nil, or_false] at hq; rcases hq with rfl | rfl | rfl | rfl | rfl | rfl | rfl <;> rfl) ?_
    exact l_claim4 hk hk10 ha ea c3
  · have ng : ¬ W 2 k 8 = -9 := fun z => c121 (by rw [sNaP, if_pos z]; decide)
    obtain ⟨g2, hg2, eg2⟩ := hw ng
    refine x_aload_n (k := 75) rfl rfl ?_
    refine x_iload_n (k := 76) rfl rfl ?_
    refine x_bipush (v := 8) (k := 77) rfl (by decide) ?_
    refine m_callI (ci := 10) (k := 78) rfl (by rfl) (m_of c2.m (k := 8) hk (by decide)) okX10_of viX10_of mlRX10_84 ⟨Nat.le_of_ble_eq_true rfl, Nat.le_of_ble_eq_true rfl⟩ (by exact Nat.le_of_ble_eq_true rfl) rfl rfl mG0 (by exact Nat.le_of_ble_eq_true rfl) ?_
    rw [show sLoB W k 2 k 8 = nI g2 from (sLoB_r (by decide) (Or.inl (by decide))).trans eg2]
    refine x_istore (k := 79) rfl (by decide) ?_
    refine x_aload_n (k := 80) rfl rfl ?_
    refine x_iload (k := 81) rfl rfl ?_
    refine x_iconst (v := 1) (k := 82) rfl (by decide) ?_
    refine x_aload_n (k := 83) rfl rfl ?_
    refine x_iload (k := 84) rfl rfl ?_
    refine x_iconst (v := 1) (k := 85) rfl (by decide) ?_
    refine m_callI (ci := 10) (k := 86) rfl (by rfl) (m_ofP c2.m (k := 1) hg2 (by decide)) okX10_ofP viX10_ofP mlRX10_91 ⟨Nat.le_of_ble_eq_true rfl, Nat.le_of_ble_eq_true rfl⟩ (by exact Nat.le_of_ble_eq_true rfl) rfl rfl mG0 (by exact Nat.le_of_ble_eq_true rfl) ?_
    refine x_iload (k := 87) rfl rfl ?_
    refine x_isub (k := 88) rfl ?_
    refine x_i2l (k := 89) rfl ?_
    refine m_callV (ci := 10) (k := 90) rfl (by rfl) (m_setsP (k := 1) hg2 (by decide) _) okX10_setsP viX10_setsP mlRX10_28 ⟨Nat.le_of_ble_eq_true rfl, Nat.le_of_ble_eq_true rfl⟩ (by exact Nat.le_of_ble_eq_true rfl) rfl rfl mG0 (by exact Nat.le_of_ble_eq_true rfl) ?_
    have c3 := (c2.setP (k := 1) hg2 (by decide) (t32 (sLoB W k 0 g2 1 - sNaP W k))).w (show _ = sLoC W k by rw [sLoC, if_neg ng, eg2, ixP hg2])
    refine x_sub (ls' := [(0, .ref m), (1, .int (nI k)), (2, .int (nI a)), (3, .int (W 2 k 6)), (4, .int (sFund W k)), (5, .int (sHoP W k)), (6, .int (sNaP W k))]) (by intro q hq; simp only [List.mem_cons, List.not_mem_nil, or_false] at hq; rcases hq with rfl | rfl | rfl | rfl | rfl | rfl | rfl <;> rfl) ?_
    exact l_claim4 hk hk10 ha ea c3
theorem l_claim2 {G : xG} {s : xA} {m hr f nt nk : Nat} {W : Wd} {V0 V : Vd} {k a : Nat} (hk : k < nk) (hk10 : k < 10) (ha : a < 8) (ea : W 2 k 0 = nI a) (hh : W 2 k 6 < 10 → isP (W 2 k 6)) (ho : ¬ sHoP W k < 0) (hw : ¬ W 2 k 8 = -9 → isP (W 2 k 8)) (hna : ¬ sNaP W k < 0) (c1 : Ch V0 hr f nt nk (sLoA W k) V) : mE G MX10_claim 98 [(0, .ref m), (1, .int (nI k)), (2, .int (nI a)), (3, .int (W 2 k 6)), (4, .int (sFund W k)), (5, .int (sHoP W k)), (6, .int (sNaP W k))] [] s m V (fun r V1 => r = some (.int (sFund W k + sHoP W k + sNaP W k)) ∧ Ch V0 hr f nt nk (sLos W k) V1) := by
  refine x_iload (k := 60) rfl rfl ?_
  refine x_if_le (tgt := 119) (k := 61) rfl (by decide) (fun c100 => ?_) (fun c100 => ?_)
  · have c2 := c1.w (sLoB_0 (Int32.le_antisymm c100 (Int32.not_lt.mp ho)))
    refine x_sub (ls' := [(0, .ref m), (1, .int (nI k)), (2, .int (nI a)), (3, .int (W 2 k 6)), (4, .int (sFund W k)), (5, .int (sHoP W k)), (6, .int (sNaP W k))]) (by intro q hq; simp only [List.mem_cons, List.not_mem_nil, or_false] at hq; rcases hq with rfl | rfl | rfl | rfl | rfl | rfl | rfl <;> first | rfl | exact congrArg (fun z => some (Value.int z)) eg.symm) ?_
    exact l_claim3 hk hk10 ha ea hw hna c2
  · have nl : ¬ 10 ≤ W 2 k 6 := fun z => c100 (by rw [sHoP, if_pos z]; decide)
    obtain ⟨g, hg, eg⟩ := hh (Int32.not_le.mp nl)
    refine x_sub (ls' := [(0, .ref m), (1, .int (nI k)), (2, .int (nI a)), (3, .int (nI g)), (4, .int (sFund W k)), (5, .int (sHoP W k)), (6, .int (sNaP W k))]) (by intro q hq; simp only [List.mem_cons, List.not_mem_nil, or_false] at hq; rcases hq with rfl | rfl | rfl | rfl | rfl | rfl | rfl <;> first | rfl | exact congrArg (fun z => some (Value.int z)) eg) ?_
    refine x_aload_n (k := 62) rfl rfl ?_
    refine x_iload_n (k := 63) rfl rfl ?_
    refine x_iconst (v := 1) (k := 64) rfl (by decide) ?_
    refine x_aload_n (k := 65) rfl rfl ?_
    refine x_iload_n (k := 66) rfl rfl ?_
    refine x_iconst (v := 1) (k := 67) rfl (by decide) ?_
    refine m_callI (ci := 10) (k := 68) rfl (by rfl) (m_ofP c1.m (k := 1) hg (by decide)) okX10_ofP viX10_ofP mlRX10_91 ⟨Nat.le_of_ble_eq_true rfl, Nat.le_of_ble_eq_true rfl⟩ (by exact Nat.le_of_ble_eq_true rfl) rfl rfl mG0 (by exact Nat.le_of_ble_eq_true rfl) ?_
    refine x_iload (k := 69) rfl rfl ?_
    refine x_isub (k := 70) rfl ?_
    refine x_i2l (k := 71) rfl ?_
    refine m_callV (ci := 10) (k := 72) rfl (by rfl) (m_setsP (k := 1) hg (by decide) _) okX10_setsP viX10_setsP mlRX10_28 ⟨Nat.le_of_ble_eq_true rfl, Nat.le_of_ble_eq_true rfl⟩ (by exact Nat.le_of_ble_eq_true rfl) rfl rfl mG0 (by exact Nat.le_of_ble_eq_true rfl) ?_
    have c2 := (c1.setP (k := 1) hg (by decide) (t32 (sLoA W k 0 g 1 - sHoP W k))).w (show _ = sLoB W k by rw [sLoB, if_neg nl, eg, ixP hg, sLoA_r (show (0 : Nat) ≠ 3 by decide)])
    refine x_sub (ls' := [(0, .ref m), (1, .int (nI k)), (2, .int (nI a)), (3, .int (W 2 k 6)), (4, .int (sFund W k)), (5, .int (sHoP W k)), (6, .int (sNaP W k))]) (by intro q hq; simp only [List.mem_cons, List.not_mem_nil, or_false] at hq; rcases hq with rfl | rfl | rfl | rfl | rfl | rfl | rfl <;> first | rfl | exact congrArg (fun z => some (Value.int z)) eg.symm) ?_
    exact l_claim3 hk hk10 ha ea hw hna c2
theorem l_claim1 {G : xG} {s : xA} {m hr f nt nk : Nat} {W : Wd} {V : Vd} (hF : RF hr f nt nk W V.1) {st : Nat} (hs : V.2.2 0 2 = nI st) (hst : st ≤ 5) (hf31 : f ≤ 1000) {k a q : Nat} (hk : k < nk) (hk10 : k < 10) (ha : a < 8) (ea : W 2 k 0 = nI a) (ht : ∃ q : Nat, q < 4 ∧ W 2 k 4 = nI q) (hh : W 2 k 6 < 10 → isP (W 2 k 6)) (hw : ¬ W 2 k 8 = -9 → isP (W 2 k 8)) (hl : 10 ≤ W 2 k 6 → W 2 k 8 = -9) (hqf : q ≤ f) (eq : sFund W k = nI q) (ho : ¬ sHoP W k < 0) (hna : ¬ sNaP W k < 0) : mE G MX10_claim 59 [(0, .ref m), (1, .int (nI k)), (2, .int (nI a)), (3, .int (W 2 k 6))] [] s m V (fun r V1 => r = some (.int (sFund W k + sHoP W k + sNaP W k)) ∧ Ch (mRec V st) hr (f - q) nt nk (sLos W k) V1) := by
  refine x_aload_n (k := 35) rfl rfl ?_
  refine m_callV (ci := 10) (k := 36) rfl (by rfl) (m_records hs hst) okX10_records viX10_records mlRX10_48 ⟨Nat.le_of_ble_eq_true rfl, Nat.le_of_ble_eq_true rfl⟩ (by exact Nat.le_of_ble_eq_true rfl) rfl rfl mG0 (by exact Nat.le_of_ble_eq_true rfl) ?_
  have c0 : Ch (mRec V st) hr f nt nk W (mRec V st) := Chh.rf hF
  refine x_aload_n (k := 37) rfl rfl ?_
  refine x_iload_n (k := 38) rfl rfl ?_
  refine m_callI (ci := 10) (k := 39) rfl (by rfl) (m_fundPays c0.m hk ht) okX10_fundPays viX10_fundPays mlRX10_161 ⟨Nat.le_of_ble_eq_true rfl, Nat.le_of_ble_eq_true rfl⟩ (by exact Nat.le_of_ble_eq_true rfl) rfl rfl mG0 (by exact Nat.le_of_ble_eq_true rfl) ?_
  refine x_istore (k := 40) rfl (by decide) ?_
  refine x_aload_n (k := 41) rfl rfl ?_
  refine x_iload_n (k := 42) rfl rfl ?_
  refine x_iconst (v := 0) (k := 43) rfl (by decide) ?_
  refine m_callI (ci := 10) (k := 44) rfl (by rfl) (m_owes0 c0.m hk ht hh) okX10_owes viX10_owes mlRX10_164 ⟨Nat.le_of_ble_eq_true rfl, Nat.le_of_ble_eq_true rfl⟩ (by exact Nat.le_of_ble_eq_true rfl) rfl rfl mG0 (by exact Nat.le_of_ble_eq_true rfl) ?_
  refine x_istore (k := 45) rfl (by decide) ?_
  refine x_aload_n (k := 46) rfl rfl ?_
  refine x_iload_n (k := 47) rfl rfl ?_
  refine x_iconst (v := 1) (k := 48) rfl (by decide) ?_
  refine m_callI (ci := 10) (k := 49) rfl (by rfl) (m_owes1 c0.m hk ht hw hl) okX10_owes viX10_owes mlRX10_164 ⟨Nat.le_of_ble_eq_true rfl, Nat.le_of_ble_eq_true rfl⟩ (by exact Nat.le_of_ble_eq_true rfl) rfl rfl mG0 (by exact Nat.le_of_ble_eq_true rfl) ?_
  refine x_istore (k := 50) rfl (by decide) ?_
  refine x_aload_n (k := 51) rfl rfl ?_
  refine m_getA (a := 1) (k := 52) rfl flRX10_7 rfl ?_
  refine x_iconst (v := 1) (k := 53) rfl (by decide) ?_
  refine x_dup2 (k := 54) rfl rfl rfl ?_
  refine m_nat (k := 55) rfl (show (1 : Int32) = nI 1 from rfl) (by first | assumption | omega) ?_
  refine x_iload (k := 56) rfl rfl ?_
  refine x_i2l (k := 57) rfl ?_
  refine x_lsub (k := 58) rfl ?_
  refine x_topL (y := (mRec V st).1 1 - lN q) (by rw [eq, nI_l (by omega)]) ?_
  refine m_nput (k := 59) rfl (show (1 : Int32) = nI 1 from rfl) (by first | assumption | omega) ?_
  have c1 := (c0.fund hqf).w (show _ = sLoA W k by rw [sLoA, eq])
  exact l_claim2 hk hk10 ha ea hh ho hw hna c1
theorem m_claim {G : xG} {s : xA} {m hr f nt nk : Nat} {W : Wd} {V : Vd} (hF : RF hr f nt nk W V.1) {st : Nat} (hs : V.2.2 0 2 = nI st) (hst : st ≤ 5) (hf31 : f ≤ 1000) (hK : ∀ k, k < nk → clG W f k) (n : Int32) : mMe G MX10_claim [.ref m, .int n] s m V (OutQ (sClF W n) (sFund W (ix n) + sHoP W (ix n) + sNaP W (ix n)) (fun V1 => ∃ q, q ≤ f ∧ sFund W (ix n) = nI q ∧ Ch (mRec V st) hr (f - q) nt nk (sLos W (ix n)) V1) V) := by
  refine x_aload_n (k := 0) rfl rfl ?_
  refine x_iload_n (k := 1) rfl rfl ?_
  refine m_callI (ci := 10) (k := 2) rfl (by rfl) (m_isParcel hF.m _) okX10_isParcel viX10_isParcel mlRX10_133 ⟨Nat.le_of_ble_eq_true rfl, Nat.le_of_ble_eq_true rfl⟩ (by exact Nat.le_of_ble_eq_true rfl) rfl rfl mG0 (by exact Nat.le_of_ble_eq_true rfl) ?_
  refine x_if_ne (tgt := 10) (k := 3) rfl (by decide) (fun c5 => ?_) (fun c5 => ?_)
  · replace c5 := bz_ne0 c5
    have e2 : sClF W n = if cvd W (ix n) ∧ ¬ W 3 0 0 - W 2 (ix n) 7 < 10 then 0 else -2 := if_neg (fun z => z c5)
    obtain ⟨k, hk, hk10, rfl⟩ := hF.m.kP c5
    have ek : ix (nI k) = k := clK hk10
    rw [ek] at e2
    rw [ek]
    obtain ⟨ht, hh, hw, hl, ⟨q, hqf, eq⟩, ho, hna, a, ha, ea⟩ := hK k hk
    refine x_aload_n (k := 6) rfl rfl ?_
    refine x_iload_n (k := 7) rfl rfl ?_
    refine x_iconst (v := 0) (k := 8) rfl (by decide) ?_
    refine m_callI (ci := 10) (k := 9) rfl (by rfl) (m_of hF.m (k := 0) hk (by decide)) okX10_of viX10_of mlRX10_84 ⟨Nat.le_of_ble_eq_true rfl, Nat.le_of_ble_eq_true rfl⟩ (by exact Nat.le_of_ble_eq_true rfl) rfl rfl mG0 (by exact Nat.le_of_ble_eq_true rfl) ?_
    rw [ea]
    refine x_istore_n (k := 10) rfl (by decide) ?_
    refine x_aload_n (k := 11) rfl rfl ?_
    refine x_iload_n (k := 12) rfl rfl ?_
    refine x_bipush (v := 6) (k := 13) rfl (by decide) ?_
    refine m_callI (ci := 10) (k := 14) rfl (by rfl) (m_of hF.m (k := 6) hk (by decide)) okX10_of viX10_of mlRX10_84 ⟨Nat.le_of_ble_eq_true rfl, Nat.le_of_ble_eq_true rfl⟩ (by exact Nat.le_of_ble_eq_true rfl) rfl rfl mG0 (by exact Nat.le_of_ble_eq_true rfl) ?_
    refine x_istore_n (k := 15) rfl (by decide) ?_
    refine x_aload_n (k := 16) rfl rfl ?_
    refine x_iload_n (k := 17) rfl rfl ?_
    refine x_iconst (v := 5) (k := 18) rfl (by decide) ?_
    refine m_callI (ci := 10) (k := 19) rfl (by rfl) (m_of hF.m (k := 5) hk (by decide)) okX10_of viX10_of mlRX10_84 ⟨Nat.le_of_ble_eq_true rfl, Nat.le_of_ble_eq_true rfl⟩ (by exact Nat.le_of_ble_eq_true rfl) rfl rfl mG0 (by exact Nat.le_of_ble_eq_true rfl) ?_
    refine x_if_ne (tgt := 56) (k := 20) rfl (by decide) (fun c31 => ?_) (fun c31 => ?_)
    · have e0 := e2.trans (if_neg (fun z => c31 z.1.1))
      refine x_bipush (v := -2) (k := 33) rfl (by decide) ?_
      exact m_irE (k := 34) rfl rfl rfl e0 (by decide)
    · refine x_iload_n (k := 21) rfl rfl ?_
      refine x_iload_n (k := 22) rfl rfl ?_
      refine x_icmp_eq (tgt := 56) (k := 23) rfl (by decide) (fun c36 => ?_) (fun c36 => ?_)
      · have e0 := e2.trans (if_neg (fun z => z.1.2 (c36.trans ea.symm)))
        refine x_bipush (v := -2) (k := 33) rfl (by decide) ?_
        exact m_irE (k := 34) rfl rfl rfl e0 (by decide)
      · refine x_aload_n (k := 24) rfl rfl ?_
        refine m_callI (ci := 10) (k := 25) rfl (by rfl) (m_hour hF.m) okX10_hour viX10_hour mlRX10_51 ⟨Nat.le_of_ble_eq_true rfl, Nat.le_of_ble_eq_true rfl⟩ (by exact Nat.le_of_ble_eq_true rfl) rfl rfl mG0 (by exact Nat.le_of_ble_eq_true rfl) ?_
        refine x_aload_n (k := 26) rfl rfl ?_
        refine x_iload_n (k := 27) rfl rfl ?_
        refine x_bipush (v := 7) (k := 28) rfl (by decide) ?_
        refine m_callI (ci := 10) (k := 29) rfl (by rfl) (m_of hF.m (k := 7) hk (by decide)) okX10_of viX10_of mlRX10_84 ⟨Nat.le_of_ble_eq_true rfl, Nat.le_of_ble_eq_true rfl⟩ (by exact Nat.le_of_ble_eq_true rfl) rfl rfl mG0 (by exact Nat.le_of_ble_eq_true rfl) ?_
        refine x_isub (k := 30) rfl ?_
        refine x_bipush (v := 10) (k := 31) rfl (by decide) ?_
        refine x_icmp_ge (tgt := 59) (k := 32) rfl (by decide) (fun c53 => ?_) (fun c53 => ?_)
        · have e0 := e2.trans (if_pos ⟨⟨c31, fun z => c36 (z.trans ea)⟩, by rw [hF.m.eH]; exact Int32.not_lt.mpr c53⟩)
          exact (l_claim1 hF hs hst hf31 hk hk10 ha ea ht hh hw hl hqf eq ho hna).mono (fun r V1 z => OutQ.s (by rw [e0]; decide) z.1 ⟨q, hqf, eq, z.2⟩)
        · have e0 := e2.trans (if_neg (fun z => z.2 (by rw [hF.m.eH]; exact Int32.not_le.mp c53)))
          refine x_bipush (v := -2) (k := 33) rfl (by decide) ?_
          exact m_irE (k := 34) rfl rfl rfl e0 (by decide)
  · replace c5 := bz_eq0 c5
    have e0 : sClF W n = -1 := if_pos c5
    refine x_iconst (v := -1) (k := 4) rfl (by decide) ?_
    exact m_irE (k := 5) rfl rfl rfl e0 (by decide)
theorem m_wouldF {G : xG} {s : xA} {m hr f nt nk : Nat} {W : Wd} {V : Vd} (hM : Rm hr f nt nk W V) {n q : Int32} (hq : ¬ kP W n ∨ ¬ wIn q 0 2) : mI G MX10_wouldClaim [.ref m, .int n, .int q] s m V (-1) V := by
  refine x_aload_n (k := 0) rfl rfl ?_
  refine x_iload_n (k := 1) rfl rfl ?_
  refine m_callI (ci := 10) (k := 2) rfl (by rfl) (m_isParcel hM _) okX10_isParcel viX10_isParcel mlRX10_133 ⟨Nat.le_of_ble_eq_true rfl, Nat.le_of_ble_eq_true rfl⟩ (by exact Nat.le_of_ble_eq_true rfl) rfl rfl mG0 (by exact Nat.le_of_ble_eq_true rfl) ?_
  refine x_if_eq (tgt := 20) (k := 3) rfl (by decide) (fun c5 => ?_) (fun c5 => ?_)
  · replace c5 := bz_eq0 c5
    refine x_iconst (v := -1) (k := 10) rfl (by decide) ?_
    exact m_irD (k := 11) rfl rfl rfl rfl rfl
  · replace c5 := bz_ne0 c5
    refine x_iload_n (k := 4) rfl rfl ?_
    refine x_i2l (k := 5) rfl ?_
    refine x_lconst (v := 0) (k := 6) rfl (by decide) ?_
    refine x_ldc2 (k := 7) rfl klRX10_94 ?_
    refine x_sD (k := 8) rfl (by rfl) (m_isIn _ _ _) okX10_isIn viX10_isIn mlRX10_38 ⟨Nat.le_of_ble_eq_true rfl, Nat.le_of_ble_eq_true rfl⟩ (by exact Nat.le_of_ble_eq_true rfl) rfl (by exact Nat.le_of_ble_eq_true rfl) ?_
    refine x_if_ne (tgt := 22) (k := 9) rfl (by decide) (fun c17 => hq.elim (fun z => absurd c5 z) (fun z => absurd ((w64 (n := q) (lo := 0) (hi := 2) (by decide) (by decide)).mp (bz_ne0 c17)) z)) (fun c17 => ?_)
    refine x_iconst (v := -1) (k := 10) rfl (by decide) ?_
    exact m_irD (k := 11) rfl rfl rfl rfl rfl
theorem m_wouldS {G : xG} {s : xA} {m hr f nt nk : Nat} {W : Wd} {V : Vd} (hM : Rm hr f nt nk W V) {k : Nat} (hk : k < nk) (hp : kP W (nI k)) {q : Nat} (hq : q < 3) (hs : ¬ cvd W k) : mI G MX10_wouldClaim [.ref m, .int (nI k), .int (nI q)] s m V (-2) V := by
  refine x_aload_n (k := 0) rfl rfl ?_
  refine x_iload_n (k := 1) rfl rfl ?_
  refine m_callI (ci := 10) (k := 2) rfl (by rfl) (m_isParcel hM _) okX10_isParcel viX10_isParcel mlRX10_133 ⟨Nat.le_of_ble_eq_true rfl, Nat.le_of_ble_eq_true rfl⟩ (by exact Nat.le_of_ble_eq_true rfl) rfl rfl mG0 (by exact Nat.le_of_ble_eq_true rfl) ?_
  refine x_if_eq (tgt := 20) (k := 3) rfl (by decide) (fun c5 => absurd hp (bz_eq0 c5)) (fun c5 => ?_)
  refine x_iload_n (k := 4) rfl rfl ?_
  refine x_i2l (k := 5) rfl ?_
  refine x_lconst (v := 0) (k := 6) rfl (by decide) ?_
  refine x_ldc2 (k := 7) rfl klRX10_94 ?_
  refine x_sD (k := 8) rfl (by rfl) (m_isIn _ _ _) okX10_isIn viX10_isIn mlRX10_38 ⟨Nat.le_of_ble_eq_true rfl, Nat.le_of_ble_eq_true rfl⟩ (by exact Nat.le_of_ble_eq_true rfl) rfl (by exact Nat.le_of_ble_eq_true rfl) ?_
  refine x_if_ne (tgt := 22) (k := 9) rfl (by decide) (fun c17 => ?_) (fun c17 => absurd (show wIn (nI q) 0 2 from ⟨nI_pos (by omega), nI_nlt (b := q) (a := 2) (by omega) (by omega)⟩) (fun z => bz_eq0 c17 ((w64 (n := nI q) (lo := 0) (hi := 2) (by decide) (by decide)).mpr z)))
  refine x_aload_n (k := 12) rfl rfl ?_
  refine x_iload_n (k := 13) rfl rfl ?_
  refine x_iconst (v := 5) (k := 14) rfl (by decide) ?_
  refine m_callI (ci := 10) (k := 15) rfl (by rfl) (m_of hM (k := 5) hk (by decide)) okX10_of viX10_of mlRX10_84 ⟨Nat.le_of_ble_eq_true rfl, Nat.le_of_ble_eq_true rfl⟩ (by exact Nat.le_of_ble_eq_true rfl) rfl rfl mG0 (by exact Nat.le_of_ble_eq_true rfl) ?_
  refine x_if_ne (tgt := 47) (k := 16) rfl (by decide) (fun c28 => ?_) (fun c28 => ?_)
  · refine x_bipush (v := -2) (k := 26) rfl (by decide) ?_
    exact m_irD (k := 27) rfl rfl rfl rfl rfl
  · refine x_aload_n (k := 17) rfl rfl ?_
    refine x_iload_n (k := 18) rfl rfl ?_
    refine x_bipush (v := 6) (k := 19) rfl (by decide) ?_
    refine m_callI (ci := 10) (k := 20) rfl (by rfl) (m_of hM (k := 6) hk (by decide)) okX10_of viX10_of mlRX10_84 ⟨Nat.le_of_ble_eq_true rfl, Nat.le_of_ble_eq_true rfl⟩ (by exact Nat.le_of_ble_eq_true rfl) rfl rfl mG0 (by exact Nat.le_of_ble_eq_true rfl) ?_
    refine x_aload_n (k := 21) rfl rfl ?_
    refine x_iload_n (k := 22) rfl rfl ?_
    refine x_iconst (v := 0) (k := 23) rfl (by decide) ?_
    refine m_callI (ci := 10) (k := 24) rfl (by rfl) (m_of hM (k := 0) hk (by decide)) okX10_of viX10_of mlRX10_84 ⟨Nat.le_of_ble_eq_true rfl, Nat.le_of_ble_eq_true rfl⟩ (by exact Nat.le_of_ble_eq_true rfl) rfl rfl mG0 (by exact Nat.le_of_ble_eq_true rfl) ?_
    refine x_icmp_ne (tgt := 50) (k := 25) rfl (by decide) (fun c44 => absurd ⟨c28, c44⟩ hs) (fun c44 => ?_)
    refine x_bipush (v := -2) (k := 26) rfl (by decide) ?_
    exact m_irD (k := 27) rfl rfl rfl rfl rfl
theorem m_would0 {G : xG} {s : xA} {m hr f nt nk : Nat} {W : Wd} {V : Vd} (hM : Rm hr f nt nk W V) {k : Nat} (hk : k < nk) (hp : kP W (nI k)) (hs : cvd W k) (hg : clG W f k) : mI G MX10_wouldClaim [.ref m, .int (nI k), .int 0] s m V (sFund W k) V := by
  refine x_aload_n (k := 0) rfl rfl ?_
  refine x_iload_n (k := 1) rfl rfl ?_
  refine m_callI (ci := 10) (k := 2) rfl (by rfl) (m_isParcel hM _) okX10_isParcel viX10_isParcel mlRX10_133 ⟨Nat.le_of_ble_eq_true rfl, Nat.le_of_ble_eq_true rfl⟩ (by exact Nat.le_of_ble_eq_true rfl) rfl rfl mG0 (by exact Nat.le_of_ble_eq_true rfl) ?_
  refine x_if_eq (tgt := 20) (k := 3) rfl (by decide) (fun c5 => absurd hp (bz_eq0 c5)) (fun c5 => ?_)
  refine x_iload_n (k := 4) rfl rfl ?_
  refine x_i2l (k := 5) rfl ?_
  refine x_lconst (v := 0) (k := 6) rfl (by decide) ?_
  refine x_ldc2 (k := 7) rfl klRX10_94 ?_
  refine x_sD (k := 8) rfl (by rfl) (m_isIn _ _ _) okX10_isIn viX10_isIn mlRX10_38 ⟨Nat.le_of_ble_eq_true rfl, Nat.le_of_ble_eq_true rfl⟩ (by exact Nat.le_of_ble_eq_true rfl) rfl (by exact Nat.le_of_ble_eq_true rfl) ?_
  refine x_if_ne (tgt := 22) (k := 9) rfl (by decide) (fun c17 => ?_) (fun c17 => absurd c17 (by decide))
  refine x_aload_n (k := 12) rfl rfl ?_
  refine x_iload_n (k := 13) rfl rfl ?_
  refine x_iconst (v := 5) (k := 14) rfl (by decide) ?_
  refine m_callI (ci := 10) (k := 15) rfl (by rfl) (m_of hM (k := 5) hk (by decide)) okX10_of viX10_of mlRX10_84 ⟨Nat.le_of_ble_eq_true rfl, Nat.le_of_ble_eq_true rfl⟩ (by exact Nat.le_of_ble_eq_true rfl) rfl rfl mG0 (by exact Nat.le_of_ble_eq_true rfl) ?_
  refine x_if_ne (tgt := 47) (k := 16) rfl (by decide) (fun c28 => absurd hs.1 c28) (fun c28 => ?_)
  refine x_aload_n (k := 17) rfl rfl ?_
  refine x_iload_n (k := 18) rfl rfl ?_
  refine x_bipush (v := 6) (k := 19) rfl (by decide) ?_
  refine m_callI (ci := 10) (k := 20) rfl (by rfl) (m_of hM (k := 6) hk (by decide)) okX10_of viX10_of mlRX10_84 ⟨Nat.le_of_ble_eq_true rfl, Nat.le_of_ble_eq_true rfl⟩ (by exact Nat.le_of_ble_eq_true rfl) rfl rfl mG0 (by exact Nat.le_of_ble_eq_true rfl) ?_
  refine x_aload_n (k := 21) rfl rfl ?_
  refine x_iload_n (k := 22) rfl rfl ?_
  refine x_iconst (v := 0) (k := 23) rfl (by decide) ?_
  refine m_callI (ci := 10) (k := 24) rfl (by rfl) (m_of hM (k := 0) hk (by decide)) okX10_of viX10_of mlRX10_84 ⟨Nat.le_of_ble_eq_true rfl, Nat.le_of_ble_eq_true rfl⟩ (by exact Nat.le_of_ble_eq_true rfl) rfl rfl mG0 (by exact Nat.le_of_ble_eq_true rfl) ?_
  refine x_icmp_ne (tgt := 50) (k := 25) rfl (by decide) (fun c44 => ?_) (fun c44 => absurd c44 hs.2)
  refine x_iload_n (k := 28) rfl rfl ?_
  refine x_if_ne (tgt := 62) (k := 29) rfl (by decide) (fun c51 => absurd rfl c51) (fun c51 => ?_)
  refine x_aload_n (k := 30) rfl rfl ?_
  refine x_iload_n (k := 31) rfl rfl ?_
  refine m_callI (ci := 10) (k := 32) rfl (by rfl) (m_fundPays hM hk hg.1) okX10_fundPays viX10_fundPays mlRX10_161 ⟨Nat.le_of_ble_eq_true rfl, Nat.le_of_ble_eq_true rfl⟩ (by exact Nat.le_of_ble_eq_true rfl) rfl rfl mG0 (by exact Nat.le_of_ble_eq_true rfl) ?_
  refine x_goto (tgt := 70) (k := 33) rfl (by decide) ?_
  exact m_irD (k := 40) rfl rfl rfl rfl rfl
theorem m_would1 {G : xG} {s : xA} {m hr f nt nk : Nat} {W : Wd} {V : Vd} (hM : Rm hr f nt nk W V) {k : Nat} (hk : k < nk) (hp : kP W (nI k)) (hs : cvd W k) (hg : clG W f k) : mI G MX10_wouldClaim [.ref m, .int (nI k), .int 1] s m V (sHoP W k) V := by
  refine x_aload_n (k := 0) rfl rfl ?_
  refine x_iload_n (k := 1) rfl rfl ?_
  refine m_callI (ci := 10) (k := 2) rfl (by rfl) (m_isParcel hM _) okX10_isParcel viX10_isParcel mlRX10_133 ⟨Nat.le_of_ble_eq_true rfl, Nat.le_of_ble_eq_true rfl⟩ (by exact Nat.le_of_ble_eq_true rfl) rfl rfl mG0 (by exact Nat.le_of_ble_eq_true rfl) ?_
  refine x_if_eq (tgt := 20) (k := 3) rfl (by decide) (fun c5 => absurd hp (bz_eq0 c5)) (fun c5 => ?_)
  refine x_iload_n (k := 4) rfl rfl ?_
  refine x_i2l (k := 5) rfl ?_
  refine x_lconst (v := 0) (k := 6) rfl (by decide) ?_
  refine x_ldc2 (k := 7) rfl klRX10_94 ?_
  refine x_sD (k := 8) rfl (by rfl) (m_isIn _ _ _) okX10_isIn viX10_isIn mlRX10_38 ⟨Nat.le_of_ble_eq_true rfl, Nat.le_of_ble_eq_true rfl⟩ (by exact Nat.le_of_ble_eq_true rfl) rfl (by exact Nat.le_of_ble_eq_true rfl) ?_
  refine x_if_ne (tgt := 22) (k := 9) rfl (by decide) (fun c17 => ?_) (fun c17 => absurd c17 (by decide))
  refine x_aload_n (k := 12) rfl rfl ?_
  refine x_iload_n (k := 13) rfl rfl ?_
  refine x_iconst (v := 5) (k := 14) rfl (by decide) ?_
  refine m_callI (ci := 10) (k := 15) rfl (by rfl) (m_of hM (k := 5) hk (by decide)) okX10_of viX10_of mlRX10_84 ⟨Nat.le_of_ble_eq_true rfl, Nat.le_of_ble_eq_true rfl⟩ (by exact Nat.le_of_ble_eq_true rfl) rfl rfl mG0 (by exact Nat.le_of_ble_eq_true rfl) ?_
  refine x_if_ne (tgt := 47) (k := 16) rfl (by decide) (fun c28 => absurd hs.1 c28) (fun c28 => ?_)
  refine x_aload_n (k := 17) rfl rfl ?_
  refine x_iload_n (k := 18) rfl rfl ?_
  refine x_bipush (v := 6) (k := 19) rfl (by decide) ?_
  refine m_callI (ci := 10) (k := 20) rfl (by rfl) (m_of hM (k := 6) hk (by decide)) okX10_of viX10_of mlRX10_84 ⟨Nat.le_of_ble_eq_true rfl, Nat.le_of_ble_eq_true rfl⟩ (by exact Nat.le_of_ble_eq_true rfl) rfl rfl mG0 (by exact Nat.le_of_ble_eq_true rfl) ?_
  refine x_aload_n (k := 21) rfl rfl ?_
  refine x_iload_n (k := 22) rfl rfl ?_
  refine x_iconst (v := 0) (k := 23) rfl (by decide) ?_
  refine m_callI (ci := 10) (k := 24) rfl (by rfl) (m_of hM (k := 0) hk (by decide)) okX10_of viX10_of mlRX10_84 ⟨Nat.le_of_ble_eq_true rfl, Nat.le_of_ble_eq_true rfl⟩ (by exact Nat.le_of_ble_eq_true rfl) rfl rfl mG0 (by exact Nat.le_of_ble_eq_true rfl) ?_
  refine x_icmp_ne (tgt := 50) (k := 25) rfl (by decide) (fun c44 => ?_) (fun c44 => absurd c44 hs.2)
  refine x_iload_n (k := 28) rfl rfl ?_
  refine x_if_ne (tgt := 62) (k := 29) rfl (by decide) (fun c51 => ?_) (fun c51 => absurd c51 (by decide))
  refine x_aload_n (k := 34) rfl rfl ?_
  refine x_iload_n (k := 35) rfl rfl ?_
  refine x_iload_n (k := 36) rfl rfl ?_
  refine x_iconst (v := 1) (k := 37) rfl (by decide) ?_
  refine x_isub (k := 38) rfl ?_
  refine m_callI (ci := 10) (k := 39) rfl (by rfl) (m_owes0 hM hk hg.1 hg.2.1) okX10_owes viX10_owes mlRX10_164 ⟨Nat.le_of_ble_eq_true rfl, Nat.le_of_ble_eq_true rfl⟩ (by exact Nat.le_of_ble_eq_true rfl) rfl rfl mG0 (by exact Nat.le_of_ble_eq_true rfl) ?_
  exact m_irD (k := 40) rfl rfl rfl rfl rfl
theorem m_would2 {G : xG} {s : xA} {m hr f nt nk : Nat} {W : Wd} {V : Vd} (hM : Rm hr f nt nk W V) {k : Nat} (hk : k < nk) (hp : kP W (nI k)) (hs : cvd W k) (hg : clG W f k) : mI G MX10_wouldClaim [.ref m, .int (nI k), .int 2] s m V (sNaP W k) V := by
  refine x_aload_n (k := 0) rfl rfl ?_
  refine x_iload_n (k := 1) rfl rfl ?_
  refine m_callI (ci := 10) (k := 2) rfl (by rfl) (m_isParcel hM _) okX10_isParcel viX10_isParcel mlRX10_133 ⟨Nat.le_of_ble_eq_true rfl, Nat.le_of_ble_eq_true rfl⟩ (by exact Nat.le_of_ble_eq_true rfl) rfl rfl mG0 (by exact Nat.le_of_ble_eq_true rfl) ?_
  refine x_if_eq (tgt := 20) (k := 3) rfl (by decide) (fun c5 => absurd hp (bz_eq0 c5)) (fun c5 => ?_)
  refine x_iload_n (k := 4) rfl rfl ?_
  refine x_i2l (k := 5) rfl ?_
  refine x_lconst (v := 0) (k := 6) rfl (by decide) ?_
  refine x_ldc2 (k := 7) rfl klRX10_94 ?_
  refine x_sD (k := 8) rfl (by rfl) (m_isIn _ _ _) okX10_isIn viX10_isIn mlRX10_38 ⟨Nat.le_of_ble_eq_true rfl, Nat.le_of_ble_eq_true rfl⟩ (by exact Nat.le_of_ble_eq_true rfl) rfl (by exact Nat.le_of_ble_eq_true rfl) ?_
  refine x_if_ne (tgt := 22) (k := 9) rfl (by decide) (fun c17 => ?_) (fun c17 => absurd c17 (by decide))
  refine x_aload_n (k := 12) rfl rfl ?_
  refine x_iload_n (k := 13) rfl rfl ?_
  refine x_iconst (v := 5) (k := 14) rfl (by decide) ?_
  refine m_callI (ci := 10) (k := 15) rfl (by rfl) (m_of hM (k := 5) hk (by decide)) okX10_of viX10_of mlRX10_84 ⟨Nat.le_of_ble_eq_true rfl, Nat.le_of_ble_eq_true rfl⟩ (by exact Nat.le_of_ble_eq_true rfl) rfl rfl mG0 (by exact Nat.le_of_ble_eq_true rfl) ?_
  refine x_if_ne (tgt := 47) (k := 16) rfl (by decide) (fun c28 => absurd hs.1 c28) (fun c28 => ?_)
  refine x_aload_n (k := 17) rfl rfl ?_
  refine x_iload_n (k := 18) rfl rfl ?_
  refine x_bipush (v := 6) (k := 19) rfl (by decide) ?_
  refine m_callI (ci := 10) (k := 20) rfl (by rfl) (m_of hM (k := 6) hk (by decide)) okX10_of viX10_of mlRX10_84 ⟨Nat.le_of_ble_eq_true rfl, Nat.le_of_ble_eq_true rfl⟩ (by exact Nat.le_of_ble_eq_true rfl) rfl rfl mG0 (by exact Nat.le_of_ble_eq_true rfl) ?_
  refine x_aload_n (k := 21) rfl rfl ?_
  refine x_iload_n (k := 22) rfl rfl ?_
  refine x_iconst (v := 0) (k := 23) rfl (by decide) ?_
  refine m_callI (ci := 10) (k := 24) rfl (by rfl) (m_of hM (k := 0) hk (by decide)) okX10_of viX10_of mlRX10_84 ⟨Nat.le_of_ble_eq_true rfl, Nat.le_of_ble_eq_true rfl⟩ (by exact Nat.le_of_ble_eq_true rfl) rfl rfl mG0 (by exact Nat.le_of_ble_eq_true rfl) ?_
  refine x_icmp_ne (tgt := 50) (k := 25) rfl (by decide) (fun c44 => ?_) (fun c44 => absurd c44 hs.2)
  refine x_iload_n (k := 28) rfl rfl ?_
  refine x_if_ne (tgt := 62) (k := 29) rfl (by decide) (fun c51 => ?_) (fun c51 => absurd c51 (by decide))
  refine x_aload_n (k := 34) rfl rfl ?_
  refine x_iload_n (k := 35) rfl rfl ?_
  refine x_iload_n (k := 36) rfl rfl ?_
  refine x_iconst (v := 1) (k := 37) rfl (by decide) ?_
  refine x_isub (k := 38) rfl ?_
  refine m_callI (ci := 10) (k := 39) rfl (by rfl) (m_owes1 hM hk hg.1 hg.2.2.1 hg.2.2.2.1) okX10_owes viX10_owes mlRX10_164 ⟨Nat.le_of_ble_eq_true rfl, Nat.le_of_ble_eq_true rfl⟩ (by exact Nat.le_of_ble_eq_true rfl) rfl rfl mG0 (by exact Nat.le_of_ble_eq_true rfl) ?_
  exact m_irD (k := 40) rfl rfl rfl rfl rfl
theorem m_tripF {G : xG} {s : xA} {m hr f nt nk : Nat} {W : Wd} {V : Vd} (hM : Rm hr f nt nk W V) {n q : Int32} (hq : ¬ tP W n ∨ ¬ wIn q 0 6) : mI G MX10_trip [.ref m, .int n, .int q] s m V (-1) V := by
  refine x_aload_n (k := 0) rfl rfl ?_
  refine x_iload_n (k := 1) rfl rfl ?_
  refine m_callI (ci := 10) (k := 2) rfl (by rfl) (m_isTrip hM _) okX10_isTrip viX10_isTrip mlRX10_79 ⟨Nat.le_of_ble_eq_true rfl, Nat.le_of_ble_eq_true rfl⟩ (by exact Nat.le_of_ble_eq_true rfl) rfl rfl mG0 (by exact Nat.le_of_ble_eq_true rfl) ?_
  refine x_if_eq (tgt := 29) (k := 3) rfl (by decide) (fun c5 => ?_) (fun c5 => ?_)
  · replace c5 := bz_eq0 c5
    refine x_iconst (v := -1) (k := 15) rfl (by decide) ?_
    exact m_irD (k := 16) rfl rfl rfl rfl rfl
  · replace c5 := bz_ne0 c5
    refine x_iload_n (k := 4) rfl rfl ?_
    refine x_i2l (k := 5) rfl ?_
    refine x_lconst (v := 0) (k := 6) rfl (by decide) ?_
    refine x_ldc2 (k := 7) rfl klRX10_200 ?_
    refine x_sD (k := 8) rfl (by rfl) (m_isIn _ _ _) okX10_isIn viX10_isIn mlRX10_38 ⟨Nat.le_of_ble_eq_true rfl, Nat.le_of_ble_eq_true rfl⟩ (by exact Nat.le_of_ble_eq_true rfl) rfl (by exact Nat.le_of_ble_eq_true rfl) ?_
    refine x_if_eq (tgt := 29) (k := 9) rfl (by decide) (fun c17 => ?_) (fun c17 => hq.elim (fun z => absurd c5 z) (fun z => absurd ((w64 (n := q) (lo := 0) (hi := 6) (by decide) (by decide)).mp (bz_ne0 c17)) z))
    refine x_iconst (v := -1) (k := 15) rfl (by decide) ?_
    exact m_irD (k := 16) rfl rfl rfl rfl rfl
theorem m_trip {G : xG} {s : xA} {m hr f nt nk : Nat} {W : Wd} {V : Vd} (hM : Rm hr f nt nk W V) {t q : Nat} (ht : t < nt) (hp : tP W (nI t)) (hq : q < 7) : mI G MX10_trip [.ref m, .int (nI t), .int (nI q)] s m V (W 1 t q) V := by
  refine x_aload_n (k := 0) rfl rfl ?_
  refine x_iload_n (k := 1) rfl rfl ?_
  refine m_callI (ci := 10) (k := 2) rfl (by rfl) (m_isTrip hM _) okX10_isTrip viX10_isTrip mlRX10_79 ⟨Nat.le_of_ble_eq_true rfl, Nat.le_of_ble_eq_true rfl⟩ (by exact Nat.le_of_ble_eq_true rfl) rfl rfl mG0 (by exact Nat.le_of_ble_eq_true rfl) ?_
  refine x_if_eq (tgt := 29) (k := 3) rfl (by decide) (fun c5 => absurd hp (bz_eq0 c5)) (fun c5 => ?_)
  refine x_iload_n (k := 4) rfl rfl ?_
  refine x_i2l (k := 5) rfl ?_
  refine x_lconst (v := 0) (k := 6) rfl (by decide) ?_
  refine x_ldc2 (k := 7) rfl klRX10_200 ?_
  refine x_sD (k := 8) rfl (by rfl) (m_isIn _ _ _) okX10_isIn viX10_isIn mlRX10_38 ⟨Nat.le_of_ble_eq_true rfl, Nat.le_of_ble_eq_true rfl⟩ (by exact Nat.le_of_ble_eq_true rfl) rfl (by exact Nat.le_of_ble_eq_true rfl) ?_
  refine x_if_eq (tgt := 29) (k := 9) rfl (by decide) (fun c17 => absurd (show wIn (nI q) 0 6 from ⟨nI_pos (by omega), nI_nlt (b := q) (a := 6) (by omega) (by omega)⟩) (fun z => bz_eq0 c17 ((w64 (n := nI q) (lo := 0) (hi := 6) (by decide) (by decide)).mpr z))) (fun c17 => ?_)
  refine x_aload_n (k := 10) rfl rfl ?_
  refine x_iload_n (k := 11) rfl rfl ?_
  refine x_iload_n (k := 12) rfl rfl ?_
  refine m_callI (ci := 10) (k := 13) rfl (by rfl) (m_ofT hM ht hq) okX10_ofT viX10_ofT mlRX10_55 ⟨Nat.le_of_ble_eq_true rfl, Nat.le_of_ble_eq_true rfl⟩ (by exact Nat.le_of_ble_eq_true rfl) rfl rfl mG0 (by exact Nat.le_of_ble_eq_true rfl) ?_
  refine x_goto (tgt := 30) (k := 14) rfl (by decide) ?_
  exact m_irD (k := 16) rfl rfl rfl rfl rfl
theorem m_personF {G : xG} {s : xA} {m hr f nt nk : Nat} {W : Wd} {V : Vd} (hM : Rm hr f nt nk W V) {n q : Int32} (hq : ¬ gP n ∨ ¬ wIn q 0 5) : mI G MX10_person [.ref m, .int n, .int q] s m V (-1) V := by
  refine x_iload_n (k := 0) rfl rfl ?_
  refine x_sD (k := 1) rfl (by rfl) (m_isPerson _) okX10_isPerson viX10_isPerson mlRX10_61 ⟨Nat.le_of_ble_eq_true rfl, Nat.le_of_ble_eq_true rfl⟩ (by exact Nat.le_of_ble_eq_true rfl) rfl (by exact Nat.le_of_ble_eq_true rfl) ?_
  refine x_if_eq (tgt := 19) (k := 2) rfl (by decide) (fun c4 => ?_) (fun c4 => ?_)
  · replace c4 := bz_eq0 c4
    refine x_iconst (v := -1) (k := 9) rfl (by decide) ?_
    exact m_irD (k := 10) rfl rfl rfl rfl rfl
  · replace c4 := bz_ne0 c4
    refine x_iload_n (k := 3) rfl rfl ?_
    refine x_i2l (k := 4) rfl ?_
    refine x_lconst (v := 0) (k := 5) rfl (by decide) ?_
    refine x_ldc2 (k := 6) rfl klRX10_42 ?_
    refine x_sD (k := 7) rfl (by rfl) (m_isIn _ _ _) okX10_isIn viX10_isIn mlRX10_38 ⟨Nat.le_of_ble_eq_true rfl, Nat.le_of_ble_eq_true rfl⟩ (by exact Nat.le_of_ble_eq_true rfl) rfl (by exact Nat.le_of_ble_eq_true rfl) ?_
    refine x_if_ne (tgt := 21) (k := 8) rfl (by decide) (fun c16 => hq.elim (fun z => absurd c4 z) (fun z => absurd ((w64 (n := q) (lo := 0) (hi := 5) (by decide) (by decide)).mp (bz_ne0 c16)) z)) (fun c16 => ?_)
    refine x_iconst (v := -1) (k := 9) rfl (by decide) ?_
    exact m_irD (k := 10) rfl rfl rfl rfl rfl
theorem m_person {G : xG} {s : xA} {m hr f nt nk : Nat} {W : Wd} {V : Vd} (hM : Rm hr f nt nk W V) {p q : Nat} (hp : p < 8) (hq : q < 6) : mI G MX10_person [.ref m, .int (nI p), .int (nI q)] s m V (sPer W p q) V := by
  refine x_iload_n (k := 0) rfl rfl ?_
  refine x_sD (k := 1) rfl (by rfl) (m_isPerson _) okX10_isPerson viX10_isPerson mlRX10_61 ⟨Nat.le_of_ble_eq_true rfl, Nat.le_of_ble_eq_true rfl⟩ (by exact Nat.le_of_ble_eq_true rfl) rfl (by exact Nat.le_of_ble_eq_true rfl) ?_
  refine x_if_eq (tgt := 19) (k := 2) rfl (by decide) (fun c4 => absurd (show gP (nI p) from ⟨nI_pos (by omega), nI_nlt (b := p) (a := 7) (by omega) (by omega)⟩) (bz_eq0 c4)) (fun c4 => ?_)
  refine x_iload_n (k := 3) rfl rfl ?_
  refine x_i2l (k := 4) rfl ?_
  refine x_lconst (v := 0) (k := 5) rfl (by decide) ?_
  refine x_ldc2 (k := 6) rfl klRX10_42 ?_
  refine x_sD (k := 7) rfl (by rfl) (m_isIn _ _ _) okX10_isIn viX10_isIn mlRX10_38 ⟨Nat.le_of_ble_eq_true rfl, Nat.le_of_ble_eq_true rfl⟩ (by exact Nat.le_of_ble_eq_true rfl) rfl (by exact Nat.le_of_ble_eq_true rfl) ?_
  refine x_if_ne (tgt := 21) (k := 8) rfl (by decide) (fun c16 => ?_) (fun c16 => absurd (show wIn (nI q) 0 5 from ⟨nI_pos (by omega), nI_nlt (b := q) (a := 5) (by omega) (by omega)⟩) (fun z => bz_eq0 c16 ((w64 (n := nI q) (lo := 0) (hi := 5) (by decide) (by decide)).mpr z)))
  refine x_iload_n (k := 11) rfl rfl ?_
  refine x_iconst (v := 4) (k := 12) rfl (by decide) ?_
  refine x_icmp_ge (tgt := 35) (k := 13) rfl (by decide) (fun c23 => ?_) (fun c23 => ?_)
  · have h4 : 4 ≤ q := (nI_leI (a := 4) (by decide) (by omega)).mp c23
    refine x_iload_n (k := 19) rfl rfl ?_
    refine x_iconst (v := 4) (k := 20) rfl (by decide) ?_
    refine x_icmp_ne (tgt := 48) (k := 21) rfl (by decide) (fun c37 => ?_) (fun c37 => ?_)
    · have e5 : q = 5 := by
        have : q ≠ 4 := fun z => c37 (by rw [z]; rfl)
        omega
      subst e5
      have e : W 0 p 4 = sPer W p 5 := rfl
      refine x_aload_n (k := 26) rfl rfl ?_
      refine x_iload_n (k := 27) rfl rfl ?_
      refine x_iconst (v := 4) (k := 28) rfl (by decide) ?_
      refine m_callI (ci := 10) (k := 29) rfl (by rfl) (m_ofP hM (k := 4) hp (by decide)) okX10_ofP viX10_ofP mlRX10_91 ⟨Nat.le_of_ble_eq_true rfl, Nat.le_of_ble_eq_true rfl⟩ (by exact Nat.le_of_ble_eq_true rfl) rfl rfl mG0 (by exact Nat.le_of_ble_eq_true rfl) ?_
      exact m_irD (k := 30) rfl rfl rfl e rfl
    · have e5 : q = 4 := (nI_eq (b := 4) (by omega) (by decide)).mp c37
      subst e5
      have e : sHeld W (nI p) = sPer W p 4 := rfl
      refine x_aload_n (k := 22) rfl rfl ?_
      refine x_iload_n (k := 23) rfl rfl ?_
      refine m_callI (ci := 10) (k := 24) rfl (by rfl) (m_heldBy hM _) okX10_heldBy viX10_heldBy mlRX10_114 ⟨Nat.le_of_ble_eq_true rfl, Nat.le_of_ble_eq_true rfl⟩ (by exact Nat.le_of_ble_eq_true rfl) rfl rfl mG0 (by exact Nat.le_of_ble_eq_true rfl) ?_
      refine x_goto (tgt := 54) (k := 25) rfl (by decide) ?_
      exact m_irD (k := 30) rfl rfl rfl e rfl
  · have h4 : q < 4 := by
      have := mt (nI_leI (a := 4) (by decide) (b := q) (by omega)).mpr c23
      omega
    have e : W 0 p q = sPer W p q := by rcases (by omega : q = 0 ∨ q = 1 ∨ q = 2 ∨ q = 3) with rfl | rfl | rfl | rfl <;> rfl
    refine x_aload_n (k := 14) rfl rfl ?_
    refine x_iload_n (k := 15) rfl rfl ?_
    refine x_iload_n (k := 16) rfl rfl ?_
    refine m_callI (ci := 10) (k := 17) rfl (by rfl) (m_ofP hM hp (by omega)) okX10_ofP viX10_ofP mlRX10_91 ⟨Nat.le_of_ble_eq_true rfl, Nat.le_of_ble_eq_true rfl⟩ (by exact Nat.le_of_ble_eq_true rfl) rfl rfl mG0 (by exact Nat.le_of_ble_eq_true rfl) ?_
    refine x_goto (tgt := 54) (k := 18) rfl (by decide) ?_
    exact m_irD (k := 30) rfl rfl rfl e rfl
theorem m_parcelF {G : xG} {s : xA} {m hr f nt nk : Nat} {W : Wd} {V : Vd} (hM : Rm hr f nt nk W V) {n q : Int32} (hq : ¬ kP W n ∨ ¬ wIn q 0 10) : mI G MX10_parcel [.ref m, .int n, .int q] s m V (-1) V := by
  refine x_aload_n (k := 0) rfl rfl ?_
  refine x_iload_n (k := 1) rfl rfl ?_
  refine m_callI (ci := 10) (k := 2) rfl (by rfl) (m_isParcel hM _) okX10_isParcel viX10_isParcel mlRX10_133 ⟨Nat.le_of_ble_eq_true rfl, Nat.le_of_ble_eq_true rfl⟩ (by exact Nat.le_of_ble_eq_true rfl) rfl rfl mG0 (by exact Nat.le_of_ble_eq_true rfl) ?_
  refine x_if_eq (tgt := 20) (k := 3) rfl (by decide) (fun c5 => ?_) (fun c5 => ?_)
  · replace c5 := bz_eq0 c5
    refine x_iconst (v := -1) (k := 10) rfl (by decide) ?_
    exact m_irD (k := 11) rfl rfl rfl rfl rfl
  · replace c5 := bz_ne0 c5
    refine x_iload_n (k := 4) rfl rfl ?_
    refine x_i2l (k := 5) rfl ?_
    refine x_lconst (v := 0) (k := 6) rfl (by decide) ?_
    refine x_ldc2 (k := 7) rfl klRX10_117 ?_
    refine x_sD (k := 8) rfl (by rfl) (m_isIn _ _ _) okX10_isIn viX10_isIn mlRX10_38 ⟨Nat.le_of_ble_eq_true rfl, Nat.le_of_ble_eq_true rfl⟩ (by exact Nat.le_of_ble_eq_true rfl) rfl (by exact Nat.le_of_ble_eq_true rfl) ?_
    refine x_if_ne (tgt := 22) (k := 9) rfl (by decide) (fun c17 => hq.elim (fun z => absurd c5 z) (fun z => absurd ((w64 (n := q) (lo := 0) (hi := 10) (by decide) (by decide)).mp (bz_ne0 c17)) z)) (fun c17 => ?_)
    refine x_iconst (v := -1) (k := 10) rfl (by decide) ?_
    exact m_irD (k := 11) rfl rfl rfl rfl rfl
theorem m_parcel {G : xG} {s : xA} {m hr f nt nk : Nat} {W : Wd} {V : Vd} (hM : Rm hr f nt nk W V) {k : Nat} (hk : k < nk) (hp : kP W (nI k)) (hh : W 2 k 6 < 10 → isP (W 2 k 6)) {q : Nat} (hq : q < 11) : mI G MX10_parcel [.ref m, .int (nI k), .int (nI q)] s m V (sPar W k q) V := by
  refine x_aload_n (k := 0) rfl rfl ?_
  refine x_iload_n (k := 1) rfl rfl ?_
  refine m_callI (ci := 10) (k := 2) rfl (by rfl) (m_isParcel hM _) okX10_isParcel viX10_isParcel mlRX10_133 ⟨Nat.le_of_ble_eq_true rfl, Nat.le_of_ble_eq_true rfl⟩ (by exact Nat.le_of_ble_eq_true rfl) rfl rfl mG0 (by exact Nat.le_of_ble_eq_true rfl) ?_
  refine x_if_eq (tgt := 20) (k := 3) rfl (by decide) (fun c5 => absurd hp (bz_eq0 c5)) (fun c5 => ?_)
  refine x_iload_n (k := 4) rfl rfl ?_
  refine x_i2l (k := 5) rfl ?_
  refine x_lconst (v := 0) (k := 6) rfl (by decide) ?_
  refine x_ldc2 (k := 7) rfl klRX10_117 ?_
  refine x_sD (k := 8) rfl (by rfl) (m_isIn _ _ _) okX10_isIn viX10_isIn mlRX10_38 ⟨Nat.le_of_ble_eq_true rfl, Nat.le_of_ble_eq_true rfl⟩ (by exact Nat.le_of_ble_eq_true rfl) rfl (by exact Nat.le_of_ble_eq_true rfl) ?_
  refine x_if_ne (tgt := 22) (k := 9) rfl (by decide) (fun c17 => ?_) (fun c17 => absurd (show wIn (nI q) 0 10 from ⟨nI_pos (by omega), nI_nlt (b := q) (a := 10) (by omega) (by omega)⟩) (fun z => bz_eq0 c17 ((w64 (n := nI q) (lo := 0) (hi := 10) (by decide) (by decide)).mpr z)))
  refine x_iload_n (k := 12) rfl rfl ?_
  refine x_bipush (v := 10) (k := 13) rfl (by decide) ?_
  refine x_icmp_ge (tgt := 35) (k := 14) rfl (by decide) (fun c25 => ?_) (fun c25 => ?_)
  · have h4 : q = 10 := by
      have := (nI_leI (a := 10) (by decide) (by omega)).mp c25
      omega
    subst h4
    refine x_aload_n (k := 20) rfl rfl ?_
    refine x_iload_n (k := 21) rfl rfl ?_
    refine x_iconst (v := 5) (k := 22) rfl (by decide) ?_
    refine m_callI (ci := 10) (k := 23) rfl (by rfl) (m_of hM (k := 5) hk (by decide)) okX10_of viX10_of mlRX10_84 ⟨Nat.le_of_ble_eq_true rfl, Nat.le_of_ble_eq_true rfl⟩ (by exact Nat.le_of_ble_eq_true rfl) rfl rfl mG0 (by exact Nat.le_of_ble_eq_true rfl) ?_
    refine x_if_ne (tgt := 52) (k := 24) rfl (by decide) (fun c41 => ?_) (fun c41 => ?_)
    · have e : sPar W k 10 = -9 := if_neg c41
      refine x_bipush (v := -9) (k := 29) rfl (by decide) ?_
      exact m_irD (k := 30) rfl rfl rfl e.symm rfl
    · have e : sPar W k 10 = sTown W (W 2 k 6) := if_pos c41
      refine x_aload_n (k := 25) rfl rfl ?_
      refine x_iload_n (k := 26) rfl rfl ?_
      refine m_callI (ci := 10) (k := 27) rfl (by rfl) (m_townOf hM hk hh) okX10_townOf viX10_townOf mlRX10_210 ⟨Nat.le_of_ble_eq_true rfl, Nat.le_of_ble_eq_true rfl⟩ (by exact Nat.le_of_ble_eq_true rfl) rfl rfl mG0 (by exact Nat.le_of_ble_eq_true rfl) ?_
      refine x_goto (tgt := 54) (k := 28) rfl (by decide) ?_
      exact m_irD (k := 30) rfl rfl rfl e.symm rfl
  · have h4 : q < 10 := by
      have := mt (nI_leI (a := 10) (by decide) (b := q) (by omega)).mpr c25
      omega
    have e : W 2 k q = sPar W k q := by rcases (by omega : q = 0 ∨ q = 1 ∨ q = 2 ∨ q = 3 ∨ q = 4 ∨ q = 5 ∨ q = 6 ∨ q = 7 ∨ q = 8 ∨ q = 9) with rfl | rfl | rfl | rfl | rfl | rfl | rfl | rfl | rfl | rfl <;> rfl
    refine x_aload_n (k := 15) rfl rfl ?_
    refine x_iload_n (k := 16) rfl rfl ?_
    refine x_iload_n (k := 17) rfl rfl ?_
    refine m_callI (ci := 10) (k := 18) rfl (by rfl) (m_of hM hk h4) okX10_of viX10_of mlRX10_84 ⟨Nat.le_of_ble_eq_true rfl, Nat.le_of_ble_eq_true rfl⟩ (by exact Nat.le_of_ble_eq_true rfl) rfl rfl mG0 (by exact Nat.le_of_ble_eq_true rfl) ?_
    exact m_irD (k := 19) rfl rfl rfl e rfl
theorem m_holderAtF {G : xG} {s : xA} {m hr f nt nk : Nat} {W : Wd} {V : Vd} (hM : Rm hr f nt nk W V) {n q : Int32} (hq : ¬ kP W n ∨ ¬ wIn q 0 (W 3 0 0)) : mI G MX10_holderAt [.ref m, .int n, .int q] s m V (-1) V := by
  refine x_aload_n (k := 0) rfl rfl ?_
  refine x_iload_n (k := 1) rfl rfl ?_
  refine m_callI (ci := 10) (k := 2) rfl (by rfl) (m_isParcel hM _) okX10_isParcel viX10_isParcel mlRX10_133 ⟨Nat.le_of_ble_eq_true rfl, Nat.le_of_ble_eq_true rfl⟩ (by exact Nat.le_of_ble_eq_true rfl) rfl rfl mG0 (by exact Nat.le_of_ble_eq_true rfl) ?_
  refine x_if_eq (tgt := 22) (k := 3) rfl (by decide) (fun c5 => ?_) (fun c5 => ?_)
  · replace c5 := bz_eq0 c5
    refine x_iconst (v := -1) (k := 12) rfl (by decide) ?_
    exact m_irD (k := 13) rfl rfl rfl rfl rfl
  · replace c5 := bz_ne0 c5
    refine x_iload_n (k := 4) rfl rfl ?_
    refine x_i2l (k := 5) rfl ?_
    refine x_lconst (v := 0) (k := 6) rfl (by decide) ?_
    refine x_aload_n (k := 7) rfl rfl ?_
    refine m_callI (ci := 10) (k := 8) rfl (by rfl) (m_hour hM) okX10_hour viX10_hour mlRX10_51 ⟨Nat.le_of_ble_eq_true rfl, Nat.le_of_ble_eq_true rfl⟩ (by exact Nat.le_of_ble_eq_true rfl) rfl rfl mG0 (by exact Nat.le_of_ble_eq_true rfl) ?_
    refine x_i2l (k := 9) rfl ?_
    refine x_sD (k := 10) rfl (by rfl) (m_isIn _ _ _) okX10_isIn viX10_isIn mlRX10_38 ⟨Nat.le_of_ble_eq_true rfl, Nat.le_of_ble_eq_true rfl⟩ (by exact Nat.le_of_ble_eq_true rfl) rfl (by exact Nat.le_of_ble_eq_true rfl) ?_
    refine x_if_ne (tgt := 24) (k := 11) rfl (by decide) (fun c19 => hq.elim (fun z => absurd c5 z) (fun z => absurd ((w64 (n := q) (lo := 0) (hi := nI hr) (by decide) rfl).mp (bz_ne0 c19)) (by rw [← hM.eH]; exact z))) (fun c19 => ?_)
    refine x_iconst (v := -1) (k := 12) rfl (by decide) ?_
    exact m_irD (k := 13) rfl rfl rfl rfl rfl
theorem m_holderAt {G : xG} {s : xA} {m hr f nt nk : Nat} {W : Wd} {V : Vd} (hF : RF hr f nt nk W V.1) (h5 : hr ≤ 500) {k : Nat} (hk : k < nk) (hp : kP W (nI k)) {h : Nat} (hh : h ≤ hr) : mI G MX10_holderAt [.ref m, .int (nI k), .int (nI h)] s m V (luTo W (nI k) (nI h) (ix (W 4 0 0))) V := by
  have hb := hF.m.2
  obtain ⟨-, -, po, a1, a2, a3⟩ := hF.2.2 k hk
  have a4 := a3 h hh
  refine x_aload_n (k := 0) rfl rfl ?_
  refine x_iload_n (k := 1) rfl rfl ?_
  refine m_callI (ci := 10) (k := 2) rfl (by rfl) (m_isParcel hF.m _) okX10_isParcel viX10_isParcel mlRX10_133 ⟨Nat.le_of_ble_eq_true rfl, Nat.le_of_ble_eq_true rfl⟩ (by exact Nat.le_of_ble_eq_true rfl) rfl rfl mG0 (by exact Nat.le_of_ble_eq_true rfl) ?_
  refine x_if_eq (tgt := 22) (k := 3) rfl (by decide) (fun c5 => absurd hp (bz_eq0 c5)) (fun c5 => ?_)
  refine x_iload_n (k := 4) rfl rfl ?_
  refine x_i2l (k := 5) rfl ?_
  refine x_lconst (v := 0) (k := 6) rfl (by decide) ?_
  refine x_aload_n (k := 7) rfl rfl ?_
  refine m_callI (ci := 10) (k := 8) rfl (by rfl) (m_hour hF.m) okX10_hour viX10_hour mlRX10_51 ⟨Nat.le_of_ble_eq_true rfl, Nat.le_of_ble_eq_true rfl⟩ (by exact Nat.le_of_ble_eq_true rfl) rfl rfl mG0 (by exact Nat.le_of_ble_eq_true rfl) ?_
  refine x_i2l (k := 9) rfl ?_
  refine x_sD (k := 10) rfl (by rfl) (m_isIn _ _ _) okX10_isIn viX10_isIn mlRX10_38 ⟨Nat.le_of_ble_eq_true rfl, Nat.le_of_ble_eq_true rfl⟩ (by exact Nat.le_of_ble_eq_true rfl) rfl (by exact Nat.le_of_ble_eq_true rfl) ?_
  refine x_if_ne (tgt := 24) (k := 11) rfl (by decide) (fun c19 => ?_) (fun c19 => absurd (show wIn (nI h) 0 (nI hr) from ⟨nI_pos (by omega), nI_nlt hh (by omega)⟩) (fun z => bz_eq0 c19 ((w64 (n := nI h) (lo := 0) (hi := nI hr) (by decide) rfl).mpr z)))
  refine x_iload_n (k := 14) rfl rfl ?_
  refine x_aload_n (k := 15) rfl rfl ?_
  refine x_iload_n (k := 16) rfl rfl ?_
  refine x_bipush (v := 10) (k := 17) rfl (by decide) ?_
  refine m_callI (ci := 10) (k := 18) rfl (by rfl) (m_of10 (by omega)) okX10_of viX10_of mlRX10_84 ⟨Nat.le_of_ble_eq_true rfl, Nat.le_of_ble_eq_true rfl⟩ (by exact Nat.le_of_ble_eq_true rfl) rfl rfl mG0 (by exact Nat.le_of_ble_eq_true rfl) ?_
  refine x_top (y := nI po) (by rw [a2, lN_i]) ?_
  refine x_icmp_ge (tgt := 40) (k := 19) rfl (by decide) (fun c32 => ?_) (fun c32 => ?_)
  · have b1 := a4.2 ((nI_leI (by omega) (by omega)).mp c32)
    refine x_aload_n (k := 22) rfl rfl ?_
    refine x_iload_n (k := 23) rfl rfl ?_
    refine x_iload_n (k := 24) rfl rfl ?_
    refine m_callI (ci := 10) (k := 25) rfl (by rfl) (m_stood (by omega) (by omega) b1.1 b1.2) okX10_stood viX10_stood mlRX10_213 ⟨Nat.le_of_ble_eq_true rfl, Nat.le_of_ble_eq_true rfl⟩ (by exact Nat.le_of_ble_eq_true rfl) rfl rfl mG0 (by exact Nat.le_of_ble_eq_true rfl) ?_
    exact m_irD (k := 26) rfl rfl rfl (by first | rfl | exact b1.symm) rfl
  · have b1 := a4.1 (by
      have := mt (nI_leI (a := po) (by omega) (b := h) (by omega)).mpr c32
      omega)
    refine x_bipush (v := -9) (k := 20) rfl (by decide) ?_
    refine x_goto (tgt := 46) (k := 21) rfl (by decide) ?_
    exact m_irD (k := 26) rfl rfl rfl (by first | rfl | exact b1.symm) rfl
theorem m_inLockerF {G : xG} {s : xA} {m hr f nt nk : Nat} {W : Wd} {V : Vd} (hM : Rm hr f nt nk W V) {n : Int32} (hq : ¬ gTn n) : mI G MX10_inLocker [.ref m, .int n] s m V (-1) V := by
  refine x_iload_n (k := 0) rfl rfl ?_
  refine x_sD (k := 1) rfl (by rfl) (m_isTown _) okX10_isTown viX10_isTown mlRX10_65 ⟨Nat.le_of_ble_eq_true rfl, Nat.le_of_ble_eq_true rfl⟩ (by exact Nat.le_of_ble_eq_true rfl) rfl (by exact Nat.le_of_ble_eq_true rfl) ?_
  refine x_if_eq (tgt := 18) (k := 2) rfl (by decide) (fun c4 => ?_) (fun c4 => absurd (bz_ne0 c4) hq)
  refine x_iconst (v := -1) (k := 9) rfl (by decide) ?_
  exact m_irD (k := 10) rfl rfl rfl rfl rfl
theorem m_inLocker {G : xG} {s : xA} {m hr f nt nk : Nat} {W : Wd} {V : Vd} (hM : Rm hr f nt nk W V) {n : Int32} (hq : gTn n) : mI G MX10_inLocker [.ref m, .int n] s m V (sHeld W (10 + n)) V := by
  refine x_iload_n (k := 0) rfl rfl ?_
  refine x_sD (k := 1) rfl (by rfl) (m_isTown _) okX10_isTown viX10_isTown mlRX10_65 ⟨Nat.le_of_ble_eq_true rfl, Nat.le_of_ble_eq_true rfl⟩ (by exact Nat.le_of_ble_eq_true rfl) rfl (by exact Nat.le_of_ble_eq_true rfl) ?_
  refine x_if_eq (tgt := 18) (k := 2) rfl (by decide) (fun c4 => absurd hq (bz_eq0 c4)) (fun c4 => ?_)
  refine x_aload_n (k := 3) rfl rfl ?_
  refine x_bipush (v := 10) (k := 4) rfl (by decide) ?_
  refine x_iload_n (k := 5) rfl rfl ?_
  refine x_iadd (k := 6) rfl ?_
  refine m_callI (ci := 10) (k := 7) rfl (by rfl) (m_heldBy hM _) okX10_heldBy viX10_heldBy mlRX10_114 ⟨Nat.le_of_ble_eq_true rfl, Nat.le_of_ble_eq_true rfl⟩ (by exact Nat.le_of_ble_eq_true rfl) rfl rfl mG0 (by exact Nat.le_of_ble_eq_true rfl) ?_
  refine x_goto (tgt := 19) (k := 8) rfl (by decide) ?_
  exact m_irD (k := 10) rfl rfl rfl rfl rfl
theorem wOut15 {q : Int32} (h : ¬ wIn q 0 15) : q.toInt < 0 ∨ 15 < q.toInt := by
  rcases Int.lt_or_le q.toInt 0 with z | z
  · exact Or.inl z
  · refine Or.inr (Int.lt_of_not_ge (fun y => h ⟨fun x => ?_, fun x => ?_⟩))
    · have := Int32.lt_iff_toInt_lt.mp x
      have e : (0 : Int32).toInt = 0 := by decide
      omega
    · have := Int32.lt_iff_toInt_lt.mp x
      have e : (15 : Int32).toInt = 15 := by decide
      omega
theorem m_countF {G : xG} {s : xA} {m hr f nt nk : Nat} {W : Wd} {V : Vd} (hM : Rm hr f nt nk W V) {q : Int32} (hq : ¬ wIn q 0 15) : mI G MX10_count [.ref m, .int q] s m V (-1) V := by
  refine x_iload_n (k := 0) rfl rfl ?_
  refine x_i2l (k := 1) rfl ?_
  refine x_ldc2 (k := 2) rfl klRX10_94 ?_
  refine x_ldc2 (k := 3) rfl klRX10_195 ?_
  refine x_sD (k := 4) rfl (by rfl) (m_isIn _ _ _) okX10_isIn viX10_isIn mlRX10_38 ⟨Nat.le_of_ble_eq_true rfl, Nat.le_of_ble_eq_true rfl⟩ (by exact Nat.le_of_ble_eq_true rfl) rfl (by exact Nat.le_of_ble_eq_true rfl) ?_
  refine x_if_eq (tgt := 22) (k := 5) rfl (by decide) (fun c11 => ?_) (fun c11 => absurd ((w64 (n := q) (lo := 2) (hi := 4) (by decide) (by decide)).mp (bz_ne0 c11)) (fun z => hq ⟨fun y => z.1 (Int32.lt_trans y (by decide)), fun y => z.2 (Int32.lt_trans (by decide) y)⟩))
  refine x_iload_n (k := 12) rfl rfl ?_
  refine x_i2l (k := 13) rfl ?_
  refine x_ldc2 (k := 14) rfl klRX10_200 ?_
  refine x_ldc2 (k := 15) rfl klRX10_202 ?_
  refine x_sD (k := 16) rfl (by rfl) (m_isIn _ _ _) okX10_isIn viX10_isIn mlRX10_38 ⟨Nat.le_of_ble_eq_true rfl, Nat.le_of_ble_eq_true rfl⟩ (by exact Nat.le_of_ble_eq_true rfl) rfl (by exact Nat.le_of_ble_eq_true rfl) ?_
  refine x_if_eq (tgt := 45) (k := 17) rfl (by decide) (fun c33 => ?_) (fun c33 => absurd ((w64 (n := q) (lo := 6) (hi := 8) (by decide) (by decide)).mp (bz_ne0 c33)) (fun z => hq ⟨fun y => z.1 (Int32.lt_trans y (by decide)), fun y => z.2 (Int32.lt_trans (by decide) y)⟩))
  refine x_iload_n (k := 24) rfl rfl ?_
  refine x_tableOut (tgt := 203) (k := 25) rfl (wOut15 hq) (by decide) ?_
  refine x_iconst (v := -1) (k := 79) rfl (by decide) ?_
  exact m_irD (k := 80) rfl rfl rfl rfl rfl
theorem m_count0 {G : xG} {s : xA} {m hr f nt nk : Nat} {W : Wd} {V : Vd} (hM : Rm hr f nt nk W V) : mI G MX10_count [.ref m, .int 0] s m V (sNum W 0) V := by
  refine x_iload_n (k := 0) rfl rfl ?_
  refine x_i2l (k := 1) rfl ?_
  refine x_ldc2 (k := 2) rfl klRX10_94 ?_
  refine x_ldc2 (k := 3) rfl klRX10_195 ?_
  refine x_sD (k := 4) rfl (by rfl) (m_isIn _ _ _) okX10_isIn viX10_isIn mlRX10_38 ⟨Nat.le_of_ble_eq_true rfl, Nat.le_of_ble_eq_true rfl⟩ (by exact Nat.le_of_ble_eq_true rfl) rfl (by exact Nat.le_of_ble_eq_true rfl) ?_
  refine x_if_eq (tgt := 22) (k := 5) rfl (by decide) (fun c11 => ?_) (fun c11 => absurd c11 (by decide))
  refine x_iload_n (k := 12) rfl rfl ?_
  refine x_i2l (k := 13) rfl ?_
  refine x_ldc2 (k := 14) rfl klRX10_200 ?_
  refine x_ldc2 (k := 15) rfl klRX10_202 ?_
  refine x_sD (k := 16) rfl (by rfl) (m_isIn _ _ _) okX10_isIn viX10_isIn mlRX10_38 ⟨Nat.le_of_ble_eq_true rfl, Nat.le_of_ble_eq_true rfl⟩ (by exact Nat.le_of_ble_eq_true rfl) rfl (by exact Nat.le_of_ble_eq_true rfl) ?_
  refine x_if_eq (tgt := 45) (k := 17) rfl (by decide) (fun c33 => ?_) (fun c33 => absurd c33 (by decide))
  refine x_iload_n (k := 24) rfl rfl ?_
  refine x_tableIn (tgt := 124) (k := 25) rfl (by decide) (by decide) rfl (by decide) ?_
  refine x_aload_n (k := 26) rfl rfl ?_
  refine m_callI (ci := 10) (k := 27) rfl (by rfl) (m_hour hM) okX10_hour viX10_hour mlRX10_51 ⟨Nat.le_of_ble_eq_true rfl, Nat.le_of_ble_eq_true rfl⟩ (by exact Nat.le_of_ble_eq_true rfl) rfl rfl mG0 (by exact Nat.le_of_ble_eq_true rfl) ?_
  exact m_irD (k := 28) rfl rfl rfl hM.eH.symm rfl
theorem m_count1 {G : xG} {s : xA} {m hr f nt nk : Nat} {W : Wd} {V : Vd} (hM : Rm hr f nt nk W V) : mI G MX10_count [.ref m, .int 1] s m V (sNum W 1) V := by
  refine x_iload_n (k := 0) rfl rfl ?_
  refine x_i2l (k := 1) rfl ?_
  refine x_ldc2 (k := 2) rfl klRX10_94 ?_
  refine x_ldc2 (k := 3) rfl klRX10_195 ?_
  refine x_sD (k := 4) rfl (by rfl) (m_isIn _ _ _) okX10_isIn viX10_isIn mlRX10_38 ⟨Nat.le_of_ble_eq_true rfl, Nat.le_of_ble_eq_true rfl⟩ (by exact Nat.le_of_ble_eq_true rfl) rfl (by exact Nat.le_of_ble_eq_true rfl) ?_
  refine x_if_eq (tgt := 22) (k := 5) rfl (by decide) (fun c11 => ?_) (fun c11 => absurd c11 (by decide))
  refine x_iload_n (k := 12) rfl rfl ?_
  refine x_i2l (k := 13) rfl ?_
  refine x_ldc2 (k := 14) rfl klRX10_200 ?_
  refine x_ldc2 (k := 15) rfl klRX10_202 ?_
  refine x_sD (k := 16) rfl (by rfl) (m_isIn _ _ _) okX10_isIn viX10_isIn mlRX10_38 ⟨Nat.le_of_ble_eq_true rfl, Nat.le_of_ble_eq_true rfl⟩ (by exact Nat.le_of_ble_eq_true rfl) rfl (by exact Nat.le_of_ble_eq_true rfl) ?_
  refine x_if_eq (tgt := 45) (k := 17) rfl (by decide) (fun c33 => ?_) (fun c33 => absurd c33 (by decide))
  refine x_iload_n (k := 24) rfl rfl ?_
  refine x_tableIn (tgt := 129) (k := 25) rfl (by decide) (by decide) rfl (by decide) ?_
  refine x_aload_n (k := 29) rfl rfl ?_
  refine m_getA (a := 1) (k := 30) rfl flRX10_7 rfl ?_
  refine x_iconst (v := 2) (k := 31) rfl (by decide) ?_
  refine m_nat (k := 32) rfl (show (2 : Int32) = nI 2 from rfl) (by first | assumption | omega) ?_
  refine x_l2i (k := 33) rfl ?_
  exact m_irD (k := 34) rfl rfl rfl (hM.O (k := 4) (by decide)) rfl
theorem m_count2 {G : xG} {s : xA} {m hr f nt nk : Nat} {W : Wd} {V : Vd} (hM : Rm hr f nt nk W V) : mI G MX10_count [.ref m, .int 2] s m V (sNum W 2) V := by
  refine x_iload_n (k := 0) rfl rfl ?_
  refine x_i2l (k := 1) rfl ?_
  refine x_ldc2 (k := 2) rfl klRX10_94 ?_
  refine x_ldc2 (k := 3) rfl klRX10_195 ?_
  refine x_sD (k := 4) rfl (by rfl) (m_isIn _ _ _) okX10_isIn viX10_isIn mlRX10_38 ⟨Nat.le_of_ble_eq_true rfl, Nat.le_of_ble_eq_true rfl⟩ (by exact Nat.le_of_ble_eq_true rfl) rfl (by exact Nat.le_of_ble_eq_true rfl) ?_
  refine x_if_eq (tgt := 22) (k := 5) rfl (by decide) (fun c11 => absurd c11 (by decide)) (fun c11 => ?_)
  refine x_aload_n (k := 6) rfl rfl ?_
  refine x_iload_n (k := 7) rfl rfl ?_
  refine x_iconst (v := 2) (k := 8) rfl (by decide) ?_
  refine x_isub (k := 9) rfl ?_
  refine x_top (y := 0) (by decide) ?_
  refine m_callI (ci := 10) (k := 10) rfl (by rfl) (m_tripsIn hM _) okX10_tripsIn viX10_tripsIn mlRX10_197 ⟨Nat.le_of_ble_eq_true rfl, Nat.le_of_ble_eq_true rfl⟩ (by exact Nat.le_of_ble_eq_true rfl) rfl rfl mG0 (by exact Nat.le_of_ble_eq_true rfl) ?_
  exact m_irD (k := 11) rfl rfl rfl (by rw [← hM.cT]; rfl) rfl
theorem m_count3 {G : xG} {s : xA} {m hr f nt nk : Nat} {W : Wd} {V : Vd} (hM : Rm hr f nt nk W V) : mI G MX10_count [.ref m, .int 3] s m V (sNum W 3) V := by
  refine x_iload_n (k := 0) rfl rfl ?_
  refine x_i2l (k := 1) rfl ?_
  refine x_ldc2 (k := 2) rfl klRX10_94 ?_
  refine x_ldc2 (k := 3) rfl klRX10_195 ?_
  refine x_sD (k := 4) rfl (by rfl) (m_isIn _ _ _) okX10_isIn viX10_isIn mlRX10_38 ⟨Nat.le_of_ble_eq_true rfl, Nat.le_of_ble_eq_true rfl⟩ (by exact Nat.le_of_ble_eq_true rfl) rfl (by exact Nat.le_of_ble_eq_true rfl) ?_
  refine x_if_eq (tgt := 22) (k := 5) rfl (by decide) (fun c11 => absurd c11 (by decide)) (fun c11 => ?_)
  refine x_aload_n (k := 6) rfl rfl ?_
  refine x_iload_n (k := 7) rfl rfl ?_
  refine x_iconst (v := 2) (k := 8) rfl (by decide) ?_
  refine x_isub (k := 9) rfl ?_
  refine x_top (y := 1) (by decide) ?_
  refine m_callI (ci := 10) (k := 10) rfl (by rfl) (m_tripsIn hM _) okX10_tripsIn viX10_tripsIn mlRX10_197 ⟨Nat.le_of_ble_eq_true rfl, Nat.le_of_ble_eq_true rfl⟩ (by exact Nat.le_of_ble_eq_true rfl) rfl rfl mG0 (by exact Nat.le_of_ble_eq_true rfl) ?_
  exact m_irD (k := 11) rfl rfl rfl (by rw [← hM.cT]; rfl) rfl
theorem m_count4 {G : xG} {s : xA} {m hr f nt nk : Nat} {W : Wd} {V : Vd} (hM : Rm hr f nt nk W V) : mI G MX10_count [.ref m, .int 4] s m V (sNum W 4) V := by
  refine x_iload_n (k := 0) rfl rfl ?_
  refine x_i2l (k := 1) rfl ?_
  refine x_ldc2 (k := 2) rfl klRX10_94 ?_
  refine x_ldc2 (k := 3) rfl klRX10_195 ?_
  refine x_sD (k := 4) rfl (by rfl) (m_isIn _ _ _) okX10_isIn viX10_isIn mlRX10_38 ⟨Nat.le_of_ble_eq_true rfl, Nat.le_of_ble_eq_true rfl⟩ (by exact Nat.le_of_ble_eq_true rfl) rfl (by exact Nat.le_of_ble_eq_true rfl) ?_
  refine x_if_eq (tgt := 22) (k := 5) rfl (by decide) (fun c11 => absurd c11 (by decide)) (fun c11 => ?_)
  refine x_aload_n (k := 6) rfl rfl ?_
  refine x_iload_n (k := 7) rfl rfl ?_
  refine x_iconst (v := 2) (k := 8) rfl (by decide) ?_
  refine x_isub (k := 9) rfl ?_
  refine x_top (y := 2) (by decide) ?_
  refine m_callI (ci := 10) (k := 10) rfl (by rfl) (m_tripsIn hM _) okX10_tripsIn viX10_tripsIn mlRX10_197 ⟨Nat.le_of_ble_eq_true rfl, Nat.le_of_ble_eq_true rfl⟩ (by exact Nat.le_of_ble_eq_true rfl) rfl rfl mG0 (by exact Nat.le_of_ble_eq_true rfl) ?_
  exact m_irD (k := 11) rfl rfl rfl (by rw [← hM.cT]; rfl) rfl
theorem m_count5 {G : xG} {s : xA} {m hr f nt nk : Nat} {W : Wd} {V : Vd} (hM : Rm hr f nt nk W V) : mI G MX10_count [.ref m, .int 5] s m V (sNum W 5) V := by
  refine x_iload_n (k := 0) rfl rfl ?_
  refine x_i2l (k := 1) rfl ?_
  refine x_ldc2 (k := 2) rfl klRX10_94 ?_
  refine x_ldc2 (k := 3) rfl klRX10_195 ?_
  refine x_sD (k := 4) rfl (by rfl) (m_isIn _ _ _) okX10_isIn viX10_isIn mlRX10_38 ⟨Nat.le_of_ble_eq_true rfl, Nat.le_of_ble_eq_true rfl⟩ (by exact Nat.le_of_ble_eq_true rfl) rfl (by exact Nat.le_of_ble_eq_true rfl) ?_
  refine x_if_eq (tgt := 22) (k := 5) rfl (by decide) (fun c11 => ?_) (fun c11 => absurd c11 (by decide))
  refine x_iload_n (k := 12) rfl rfl ?_
  refine x_i2l (k := 13) rfl ?_
  refine x_ldc2 (k := 14) rfl klRX10_200 ?_
  refine x_ldc2 (k := 15) rfl klRX10_202 ?_
  refine x_sD (k := 16) rfl (by rfl) (m_isIn _ _ _) okX10_isIn viX10_isIn mlRX10_38 ⟨Nat.le_of_ble_eq_true rfl, Nat.le_of_ble_eq_true rfl⟩ (by exact Nat.le_of_ble_eq_true rfl) rfl (by exact Nat.le_of_ble_eq_true rfl) ?_
  refine x_if_eq (tgt := 45) (k := 17) rfl (by decide) (fun c33 => ?_) (fun c33 => absurd c33 (by decide))
  refine x_iload_n (k := 24) rfl rfl ?_
  refine x_tableIn (tgt := 137) (k := 25) rfl (by decide) (by decide) rfl (by decide) ?_
  refine x_aload_n (k := 35) rfl rfl ?_
  refine m_getA (a := 1) (k := 36) rfl flRX10_7 rfl ?_
  refine x_iconst (v := 3) (k := 37) rfl (by decide) ?_
  refine m_nat (k := 38) rfl (show (3 : Int32) = nI 3 from rfl) (by first | assumption | omega) ?_
  refine x_l2i (k := 39) rfl ?_
  exact m_irD (k := 40) rfl rfl rfl (hM.O (k := 5) (by decide)) rfl
theorem m_count6 {G : xG} {s : xA} {m hr f nt nk : Nat} {W : Wd} {V : Vd} (hM : Rm hr f nt nk W V) : mI G MX10_count [.ref m, .int 6] s m V (sNum W 6) V := by
  refine x_iload_n (k := 0) rfl rfl ?_
  refine x_i2l (k := 1) rfl ?_
  refine x_ldc2 (k := 2) rfl klRX10_94 ?_
  refine x_ldc2 (k := 3) rfl klRX10_195 ?_
  refine x_sD (k := 4) rfl (by rfl) (m_isIn _ _ _) okX10_isIn viX10_isIn mlRX10_38 ⟨Nat.le_of_ble_eq_true rfl, Nat.le_of_ble_eq_true rfl⟩ (by exact Nat.le_of_ble_eq_true rfl) rfl (by exact Nat.le_of_ble_eq_true rfl) ?_
  refine x_if_eq (tgt := 22) (k := 5) rfl (by decide) (fun c11 => ?_) (fun c11 => absurd c11 (by decide))
  refine x_iload_n (k := 12) rfl rfl ?_
  refine x_i2l (k := 13) rfl ?_
  refine x_ldc2 (k := 14) rfl klRX10_200 ?_
  refine x_ldc2 (k := 15) rfl klRX10_202 ?_
  refine x_sD (k := 16) rfl (by rfl) (m_isIn _ _ _) okX10_isIn viX10_isIn mlRX10_38 ⟨Nat.le_of_ble_eq_true rfl, Nat.le_of_ble_eq_true rfl⟩ (by exact Nat.le_of_ble_eq_true rfl) rfl (by exact Nat.le_of_ble_eq_true rfl) ?_
  refine x_if_eq (tgt := 45) (k := 17) rfl (by decide) (fun c33 => absurd c33 (by decide)) (fun c33 => ?_)
  refine x_aload_n (k := 18) rfl rfl ?_
  refine x_iload_n (k := 19) rfl rfl ?_
  refine x_bipush (v := 6) (k := 20) rfl (by decide) ?_
  refine x_isub (k := 21) rfl ?_
  refine x_top (y := 0) (by decide) ?_
  refine m_callI (ci := 10) (k := 22) rfl (by rfl) (m_parcelsIn hM _) okX10_parcelsIn viX10_parcelsIn mlRX10_204 ⟨Nat.le_of_ble_eq_true rfl, Nat.le_of_ble_eq_true rfl⟩ (by exact Nat.le_of_ble_eq_true rfl) rfl rfl mG0 (by exact Nat.le_of_ble_eq_true rfl) ?_
  exact m_irD (k := 23) rfl rfl rfl (by rw [← hM.cK]; rfl) rfl
theorem m_count7 {G : xG} {s : xA} {m hr f nt nk : Nat} {W : Wd} {V : Vd} (hM : Rm hr f nt nk W V) : mI G MX10_count [.ref m, .int 7] s m V (sNum W 7) V := by
  refine x_iload_n (k := 0) rfl rfl ?_
  refine x_i2l (k := 1) rfl ?_
  refine x_ldc2 (k := 2) rfl klRX10_94 ?_
  refine x_ldc2 (k := 3) rfl klRX10_195 ?_
  refine x_sD (k := 4) rfl (by rfl) (m_isIn _ _ _) okX10_isIn viX10_isIn mlRX10_38 ⟨Nat.le_of_ble_eq_true rfl, Nat.le_of_ble_eq_true rfl⟩ (by exact Nat.le_of_ble_eq_true rfl) rfl (by exact Nat.le_of_ble_eq_true rfl) ?_
  refine x_if_eq (tgt := 22) (k := 5) rfl (by decide) (fun c11 => ?_) (fun c11 => absurd c11 (by decide))
  refine x_iload_n (k := 12) rfl rfl ?_
  refine x_i2l (k := 13) rfl ?_
  refine x_ldc2 (k := 14) rfl klRX10_200 ?_
  refine x_ldc2 (k := 15) rfl klRX10_202 ?_
  refine x_sD (k := 16) rfl (by rfl) (m_isIn _ _ _) okX10_isIn viX10_isIn mlRX10_38 ⟨Nat.le_of_ble_eq_true rfl, Nat.le_of_ble_eq_true rfl⟩ (by exact Nat.le_of_ble_eq_true rfl) rfl (by exact Nat.le_of_ble_eq_true rfl) ?_
  refine x_if_eq (tgt := 45) (k := 17) rfl (by decide) (fun c33 => absurd c33 (by decide)) (fun c33 => ?_)
  refine x_aload_n (k := 18) rfl rfl ?_
  refine x_iload_n (k := 19) rfl rfl ?_
  refine x_bipush (v := 6) (k := 20) rfl (by decide) ?_
  refine x_isub (k := 21) rfl ?_
  refine x_top (y := 1) (by decide) ?_
  refine m_callI (ci := 10) (k := 22) rfl (by rfl) (m_parcelsIn hM _) okX10_parcelsIn viX10_parcelsIn mlRX10_204 ⟨Nat.le_of_ble_eq_true rfl, Nat.le_of_ble_eq_true rfl⟩ (by exact Nat.le_of_ble_eq_true rfl) rfl rfl mG0 (by exact Nat.le_of_ble_eq_true rfl) ?_
  exact m_irD (k := 23) rfl rfl rfl (by rw [← hM.cK]; rfl) rfl
theorem m_count8 {G : xG} {s : xA} {m hr f nt nk : Nat} {W : Wd} {V : Vd} (hM : Rm hr f nt nk W V) : mI G MX10_count [.ref m, .int 8] s m V (sNum W 8) V := by
  refine x_iload_n (k := 0) rfl rfl ?_
  refine x_i2l (k := 1) rfl ?_
  refine x_ldc2 (k := 2) rfl klRX10_94 ?_
  refine x_ldc2 (k := 3) rfl klRX10_195 ?_
  refine x_sD (k := 4) rfl (by rfl) (m_isIn _ _ _) okX10_isIn viX10_isIn mlRX10_38 ⟨Nat.le_of_ble_eq_true rfl, Nat.le_of_ble_eq_true rfl⟩ (by exact Nat.le_of_ble_eq_true rfl) rfl (by exact Nat.le_of_ble_eq_true rfl) ?_
  refine x_if_eq (tgt := 22) (k := 5) rfl (by decide) (fun c11 => ?_) (fun c11 => absurd c11 (by decide))
  refine x_iload_n (k := 12) rfl rfl ?_
  refine x_i2l (k := 13) rfl ?_
  refine x_ldc2 (k := 14) rfl klRX10_200 ?_
  refine x_ldc2 (k := 15) rfl klRX10_202 ?_
  refine x_sD (k := 16) rfl (by rfl) (m_isIn _ _ _) okX10_isIn viX10_isIn mlRX10_38 ⟨Nat.le_of_ble_eq_true rfl, Nat.le_of_ble_eq_true rfl⟩ (by exact Nat.le_of_ble_eq_true rfl) rfl (by exact Nat.le_of_ble_eq_true rfl) ?_
  refine x_if_eq (tgt := 45) (k := 17) rfl (by decide) (fun c33 => absurd c33 (by decide)) (fun c33 => ?_)
  refine x_aload_n (k := 18) rfl rfl ?_
  refine x_iload_n (k := 19) rfl rfl ?_
  refine x_bipush (v := 6) (k := 20) rfl (by decide) ?_
  refine x_isub (k := 21) rfl ?_
  refine x_top (y := 2) (by decide) ?_
  refine m_callI (ci := 10) (k := 22) rfl (by rfl) (m_parcelsIn hM _) okX10_parcelsIn viX10_parcelsIn mlRX10_204 ⟨Nat.le_of_ble_eq_true rfl, Nat.le_of_ble_eq_true rfl⟩ (by exact Nat.le_of_ble_eq_true rfl) rfl rfl mG0 (by exact Nat.le_of_ble_eq_true rfl) ?_
  exact m_irD (k := 23) rfl rfl rfl (by rw [← hM.cK]; rfl) rfl
theorem m_count9 {G : xG} {s : xA} {m hr f nt nk : Nat} {W : Wd} {V : Vd} (hM : Rm hr f nt nk W V) : mI G MX10_count [.ref m, .int 9] s m V (sNum W 9) V := by
  refine x_iload_n (k := 0) rfl rfl ?_
  refine x_i2l (k := 1) rfl ?_
  refine x_ldc2 (k := 2) rfl klRX10_94 ?_
  refine x_ldc2 (k := 3) rfl klRX10_195 ?_
  refine x_sD (k := 4) rfl (by rfl) (m_isIn _ _ _) okX10_isIn viX10_isIn mlRX10_38 ⟨Nat.le_of_ble_eq_true rfl, Nat.le_of_ble_eq_true rfl⟩ (by exact Nat.le_of_ble_eq_true rfl) rfl (by exact Nat.le_of_ble_eq_true rfl) ?_
  refine x_if_eq (tgt := 22) (k := 5) rfl (by decide) (fun c11 => ?_) (fun c11 => absurd c11 (by decide))
  refine x_iload_n (k := 12) rfl rfl ?_
  refine x_i2l (k := 13) rfl ?_
  refine x_ldc2 (k := 14) rfl klRX10_200 ?_
  refine x_ldc2 (k := 15) rfl klRX10_202 ?_
  refine x_sD (k := 16) rfl (by rfl) (m_isIn _ _ _) okX10_isIn viX10_isIn mlRX10_38 ⟨Nat.le_of_ble_eq_true rfl, Nat.le_of_ble_eq_true rfl⟩ (by exact Nat.le_of_ble_eq_true rfl) rfl (by exact Nat.le_of_ble_eq_true rfl) ?_
  refine x_if_eq (tgt := 45) (k := 17) rfl (by decide) (fun c33 => ?_) (fun c33 => absurd c33 (by decide))
  refine x_iload_n (k := 24) rfl rfl ?_
  refine x_tableIn (tgt := 145) (k := 25) rfl (by decide) (by decide) rfl (by decide) ?_
  refine x_aload_n (k := 41) rfl rfl ?_
  refine m_getA (a := 1) (k := 42) rfl flRX10_7 rfl ?_
  refine x_iconst (v := 1) (k := 43) rfl (by decide) ?_
  refine m_nat (k := 44) rfl (show (1 : Int32) = nI 1 from rfl) (by first | assumption | omega) ?_
  refine x_l2i (k := 45) rfl ?_
  exact m_irD (k := 46) rfl rfl rfl (hM.O (k := 1) (by decide)) rfl
theorem m_count10 {G : xG} {s : xA} {m hr f nt nk : Nat} {W : Wd} {V : Vd} (hM : Rm hr f nt nk W V) : mI G MX10_count [.ref m, .int 10] s m V (sNum W 10) V := by
  refine x_iload_n (k := 0) rfl rfl ?_
  refine x_i2l (k := 1) rfl ?_
  refine x_ldc2 (k := 2) rfl klRX10_94 ?_
  refine x_ldc2 (k := 3) rfl klRX10_195 ?_
  refine x_sD (k := 4) rfl (by rfl) (m_isIn _ _ _) okX10_isIn viX10_isIn mlRX10_38 ⟨Nat.le_of_ble_eq_true rfl, Nat.le_of_ble_eq_true rfl⟩ (by exact Nat.le_of_ble_eq_true rfl) rfl (by exact Nat.le_of_ble_eq_true rfl) ?_
  refine x_if_eq (tgt := 22) (k := 5) rfl (by decide) (fun c11 => ?_) (fun c11 => absurd c11 (by decide))
  refine x_iload_n (k := 12) rfl rfl ?_
  refine x_i2l (k := 13) rfl ?_
  refine x_ldc2 (k := 14) rfl klRX10_200 ?_
  refine x_ldc2 (k := 15) rfl klRX10_202 ?_
  refine x_sD (k := 16) rfl (by rfl) (m_isIn _ _ _) okX10_isIn viX10_isIn mlRX10_38 ⟨Nat.le_of_ble_eq_true rfl, Nat.le_of_ble_eq_true rfl⟩ (by exact Nat.le_of_ble_eq_true rfl) rfl (by exact Nat.le_of_ble_eq_true rfl) ?_
  refine x_if_eq (tgt := 45) (k := 17) rfl (by decide) (fun c33 => ?_) (fun c33 => absurd c33 (by decide))
  refine x_iload_n (k := 24) rfl rfl ?_
  refine x_tableIn (tgt := 153) (k := 25) rfl (by decide) (by decide) rfl (by decide) ?_
  refine x_aload_n (k := 47) rfl rfl ?_
  refine m_callI (ci := 10) (k := 48) rfl (by rfl) (m_allCoins hM) okX10_allCoins viX10_allCoins mlRX10_207 ⟨Nat.le_of_ble_eq_true rfl, Nat.le_of_ble_eq_true rfl⟩ (by exact Nat.le_of_ble_eq_true rfl) rfl rfl mG0 (by exact Nat.le_of_ble_eq_true rfl) ?_
  exact m_irD (k := 49) rfl rfl rfl rfl rfl
theorem m_count11 {G : xG} {s : xA} {m hr f nt nk : Nat} {W : Wd} {V : Vd} (hM : Rm hr f nt nk W V) : mI G MX10_count [.ref m, .int 11] s m V (sNum W 11) V := by
  refine x_iload_n (k := 0) rfl rfl ?_
  refine x_i2l (k := 1) rfl ?_
  refine x_ldc2 (k := 2) rfl klRX10_94 ?_
  refine x_ldc2 (k := 3) rfl klRX10_195 ?_
  refine x_sD (k := 4) rfl (by rfl) (m_isIn _ _ _) okX10_isIn viX10_isIn mlRX10_38 ⟨Nat.le_of_ble_eq_true rfl, Nat.le_of_ble_eq_true rfl⟩ (by exact Nat.le_of_ble_eq_true rfl) rfl (by exact Nat.le_of_ble_eq_true rfl) ?_
  refine x_if_eq (tgt := 22) (k := 5) rfl (by decide) (fun c11 => ?_) (fun c11 => absurd c11 (by decide))
  refine x_iload_n (k := 12) rfl rfl ?_
  refine x_i2l (k := 13) rfl ?_
  refine x_ldc2 (k := 14) rfl klRX10_200 ?_
  refine x_ldc2 (k := 15) rfl klRX10_202 ?_
  refine x_sD (k := 16) rfl (by rfl) (m_isIn _ _ _) okX10_isIn viX10_isIn mlRX10_38 ⟨Nat.le_of_ble_eq_true rfl, Nat.le_of_ble_eq_true rfl⟩ (by exact Nat.le_of_ble_eq_true rfl) rfl (by exact Nat.le_of_ble_eq_true rfl) ?_
  refine x_if_eq (tgt := 45) (k := 17) rfl (by decide) (fun c33 => ?_) (fun c33 => absurd c33 (by decide))
  refine x_iload_n (k := 24) rfl rfl ?_
  refine x_tableIn (tgt := 158) (k := 25) rfl (by decide) (by decide) rfl (by decide) ?_
  refine x_aload_n (k := 50) rfl rfl ?_
  refine m_getA (a := 1) (k := 51) rfl flRX10_7 rfl ?_
  refine x_iconst (v := 4) (k := 52) rfl (by decide) ?_
  refine m_nat (k := 53) rfl (show (4 : Int32) = nI 4 from rfl) (by first | assumption | omega) ?_
  refine x_l2i (k := 54) rfl ?_
  exact m_irD (k := 55) rfl rfl rfl (hM.O (k := 2) (by decide)) rfl
theorem m_count12 {G : xG} {s : xA} {m hr f nt nk : Nat} {W : Wd} {V : Vd} (hM : Rm hr f nt nk W V) : mI G MX10_count [.ref m, .int 12] s m V (sNum W 12) V := by
  refine x_iload_n (k := 0) rfl rfl ?_
  refine x_i2l (k := 1) rfl ?_
  refine x_ldc2 (k := 2) rfl klRX10_94 ?_
  refine x_ldc2 (k := 3) rfl klRX10_195 ?_
  refine x_sD (k := 4) rfl (by rfl) (m_isIn _ _ _) okX10_isIn viX10_isIn mlRX10_38 ⟨Nat.le_of_ble_eq_true rfl, Nat.le_of_ble_eq_true rfl⟩ (by exact Nat.le_of_ble_eq_true rfl) rfl (by exact Nat.le_of_ble_eq_true rfl) ?_
  refine x_if_eq (tgt := 22) (k := 5) rfl (by decide) (fun c11 => ?_) (fun c11 => absurd c11 (by decide))
  refine x_iload_n (k := 12) rfl rfl ?_
  refine x_i2l (k := 13) rfl ?_
  refine x_ldc2 (k := 14) rfl klRX10_200 ?_
  refine x_ldc2 (k := 15) rfl klRX10_202 ?_
  refine x_sD (k := 16) rfl (by rfl) (m_isIn _ _ _) okX10_isIn viX10_isIn mlRX10_38 ⟨Nat.le_of_ble_eq_true rfl, Nat.le_of_ble_eq_true rfl⟩ (by exact Nat.le_of_ble_eq_true rfl) rfl (by exact Nat.le_of_ble_eq_true rfl) ?_
  refine x_if_eq (tgt := 45) (k := 17) rfl (by decide) (fun c33 => ?_) (fun c33 => absurd c33 (by decide))
  refine x_iload_n (k := 24) rfl rfl ?_
  refine x_tableIn (tgt := 166) (k := 25) rfl (by decide) (by decide) rfl (by decide) ?_
  refine x_aload_n (k := 56) rfl rfl ?_
  refine m_getA (a := 1) (k := 57) rfl flRX10_7 rfl ?_
  refine x_iconst (v := 5) (k := 58) rfl (by decide) ?_
  refine m_nat (k := 59) rfl (show (5 : Int32) = nI 5 from rfl) (by first | assumption | omega) ?_
  refine x_l2i (k := 60) rfl ?_
  exact m_irD (k := 61) rfl rfl rfl (hM.O (k := 3) (by decide)) rfl
theorem m_count13 {G : xG} {s : xA} {m hr f nt nk : Nat} {W : Wd} {V : Vd} (hM : Rm hr f nt nk W V) : mI G MX10_count [.ref m, .int 13] s m V ((V.1 588 + V.1 1177).toInt32) V := by
  refine x_iload_n (k := 0) rfl rfl ?_
  refine x_i2l (k := 1) rfl ?_
  refine x_ldc2 (k := 2) rfl klRX10_94 ?_
  refine x_ldc2 (k := 3) rfl klRX10_195 ?_
  refine x_sD (k := 4) rfl (by rfl) (m_isIn _ _ _) okX10_isIn viX10_isIn mlRX10_38 ⟨Nat.le_of_ble_eq_true rfl, Nat.le_of_ble_eq_true rfl⟩ (by exact Nat.le_of_ble_eq_true rfl) rfl (by exact Nat.le_of_ble_eq_true rfl) ?_
  refine x_if_eq (tgt := 22) (k := 5) rfl (by decide) (fun c11 => ?_) (fun c11 => absurd c11 (by decide))
  refine x_iload_n (k := 12) rfl rfl ?_
  refine x_i2l (k := 13) rfl ?_
  refine x_ldc2 (k := 14) rfl klRX10_200 ?_
  refine x_ldc2 (k := 15) rfl klRX10_202 ?_
  refine x_sD (k := 16) rfl (by rfl) (m_isIn _ _ _) okX10_isIn viX10_isIn mlRX10_38 ⟨Nat.le_of_ble_eq_true rfl, Nat.le_of_ble_eq_true rfl⟩ (by exact Nat.le_of_ble_eq_true rfl) rfl (by exact Nat.le_of_ble_eq_true rfl) ?_
  refine x_if_eq (tgt := 45) (k := 17) rfl (by decide) (fun c33 => ?_) (fun c33 => absurd c33 (by decide))
  refine x_iload_n (k := 24) rfl rfl ?_
  refine x_tableIn (tgt := 174) (k := 25) rfl (by decide) (by decide) rfl (by decide) ?_
  refine x_aload_n (k := 62) rfl rfl ?_
  refine m_getA (a := 1) (k := 63) rfl flRX10_7 rfl ?_
  refine x_sipush (v := 588) (k := 64) rfl (by decide) ?_
  refine m_nat (k := 65) rfl (show (588 : Int32) = nI 588 from rfl) (by first | assumption | omega) ?_
  refine x_aload_n (k := 66) rfl rfl ?_
  refine m_getA (a := 1) (k := 67) rfl flRX10_7 rfl ?_
  refine x_sipush (v := 1177) (k := 68) rfl (by decide) ?_
  refine m_nat (k := 69) rfl (show (1177 : Int32) = nI 1177 from rfl) (by first | assumption | omega) ?_
  refine x_ladd (k := 70) rfl ?_
  refine x_l2i (k := 71) rfl ?_
  exact m_irD (k := 72) rfl rfl rfl rfl rfl
theorem m_count14 {G : xG} {s : xA} {m hr f nt nk : Nat} {W : Wd} {V : Vd} (hM : Rm hr f nt nk W V) : mI G MX10_count [.ref m, .int 14] s m V (V.2.2 0 2) V := by
  refine x_iload_n (k := 0) rfl rfl ?_
  refine x_i2l (k := 1) rfl ?_
  refine x_ldc2 (k := 2) rfl klRX10_94 ?_
  refine x_ldc2 (k := 3) rfl klRX10_195 ?_
  refine x_sD (k := 4) rfl (by rfl) (m_isIn _ _ _) okX10_isIn viX10_isIn mlRX10_38 ⟨Nat.le_of_ble_eq_true rfl, Nat.le_of_ble_eq_true rfl⟩ (by exact Nat.le_of_ble_eq_true rfl) rfl (by exact Nat.le_of_ble_eq_true rfl) ?_
  refine x_if_eq (tgt := 22) (k := 5) rfl (by decide) (fun c11 => ?_) (fun c11 => absurd c11 (by decide))
  refine x_iload_n (k := 12) rfl rfl ?_
  refine x_i2l (k := 13) rfl ?_
  refine x_ldc2 (k := 14) rfl klRX10_200 ?_
  refine x_ldc2 (k := 15) rfl klRX10_202 ?_
  refine x_sD (k := 16) rfl (by rfl) (m_isIn _ _ _) okX10_isIn viX10_isIn mlRX10_38 ⟨Nat.le_of_ble_eq_true rfl, Nat.le_of_ble_eq_true rfl⟩ (by exact Nat.le_of_ble_eq_true rfl) rfl (by exact Nat.le_of_ble_eq_true rfl) ?_
  refine x_if_eq (tgt := 45) (k := 17) rfl (by decide) (fun c33 => ?_) (fun c33 => absurd c33 (by decide))
  refine x_iload_n (k := 24) rfl rfl ?_
  refine x_tableIn (tgt := 193) (k := 25) rfl (by decide) (by decide) rfl (by decide) ?_
  refine x_aload_n (k := 73) rfl rfl ?_
  refine m_get (k := 74) rfl flRX10_44 rfl ?_
  exact m_irD (k := 75) rfl rfl rfl rfl rfl
theorem m_count15 {G : xG} {s : xA} {m hr f nt nk : Nat} {W : Wd} {V : Vd} (hM : Rm hr f nt nk W V) : mI G MX10_count [.ref m, .int 15] s m V (V.2.2 0 4) V := by
  refine x_iload_n (k := 0) rfl rfl ?_
  refine x_i2l (k := 1) rfl ?_
  refine x_ldc2 (k := 2) rfl klRX10_94 ?_
  refine x_ldc2 (k := 3) rfl klRX10_195 ?_
  refine x_sD (k := 4) rfl (by rfl) (m_isIn _ _ _) okX10_isIn viX10_isIn mlRX10_38 ⟨Nat.le_of_ble_eq_true rfl, Nat.le_of_ble_eq_true rfl⟩ (by exact Nat.le_of_ble_eq_true rfl) rfl (by exact Nat.le_of_ble_eq_true rfl) ?_
  refine x_if_eq (tgt := 22) (k := 5) rfl (by decide) (fun c11 => ?_) (fun c11 => absurd c11 (by decide))
  refine x_iload_n (k := 12) rfl rfl ?_
  refine x_i2l (k := 13) rfl ?_
  refine x_ldc2 (k := 14) rfl klRX10_200 ?_
  refine x_ldc2 (k := 15) rfl klRX10_202 ?_
  refine x_sD (k := 16) rfl (by rfl) (m_isIn _ _ _) okX10_isIn viX10_isIn mlRX10_38 ⟨Nat.le_of_ble_eq_true rfl, Nat.le_of_ble_eq_true rfl⟩ (by exact Nat.le_of_ble_eq_true rfl) rfl (by exact Nat.le_of_ble_eq_true rfl) ?_
  refine x_if_eq (tgt := 45) (k := 17) rfl (by decide) (fun c33 => ?_) (fun c33 => absurd c33 (by decide))
  refine x_iload_n (k := 24) rfl rfl ?_
  refine x_tableIn (tgt := 198) (k := 25) rfl (by decide) (by decide) rfl (by decide) ?_
  refine x_aload_n (k := 76) rfl rfl ?_
  refine m_get (k := 77) rfl flRX10_169 rfl ?_
  exact m_irD (k := 78) rfl rfl rfl rfl rfl
