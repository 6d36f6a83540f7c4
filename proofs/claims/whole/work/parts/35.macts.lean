-- ===== the model: actions =====
/-- an action's end: its fault, all as it was; or its answer, and what it left -/
def OutQ (F v : Int32) (P : Vd → Prop) (V : Vd) : Option Value → Vd → Prop := fun r V' => (F < 0 → r = some (.int F) ∧ V' = V) ∧ (¬ F < 0 → r = some (.int v) ∧ P V')
theorem OutQ.s {F v : Int32} {P : Vd → Prop} {V V' : Vd} {r : Option Value} (h : ¬ F < 0) (hr : r = some (.int v)) (hP : P V') : OutQ F v P V r V' := ⟨fun z => absurd z h, fun _ => ⟨hr, hP⟩⟩
theorem mE.mono {G : xG} {M : xM} {pc : Nat} {ls : List (Nat × Value)} {st : List Value} {s : xA} {m : Nat} {V : Vd} {Q Q' : Option Value → Vd → Prop} (h : mE G M pc ls st s m V Q) (hq : ∀ r V', Q r V' → Q' r V') : mE G M pc ls st s m V Q' := xE.mono h (fun r s' ⟨V', e, q⟩ => ⟨V', e, hq r V' q⟩)
section MO
variable {G : xG} {M : xM} {pc : Nat} {ls : List (Nat × Value)} {s : xA} {m : Nat} {V V1 : Vd} {F v : Int32} {P : Vd → Prop}
theorem m_irE {k : Nat} {x : Int32} {ty : FieldType} (hk : (mIn M)[k]? = some (pc, .ireturn, 1)) (hr : mRt M = some ty) (hn : narrow ty (.int x) = .int x) (he : F = x) (h0 : x < 0) : mE G M pc ls [.int x] s m V (OutQ F v P V) := x_iret hk hr hn ⟨V, rfl, fun _ => ⟨by rw [he], rfl⟩, fun z => absurd (by rw [he]; exact h0) z⟩
theorem m_irS {k : Nat} {x : Int32} {ty : FieldType} (hk : (mIn M)[k]? = some (pc, .ireturn, 1)) (hr : mRt M = some ty) (hn : narrow ty (.int x) = .int x) (he : ¬ F < 0) (hv : x = v) (hP : P V1) : mE G M pc ls [.int x] s m V1 (OutQ F v P V) := x_iret hk hr hn ⟨V1, rfl, OutQ.s he (by rw [hv]) hP⟩
end MO
theorem n0z : ¬ (0 : Int32) < 0 := by decide
theorem sHoF_n {W : Wd} {g n t : Int32} (h : ¬ sHoF W g n t = 0) : sHoF W g n t < 0 := by
  unfold sHoF at h ⊢
  split
  · decide
  · rename_i z
    rw [if_neg z] at h
    split
    · rename_i y
      rw [if_pos y] at h
      exact absurd rfl h
    · decide
theorem sFeF_n {W : Wd} {p n : Int32} (h : ¬ sFeF W p n = 0) : sFeF W p n < 0 := by
  unfold sFeF at h ⊢
  split
  · decide
  · rename_i z
    rw [if_neg z] at h
    split
    · rename_i y
      rw [if_pos y] at h
      exact absurd rfl h
    · decide
theorem sPuF_n {W : Wd} {p n : Int32} (h : ¬ sPuF W p n = 0) : sPuF W p n < 0 := by
  unfold sPuF at h ⊢
  split
  · decide
  · rename_i z
    rw [if_neg z] at h
    split
    · decide
    · rename_i y
      rw [if_neg y] at h
      split
      · decide
      · rename_i x
        rw [if_neg x] at h
        exact absurd rfl h
-- a trip offered
def ofN (N : Nat → Int64) (nt : Nat) (v0 v1 v2 v3 v4 v5 : Int64) : Nat → Int64 := vp_updL (vp_updL (vp_updL (vp_updL (vp_updL (vp_updL (vp_updL (vp_updL N 2 (N 2 + 1)) (46 + 7 * nt + 0) v0) (46 + 7 * nt + 1) v1) (46 + 7 * nt + 2) v2) (46 + 7 * nt + 3) v3) (46 + 7 * nt + 4) v4) (46 + 7 * nt + 5) v5) (46 + 7 * nt + 6) 0
theorem offer_RF {hr f nt nk : Nat} {W : Wd} {N : Nat → Int64} {p a b i l e : Int32} (hF : RF hr f nt nk W N) (h16 : nt < 16) : RF hr f (nt + 1) nk (sAddT W p a b i l e) (ofN N nt p.toInt64 a.toInt64 b.toInt64 (W 3 0 0 + i).toInt64 (W 3 0 0 + i + l).toInt64 e.toInt64) := by
  have hc : cT W = nt := hF.1.cT
  obtain ⟨⟨⟨r1, r2, r3, r4, r5⟩, hb⟩, h2, h3⟩ := hF
  have hN : ∀ j, j ≠ 2 → (j < 46 + 7 * nt ∨ 46 + 7 * nt + 6 < j) → ofN N nt p.toInt64 a.toInt64 b.toInt64 (W 3 0 0 + i).toInt64 (W 3 0 0 + i + l).toInt64 e.toInt64 j = N j := fun j h h' => by
    unfold ofN
    rw [vp_upL_ne (by omega), vp_upL_ne (by omega), vp_upL_ne (by omega), vp_upL_ne (by omega), vp_upL_ne (by omega), vp_upL_ne (by omega), vp_upL_ne (by omega), vp_upL_ne h]
  have hN2 : ofN N nt p.toInt64 a.toInt64 b.toInt64 (W 3 0 0 + i).toInt64 (W 3 0 0 + i + l).toInt64 e.toInt64 2 = lN (nt + 1) := by
    unfold ofN
    rw [vp_upL_ne (by omega), vp_upL_ne (by omega), vp_upL_ne (by omega), vp_upL_ne (by omega), vp_upL_ne (by omega), vp_upL_ne (by omega), vp_upL_ne (by omega), vp_upL_at, show N 2 = lN nt from r4, lN_1]
  have hW : ∀ a' i' k', (a' ≠ 1 ∨ i' ≠ nt) → (a' ≠ 3 ∨ k' ≠ 4) → sAddT W p a b i l e a' i' k' = W a' i' k' := fun a' i' k' h h' => by
    simp only [sAddT, hc, wSet_r]
    rw [if_neg (by omega), if_neg (by omega), if_neg (by omega), if_neg (by omega), if_neg (by omega), if_neg (by omega), if_neg (by omega), if_neg (by omega)]
  have hW4 : sAddT W p a b i l e 3 0 4 = nI (nt + 1) := by
    rw [sAddT, wSet_same, ← nI_1]
    have := r1 3 0 4 (Or.inr (Or.inr (Or.inr ⟨rfl, rfl, by decide⟩)))
    rw [← this, ← lN_i, ← r4]
    rfl
  have e4 : sAddT W p a b i l e 4 0 0 = W 4 0 0 := hW 4 0 0 (Or.inl (by decide)) (Or.inl (by decide))
  have e5 : ∀ j, sAddT W p a b i l e 5 0 j = W 5 0 j := fun j => hW 5 0 j (Or.inl (by decide)) (Or.inl (by decide))
  refine ⟨⟨⟨fun a' i' k' hd => ?_, (hN 0 (by decide) (by omega)).trans r2, (hN 1 (by decide) (by omega)).trans r3, hN2, (hN 3 (by decide) (by omega)).trans r5⟩, hb.1, hb.2.1, by omega, hb.2.2.2⟩, h2.eq e4 (fun j _ => e5 j), fun k hk => (h3 k hk).eq (fun h _ => LU_eq e4 (fun j _ => e5 j) k h) (hW _ _ _ (Or.inl (by decide)) (Or.inl (by decide))) (hN _ (by omega) (by omega)) (fun h _ => hN _ (by unfold nbA; omega) (by unfold nbA; omega))⟩
  by_cases hn : a' = 1 ∧ i' = nt
  · obtain ⟨rfl, rfl⟩ := hn
    have hk7 : k' < 7 := by unfold dmn at hd; omega
    rcases (by omega : k' = 0 ∨ k' = 1 ∨ k' = 2 ∨ k' = 3 ∨ k' = 4 ∨ k' = 5 ∨ k' = 6) with rfl | rfl | rfl | rfl | rfl | rfl | rfl <;> simp [adr, ofN, sAddT, hc, vp_updL, wSet]
  · have hd' : dmn nt nk a' i' k' := by unfold dmn at hd ⊢; omega
    by_cases h4 : a' = 3 ∧ k' = 4
    · obtain ⟨rfl, rfl⟩ := h4
      have : i' = 0 := by unfold dmn at hd'; omega
      subst this
      exact (congrArg Int64.toInt32 hN2).trans ((lN_i _).trans hW4.symm)
    · rw [hW a' i' k' (by omega) (by omega), ← r1 a' i' k' hd']
      have h2' : adr a' i' k' ≠ 2 := fun z => h4 (by
        have := adr_inj (dmn_le hd' hb.2.2.1 hb.2.2.2) (show dmn 16 10 3 0 4 from Or.inr (Or.inr (Or.inr ⟨rfl, rfl, by decide⟩))) z
        exact ⟨this.1, this.2.2⟩)
      refine congrArg Int64.toInt32 (hN _ h2' ?_)
      rcases hd' with ⟨rfl, q1, q2⟩ | ⟨rfl, q1, q2⟩ | ⟨rfl, q1, q2⟩ | ⟨rfl, rfl, q2⟩
      · simp only [adr]; omega
      · simp only [adr]; omega
      · simp only [adr]; omega
      · rcases (by omega : k' = 0 ∨ k' = 1 ∨ k' = 2 ∨ k' = 3 ∨ k' = 4 ∨ k' = 5) with rfl | rfl | rfl | rfl | rfl | rfl <;> simp [adr] <;> omega
theorem l_offer2 {G : xG} {s : xA} {m hr f nt nk : Nat} {W : Wd} {V : Vd} (hF : RF hr f nt nk W V.1) {st : Nat} (hs : V.2.2 0 2 = nI st) (hst : st ≤ 5) {p a b i l e lv F : Int32} {j : Nat} (e4 : F = if 16 ≤ W 3 0 4 then -3 else 0) (hlv : lv = W 3 0 0 + i) : mE G MX10_offer 130 [(0, .ref m), (1, .int p), (2, .int a), (3, .int b), (4, .int i), (5, .int l), (6, .int e), (8, .int lv), (9, .int (nI j))] [] s m V (OutQ F (W 3 0 4) (Ch (mRec V st) hr f (nt + 1) nk (sAddT W p a b i l e)) V) := by
  have hb := hF.m.2
  subst hlv
  refine x_aload_n (k := 66) rfl rfl ?_
  refine m_getA (a := 1) (k := 67) rfl flRX10_7 rfl ?_
  refine x_iconst (v := 2) (k := 68) rfl (by decide) ?_
  refine m_nat (k := 69) rfl (show (2 : Int32) = nI 2 from rfl) (by first | assumption | omega) ?_
  refine x_ldc2 (k := 70) rfl klRX10_74 ?_
  refine x_lcmp (k := 71) rfl ?_
  refine x_if_ne (tgt := 146) (k := 72) rfl (by decide) (fun c140 => ?_) (fun c140 => ?_)
  · replace c140 := mt (lg_cmp_eq _ _).mpr c140
    have h16 : nt < 16 := by
      rcases Nat.lt_or_ge nt 16 with z | z
      · exact z
      · exact absurd (hF.m.1.2.2.2.1.trans (show lN nt = 16 by rw [show nt = 16 by omega]; rfl)) c140
    have e0 : F = 0 := e4.trans (if_neg (by rw [hF.m.eT]; exact nI_ge (b := 16) h16 (by decide)))
    refine x_aload_n (k := 75) rfl rfl ?_
    refine m_callV (ci := 10) (k := 76) rfl (by rfl) (m_records hs hst) okX10_records viX10_records mlRX10_48 ⟨Nat.le_of_ble_eq_true rfl, Nat.le_of_ble_eq_true rfl⟩ (by exact Nat.le_of_ble_eq_true rfl) rfl rfl mG0 (by exact Nat.le_of_ble_eq_true rfl) ?_
    have c0 : Ch (mRec V st) hr f nt nk W (mRec V st) := Chh.rf hF
    refine x_aload_n (k := 77) rfl rfl ?_
    refine m_getA (a := 1) (k := 78) rfl flRX10_7 rfl ?_
    refine x_iconst (v := 2) (k := 79) rfl (by decide) ?_
    refine m_nat (k := 80) rfl (show (2 : Int32) = nI 2 from rfl) (by first | assumption | omega) ?_
    refine x_l2i (k := 81) rfl ?_
    refine x_top (y := nI nt) (by show (V.1 2).toInt32 = nI nt; rw [hF.m.1.2.2.2.1, lN_i]) ?_
    refine x_istore (k := 82) rfl (by decide) ?_
    refine x_aload_n (k := 83) rfl rfl ?_
    refine m_getA (a := 1) (k := 84) rfl flRX10_7 rfl ?_
    refine x_iconst (v := 2) (k := 85) rfl (by decide) ?_
    refine x_dup2 (k := 86) rfl rfl rfl ?_
    refine m_nat (k := 87) rfl (show (2 : Int32) = nI 2 from rfl) (by first | assumption | omega) ?_
    refine x_lconst (v := 1) (k := 88) rfl (by decide) ?_
    refine x_ladd (k := 89) rfl ?_
    refine m_nput (k := 90) rfl (show (2 : Int32) = nI 2 from rfl) (by first | assumption | omega) ?_
    refine x_aload_n (k := 91) rfl rfl ?_
    refine x_iload (k := 92) rfl rfl ?_
    refine x_iconst (v := 0) (k := 93) rfl (by decide) ?_
    refine x_iload_n (k := 94) rfl rfl ?_
    refine x_i2l (k := 95) rfl ?_
    refine m_callV (ci := 10) (k := 96) rfl (by rfl) (m_setsT (p := nt) (k := 0) h16 (by decide) _) okX10_setsT viX10_setsT mlRX10_76 ⟨Nat.le_of_ble_eq_true rfl, Nat.le_of_ble_eq_true rfl⟩ (by exact Nat.le_of_ble_eq_true rfl) rfl rfl mG0 (by exact Nat.le_of_ble_eq_true rfl) ?_
    refine x_aload_n (k := 97) rfl rfl ?_
    refine x_iload (k := 98) rfl rfl ?_
    refine x_iconst (v := 1) (k := 99) rfl (by decide) ?_
    refine x_iload_n (k := 100) rfl rfl ?_
    refine x_i2l (k := 101) rfl ?_
    refine m_callV (ci := 10) (k := 102) rfl (by rfl) (m_setsT (p := nt) (k := 1) h16 (by decide) _) okX10_setsT viX10_setsT mlRX10_76 ⟨Nat.le_of_ble_eq_true rfl, Nat.le_of_ble_eq_true rfl⟩ (by exact Nat.le_of_ble_eq_true rfl) rfl rfl mG0 (by exact Nat.le_of_ble_eq_true rfl) ?_
    refine x_aload_n (k := 103) rfl rfl ?_
    refine x_iload (k := 104) rfl rfl ?_
    refine x_iconst (v := 2) (k := 105) rfl (by decide) ?_
    refine x_iload_n (k := 106) rfl rfl ?_
    refine x_i2l (k := 107) rfl ?_
    refine m_callV (ci := 10) (k := 108) rfl (by rfl) (m_setsT (p := nt) (k := 2) h16 (by decide) _) okX10_setsT viX10_setsT mlRX10_76 ⟨Nat.le_of_ble_eq_true rfl, Nat.le_of_ble_eq_true rfl⟩ (by exact Nat.le_of_ble_eq_true rfl) rfl rfl mG0 (by exact Nat.le_of_ble_eq_true rfl) ?_
    refine x_aload_n (k := 109) rfl rfl ?_
    refine x_iload (k := 110) rfl rfl ?_
    refine x_iconst (v := 3) (k := 111) rfl (by decide) ?_
    refine x_iload (k := 112) rfl rfl ?_
    refine x_i2l (k := 113) rfl ?_
    refine m_callV (ci := 10) (k := 114) rfl (by rfl) (m_setsT (p := nt) (k := 3) h16 (by decide) _) okX10_setsT viX10_setsT mlRX10_76 ⟨Nat.le_of_ble_eq_true rfl, Nat.le_of_ble_eq_true rfl⟩ (by exact Nat.le_of_ble_eq_true rfl) rfl rfl mG0 (by exact Nat.le_of_ble_eq_true rfl) ?_
    refine x_aload_n (k := 115) rfl rfl ?_
    refine x_iload (k := 116) rfl rfl ?_
    refine x_iconst (v := 4) (k := 117) rfl (by decide) ?_
    refine x_iload (k := 118) rfl rfl ?_
    refine x_iload (k := 119) rfl rfl ?_
    refine x_iadd (k := 120) rfl ?_
    refine x_i2l (k := 121) rfl ?_
    refine m_callV (ci := 10) (k := 122) rfl (by rfl) (m_setsT (p := nt) (k := 4) h16 (by decide) _) okX10_setsT viX10_setsT mlRX10_76 ⟨Nat.le_of_ble_eq_true rfl, Nat.le_of_ble_eq_true rfl⟩ (by exact Nat.le_of_ble_eq_true rfl) rfl rfl mG0 (by exact Nat.le_of_ble_eq_true rfl) ?_
    refine x_aload_n (k := 123) rfl rfl ?_
    refine x_iload (k := 124) rfl rfl ?_
    refine x_iconst (v := 5) (k := 125) rfl (by decide) ?_
    refine x_iload (k := 126) rfl rfl ?_
    refine x_i2l (k := 127) rfl ?_
    refine m_callV (ci := 10) (k := 128) rfl (by rfl) (m_setsT (p := nt) (k := 5) h16 (by decide) _) okX10_setsT viX10_setsT mlRX10_76 ⟨Nat.le_of_ble_eq_true rfl, Nat.le_of_ble_eq_true rfl⟩ (by exact Nat.le_of_ble_eq_true rfl) rfl rfl mG0 (by exact Nat.le_of_ble_eq_true rfl) ?_
    refine x_aload_n (k := 129) rfl rfl ?_
    refine x_iload (k := 130) rfl rfl ?_
    refine x_bipush (v := 6) (k := 131) rfl (by decide) ?_
    refine x_lconst (v := 0) (k := 132) rfl (by decide) ?_
    refine m_callV (ci := 10) (k := 133) rfl (by rfl) (m_setsT (p := nt) (k := 6) h16 (by decide) _) okX10_setsT viX10_setsT mlRX10_76 ⟨Nat.le_of_ble_eq_true rfl, Nat.le_of_ble_eq_true rfl⟩ (by exact Nat.le_of_ble_eq_true rfl) rfl rfl mG0 (by exact Nat.le_of_ble_eq_true rfl) ?_
    refine x_iload (k := 134) rfl rfl ?_
    exact m_irS (k := 135) rfl rfl rfl (by rw [e0]; decide) hF.m.eT.symm ⟨rfl, ge_no (ge_no (ge_no (ge_no (ge_no (ge_no (ge_no (ge_no (fun _ _ => rfl) (by omega)) (by omega)) (by omega)) (by omega)) (by omega)) (by omega)) (by omega)) (by omega), offer_RF hF h16⟩
  · replace c140 := (lg_cmp_eq _ _).mp c140
    have e0 : F = -3 := e4.trans (if_pos (by
      have : nt = 16 := (lN_eq (b := 16) (by omega) (by decide)).mp (hF.m.1.2.2.2.1.symm.trans c140)
      rw [hF.m.eT, this]
      decide))
    refine x_bipush (v := -3) (k := 73) rfl (by decide) ?_
    exact m_irE (k := 74) rfl rfl rfl e0 (by decide)
theorem l_offer1 {G : xG} {s : xA} {m hr f nt nk : Nat} {W : Wd} {V : Vd} (hF : RF hr f nt nk W V.1) {st : Nat} (hs : V.2.2 0 2 = nI st) (hst : st ≤ 5) {p a b i l e lv F : Int32} (e3 : F = if sOvl W p lv (lv + l) then -2 else if 16 ≤ W 3 0 4 then -3 else 0) (hlv : lv = W 3 0 0 + i) : ∀ (d j : Nat) (ls : List (Nat × Value)), nt - j < d → j ≤ nt → ovTo W p lv (lv + l) j = false → (∀ q ∈ [(0, .ref m), (1, .int p), (2, .int a), (3, .int b), (4, .int i), (5, .int l), (6, .int e), (8, .int lv), (9, .int (nI j))], ls.lookup q.1 = some q.2) → mE G MX10_offer 91 ls [] s m V (OutQ F (W 3 0 4) (Ch (mRec V st) hr f (nt + 1) nk (sAddT W p a b i l e)) V) := by
  have hb := hF.m.2
  have hc := hF.m.cT
  intro d
  induction d with
  | zero =>
    intro j ls hd hi hv g
    exact absurd hd (Nat.not_lt_zero _)
  | succ d ih =>
    intro j ls hd hi hv g
    refine x_sub (ls' := [(0, .ref m), (1, .int p), (2, .int a), (3, .int b), (4, .int i), (5, .int l), (6, .int e), (8, .int lv), (9, .int (nI j))]) g ?_
    refine x_iload (k := 45) rfl rfl ?_
    refine x_i2l (k := 46) rfl ?_
    refine x_aload_n (k := 47) rfl rfl ?_
    refine m_getA (a := 1) (k := 48) rfl flRX10_7 rfl ?_
    refine x_iconst (v := 2) (k := 49) rfl (by decide) ?_
    refine m_nat (k := 50) rfl (show (2 : Int32) = nI 2 from rfl) (by first | assumption | omega) ?_
    refine x_lcmp (k := 51) rfl ?_
    refine x_if_ge (tgt := 130) (k := 52) rfl (by decide) (fun c101 => ?_) (fun c101 => ?_)
    · replace c101 := (lg_cmp_ge _ _).mp c101
      have e0 : j = nt := by
        have := (lle hF.m.1.2.2.2.1 (by omega) (by omega)).mp c101
        omega
      rw [e0] at hv
      exact l_offer2 hF hs hst (e3.trans (if_neg (by rw [sOvl, hc, hv]; decide))) hlv
    · replace c101 := mt (lg_cmp_ge _ _).mpr c101
      have hin : j < nt := by
        have := mt (lle hF.m.1.2.2.2.1 (by omega) (by omega)).mpr c101
        omega
      refine x_aload_n (k := 53) rfl rfl ?_
      refine x_iload (k := 54) rfl rfl ?_
      refine x_iload_n (k := 55) rfl rfl ?_
      refine x_iload (k := 56) rfl rfl ?_
      refine x_iload (k := 57) rfl rfl ?_
      refine x_iload (k := 58) rfl rfl ?_
      refine x_iadd (k := 59) rfl ?_
      refine m_callI (ci := 10) (k := 60) rfl (by rfl) (m_overlaps hF.m hin _ _ _) okX10_overlaps viX10_overlaps mlRX10_70 ⟨Nat.le_of_ble_eq_true rfl, Nat.le_of_ble_eq_true rfl⟩ (by exact Nat.le_of_ble_eq_true rfl) rfl rfl mG0 (by exact Nat.le_of_ble_eq_true rfl) ?_
      refine x_if_eq (tgt := 124) (k := 61) rfl (by decide) (fun c118 => ?_) (fun c118 => ?_)
      · replace c118 := bz_eq0 c118
        refine x_iinc (k := 64) rfl rfl (nI_1 j) (by decide) ?_
        refine x_goto (tgt := 91) (k := 65) rfl (by decide) ?_
        exact ih (j + 1) _ (by omega) (by omega) (by rw [ovTo, hv, decide_eq_false (fun z => c118 ⟨z.2.1, z.1, z.2.2⟩)]; rfl) (by intro q hq; simp only [List.mem_cons, List.not_mem_nil, or_false] at hq; rcases hq with rfl | rfl | rfl | rfl | rfl | rfl | rfl | rfl | rfl <;> rfl)
      · replace c118 := bz_ne0 c118
        have e0 : F = -2 := e3.trans (if_pos (by rw [sOvl, hc]; exact ovTo_ex hin ⟨c118.2.1, c118.1, c118.2.2⟩))
        refine x_bipush (v := -2) (k := 62) rfl (by decide) ?_
        exact m_irE (k := 63) rfl rfl rfl e0 (by decide)
theorem m_offer {G : xG} {s : xA} {m hr f nt nk : Nat} {W : Wd} {V : Vd} (hF : RF hr f nt nk W V.1) {st : Nat} (hs : V.2.2 0 2 = nI st) (hst : st ≤ 5) (p a b i l e : Int32) : mMe G MX10_offer [.ref m, .int p, .int a, .int b, .int i, .int l, .int e] s m V (OutQ (sOfF W p a b i l e) (W 3 0 4) (Ch (mRec V st) hr f (nt + 1) nk (sAddT W p a b i l e)) V) := by
  refine x_iload (k := 0) rfl rfl ?_
  refine x_i2l (k := 1) rfl ?_
  refine x_lconst (v := 1) (k := 2) rfl (by decide) ?_
  refine x_ldc2 (k := 3) rfl klRX10_59 ?_
  refine x_sD (k := 4) rfl (by rfl) (m_isIn _ _ _) okX10_isIn viX10_isIn mlRX10_38 ⟨Nat.le_of_ble_eq_true rfl, Nat.le_of_ble_eq_true rfl⟩ (by exact Nat.le_of_ble_eq_true rfl) rfl (by exact Nat.le_of_ble_eq_true rfl) ?_
  refine x_if_eq (tgt := 30) (k := 5) rfl (by decide) (fun c10 => ?_) (fun c10 => ?_)
  · replace c10 := bz_eq0 c10
    have k10 : ¬ wIn i 1 50 := fun z => c10 ((w64 (n := i) (lo := 1) (hi := 50) (by decide) (by decide)).mpr z)
    refine x_iconst (v := 0) (k := 14) rfl (by decide) ?_
    refine x_istore (k := 15) rfl (by decide) ?_
    refine x_iload_n (k := 16) rfl rfl ?_
    refine x_sD (k := 17) rfl (by rfl) (m_isPerson _) okX10_isPerson viX10_isPerson mlRX10_61 ⟨Nat.le_of_ble_eq_true rfl, Nat.le_of_ble_eq_true rfl⟩ (by exact Nat.le_of_ble_eq_true rfl) rfl (by exact Nat.le_of_ble_eq_true rfl) ?_
    refine x_if_eq (tgt := 77) (k := 18) rfl (by decide) (fun c37 => ?_) (fun c37 => ?_)
    · replace c37 := bz_eq0 c37
      have e1 : sOfF W p a b i l e = -1 := if_pos (Or.inl c37)
      have e0 : sOfF W p a b i l e = -1 := by first | exact e1 | exact e2.trans (if_pos (Or.inl k10)) | exact e2.trans (if_pos (Or.inr (Or.inl k23))) | exact e2.trans (if_pos (Or.inr (Or.inr k74)))
      refine x_iconst (v := -1) (k := 36) rfl (by decide) ?_
      exact m_irE (k := 37) rfl rfl rfl e0 (by decide)
    · replace c37 := bz_ne0 c37
      refine x_iload_n (k := 19) rfl rfl ?_
      refine x_sD (k := 20) rfl (by rfl) (m_isTown _) okX10_isTown viX10_isTown mlRX10_65 ⟨Nat.le_of_ble_eq_true rfl, Nat.le_of_ble_eq_true rfl⟩ (by exact Nat.le_of_ble_eq_true rfl) rfl (by exact Nat.le_of_ble_eq_true rfl) ?_
      refine x_if_eq (tgt := 77) (k := 21) rfl (by decide) (fun c44 => ?_) (fun c44 => ?_)
      · replace c44 := bz_eq0 c44
        have e1 : sOfF W p a b i l e = -1 := if_pos (Or.inr (Or.inl c44))
        have e0 : sOfF W p a b i l e = -1 := by first | exact e1 | exact e2.trans (if_pos (Or.inl k10)) | exact e2.trans (if_pos (Or.inr (Or.inl k23))) | exact e2.trans (if_pos (Or.inr (Or.inr k74)))
        refine x_iconst (v := -1) (k := 36) rfl (by decide) ?_
        exact m_irE (k := 37) rfl rfl rfl e0 (by decide)
      · replace c44 := bz_ne0 c44
        refine x_iload_n (k := 22) rfl rfl ?_
        refine x_sD (k := 23) rfl (by rfl) (m_isTown _) okX10_isTown viX10_isTown mlRX10_65 ⟨Nat.le_of_ble_eq_true rfl, Nat.le_of_ble_eq_true rfl⟩ (by exact Nat.le_of_ble_eq_true rfl) rfl (by exact Nat.le_of_ble_eq_true rfl) ?_
        refine x_if_eq (tgt := 77) (k := 24) rfl (by decide) (fun c51 => ?_) (fun c51 => ?_)
        · replace c51 := bz_eq0 c51
          have e1 : sOfF W p a b i l e = -1 := if_pos (Or.inr (Or.inr (Or.inl c51)))
          have e0 : sOfF W p a b i l e = -1 := by first | exact e1 | exact e2.trans (if_pos (Or.inl k10)) | exact e2.trans (if_pos (Or.inr (Or.inl k23))) | exact e2.trans (if_pos (Or.inr (Or.inr k74)))
          refine x_iconst (v := -1) (k := 36) rfl (by decide) ?_
          exact m_irE (k := 37) rfl rfl rfl e0 (by decide)
        · replace c51 := bz_ne0 c51
          refine x_iload_n (k := 25) rfl rfl ?_
          refine x_iload_n (k := 26) rfl rfl ?_
          refine x_icmp_eq (tgt := 77) (k := 27) rfl (by decide) (fun c56 => ?_) (fun c56 => ?_)
          · have e1 : sOfF W p a b i l e = -1 := if_pos (Or.inr (Or.inr (Or.inr c56)))
            have e0 : sOfF W p a b i l e = -1 := by first | exact e1 | exact e2.trans (if_pos (Or.inl k10)) | exact e2.trans (if_pos (Or.inr (Or.inl k23))) | exact e2.trans (if_pos (Or.inr (Or.inr k74)))
            refine x_iconst (v := -1) (k := 36) rfl (by decide) ?_
            exact m_irE (k := 37) rfl rfl rfl e0 (by decide)
          · have e2 : sOfF W p a b i l e = if ¬ wIn i 1 50 ∨ ¬ wIn l 1 50 ∨ ¬ wIn e 0 99 then -1 else if sOvl W p (W 3 0 0 + i) (W 3 0 0 + i + l) then -2 else if 16 ≤ W 3 0 4 then -3 else 0 := if_neg (fun q => q.elim (fun z => z c37) (fun q => q.elim (fun z => z c44) (fun q => q.elim (fun z => z c51) c56)))
            refine x_iload (k := 28) rfl rfl ?_
            refine x_if_eq (tgt := 77) (k := 29) rfl (by decide) (fun c61 => ?_) (fun c61 => absurd c61 (by decide))
            have e0 : sOfF W p a b i l e = -1 := by first | exact e1 | exact e2.trans (if_pos (Or.inl k10)) | exact e2.trans (if_pos (Or.inr (Or.inl k23))) | exact e2.trans (if_pos (Or.inr (Or.inr k74)))
            refine x_iconst (v := -1) (k := 36) rfl (by decide) ?_
            exact m_irE (k := 37) rfl rfl rfl e0 (by decide)
  · replace c10 := bz_ne0 c10
    have k10 : wIn i 1 50 := (w64 (n := i) (lo := 1) (hi := 50) (by decide) (by decide)).mp c10
    refine x_iload (k := 6) rfl rfl ?_
    refine x_i2l (k := 7) rfl ?_
    refine x_lconst (v := 1) (k := 8) rfl (by decide) ?_
    refine x_ldc2 (k := 9) rfl klRX10_59 ?_
    refine x_sD (k := 10) rfl (by rfl) (m_isIn _ _ _) okX10_isIn viX10_isIn mlRX10_38 ⟨Nat.le_of_ble_eq_true rfl, Nat.le_of_ble_eq_true rfl⟩ (by exact Nat.le_of_ble_eq_true rfl) rfl (by exact Nat.le_of_ble_eq_true rfl) ?_
    refine x_if_eq (tgt := 30) (k := 11) rfl (by decide) (fun c23 => ?_) (fun c23 => ?_)
    · replace c23 := bz_eq0 c23
      have k23 : ¬ wIn l 1 50 := fun z => c23 ((w64 (n := l) (lo := 1) (hi := 50) (by decide) (by decide)).mpr z)
      refine x_iconst (v := 0) (k := 14) rfl (by decide) ?_
      refine x_istore (k := 15) rfl (by decide) ?_
      refine x_iload_n (k := 16) rfl rfl ?_
      refine x_sD (k := 17) rfl (by rfl) (m_isPerson _) okX10_isPerson viX10_isPerson mlRX10_61 ⟨Nat.le_of_ble_eq_true rfl, Nat.le_of_ble_eq_true rfl⟩ (by exact Nat.le_of_ble_eq_true rfl) rfl (by exact Nat.le_of_ble_eq_true rfl) ?_
      refine x_if_eq (tgt := 77) (k := 18) rfl (by decide) (fun c37 => ?_) (fun c37 => ?_)
      · replace c37 := bz_eq0 c37
        have e1 : sOfF W p a b i l e = -1 := if_pos (Or.inl c37)
        have e0 : sOfF W p a b i l e = -1 := by first | exact e1 | exact e2.trans (if_pos (Or.inl k10)) | exact e2.trans (if_pos (Or.inr (Or.inl k23))) | exact e2.trans (if_pos (Or.inr (Or.inr k74)))
        refine x_iconst (v := -1) (k := 36) rfl (by decide) ?_
        exact m_irE (k := 37) rfl rfl rfl e0 (by decide)
      · replace c37 := bz_ne0 c37
        refine x_iload_n (k := 19) rfl rfl ?_
        refine x_sD (k := 20) rfl (by rfl) (m_isTown _) okX10_isTown viX10_isTown mlRX10_65 ⟨Nat.le_of_ble_eq_true rfl, Nat.le_of_ble_eq_true rfl⟩ (by exact Nat.le_of_ble_eq_true rfl) rfl (by exact Nat.le_of_ble_eq_true rfl) ?_
        refine x_if_eq (tgt := 77) (k := 21) rfl (by decide) (fun c44 => ?_) (fun c44 => ?_)
        · replace c44 := bz_eq0 c44
          have e1 : sOfF W p a b i l e = -1 := if_pos (Or.inr (Or.inl c44))
          have e0 : sOfF W p a b i l e = -1 := by first | exact e1 | exact e2.trans (if_pos (Or.inl k10)) | exact e2.trans (if_pos (Or.inr (Or.inl k23))) | exact e2.trans (if_pos (Or.inr (Or.inr k74)))
          refine x_iconst (v := -1) (k := 36) rfl (by decide) ?_
          exact m_irE (k := 37) rfl rfl rfl e0 (by decide)
        · replace c44 := bz_ne0 c44
          refine x_iload_n (k := 22) rfl rfl ?_
          refine x_sD (k := 23) rfl (by rfl) (m_isTown _) okX10_isTown viX10_isTown mlRX10_65 ⟨Nat.le_of_ble_eq_true rfl, Nat.le_of_ble_eq_true rfl⟩ (by exact Nat.le_of_ble_eq_true rfl) rfl (by exact Nat.le_of_ble_eq_true rfl) ?_
          refine x_if_eq (tgt := 77) (k := 24) rfl (by decide) (fun c51 => ?_) (fun c51 => ?_)
          · replace c51 := bz_eq0 c51
            have e1 : sOfF W p a b i l e = -1 := if_pos (Or.inr (Or.inr (Or.inl c51)))
            have e0 : sOfF W p a b i l e = -1 := by first | exact e1 | exact e2.trans (if_pos (Or.inl k10)) | exact e2.trans (if_pos (Or.inr (Or.inl k23))) | exact e2.trans (if_pos (Or.inr (Or.inr k74)))
            refine x_iconst (v := -1) (k := 36) rfl (by decide) ?_
            exact m_irE (k := 37) rfl rfl rfl e0 (by decide)
          · replace c51 := bz_ne0 c51
            refine x_iload_n (k := 25) rfl rfl ?_
            refine x_iload_n (k := 26) rfl rfl ?_
            refine x_icmp_eq (tgt := 77) (k := 27) rfl (by decide) (fun c56 => ?_) (fun c56 => ?_)
            · have e1 : sOfF W p a b i l e = -1 := if_pos (Or.inr (Or.inr (Or.inr c56)))
              have e0 : sOfF W p a b i l e = -1 := by first | exact e1 | exact e2.trans (if_pos (Or.inl k10)) | exact e2.trans (if_pos (Or.inr (Or.inl k23))) | exact e2.trans (if_pos (Or.inr (Or.inr k74)))
              refine x_iconst (v := -1) (k := 36) rfl (by decide) ?_
              exact m_irE (k := 37) rfl rfl rfl e0 (by decide)
            · have e2 : sOfF W p a b i l e = if ¬ wIn i 1 50 ∨ ¬ wIn l 1 50 ∨ ¬ wIn e 0 99 then -1 else if sOvl W p (W 3 0 0 + i) (W 3 0 0 + i + l) then -2 else if 16 ≤ W 3 0 4 then -3 else 0 := if_neg (fun q => q.elim (fun z => z c37) (fun q => q.elim (fun z => z c44) (fun q => q.elim (fun z => z c51) c56)))
              refine x_iload (k := 28) rfl rfl ?_
              refine x_if_eq (tgt := 77) (k := 29) rfl (by decide) (fun c61 => ?_) (fun c61 => absurd c61 (by decide))
              have e0 : sOfF W p a b i l e = -1 := by first | exact e1 | exact e2.trans (if_pos (Or.inl k10)) | exact e2.trans (if_pos (Or.inr (Or.inl k23))) | exact e2.trans (if_pos (Or.inr (Or.inr k74)))
              refine x_iconst (v := -1) (k := 36) rfl (by decide) ?_
              exact m_irE (k := 37) rfl rfl rfl e0 (by decide)
    · replace c23 := bz_ne0 c23
      have k23 : wIn l 1 50 := (w64 (n := l) (lo := 1) (hi := 50) (by decide) (by decide)).mp c23
      refine x_iconst (v := 1) (k := 12) rfl (by decide) ?_
      refine x_goto (tgt := 31) (k := 13) rfl (by decide) ?_
      refine x_istore (k := 15) rfl (by decide) ?_
      refine x_iload_n (k := 16) rfl rfl ?_
      refine x_sD (k := 17) rfl (by rfl) (m_isPerson _) okX10_isPerson viX10_isPerson mlRX10_61 ⟨Nat.le_of_ble_eq_true rfl, Nat.le_of_ble_eq_true rfl⟩ (by exact Nat.le_of_ble_eq_true rfl) rfl (by exact Nat.le_of_ble_eq_true rfl) ?_
      refine x_if_eq (tgt := 77) (k := 18) rfl (by decide) (fun c37 => ?_) (fun c37 => ?_)
      · replace c37 := bz_eq0 c37
        have e1 : sOfF W p a b i l e = -1 := if_pos (Or.inl c37)
        have e0 : sOfF W p a b i l e = -1 := by first | exact e1 | exact e2.trans (if_pos (Or.inl k10)) | exact e2.trans (if_pos (Or.inr (Or.inl k23))) | exact e2.trans (if_pos (Or.inr (Or.inr k74)))
        refine x_iconst (v := -1) (k := 36) rfl (by decide) ?_
        exact m_irE (k := 37) rfl rfl rfl e0 (by decide)
      · replace c37 := bz_ne0 c37
        refine x_iload_n (k := 19) rfl rfl ?_
        refine x_sD (k := 20) rfl (by rfl) (m_isTown _) okX10_isTown viX10_isTown mlRX10_65 ⟨Nat.le_of_ble_eq_true rfl, Nat.le_of_ble_eq_true rfl⟩ (by exact Nat.le_of_ble_eq_true rfl) rfl (by exact Nat.le_of_ble_eq_true rfl) ?_
        refine x_if_eq (tgt := 77) (k := 21) rfl (by decide) (fun c44 => ?_) (fun c44 => ?_)
        · replace c44 := bz_eq0 c44
          have e1 : sOfF W p a b i l e = -1 := if_pos (Or.inr (Or.inl c44))
          have e0 : sOfF W p a b i l e = -1 := by first | exact e1 | exact e2.trans (if_pos (Or.inl k10)) | exact e2.trans (if_pos (Or.inr (Or.inl k23))) | exact e2.trans (if_pos (Or.inr (Or.inr k74)))
          refine x_iconst (v := -1) (k := 36) rfl (by decide) ?_
          exact m_irE (k := 37) rfl rfl rfl e0 (by decide)
        · replace c44 := bz_ne0 c44
          refine x_iload_n (k := 22) rfl rfl ?_
          refine x_sD (k := 23) rfl (by rfl) (m_isTown _) okX10_isTown viX10_isTown mlRX10_65 ⟨Nat.le_of_ble_eq_true rfl, Nat.le_of_ble_eq_true rfl⟩ (by exact Nat.le_of_ble_eq_true rfl) rfl (by exact Nat.le_of_ble_eq_true rfl) ?_
          refine x_if_eq (tgt := 77) (k := 24) rfl (by decide) (fun c51 => ?_) (fun c51 => ?_)
          · replace c51 := bz_eq0 c51
            have e1 : sOfF W p a b i l e = -1 := if_pos (Or.inr (Or.inr (Or.inl c51)))
            have e0 : sOfF W p a b i l e = -1 := by first | exact e1 | exact e2.trans (if_pos (Or.inl k10)) | exact e2.trans (if_pos (Or.inr (Or.inl k23))) | exact e2.trans (if_pos (Or.inr (Or.inr k74)))
            refine x_iconst (v := -1) (k := 36) rfl (by decide) ?_
            exact m_irE (k := 37) rfl rfl rfl e0 (by decide)
          · replace c51 := bz_ne0 c51
            refine x_iload_n (k := 25) rfl rfl ?_
            refine x_iload_n (k := 26) rfl rfl ?_
            refine x_icmp_eq (tgt := 77) (k := 27) rfl (by decide) (fun c56 => ?_) (fun c56 => ?_)
            · have e1 : sOfF W p a b i l e = -1 := if_pos (Or.inr (Or.inr (Or.inr c56)))
              have e0 : sOfF W p a b i l e = -1 := by first | exact e1 | exact e2.trans (if_pos (Or.inl k10)) | exact e2.trans (if_pos (Or.inr (Or.inl k23))) | exact e2.trans (if_pos (Or.inr (Or.inr k74)))
              refine x_iconst (v := -1) (k := 36) rfl (by decide) ?_
              exact m_irE (k := 37) rfl rfl rfl e0 (by decide)
            · have e2 : sOfF W p a b i l e = if ¬ wIn i 1 50 ∨ ¬ wIn l 1 50 ∨ ¬ wIn e 0 99 then -1 else if sOvl W p (W 3 0 0 + i) (W 3 0 0 + i + l) then -2 else if 16 ≤ W 3 0 4 then -3 else 0 := if_neg (fun q => q.elim (fun z => z c37) (fun q => q.elim (fun z => z c44) (fun q => q.elim (fun z => z c51) c56)))
              refine x_iload (k := 28) rfl rfl ?_
              refine x_if_eq (tgt := 77) (k := 29) rfl (by decide) (fun c61 => absurd c61 (by decide)) (fun c61 => ?_)
              refine x_iload (k := 30) rfl rfl ?_
              refine x_i2l (k := 31) rfl ?_
              refine x_lconst (v := 0) (k := 32) rfl (by decide) ?_
              refine x_ldc2 (k := 33) rfl klRX10_68 ?_
              refine x_sD (k := 34) rfl (by rfl) (m_isIn _ _ _) okX10_isIn viX10_isIn mlRX10_38 ⟨Nat.le_of_ble_eq_true rfl, Nat.le_of_ble_eq_true rfl⟩ (by exact Nat.le_of_ble_eq_true rfl) rfl (by exact Nat.le_of_ble_eq_true rfl) ?_
              refine x_if_ne (tgt := 79) (k := 35) rfl (by decide) (fun c74 => ?_) (fun c74 => ?_)
              · replace c74 := bz_ne0 c74
                have k74 : wIn e 0 99 := (w64 (n := e) (lo := 0) (hi := 99) (by decide) (by decide)).mp c74
                have e3 := e2.trans (if_neg (fun q => q.elim (fun z => z k10) (fun q => q.elim (fun z => z k23) (fun z => z k74))))
                refine x_aload_n (k := 38) rfl rfl ?_
                refine m_callI (ci := 10) (k := 39) rfl (by rfl) (m_hour hF.m) okX10_hour viX10_hour mlRX10_51 ⟨Nat.le_of_ble_eq_true rfl, Nat.le_of_ble_eq_true rfl⟩ (by exact Nat.le_of_ble_eq_true rfl) rfl rfl mG0 (by exact Nat.le_of_ble_eq_true rfl) ?_
                refine x_iload (k := 40) rfl rfl ?_
                refine x_iadd (k := 41) rfl ?_
                refine x_top (y := W 3 0 0 + i) (by rw [hF.m.eH]) ?_
                refine x_istore (k := 42) rfl (by decide) ?_
                refine x_iconst (v := 0) (k := 43) rfl (by decide) ?_
                refine x_istore (k := 44) rfl (by decide) ?_
                exact l_offer1 hF hs hst e3 rfl (nt + 1) 0 _ (by omega) (by omega) rfl (by intro q hq; simp only [List.mem_cons, List.not_mem_nil, or_false] at hq; rcases hq with rfl | rfl | rfl | rfl | rfl | rfl | rfl | rfl | rfl <;> rfl)
              · replace c74 := bz_eq0 c74
                have k74 : ¬ wIn e 0 99 := fun z => c74 ((w64 (n := e) (lo := 0) (hi := 99) (by decide) (by decide)).mpr z)
                have e0 : sOfF W p a b i l e = -1 := by first | exact e1 | exact e2.trans (if_pos (Or.inl k10)) | exact e2.trans (if_pos (Or.inr (Or.inl k23))) | exact e2.trans (if_pos (Or.inr (Or.inr k74)))
                refine x_iconst (v := -1) (k := 36) rfl (by decide) ?_
                exact m_irE (k := 37) rfl rfl rfl e0 (by decide)
theorem m_takeBack {G : xG} {s : xA} {m hr f nt nk : Nat} {W : Wd} {V : Vd} (hF : RF hr f nt nk W V.1) {st : Nat} (hs : V.2.2 0 2 = nI st) (hst : st ≤ 5) (n : Int32) : mMe G MX10_takeBack [.ref m, .int n] s m V (OutQ (sTbF W n) (W 1 (ix n) 3) (Ch (mRec V st) hr f nt nk (wSet W 1 (ix n) 6 3)) V) := by
  refine x_aload_n (k := 0) rfl rfl ?_
  refine x_iload_n (k := 1) rfl rfl ?_
  refine m_callI (ci := 10) (k := 2) rfl (by rfl) (m_isTrip hF.m _) okX10_isTrip viX10_isTrip mlRX10_79 ⟨Nat.le_of_ble_eq_true rfl, Nat.le_of_ble_eq_true rfl⟩ (by exact Nat.le_of_ble_eq_true rfl) rfl rfl mG0 (by exact Nat.le_of_ble_eq_true rfl) ?_
  refine x_if_ne (tgt := 10) (k := 3) rfl (by decide) (fun c5 => ?_) (fun c5 => ?_)
  · replace c5 := bz_ne0 c5
    have e2 : sTbF W n = if W 1 (ix n) 6 = 0 then 0 else -2 := if_neg (fun z => z c5)
    obtain ⟨t, ht, ht16, rfl⟩ := hF.m.tP c5
    rw [ixT ht16] at e2
    rw [ixT ht16]
    refine x_aload_n (k := 6) rfl rfl ?_
    refine x_iload_n (k := 7) rfl rfl ?_
    refine x_bipush (v := 6) (k := 8) rfl (by decide) ?_
    refine m_callI (ci := 10) (k := 9) rfl (by rfl) (m_ofT hF.m (k := 6) ht (by decide)) okX10_ofT viX10_ofT mlRX10_55 ⟨Nat.le_of_ble_eq_true rfl, Nat.le_of_ble_eq_true rfl⟩ (by exact Nat.le_of_ble_eq_true rfl) rfl rfl mG0 (by exact Nat.le_of_ble_eq_true rfl) ?_
    refine x_if_eq (tgt := 23) (k := 10) rfl (by decide) (fun c17 => ?_) (fun c17 => ?_)
    · have e0 := e2.trans (if_pos c17)
      refine x_aload_n (k := 13) rfl rfl ?_
      refine m_callV (ci := 10) (k := 14) rfl (by rfl) (m_records hs hst) okX10_records viX10_records mlRX10_48 ⟨Nat.le_of_ble_eq_true rfl, Nat.le_of_ble_eq_true rfl⟩ (by exact Nat.le_of_ble_eq_true rfl) rfl rfl mG0 (by exact Nat.le_of_ble_eq_true rfl) ?_
      have c0 : Ch (mRec V st) hr f nt nk W (mRec V st) := Chh.rf hF
      refine x_aload_n (k := 15) rfl rfl ?_
      refine x_iload_n (k := 16) rfl rfl ?_
      refine x_bipush (v := 6) (k := 17) rfl (by decide) ?_
      refine x_ldc2 (k := 18) rfl klRX10_82 ?_
      refine m_callV (ci := 10) (k := 19) rfl (by rfl) (m_setsT (k := 6) (by omega) (by decide) _) okX10_setsT viX10_setsT mlRX10_76 ⟨Nat.le_of_ble_eq_true rfl, Nat.le_of_ble_eq_true rfl⟩ (by exact Nat.le_of_ble_eq_true rfl) rfl rfl mG0 (by exact Nat.le_of_ble_eq_true rfl) ?_
      have c1 := c0.setT (k := 6) (x := 3) (v := 3) ht (by decide) (by decide)
      refine x_aload_n (k := 20) rfl rfl ?_
      refine x_iload_n (k := 21) rfl rfl ?_
      refine x_iconst (v := 3) (k := 22) rfl (by decide) ?_
      refine m_callI (ci := 10) (k := 23) rfl (by rfl) (m_ofT c1.m (k := 3) ht (by decide)) okX10_ofT viX10_ofT mlRX10_55 ⟨Nat.le_of_ble_eq_true rfl, Nat.le_of_ble_eq_true rfl⟩ (by exact Nat.le_of_ble_eq_true rfl) rfl rfl mG0 (by exact Nat.le_of_ble_eq_true rfl) ?_
      exact m_irS (k := 24) rfl rfl rfl (by rw [e0]; decide) (wSet_k (by decide)) c1
    · have e0 := e2.trans (if_neg c17)
      refine x_bipush (v := -2) (k := 11) rfl (by decide) ?_
      exact m_irE (k := 12) rfl rfl rfl e0 (by decide)
  · replace c5 := bz_eq0 c5
    have e0 : sTbF W n = -1 := if_pos c5
    refine x_iconst (v := -1) (k := 4) rfl (by decide) ?_
    exact m_irE (k := 5) rfl rfl rfl e0 (by decide)
theorem wIn1 {h : Int32} (q : wIn h 1 24) : ∃ n : Nat, n < 25 ∧ h = nI n := by
  obtain ⟨j, hj, rfl⟩ := nI_of (x := h) (fun z => q.1 (Int32.lt_trans z (by decide)))
  have := mt (nI_ltI (a := 24) (by decide) hj).mpr q.2
  exact ⟨j, by omega, rfl⟩
theorem l_mpass {G : xG} {s : xA} {m hr f nt nk n : Nat} {W : Wd} {V0 : Vd} (hn : n < 25) (h5 : hr + n ≤ 500) (hc : cT W = nt) (htr : ∀ t, t < nt → isP (W 1 t 0)) : ∀ (d j : Nat) (v : Int32) (V : Vd) (ls : List (Nat × Value)), n - j < d → j ≤ n → v = pcTo W j → Ch V0 (hr + j) f nt nk (paTo W j) V → ls.lookup 0 = some (.ref m) → ls.lookup 1 = some (.int (nI n)) → ls.lookup 2 = some (.int v) → ls.lookup 3 = some (.int (nI j)) → mE G MX10_pass 37 ls [] s m V (fun r V1 => r = some (.int (pcTo W n)) ∧ Ch V0 (hr + n) f nt nk (paTo W n) V1) := by
  intro d
  induction d with
  | zero =>
    intro j v V ls hd hi hv hC g0 g1 g2 g3
    exact absurd hd (Nat.not_lt_zero _)
  | succ d ih =>
    intro j v V ls hd hi hv hC g0 g1 g2 g3
    refine x_sub (ls' := [(0, .ref m), (1, .int (nI n)), (2, .int v), (3, .int (nI j))]) (by simp [*]) ?_
    refine x_iload_n (k := 22) rfl rfl ?_
    refine x_iload_n (k := 23) rfl rfl ?_
    refine x_icmp_ge (tgt := 55) (k := 24) rfl (by decide) (fun c39 => ?_) (fun c39 => ?_)
    · have e0 : j = n := by
        have := (nI_leI (by omega) (by omega)).mp c39
        omega
      subst e0
      refine x_iload_n (k := 32) rfl rfl ?_
      exact m_irQ (k := 33) rfl rfl rfl hv hC
    · have hin : j < n := by
        have := mt (nI_leI (by omega) (by omega)).mpr c39
        omega
      refine x_iload_n (k := 25) rfl rfl ?_
      refine x_aload_n (k := 26) rfl rfl ?_
      refine m_callIQ (ci := 10) (k := 27) rfl (by rfl) (m_passesHour hC.2.2 (by omega) (fun t ht => by rw [(paTo_k W j).2 t]; exact htr t ht)) okX10_passesHour viX10_passesHour mlRX10_105 ⟨Nat.le_of_ble_eq_true rfl, Nat.le_of_ble_eq_true rfl⟩ (by exact Nat.le_of_ble_eq_true rfl) rfl rfl mG0 (by exact Nat.le_of_ble_eq_true rfl) (fun V1 q1 => ?_)
      refine x_iadd (k := 28) rfl ?_
      refine x_istore_n (k := 29) rfl (by decide) ?_
      refine x_iinc (k := 30) rfl rfl (nI_1 j) (by decide) ?_
      refine x_goto (tgt := 37) (k := 31) rfl (by decide) ?_
      exact ih (j + 1) _ _ _ (by omega) (by omega) (by rw [pcTo, hc, hv]) (hC.tr q1) rfl rfl rfl rfl
theorem m_pass {G : xG} {s : xA} {m hr f nt nk : Nat} {W : Wd} {V : Vd} (hF : RF hr f nt nk W V.1) {st : Nat} (hs : V.2.2 0 2 = nI st) (hst : st ≤ 5) (htr : ∀ t, t < nt → isP (W 1 t 0)) (h : Int32) : mMe G MX10_pass [.ref m, .int h] s m V (OutQ (sPaF W h) (pcTo W (ix h)) (Ch (mRec V st) (hr + ix h) f nt nk (paTo W (ix h))) V) := by
  have hb := hF.m.2
  refine x_iload_n (k := 0) rfl rfl ?_
  refine x_i2l (k := 1) rfl ?_
  refine x_lconst (v := 1) (k := 2) rfl (by decide) ?_
  refine x_ldc2 (k := 3) rfl klRX10_103 ?_
  refine x_sD (k := 4) rfl (by rfl) (m_isIn _ _ _) okX10_isIn viX10_isIn mlRX10_38 ⟨Nat.le_of_ble_eq_true rfl, Nat.le_of_ble_eq_true rfl⟩ (by exact Nat.le_of_ble_eq_true rfl) rfl (by exact Nat.le_of_ble_eq_true rfl) ?_
  refine x_if_ne (tgt := 14) (k := 5) rfl (by decide) (fun c9 => ?_) (fun c9 => ?_)
  · replace c9 := bz_ne0 c9
    have k9 : wIn h 1 24 := (w64 (n := h) (lo := 1) (hi := 24) (by decide) (by decide)).mp c9
    have e2 : sPaF W h = if 500 < W 3 0 0 + h then -3 else 0 := if_neg (fun z => z k9)
    obtain ⟨n, hn, rfl⟩ := wIn1 k9
    have en : ix (nI n) = n := nI_clamp (by omega)
    rw [hF.m.eH, nI_add] at e2
    rw [en]
    refine x_aload_n (k := 8) rfl rfl ?_
    refine m_callI (ci := 10) (k := 9) rfl (by rfl) (m_hour hF.m) okX10_hour viX10_hour mlRX10_51 ⟨Nat.le_of_ble_eq_true rfl, Nat.le_of_ble_eq_true rfl⟩ (by exact Nat.le_of_ble_eq_true rfl) rfl rfl mG0 (by exact Nat.le_of_ble_eq_true rfl) ?_
    refine x_iload_n (k := 10) rfl rfl ?_
    refine x_iadd (k := 11) rfl ?_
    rw [nI_add]
    refine x_sipush (v := 500) (k := 12) rfl (by decide) ?_
    refine x_icmp_le (tgt := 29) (k := 13) rfl (by decide) (fun c23 => ?_) (fun c23 => ?_)
    · have h5 : hr + n ≤ 500 := (nI_leI (b := 500) (by omega) (by decide)).mp c23
      have e0 := e2.trans (if_neg (Int32.not_lt.mpr c23))
      refine x_aload_n (k := 16) rfl rfl ?_
      refine m_callV (ci := 10) (k := 17) rfl (by rfl) (m_records hs hst) okX10_records viX10_records mlRX10_48 ⟨Nat.le_of_ble_eq_true rfl, Nat.le_of_ble_eq_true rfl⟩ (by exact Nat.le_of_ble_eq_true rfl) rfl rfl mG0 (by exact Nat.le_of_ble_eq_true rfl) ?_
      have c0 : Ch (mRec V st) hr f nt nk W (mRec V st) := Chh.rf hF
      refine x_iconst (v := 0) (k := 18) rfl (by decide) ?_
      refine x_istore_n (k := 19) rfl (by decide) ?_
      refine x_iconst (v := 0) (k := 20) rfl (by decide) ?_
      refine x_istore_n (k := 21) rfl (by decide) ?_
      exact (l_mpass hn h5 hF.m.cT htr (n + 1) 0 0 _ _ (by omega) (by omega) rfl c0 rfl rfl rfl rfl).mono (fun r V1 q => OutQ.s (by rw [e0]; decide) q.1 q.2)
    · have e0 := e2.trans (if_pos (Int32.not_le.mp c23))
      refine x_bipush (v := -3) (k := 14) rfl (by decide) ?_
      exact m_irE (k := 15) rfl rfl rfl e0 (by decide)
  · replace c9 := bz_eq0 c9
    have k9 : ¬ wIn h 1 24 := fun z => c9 ((w64 (n := h) (lo := 1) (hi := 24) (by decide) (by decide)).mpr z)
    have e0 : sPaF W h = -1 := if_pos k9
    refine x_iconst (v := -1) (k := 6) rfl (by decide) ?_
    exact m_irE (k := 7) rfl rfl rfl e0 (by decide)
theorem m_gave {G : xG} {s : xA} {m hr f nt nk : Nat} {W : Wd} {V : Vd} (hF : RF hr f nt nk W V.1) {st : Nat} (hs : V.2.2 0 2 = nI st) (hst : st ≤ 5) (h5 : hr ≤ 500) {sz : Nat} (hz : W 4 0 0 = nI sz) (hz5 : sz < 512) (hsn : ∀ k, k < nk → isP (W 2 k 0)) (x n y : Int32) : mMe G MX10_gave [.ref m, .int x, .int n, .int y] s m V (OutQ (sHoF W x n y) (bz (fit (wSet W 2 (ix n) 8 y) (ix n))) (Ch (mRec V st) hr f nt nk (sGav W (ix n) y)) V) := by
  refine x_aload_n (k := 0) rfl rfl ?_
  refine x_iload_n (k := 1) rfl rfl ?_
  refine x_iload_n (k := 2) rfl rfl ?_
  refine x_iload_n (k := 3) rfl rfl ?_
  refine m_callI (ci := 10) (k := 4) rfl (by rfl) (m_wordError hF.m _ _ _) okX10_wordError viX10_wordError mlRX10_139 ⟨Nat.le_of_ble_eq_true rfl, Nat.le_of_ble_eq_true rfl⟩ (by exact Nat.le_of_ble_eq_true rfl) rfl rfl mG0 (by exact Nat.le_of_ble_eq_true rfl) ?_
  refine x_istore (k := 5) rfl (by decide) ?_
  refine x_iload (k := 6) rfl rfl ?_
  refine x_if_eq (tgt := 17) (k := 7) rfl (by decide) (fun c11 => ?_) (fun c11 => ?_)
  · obtain ⟨⟨q1, q2, q3, -⟩, q6, -⟩ := sHoF_ge (by rw [c11]; exact n0z)
    obtain ⟨y1, hy, rfl⟩ := gP_is q3
    obtain ⟨k, hk, hk10, rfl⟩ := hF.m.kP q2
    have ek : ix (nI k) = k := clK hk10
    rw [ek] at q6
    rw [ek]
    obtain ⟨a, ha, ea⟩ := hsn k hk
    refine x_aload_n (k := 10) rfl rfl ?_
    refine m_callV (ci := 10) (k := 11) rfl (by rfl) (m_records hs hst) okX10_records viX10_records mlRX10_48 ⟨Nat.le_of_ble_eq_true rfl, Nat.le_of_ble_eq_true rfl⟩ (by exact Nat.le_of_ble_eq_true rfl) rfl rfl mG0 (by exact Nat.le_of_ble_eq_true rfl) ?_
    have c0 : Ch (mRec V st) hr f nt nk W (mRec V st) := Chh.rf hF
    refine x_aload_n (k := 12) rfl rfl ?_
    refine x_iload_n (k := 13) rfl rfl ?_
    refine x_bipush (v := 8) (k := 14) rfl (by decide) ?_
    refine x_iload_n (k := 15) rfl rfl ?_
    refine m_callIQ (ci := 10) (k := 16) rfl (by rfl) (m_says (kd := 8) c0.2.2 h5 hz hz5 hk (by decide) hy ha ea q6.1) okX10_says viX10_says mlRX10_143 ⟨Nat.le_of_ble_eq_true rfl, Nat.le_of_ble_eq_true rfl⟩ (by exact Nat.le_of_ble_eq_true rfl) rfl rfl mG0 (by exact Nat.le_of_ble_eq_true rfl) (fun V9 q9 => ?_)
    exact m_irS (k := 17) rfl rfl rfl (by rw [c11]; exact n0z) rfl (c0.tr q9)
  · refine x_iload (k := 8) rfl rfl ?_
    exact m_irE (k := 9) rfl rfl rfl rfl (sHoF_n c11)
theorem m_took {G : xG} {s : xA} {m hr f nt nk : Nat} {W : Wd} {V : Vd} (hF : RF hr f nt nk W V.1) {st : Nat} (hs : V.2.2 0 2 = nI st) (hst : st ≤ 5) (h5 : hr ≤ 500) {sz : Nat} (hz : W 4 0 0 = nI sz) (hz5 : sz < 512) (hsn : ∀ k, k < nk → isP (W 2 k 0)) (x n y : Int32) : mMe G MX10_took [.ref m, .int x, .int n, .int y] s m V (OutQ (sHoF W y n x) (bz (fit (wSet W 2 (ix n) 9 x) (ix n))) (Ch (mRec V st) hr f nt nk (sTok W (ix n) x)) V) := by
  refine x_aload_n (k := 0) rfl rfl ?_
  refine x_iload_n (k := 1) rfl rfl ?_
  refine x_iload_n (k := 2) rfl rfl ?_
  refine x_iload_n (k := 3) rfl rfl ?_
  refine m_callI (ci := 10) (k := 4) rfl (by rfl) (m_wordError hF.m _ _ _) okX10_wordError viX10_wordError mlRX10_139 ⟨Nat.le_of_ble_eq_true rfl, Nat.le_of_ble_eq_true rfl⟩ (by exact Nat.le_of_ble_eq_true rfl) rfl rfl mG0 (by exact Nat.le_of_ble_eq_true rfl) ?_
  refine x_istore (k := 5) rfl (by decide) ?_
  refine x_iload (k := 6) rfl rfl ?_
  refine x_if_eq (tgt := 17) (k := 7) rfl (by decide) (fun c11 => ?_) (fun c11 => ?_)
  · obtain ⟨⟨q1, q2, q3, -⟩, q6, -⟩ := sHoF_ge (by rw [c11]; exact n0z)
    obtain ⟨y1, hy, rfl⟩ := gP_is q3
    obtain ⟨k, hk, hk10, rfl⟩ := hF.m.kP q2
    have ek : ix (nI k) = k := clK hk10
    rw [ek] at q6
    rw [ek]
    obtain ⟨a, ha, ea⟩ := hsn k hk
    refine x_aload_n (k := 10) rfl rfl ?_
    refine m_callV (ci := 10) (k := 11) rfl (by rfl) (m_records hs hst) okX10_records viX10_records mlRX10_48 ⟨Nat.le_of_ble_eq_true rfl, Nat.le_of_ble_eq_true rfl⟩ (by exact Nat.le_of_ble_eq_true rfl) rfl rfl mG0 (by exact Nat.le_of_ble_eq_true rfl) ?_
    have c0 : Ch (mRec V st) hr f nt nk W (mRec V st) := Chh.rf hF
    refine x_aload_n (k := 12) rfl rfl ?_
    refine x_iload_n (k := 13) rfl rfl ?_
    refine x_bipush (v := 9) (k := 14) rfl (by decide) ?_
    refine x_iload_n (k := 15) rfl rfl ?_
    refine m_callIQ (ci := 10) (k := 16) rfl (by rfl) (m_says (kd := 9) c0.2.2 h5 hz hz5 hk (by decide) hy ha ea q6.1) okX10_says viX10_says mlRX10_143 ⟨Nat.le_of_ble_eq_true rfl, Nat.le_of_ble_eq_true rfl⟩ (by exact Nat.le_of_ble_eq_true rfl) rfl rfl mG0 (by exact Nat.le_of_ble_eq_true rfl) (fun V9 q9 => ?_)
    exact m_irS (k := 17) rfl rfl rfl (by rw [c11]; exact n0z) rfl (c0.tr q9)
  · refine x_iload (k := 8) rfl rfl ?_
    exact m_irE (k := 9) rfl rfl rfl rfl (sHoF_n c11)
theorem m_putIn {G : xG} {s : xA} {m hr f nt nk : Nat} {W : Wd} {V : Vd} (hF : RF hr f nt nk W V.1) {st : Nat} (hs : V.2.2 0 2 = nI st) (hst : st ≤ 5) (h5 : hr ≤ 500) {sz : Nat} (hz : W 4 0 0 = nI sz) (hz5 : sz < 512) (hsn : ∀ k, k < nk → isP (W 2 k 0)) (h3 : ∀ x, sHeld W x ≤ 3) (htn : ∀ p, p < 8 → ¬ W 0 p 2 = -9 → isTn (W 0 p 2)) (x n : Int32) : mMe G MX10_putIn [.ref m, .int x, .int n] s m V (OutQ (sPuF W x n) (sHeld (sPut W (ix x) (ix n)) (10 + W 0 (ix x) 2)) (Ch (mRec V st) hr f nt nk (sPut W (ix x) (ix n))) V) := by
  refine x_aload_n (k := 0) rfl rfl ?_
  refine x_iload_n (k := 1) rfl rfl ?_
  refine x_iload_n (k := 2) rfl rfl ?_
  refine m_callI (ci := 10) (k := 3) rfl (by rfl) (m_putError hF.m h3 _ _) okX10_putError viX10_putError mlRX10_146 ⟨Nat.le_of_ble_eq_true rfl, Nat.le_of_ble_eq_true rfl⟩ (by exact Nat.le_of_ble_eq_true rfl) rfl rfl mG0 (by exact Nat.le_of_ble_eq_true rfl) ?_
  refine x_istore_n (k := 4) rfl (by decide) ?_
  refine x_iload_n (k := 5) rfl rfl ?_
  refine x_if_eq (tgt := 13) (k := 6) rfl (by decide) (fun c8 => ?_) (fun c8 => ?_)
  · obtain ⟨⟨q1, q2⟩, q6, q7, -⟩ := sPuF_ge (by rw [c8]; exact n0z)
    obtain ⟨p, hp, rfl⟩ := gP_is q1
    obtain ⟨k, hk, hk10, rfl⟩ := hF.m.kP q2
    have ek : ix (nI k) = k := clK hk10
    have ep : ix (nI p) = p := ixP hp
    rw [ep] at q7
    rw [ek, ep]
    refine x_aload_n (k := 9) rfl rfl ?_
    refine m_callV (ci := 10) (k := 10) rfl (by rfl) (m_records hs hst) okX10_records viX10_records mlRX10_48 ⟨Nat.le_of_ble_eq_true rfl, Nat.le_of_ble_eq_true rfl⟩ (by exact Nat.le_of_ble_eq_true rfl) rfl rfl mG0 (by exact Nat.le_of_ble_eq_true rfl) ?_
    have c0 : Ch (mRec V st) hr f nt nk W (mRec V st) := Chh.rf hF
    refine x_aload_n (k := 11) rfl rfl ?_
    refine x_iload_n (k := 12) rfl rfl ?_
    refine x_iload_n (k := 13) rfl rfl ?_
    refine m_callIQ (ci := 10) (k := 14) rfl (by rfl) (m_puts c0.2.2 h5 hz hz5 hk hp (htn p hp q7)) okX10_puts viX10_puts mlRX10_149 ⟨Nat.le_of_ble_eq_true rfl, Nat.le_of_ble_eq_true rfl⟩ (by exact Nat.le_of_ble_eq_true rfl) rfl rfl mG0 (by exact Nat.le_of_ble_eq_true rfl) (fun V9 q9 => ?_)
    exact m_irS (k := 15) rfl rfl rfl (by rw [c8]; exact n0z) rfl (c0.tr q9)
  · refine x_iload_n (k := 7) rfl rfl ?_
    exact m_irE (k := 8) rfl rfl rfl rfl (sPuF_n c8)
theorem m_fetch {G : xG} {s : xA} {m hr f nt nk : Nat} {W : Wd} {V : Vd} (hF : RF hr f nt nk W V.1) {st : Nat} (hs : V.2.2 0 2 = nI st) (hst : st ≤ 5) (h5 : hr ≤ 500) {sz : Nat} (hz : W 4 0 0 = nI sz) (hz5 : sz < 512) (hsn : ∀ k, k < nk → isP (W 2 k 0)) (x n : Int32) : mMe G MX10_fetch [.ref m, .int x, .int n] s m V (OutQ (sFeF W x n) (sHeld (sFet W (ix x) (ix n)) (10 + sFet W (ix x) (ix n) 0 (ix x) 2)) (Ch (mRec V st) hr f nt nk (sFet W (ix x) (ix n))) V) := by
  refine x_aload_n (k := 0) rfl rfl ?_
  refine x_iload_n (k := 1) rfl rfl ?_
  refine x_iload_n (k := 2) rfl rfl ?_
  refine m_callI (ci := 10) (k := 3) rfl (by rfl) (m_fetchError hF.m _ _) okX10_fetchError viX10_fetchError mlRX10_152 ⟨Nat.le_of_ble_eq_true rfl, Nat.le_of_ble_eq_true rfl⟩ (by exact Nat.le_of_ble_eq_true rfl) rfl rfl mG0 (by exact Nat.le_of_ble_eq_true rfl) ?_
  refine x_istore_n (k := 4) rfl (by decide) ?_
  refine x_iload_n (k := 5) rfl rfl ?_
  refine x_if_eq (tgt := 13) (k := 6) rfl (by decide) (fun c8 => ?_) (fun c8 => ?_)
  · obtain ⟨⟨q1, q2⟩, q7, q6, -⟩ := sFeF_ge (by rw [c8]; exact n0z)
    obtain ⟨p, hp, rfl⟩ := gP_is q1
    obtain ⟨k, hk, hk10, rfl⟩ := hF.m.kP q2
    have ek : ix (nI k) = k := clK hk10
    have ep : ix (nI p) = p := ixP hp
    rw [ek] at q6
    rw [ek, ep]
    obtain ⟨a, ha, ea⟩ := hsn k hk
    refine x_aload_n (k := 9) rfl rfl ?_
    refine m_callV (ci := 10) (k := 10) rfl (by rfl) (m_records hs hst) okX10_records viX10_records mlRX10_48 ⟨Nat.le_of_ble_eq_true rfl, Nat.le_of_ble_eq_true rfl⟩ (by exact Nat.le_of_ble_eq_true rfl) rfl rfl mG0 (by exact Nat.le_of_ble_eq_true rfl) ?_
    have c0 : Ch (mRec V st) hr f nt nk W (mRec V st) := Chh.rf hF
    refine x_aload_n (k := 11) rfl rfl ?_
    refine x_iload_n (k := 12) rfl rfl ?_
    refine x_iload_n (k := 13) rfl rfl ?_
    refine m_callIQ (ci := 10) (k := 14) rfl (by rfl) (m_fetches c0.2.2 h5 hz hz5 hk hp ha ea q6.1) okX10_fetches viX10_fetches mlRX10_155 ⟨Nat.le_of_ble_eq_true rfl, Nat.le_of_ble_eq_true rfl⟩ (by exact Nat.le_of_ble_eq_true rfl) rfl rfl mG0 (by exact Nat.le_of_ble_eq_true rfl) (fun V9 q9 => ?_)
    exact m_irS (k := 15) rfl rfl rfl (by rw [c8]; exact n0z) rfl (c0.tr q9)
  · refine x_iload_n (k := 7) rfl rfl ?_
    exact m_irE (k := 8) rfl rfl rfl rfl (sFeF_n c8)
