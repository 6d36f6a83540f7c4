-- ===== the model: post, claim =====
def costN (q : Nat) : Nat := match q with | 0 => 0 | 1 => 2 | 2 => 5 | _ => 10
theorem costN_i (q : Nat) : iCost q = nI (costN q) := match q with | 0 => rfl | 1 => rfl | 2 => rfl | _ + 3 => rfl
theorem costN_le (q : Nat) : costN q ≤ 10 := match q with | 0 => by decide | 1 => by decide | 2 => by decide | _ + 3 => Nat.le_refl _
def paW (W : Wd) (nk p q : Nat) (b t v : Int32) : Wd := wSet (wSet (wSet (wSet (wSet (wSet (wSet (wSet (wSet W 2 nk 0 (nI p)) 2 nk 1 b) 2 nk 2 t) 2 nk 3 v) 2 nk 4 (nI q)) 2 nk 5 0) 0 p 0 (W 0 p 0 - iCost q)) 3 0 1 (W 3 0 1 + iCost q)) 3 0 5 (W 3 0 5 + 1)
/-- the new parcel's row as the array has it, where nothing is written yet -/
def paX (X : Wd) (N : Nat → Int64) (nk : Nat) : Wd := wSet (wSet (wSet (wSet X 2 nk 6 (N (158 + 11 * nk + 6)).toInt32) 2 nk 7 (N (158 + 11 * nk + 7)).toInt32) 2 nk 8 (N (158 + 11 * nk + 8)).toInt32) 2 nk 9 (N (158 + 11 * nk + 9)).toInt32
theorem sSetH_ov {W : Wd} {k j : Nat} {x h : Int32} (hj : j = 6 ∨ j = 7 ∨ j = 8 ∨ j = 9) : sSetH (wSet W 2 k j x) k h = sSetH W k h := by
  have e : wSet (wSet (wSet (wSet (wSet W 2 k j x) 2 k 6 h) 2 k 7 (W 3 0 0)) 2 k 8 (-9)) 2 k 9 (-9) = wSet (wSet (wSet (wSet W 2 k 6 h) 2 k 7 (W 3 0 0)) 2 k 8 (-9)) 2 k 9 (-9) := by
    funext a i q
    simp only [wSet_r]
    by_cases z9 : a = 2 ∧ i = k ∧ q = 9
    · rw [if_pos z9, if_pos z9]
    · rw [if_neg z9, if_neg z9]
      by_cases z8 : a = 2 ∧ i = k ∧ q = 8
      · rw [if_pos z8, if_pos z8]
      · rw [if_neg z8, if_neg z8]
        by_cases z7 : a = 2 ∧ i = k ∧ q = 7
        · rw [if_pos z7, if_pos z7]
        · rw [if_neg z7, if_neg z7]
          by_cases z6 : a = 2 ∧ i = k ∧ q = 6
          · rw [if_pos z6, if_pos z6]
          · rw [if_neg z6, if_neg z6, if_neg (by omega)]
  unfold sSetH
  rw [wSet_a (show (3 : Nat) ≠ 2 by decide), e]
theorem sSetH_paX {X : Wd} {N : Nat → Int64} {nk : Nat} {h : Int32} : sSetH (paX X N nk) nk h = sSetH X nk h := by
  unfold paX
  rw [sSetH_ov (by omega), sSetH_ov (by omega), sSetH_ov (by omega), sSetH_ov (by omega)]
def poN (N : Nat → Int64) (nk p : Nat) (v0 v1 v2 v3 v4 v6 v7 v8 : Int64) : Nat → Int64 := vp_updL (vp_updL (vp_updL (vp_updL (vp_updL (vp_updL (vp_updL (vp_updL (vp_updL (vp_updL N 3 (N 3 + 1)) (158 + 11 * nk + 0) v0) (158 + 11 * nk + 1) v1) (158 + 11 * nk + 2) v2) (158 + 11 * nk + 3) v3) (158 + 11 * nk + 4) v4) (158 + 11 * nk + 5) 0) (158 + 11 * nk + 10) v6) (6 + 5 * p + 0) v7) 1 (N 1 + v8)
section PO
variable {hr f nt nk p q : Nat} {W : Wd} {N : Nat → Int64} {b t v : Int32}
abbrev poM (W : Wd) (N : Nat → Int64) (hr nk p q : Nat) (b t v : Int32) : Nat → Int64 := poN N nk p (nI p).toInt64 b.toInt64 t.toInt64 v.toInt64 (nI q).toInt64 (nI hr).toInt64 (W 0 p 0 - iCost q).toInt64 (iCost q).toInt64
theorem poN_o {v0 v1 v2 v3 v4 v6 v7 v8 : Int64} {j : Nat} (h3 : j ≠ 3) (h1 : j ≠ 1) (hp : j ≠ 6 + 5 * p + 0) (hk : j < 158 + 11 * nk ∨ (158 + 11 * nk + 5 < j ∧ j ≠ 158 + 11 * nk + 10)) : poN N nk p v0 v1 v2 v3 v4 v6 v7 v8 j = N j := by
  unfold poN
  rw [vp_upL_ne h1, vp_upL_ne hp, vp_upL_ne (by omega), vp_upL_ne (by omega), vp_upL_ne (by omega), vp_upL_ne (by omega), vp_upL_ne (by omega), vp_upL_ne (by omega), vp_upL_ne (by omega), vp_upL_ne h3]
theorem post_Rm (hF : RF hr f nt nk W N) (h10 : nk < 10) (hp : p < 8) (hf : f ≤ 1000) : Rm hr (f + costN q) nt (nk + 1) (paX (paW W nk p q b t v) N nk) (poM W N hr nk p q b t v, fun _ => 0, fun _ _ => 0) := by
  have hcq := costN_le q
  obtain ⟨⟨⟨r1, r2, r3, r4, r5⟩, hb⟩, -, -⟩ := hF
  have hN : ∀ j, j ≠ 3 → j ≠ 1 → j ≠ 6 + 5 * p + 0 → (j < 158 + 11 * nk ∨ (158 + 11 * nk + 5 < j ∧ j ≠ 158 + 11 * nk + 10)) → poM W N hr nk p q b t v j = N j := fun j a1 a2 a3 a4 => poN_o a1 a2 a3 a4
  have hN3 : poM W N hr nk p q b t v 3 = lN (nk + 1) := by
    unfold poM poN
    rw [vp_upL_ne (by omega), vp_upL_ne (by omega), vp_upL_ne (by omega), vp_upL_ne (by omega), vp_upL_ne (by omega), vp_upL_ne (by omega), vp_upL_ne (by omega), vp_upL_ne (by omega), vp_upL_ne (by omega), vp_upL_at, show N 3 = lN nk from r5, lN_1]
  have hN1 : poM W N hr nk p q b t v 1 = lN (f + costN q) := by
    unfold poM poN
    rw [vp_upL_at, show N 1 = lN f from r3, costN_i, nI_l (by omega), lN_add]
  have hW : ∀ a i k, (a ≠ 2 ∨ i ≠ nk) → (a ≠ 0 ∨ i ≠ p ∨ k ≠ 0) → (a ≠ 3 ∨ (k ≠ 1 ∧ k ≠ 5)) → paX (paW W nk p q b t v) N nk a i k = W a i k := fun a i k h1 h2 h3 => by
    simp only [paX, paW, wSet_r]
    rw [if_neg (by omega), if_neg (by omega), if_neg (by omega), if_neg (by omega), if_neg (by omega), if_neg (by omega), if_neg (by omega), if_neg (by omega), if_neg (by omega), if_neg (by omega), if_neg (by omega), if_neg (by omega), if_neg (by omega)]
  have eF : W 3 0 1 = nI f := by
    have := r1 3 0 1 (Or.inr (Or.inr (Or.inr ⟨rfl, rfl, by decide⟩)))
    rw [← this, ← lN_i, ← r3]
    rfl
  have eK : W 3 0 5 = nI nk := by
    have := r1 3 0 5 (Or.inr (Or.inr (Or.inr ⟨rfl, rfl, by decide⟩)))
    rw [← this, ← lN_i, ← r5]
    rfl
  refine ⟨⟨fun a i k hd => ?_, (hN 0 (by decide) (by decide) (by omega) (by omega)).trans r2, hN1, (hN 2 (by decide) (by decide) (by omega) (by omega)).trans r4, hN3⟩, hb.1, by omega, hb.2.2.1, by omega⟩
  by_cases hn : a = 2 ∧ i = nk
  · obtain ⟨rfl, rfl⟩ := hn
    have hk7 : k < 10 := by unfold dmn at hd; omega
    rcases (by omega : k = 0 ∨ k = 1 ∨ k = 2 ∨ k = 3 ∨ k = 4 ∨ k = 5 ∨ k = 6 ∨ k = 7 ∨ k = 8 ∨ k = 9) with rfl | rfl | rfl | rfl | rfl | rfl | rfl | rfl | rfl | rfl
    case inr.inr.inr.inr.inr.inr.inl => exact (congrArg Int64.toInt32 (hN (158 + 11 * i + 6) (by omega) (by omega) (by omega) (by omega))).trans (by simp [paX, wSet])
    case inr.inr.inr.inr.inr.inr.inr.inl => exact (congrArg Int64.toInt32 (hN (158 + 11 * i + 7) (by omega) (by omega) (by omega) (by omega))).trans (by simp [paX, wSet])
    case inr.inr.inr.inr.inr.inr.inr.inr.inl => exact (congrArg Int64.toInt32 (hN (158 + 11 * i + 8) (by omega) (by omega) (by omega) (by omega))).trans (by simp [paX, wSet])
    case inr.inr.inr.inr.inr.inr.inr.inr.inr => exact (congrArg Int64.toInt32 (hN (158 + 11 * i + 9) (by omega) (by omega) (by omega) (by omega))).trans (by simp [paX, wSet])
    all_goals
      show (poM W N hr i p q b t v _).toInt32 = _
      simp only [adr, poM, poN]
      rw [vp_upL_ne (by omega), vp_upL_ne (by omega)]
      simp [paX, paW, vp_updL, wSet]
  · have hd' : dmn nt nk a i k := by unfold dmn at hd ⊢; omega
    by_cases h4 : a = 3 ∧ (k = 1 ∨ k = 5)
    · have hi : i = 0 := by unfold dmn at hd'; omega
      obtain ⟨rfl, rfl | rfl⟩ := h4
      · subst hi
        exact (congrArg Int64.toInt32 hN1).trans ((lN_i _).trans (by simp only [paX, paW, wSet_r]; simp; rw [eF, costN_i, nI_add]))
      · subst hi
        exact (congrArg Int64.toInt32 hN3).trans ((lN_i _).trans (by simp only [paX, paW, wSet_r]; simp; rw [eK, nI_1]))
    · by_cases h0 : a = 0 ∧ i = p ∧ k = 0
      · obtain ⟨rfl, rfl, rfl⟩ := h0
        show (poM W N hr nk i q b t v (6 + 5 * i + 0)).toInt32 = _
        simp only [poM, poN]
        rw [vp_upL_ne (by omega), vp_upL_at, t32]
        simp [paX, paW, wSet]
      · rw [hW a i k (by omega) (by omega) (by omega), ← r1 a i k hd']
        have hD := dmn_le hd' hb.2.2.1 hb.2.2.2
        have n3 : adr a i k ≠ 3 := fun z => h4 (by
          have := adr_inj hD (show dmn 16 10 3 0 5 from Or.inr (Or.inr (Or.inr ⟨rfl, rfl, by decide⟩))) z
          exact ⟨this.1, Or.inr this.2.2⟩)
        have n1 : adr a i k ≠ 1 := fun z => h4 (by
          have := adr_inj hD (show dmn 16 10 3 0 1 from Or.inr (Or.inr (Or.inr ⟨rfl, rfl, by decide⟩))) z
          exact ⟨this.1, Or.inl this.2.2⟩)
        have n0 : adr a i k ≠ 6 + 5 * p + 0 := fun z => h0 (adr_inj hD (show dmn 16 10 0 p 0 from Or.inl ⟨rfl, hp, by decide⟩) z)
        refine congrArg Int64.toInt32 (hN _ n3 n1 n0 (Or.inl ?_))
        rcases hd' with ⟨rfl, q1, q2⟩ | ⟨rfl, q1, q2⟩ | ⟨rfl, q1, q2⟩ | ⟨rfl, rfl, q2⟩
        · simp only [adr]; omega
        · simp only [adr]; omega
        · simp only [adr]; omega
        · rcases (by omega : k = 0 ∨ k = 1 ∨ k = 2 ∨ k = 3 ∨ k = 4 ∨ k = 5) with rfl | rfl | rfl | rfl | rfl | rfl <;> simp [adr] <;> omega
theorem post_RF {sz : Nat} (hF : RF hr f nt nk W N) (h10 : nk < 10) (hp : p < 8) (hq : q < 4) (hf : f ≤ 1000) (h5 : hr ≤ 500) (hz : W 4 0 0 = nI sz) (hz5 : sz < 512) : RF hr (f + costN q) nt (nk + 1) (sAddK W (nI p) b t v (nI q)) (mCm (poM W N hr nk p q b t v) hr nk (nI p)) := by
  have hM := post_Rm (q := q) (b := b) (t := t) (v := v) hF h10 hp hf
  have hc : cK W = nk := hF.1.cK
  have hb := hF.1.2
  obtain ⟨-, h2, h3⟩ := hF
  have e4 : paX (paW W nk p q b t v) N nk 4 0 0 = W 4 0 0 := by simp [paX, paW, wSet]
  have e5 : ∀ j, paX (paW W nk p q b t v) N nk 5 0 j = W 5 0 j := fun j => by simp [paX, paW, wSet]
  have e6 : ∀ j, j ≠ nk → paX (paW W nk p q b t v) N nk 2 j 6 = W 2 j 6 := fun j hj => by simp [paX, paW, wSet, hj]
  have hN : ∀ j, j ≠ 3 → j ≠ 1 → j ≠ 6 + 5 * p + 0 → (j < 158 + 11 * nk ∨ (158 + 11 * nk + 5 < j ∧ j ≠ 158 + 11 * nk + 10)) → poM W N hr nk p q b t v j = N j := fun j a1 a2 a3 a4 => poN_o a1 a2 a3 a4
  have := comes_RF (k := nk) (sz := sz) (h := nI p) hM ((h2.up (Nat.le_refl _) (Nat.le_succ _)).eq e4 (fun j _ => e5 j)) (fun j hj hne => (h3 j (by omega)).eq (fun h _ => LU_eq e4 (fun j _ => e5 j) j h) (e6 j hne) (hN _ (by omega) (by omega) (by omega) (by omega)) (fun h _ => hN _ (by unfold nbA; omega) (by unfold nbA; omega) (by unfold nbA; omega) (by unfold nbA; omega))) ⟨hr, Nat.le_refl _, by
      simp only [poM, poN]
      rw [vp_upL_ne (by omega), vp_upL_ne (by omega), vp_upL_at, nI_l (by omega)], fun h hh => ⟨fun _ => (LU_eq e4 (fun j _ => e5 j) nk h).trans (LU_none h2 (by omega) (by omega) (Nat.le_refl _) (by omega)), fun z => by omega⟩⟩ (Nat.lt_succ_self _) h5 (e4.trans hz) hz5 (Or.inl ⟨p, hp, rfl⟩)
  rw [sSetH_paX] at this
  rw [sAddK, hc, ixP hp, show ix (nI q) = q from cl4 hq]
  exact this
end PO
theorem m_comesToN {G : xG} {s : xA} {m hr f nt nk k : Nat} {W : Wd} {V : Vd} {h : Int32} {N : Nat → Int64} (hk : k < nk) (hM : Rm hr f nt nk W (N, fun _ => 0, fun _ _ => 0)) (hN : V.1 = N) : mV G MX10_comesTo [.ref m, .int (nI k), .int h] s m V (mCm V.1 hr k h, V.2) := by
  subst hN
  exact m_comesTo (V := V) hM hk h
theorem m_ofP0 {G : xG} {s : xA} {m : Nat} {V : Vd} {p k : Nat} (hp : p < 8) (hk : k < 5) : mI G MX10_ofP [.ref m, .int (nI p), .int (nI k)] s m V ((V.1 (6 + 5 * p + k)).toInt32) V := by
  refine x_aload_n (k := 0) rfl rfl ?_
  refine m_getA (a := 1) (k := 1) rfl flRX10_7 rfl ?_
  refine x_bipush (v := 6) (k := 2) rfl (by decide) ?_
  refine x_iconst (v := 5) (k := 3) rfl (by decide) ?_
  refine x_iload_n (k := 4) rfl rfl ?_
  refine x_imul (k := 5) rfl ?_
  refine x_iadd (k := 6) rfl ?_
  refine x_iload_n (k := 7) rfl rfl ?_
  refine x_iadd (k := 8) rfl ?_
  refine m_nat (k := 9) rfl (ixA 6 5 p k) (by omega) ?_
  refine x_l2i (k := 10) rfl ?_
  exact m_irD (k := 11) rfl rfl rfl rfl rfl
theorem l_post {G : xG} {s : xA} {m hr f nt nk : Nat} {W : Wd} {V : Vd} (hF : RF hr f nt nk W V.1) {st : Nat} (hs : V.2.2 0 2 = nI st) (hst : st ≤ 5) {p q sz : Nat} {b t v F : Int32} (h10 : nk < 10) (hp : p < 8) (hq : q < 4) (hf : f ≤ 1000) (h5 : hr ≤ 500) (hz : W 4 0 0 = nI sz) (hz5 : sz < 512) (e0 : F = 0) : mE G MX10_post 119 [(0, .ref m), (1, .int (nI p)), (2, .int b), (3, .int t), (4, .int v), (5, .int (nI q))] [] s m V (OutQ F (W 3 0 5) (Ch (mRec V st) hr (f + costN q) nt (nk + 1) (sAddK W (nI p) b t v (nI q))) V) := by
  have hb := hF.m.2
  refine x_aload_n (k := 61) rfl rfl ?_
  refine m_callV (ci := 10) (k := 62) rfl (by rfl) (m_records hs hst) okX10_records viX10_records mlRX10_48 ⟨Nat.le_of_ble_eq_true rfl, Nat.le_of_ble_eq_true rfl⟩ (by exact Nat.le_of_ble_eq_true rfl) rfl rfl mG0 (by exact Nat.le_of_ble_eq_true rfl) ?_
  have c0 : Ch (mRec V st) hr f nt nk W (mRec V st) := Chh.rf hF
  refine x_aload_n (k := 63) rfl rfl ?_
  refine m_getA (a := 1) (k := 64) rfl flRX10_7 rfl ?_
  refine x_iconst (v := 3) (k := 65) rfl (by decide) ?_
  refine m_nat (k := 66) rfl (show (3 : Int32) = nI 3 from rfl) (by first | assumption | omega) ?_
  refine x_l2i (k := 67) rfl ?_
  refine x_top (y := nI nk) (by show (V.1 3).toInt32 = nI nk; rw [hF.m.1.2.2.2.2, lN_i]) ?_
  refine x_istore (k := 68) rfl (by decide) ?_
  refine x_aload_n (k := 69) rfl rfl ?_
  refine m_getA (a := 1) (k := 70) rfl flRX10_7 rfl ?_
  refine x_iconst (v := 3) (k := 71) rfl (by decide) ?_
  refine x_dup2 (k := 72) rfl rfl rfl ?_
  refine m_nat (k := 73) rfl (show (3 : Int32) = nI 3 from rfl) (by first | assumption | omega) ?_
  refine x_lconst (v := 1) (k := 74) rfl (by decide) ?_
  refine x_ladd (k := 75) rfl ?_
  refine m_nput (k := 76) rfl (show (3 : Int32) = nI 3 from rfl) (by first | assumption | omega) ?_
  refine x_aload_n (k := 77) rfl rfl ?_
  refine x_iload (k := 78) rfl rfl ?_
  refine x_iconst (v := 0) (k := 79) rfl (by decide) ?_
  refine x_iload_n (k := 80) rfl rfl ?_
  refine x_i2l (k := 81) rfl ?_
  refine m_callV (ci := 10) (k := 82) rfl (by rfl) (m_sets (p := nk) (k := 0) h10 (by decide) _) okX10_sets viX10_sets mlRX10_119 ⟨Nat.le_of_ble_eq_true rfl, Nat.le_of_ble_eq_true rfl⟩ (by exact Nat.le_of_ble_eq_true rfl) rfl rfl mG0 (by exact Nat.le_of_ble_eq_true rfl) ?_
  refine x_aload_n (k := 83) rfl rfl ?_
  refine x_iload (k := 84) rfl rfl ?_
  refine x_iconst (v := 1) (k := 85) rfl (by decide) ?_
  refine x_iload_n (k := 86) rfl rfl ?_
  refine x_i2l (k := 87) rfl ?_
  refine m_callV (ci := 10) (k := 88) rfl (by rfl) (m_sets (p := nk) (k := 1) h10 (by decide) _) okX10_sets viX10_sets mlRX10_119 ⟨Nat.le_of_ble_eq_true rfl, Nat.le_of_ble_eq_true rfl⟩ (by exact Nat.le_of_ble_eq_true rfl) rfl rfl mG0 (by exact Nat.le_of_ble_eq_true rfl) ?_
  refine x_aload_n (k := 89) rfl rfl ?_
  refine x_iload (k := 90) rfl rfl ?_
  refine x_iconst (v := 2) (k := 91) rfl (by decide) ?_
  refine x_iload_n (k := 92) rfl rfl ?_
  refine x_i2l (k := 93) rfl ?_
  refine m_callV (ci := 10) (k := 94) rfl (by rfl) (m_sets (p := nk) (k := 2) h10 (by decide) _) okX10_sets viX10_sets mlRX10_119 ⟨Nat.le_of_ble_eq_true rfl, Nat.le_of_ble_eq_true rfl⟩ (by exact Nat.le_of_ble_eq_true rfl) rfl rfl mG0 (by exact Nat.le_of_ble_eq_true rfl) ?_
  refine x_aload_n (k := 95) rfl rfl ?_
  refine x_iload (k := 96) rfl rfl ?_
  refine x_iconst (v := 3) (k := 97) rfl (by decide) ?_
  refine x_iload (k := 98) rfl rfl ?_
  refine x_i2l (k := 99) rfl ?_
  refine m_callV (ci := 10) (k := 100) rfl (by rfl) (m_sets (p := nk) (k := 3) h10 (by decide) _) okX10_sets viX10_sets mlRX10_119 ⟨Nat.le_of_ble_eq_true rfl, Nat.le_of_ble_eq_true rfl⟩ (by exact Nat.le_of_ble_eq_true rfl) rfl rfl mG0 (by exact Nat.le_of_ble_eq_true rfl) ?_
  refine x_aload_n (k := 101) rfl rfl ?_
  refine x_iload (k := 102) rfl rfl ?_
  refine x_iconst (v := 4) (k := 103) rfl (by decide) ?_
  refine x_iload (k := 104) rfl rfl ?_
  refine x_i2l (k := 105) rfl ?_
  refine m_callV (ci := 10) (k := 106) rfl (by rfl) (m_sets (p := nk) (k := 4) h10 (by decide) _) okX10_sets viX10_sets mlRX10_119 ⟨Nat.le_of_ble_eq_true rfl, Nat.le_of_ble_eq_true rfl⟩ (by exact Nat.le_of_ble_eq_true rfl) rfl rfl mG0 (by exact Nat.le_of_ble_eq_true rfl) ?_
  refine x_aload_n (k := 107) rfl rfl ?_
  refine x_iload (k := 108) rfl rfl ?_
  refine x_iconst (v := 5) (k := 109) rfl (by decide) ?_
  refine x_lconst (v := 0) (k := 110) rfl (by decide) ?_
  refine m_callV (ci := 10) (k := 111) rfl (by rfl) (m_sets (p := nk) (k := 5) h10 (by decide) _) okX10_sets viX10_sets mlRX10_119 ⟨Nat.le_of_ble_eq_true rfl, Nat.le_of_ble_eq_true rfl⟩ (by exact Nat.le_of_ble_eq_true rfl) rfl rfl mG0 (by exact Nat.le_of_ble_eq_true rfl) ?_
  refine x_aload_n (k := 112) rfl rfl ?_
  refine x_iload (k := 113) rfl rfl ?_
  refine x_bipush (v := 10) (k := 114) rfl (by decide) ?_
  refine x_aload_n (k := 115) rfl rfl ?_
  refine m_callI (ci := 10) (k := 116) rfl (by rfl) (m_hour0) okX10_hour viX10_hour mlRX10_51 ⟨Nat.le_of_ble_eq_true rfl, Nat.le_of_ble_eq_true rfl⟩ (by exact Nat.le_of_ble_eq_true rfl) rfl rfl mG0 (by exact Nat.le_of_ble_eq_true rfl) ?_
  refine x_top (y := nI hr) (by
      rw [mNo_ne (by omega), mNo_ne (by omega), mNo_ne (by omega), mNo_ne (by omega), mNo_ne (by omega), mNo_ne (by omega), mNo_ne (by omega)]
      exact (congrArg Int64.toInt32 hF.m.1.2.1).trans (lN_i hr)) ?_
  refine x_i2l (k := 117) rfl ?_
  refine m_callV (ci := 10) (k := 118) rfl (by rfl) (m_sets (p := nk) (k := 10) h10 (by decide) _) okX10_sets viX10_sets mlRX10_119 ⟨Nat.le_of_ble_eq_true rfl, Nat.le_of_ble_eq_true rfl⟩ (by exact Nat.le_of_ble_eq_true rfl) rfl rfl mG0 (by exact Nat.le_of_ble_eq_true rfl) ?_
  refine x_aload_n (k := 119) rfl rfl ?_
  refine x_iload_n (k := 120) rfl rfl ?_
  refine x_iconst (v := 0) (k := 121) rfl (by decide) ?_
  refine x_aload_n (k := 122) rfl rfl ?_
  refine x_iload_n (k := 123) rfl rfl ?_
  refine x_iconst (v := 0) (k := 124) rfl (by decide) ?_
  refine m_callI (ci := 10) (k := 125) rfl (by rfl) (m_ofP0 (k := 0) hp (by decide)) okX10_ofP viX10_ofP mlRX10_91 ⟨Nat.le_of_ble_eq_true rfl, Nat.le_of_ble_eq_true rfl⟩ (by exact Nat.le_of_ble_eq_true rfl) rfl rfl mG0 (by exact Nat.le_of_ble_eq_true rfl) ?_
  refine x_top (y := W 0 p 0) (by
      rw [mNo_ne (by omega), mNo_ne (by omega), mNo_ne (by omega), mNo_ne (by omega), mNo_ne (by omega), mNo_ne (by omega), mNo_ne (by omega), mNo_ne (by omega)]
      exact hF.m.P (k := 0) hp (by decide)) ?_
  refine x_iload (k := 126) rfl rfl ?_
  refine x_sD (k := 127) rfl (by rfl) (m_costOf hq) okX10_costOf viX10_costOf mlRX10_110 ⟨Nat.le_of_ble_eq_true rfl, Nat.le_of_ble_eq_true rfl⟩ (by exact Nat.le_of_ble_eq_true rfl) rfl (by exact Nat.le_of_ble_eq_true rfl) ?_
  refine x_isub (k := 128) rfl ?_
  refine x_i2l (k := 129) rfl ?_
  refine m_callV (ci := 10) (k := 130) rfl (by rfl) (m_setsP (k := 0) hp (by decide) _) okX10_setsP viX10_setsP mlRX10_28 ⟨Nat.le_of_ble_eq_true rfl, Nat.le_of_ble_eq_true rfl⟩ (by exact Nat.le_of_ble_eq_true rfl) rfl rfl mG0 (by exact Nat.le_of_ble_eq_true rfl) ?_
  refine x_aload_n (k := 131) rfl rfl ?_
  refine m_getA (a := 1) (k := 132) rfl flRX10_7 rfl ?_
  refine x_iconst (v := 1) (k := 133) rfl (by decide) ?_
  refine x_dup2 (k := 134) rfl rfl rfl ?_
  refine m_nat (k := 135) rfl (show (1 : Int32) = nI 1 from rfl) (by first | assumption | omega) ?_
  refine x_topL (y := V.1 1) (by
      rw [mNo_ne (by omega), mNo_ne (by omega), mNo_ne (by omega), mNo_ne (by omega), mNo_ne (by omega), mNo_ne (by omega), mNo_ne (by omega), mNo_ne (by omega), mNo_ne (by omega)]
      rfl) ?_
  refine x_iload (k := 136) rfl rfl ?_
  refine x_sD (k := 137) rfl (by rfl) (m_costOf hq) okX10_costOf viX10_costOf mlRX10_110 ⟨Nat.le_of_ble_eq_true rfl, Nat.le_of_ble_eq_true rfl⟩ (by exact Nat.le_of_ble_eq_true rfl) rfl (by exact Nat.le_of_ble_eq_true rfl) ?_
  refine x_i2l (k := 138) rfl ?_
  refine x_ladd (k := 139) rfl ?_
  refine m_nput (k := 140) rfl (show (1 : Int32) = nI 1 from rfl) (by first | assumption | omega) ?_
  refine x_aload_n (k := 141) rfl rfl ?_
  refine x_iload (k := 142) rfl rfl ?_
  refine x_iload_n (k := 143) rfl rfl ?_
  refine m_callV (ci := 10) (k := 144) rfl (by rfl) (m_comesToN (Nat.lt_succ_self _) (post_Rm (q := q) (b := b) (t := t) (v := v) hF h10 hp hf) rfl) okX10_comesTo viX10_comesTo mlRX10_122 ⟨Nat.le_of_ble_eq_true rfl, Nat.le_of_ble_eq_true rfl⟩ (by exact Nat.le_of_ble_eq_true rfl) rfl rfl mG0 (by exact Nat.le_of_ble_eq_true rfl) ?_
  refine x_iload (k := 145) rfl rfl ?_
  exact m_irS (k := 146) rfl rfl rfl (by rw [e0]; decide) hF.m.eK.symm ⟨rfl, fun j hj => (mCm_ge h10 h5 hj).trans (poN_o (by omega) (by omega) (by omega) (by omega)), post_RF hF h10 hp hq hf h5 hz hz5⟩
theorem m_post {G : xG} {s : xA} {m hr f nt nk : Nat} {W : Wd} {V : Vd} (hF : RF hr f nt nk W V.1) {st : Nat} (hs : V.2.2 0 2 = nI st) (hst : st ≤ 5) (h3 : ∀ x, sHeld W x ≤ 3) {sz : Nat} (hf : f ≤ 1000) (h5 : hr ≤ 500) (hz : W 4 0 0 = nI sz) (hz5 : sz < 512) (a b t v c : Int32) : mMe G MX10_post [.ref m, .int a, .int b, .int t, .int v, .int c] s m V (OutQ (sPoF W a b t v c) (W 3 0 5) (Ch (mRec V st) hr (f + costN (ix c)) nt (nk + 1) (sAddK W a b t v c)) V) := by
  have hb := hF.m.2
  refine x_iload_n (k := 0) rfl rfl ?_
  refine x_sD (k := 1) rfl (by rfl) (m_isPerson _) okX10_isPerson viX10_isPerson mlRX10_61 ⟨Nat.le_of_ble_eq_true rfl, Nat.le_of_ble_eq_true rfl⟩ (by exact Nat.le_of_ble_eq_true rfl) rfl (by exact Nat.le_of_ble_eq_true rfl) ?_
  refine x_if_eq (tgt := 23) (k := 2) rfl (by decide) (fun c4 => ?_) (fun c4 => ?_)
  · replace c4 := bz_eq0 c4
    have e1 : sPoF W a b t v c = -1 := if_pos (Or.inl c4)
    refine x_iconst (v := 0) (k := 11) rfl (by decide) ?_
    refine x_istore (k := 12) rfl (by decide) ?_
    refine x_iload (k := 13) rfl rfl ?_
    refine x_if_eq (tgt := 64) (k := 14) rfl (by decide) (fun c28 => ?_) (fun c28 => absurd c28 (by decide))
    have e0 : sPoF W a b t v c = -1 := by first | exact e1 | exact e2.trans (if_pos (Or.inl k48)) | exact e2.trans (if_pos (Or.inr k61))
    refine x_iconst (v := -1) (k := 30) rfl (by decide) ?_
    exact m_irE (k := 31) rfl rfl rfl e0 (by decide)
  · replace c4 := bz_ne0 c4
    refine x_iload_n (k := 3) rfl rfl ?_
    refine x_sD (k := 4) rfl (by rfl) (m_isPerson _) okX10_isPerson viX10_isPerson mlRX10_61 ⟨Nat.le_of_ble_eq_true rfl, Nat.le_of_ble_eq_true rfl⟩ (by exact Nat.le_of_ble_eq_true rfl) rfl (by exact Nat.le_of_ble_eq_true rfl) ?_
    refine x_if_eq (tgt := 23) (k := 5) rfl (by decide) (fun c11 => ?_) (fun c11 => ?_)
    · replace c11 := bz_eq0 c11
      have e1 : sPoF W a b t v c = -1 := if_pos (Or.inr (Or.inl c11))
      refine x_iconst (v := 0) (k := 11) rfl (by decide) ?_
      refine x_istore (k := 12) rfl (by decide) ?_
      refine x_iload (k := 13) rfl rfl ?_
      refine x_if_eq (tgt := 64) (k := 14) rfl (by decide) (fun c28 => ?_) (fun c28 => absurd c28 (by decide))
      have e0 : sPoF W a b t v c = -1 := by first | exact e1 | exact e2.trans (if_pos (Or.inl k48)) | exact e2.trans (if_pos (Or.inr k61))
      refine x_iconst (v := -1) (k := 30) rfl (by decide) ?_
      exact m_irE (k := 31) rfl rfl rfl e0 (by decide)
    · replace c11 := bz_ne0 c11
      refine x_iload_n (k := 6) rfl rfl ?_
      refine x_iload_n (k := 7) rfl rfl ?_
      refine x_icmp_eq (tgt := 23) (k := 8) rfl (by decide) (fun c16 => ?_) (fun c16 => ?_)
      · have e1 : sPoF W a b t v c = -1 := if_pos (Or.inr (Or.inr (Or.inl c16)))
        refine x_iconst (v := 0) (k := 11) rfl (by decide) ?_
        refine x_istore (k := 12) rfl (by decide) ?_
        refine x_iload (k := 13) rfl rfl ?_
        refine x_if_eq (tgt := 64) (k := 14) rfl (by decide) (fun c28 => ?_) (fun c28 => absurd c28 (by decide))
        have e0 : sPoF W a b t v c = -1 := by first | exact e1 | exact e2.trans (if_pos (Or.inl k48)) | exact e2.trans (if_pos (Or.inr k61))
        refine x_iconst (v := -1) (k := 30) rfl (by decide) ?_
        exact m_irE (k := 31) rfl rfl rfl e0 (by decide)
      · refine x_iconst (v := 1) (k := 9) rfl (by decide) ?_
        refine x_goto (tgt := 24) (k := 10) rfl (by decide) ?_
        refine x_istore (k := 12) rfl (by decide) ?_
        refine x_iload (k := 13) rfl rfl ?_
        refine x_if_eq (tgt := 64) (k := 14) rfl (by decide) (fun c28 => absurd c28 (by decide)) (fun c28 => ?_)
        refine x_iload_n (k := 15) rfl rfl ?_
        refine x_sD (k := 16) rfl (by rfl) (m_isTown _) okX10_isTown viX10_isTown mlRX10_65 ⟨Nat.le_of_ble_eq_true rfl, Nat.le_of_ble_eq_true rfl⟩ (by exact Nat.le_of_ble_eq_true rfl) rfl (by exact Nat.le_of_ble_eq_true rfl) ?_
        refine x_if_eq (tgt := 64) (k := 17) rfl (by decide) (fun c35 => ?_) (fun c35 => ?_)
        · replace c35 := bz_eq0 c35
          have e1 : sPoF W a b t v c = -1 := if_pos (Or.inr (Or.inr (Or.inr c35)))
          have e0 : sPoF W a b t v c = -1 := by first | exact e1 | exact e2.trans (if_pos (Or.inl k48)) | exact e2.trans (if_pos (Or.inr k61))
          refine x_iconst (v := -1) (k := 30) rfl (by decide) ?_
          exact m_irE (k := 31) rfl rfl rfl e0 (by decide)
        · replace c35 := bz_ne0 c35
          have e2 : sPoF W a b t v c = if ¬ wIn v 1 999 ∨ ¬ wIn c 0 3 then -1 else if W 0 (ix a) 2 = -9 ∨ W 0 (ix a) 0 < iCost (ix c) ∨ ¬ sHeld W a < 3 then -2 else if 10 ≤ W 3 0 5 then -3 else 0 := if_neg (fun q => q.elim (fun z => z c4) (fun q => q.elim (fun z => z c11) (fun q => q.elim c16 (fun z => z c35))))
          refine x_iload (k := 18) rfl rfl ?_
          refine x_i2l (k := 19) rfl ?_
          refine x_lconst (v := 1) (k := 20) rfl (by decide) ?_
          refine x_ldc2 (k := 21) rfl klRX10_108 ?_
          refine x_sD (k := 22) rfl (by rfl) (m_isIn _ _ _) okX10_isIn viX10_isIn mlRX10_38 ⟨Nat.le_of_ble_eq_true rfl, Nat.le_of_ble_eq_true rfl⟩ (by exact Nat.le_of_ble_eq_true rfl) rfl (by exact Nat.le_of_ble_eq_true rfl) ?_
          refine x_if_eq (tgt := 64) (k := 23) rfl (by decide) (fun c48 => ?_) (fun c48 => ?_)
          · replace c48 := bz_eq0 c48
            have k48 : ¬ wIn v 1 999 := fun z => c48 ((w64 (n := v) (lo := 1) (hi := 999) (by decide) (by decide)).mpr z)
            have e0 : sPoF W a b t v c = -1 := by first | exact e1 | exact e2.trans (if_pos (Or.inl k48)) | exact e2.trans (if_pos (Or.inr k61))
            refine x_iconst (v := -1) (k := 30) rfl (by decide) ?_
            exact m_irE (k := 31) rfl rfl rfl e0 (by decide)
          · replace c48 := bz_ne0 c48
            have k48 : wIn v 1 999 := (w64 (n := v) (lo := 1) (hi := 999) (by decide) (by decide)).mp c48
            refine x_iload (k := 24) rfl rfl ?_
            refine x_i2l (k := 25) rfl ?_
            refine x_lconst (v := 0) (k := 26) rfl (by decide) ?_
            refine x_ldc2 (k := 27) rfl klRX10_82 ?_
            refine x_sD (k := 28) rfl (by rfl) (m_isIn _ _ _) okX10_isIn viX10_isIn mlRX10_38 ⟨Nat.le_of_ble_eq_true rfl, Nat.le_of_ble_eq_true rfl⟩ (by exact Nat.le_of_ble_eq_true rfl) rfl (by exact Nat.le_of_ble_eq_true rfl) ?_
            refine x_if_ne (tgt := 66) (k := 29) rfl (by decide) (fun c61 => ?_) (fun c61 => ?_)
            · replace c61 := bz_ne0 c61
              have k61 : wIn c 0 3 := (w64 (n := c) (lo := 0) (hi := 3) (by decide) (by decide)).mp c61
              have e3 := e2.trans (if_neg (fun q => q.elim (fun z => z k48) (fun z => z k61)))
              obtain ⟨p, hp, rfl⟩ := gP_is c4
              obtain ⟨q, hq, rfl⟩ := wIn_nI (hi := 3) (by decide) k61
              have ep : ix (nI p) = p := ixP hp
              have eq : ix (nI q) = q := cl4 hq
              rw [ep, eq] at e3
              rw [eq]
              refine x_aload_n (k := 32) rfl rfl ?_
              refine x_iload_n (k := 33) rfl rfl ?_
              refine x_iconst (v := 2) (k := 34) rfl (by decide) ?_
              refine m_callI (ci := 10) (k := 35) rfl (by rfl) (m_ofP hF.m (k := 2) hp (by decide)) okX10_ofP viX10_ofP mlRX10_91 ⟨Nat.le_of_ble_eq_true rfl, Nat.le_of_ble_eq_true rfl⟩ (by exact Nat.le_of_ble_eq_true rfl) rfl rfl mG0 (by exact Nat.le_of_ble_eq_true rfl) ?_
              refine x_bipush (v := -9) (k := 36) rfl (by decide) ?_
              refine x_icmp_eq (tgt := 100) (k := 37) rfl (by decide) (fun c74 => ?_) (fun c74 => ?_)
              · have e0 := e3.trans (if_pos (Or.inl c74))
                refine x_bipush (v := -2) (k := 50) rfl (by decide) ?_
                exact m_irE (k := 51) rfl rfl rfl e0 (by decide)
              · refine x_aload_n (k := 38) rfl rfl ?_
                refine x_iload_n (k := 39) rfl rfl ?_
                refine x_iconst (v := 0) (k := 40) rfl (by decide) ?_
                refine m_callI (ci := 10) (k := 41) rfl (by rfl) (m_ofP hF.m (k := 0) hp (by decide)) okX10_ofP viX10_ofP mlRX10_91 ⟨Nat.le_of_ble_eq_true rfl, Nat.le_of_ble_eq_true rfl⟩ (by exact Nat.le_of_ble_eq_true rfl) rfl rfl mG0 (by exact Nat.le_of_ble_eq_true rfl) ?_
                refine x_iload (k := 42) rfl rfl ?_
                refine x_sD (k := 43) rfl (by rfl) (m_costOf hq) okX10_costOf viX10_costOf mlRX10_110 ⟨Nat.le_of_ble_eq_true rfl, Nat.le_of_ble_eq_true rfl⟩ (by exact Nat.le_of_ble_eq_true rfl) rfl (by exact Nat.le_of_ble_eq_true rfl) ?_
                refine x_icmp_lt (tgt := 100) (k := 44) rfl (by decide) (fun c88 => ?_) (fun c88 => ?_)
                · have e0 := e3.trans (if_pos (Or.inr (Or.inl c88)))
                  refine x_bipush (v := -2) (k := 50) rfl (by decide) ?_
                  exact m_irE (k := 51) rfl rfl rfl e0 (by decide)
                · refine x_aload_n (k := 45) rfl rfl ?_
                  refine x_iload_n (k := 46) rfl rfl ?_
                  refine m_callI (ci := 10) (k := 47) rfl (by rfl) (m_heldBy hF.m _) okX10_heldBy viX10_heldBy mlRX10_114 ⟨Nat.le_of_ble_eq_true rfl, Nat.le_of_ble_eq_true rfl⟩ (by exact Nat.le_of_ble_eq_true rfl) rfl rfl mG0 (by exact Nat.le_of_ble_eq_true rfl) ?_
                  refine x_iconst (v := 3) (k := 48) rfl (by decide) ?_
                  refine x_icmp_ne (tgt := 103) (k := 49) rfl (by decide) (fun c97 => ?_) (fun c97 => ?_)
                  · have e4 := e3.trans (if_neg (fun q => q.elim c74 (fun q => q.elim c88 (fun z => z (Int32.lt_of_le_of_ne (h3 _) c97)))))
                    refine x_aload_n (k := 52) rfl rfl ?_
                    refine m_getA (a := 1) (k := 53) rfl flRX10_7 rfl ?_
                    refine x_iconst (v := 3) (k := 54) rfl (by decide) ?_
                    refine m_nat (k := 55) rfl (show (3 : Int32) = nI 3 from rfl) (by first | assumption | omega) ?_
                    refine x_ldc2 (k := 56) rfl klRX10_117 ?_
                    refine x_lcmp (k := 57) rfl ?_
                    refine x_if_ne (tgt := 119) (k := 58) rfl (by decide) (fun c113 => ?_) (fun c113 => ?_)
                    · replace c113 := mt (lg_cmp_eq _ _).mpr c113
                      have h10 : nk < 10 := by
                        rcases Nat.lt_or_ge nk 10 with z | z
                        · exact z
                        · exact absurd (hF.m.1.2.2.2.2.trans (show lN nk = 10 by rw [show nk = 10 by omega]; rfl)) c113
                      have e5 := e4.trans (if_neg (by rw [hF.m.eK]; exact nI_ge (b := 10) h10 (by decide)))
                      refine x_sub (ls' := [(0, .ref m), (1, .int (nI p)), (2, .int b), (3, .int t), (4, .int v), (5, .int (nI q))]) (by intro q hq; simp only [List.mem_cons, List.not_mem_nil, or_false] at hq; rcases hq with rfl | rfl | rfl | rfl | rfl | rfl <;> rfl) ?_
                      exact l_post hF hs hst h10 hp hq hf h5 hz hz5 e5
                    · replace c113 := (lg_cmp_eq _ _).mp c113
                      have e0 := e4.trans (if_pos (by
                        have : nk = 10 := (lN_eq (b := 10) (by omega) (by decide)).mp (hF.m.1.2.2.2.2.symm.trans c113)
                        rw [hF.m.eK, this]
                        decide))
                      refine x_bipush (v := -3) (k := 59) rfl (by decide) ?_
                      exact m_irE (k := 60) rfl rfl rfl e0 (by decide)
                  · have e0 := e3.trans (if_pos (Or.inr (Or.inr (by rw [c97]; decide))))
                    refine x_bipush (v := -2) (k := 50) rfl (by decide) ?_
                    exact m_irE (k := 51) rfl rfl rfl e0 (by decide)
            · replace c61 := bz_eq0 c61
              have k61 : ¬ wIn c 0 3 := fun z => c61 ((w64 (n := c) (lo := 0) (hi := 3) (by decide) (by decide)).mpr z)
              have e0 : sPoF W a b t v c = -1 := by first | exact e1 | exact e2.trans (if_pos (Or.inl k48)) | exact e2.trans (if_pos (Or.inr k61))
              refine x_iconst (v := -1) (k := 30) rfl (by decide) ?_
              exact m_irE (k := 31) rfl rfl rfl e0 (by decide)
