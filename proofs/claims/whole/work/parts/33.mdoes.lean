-- ===== the model: what a word, a locker, an hour does =====
theorem wSet_cm {W : Wd} {a i k a' i' k' : Nat} {v v' : Int32} (h : a ≠ a' ∨ i ≠ i' ∨ k ≠ k') : wSet (wSet W a i k v) a' i' k' v' = wSet (wSet W a' i' k' v') a i k v := by
  funext b j q
  simp only [wSet]
  by_cases h1 : b = a' ∧ j = i' ∧ q = k'
  · rw [if_pos h1, if_neg (fun z => by omega), if_pos h1]
  · rw [if_neg h1, if_neg h1]
theorem wSet_id {W : Wd} {a i k : Nat} {v : Int32} (h : W a i k = v) : wSet W a i k v = W := by
  funext b j q
  rw [wSet_r]
  by_cases z : b = a ∧ j = i ∧ q = k
  · rw [if_pos z, z.1, z.2.1, z.2.2, h]
  · rw [if_neg z]
theorem sNote_cm {W : Wd} {hr q h x : Int32} : sNote (wSet W 3 0 2 x) hr q h = wSet (sNote W hr q h) 3 0 2 x := by
  unfold sNote
  rw [wSet_a (show (4 : Nat) ≠ 3 by decide)]
  by_cases z : 512 ≤ W 4 0 0
  · rw [if_pos z, if_pos z]
  · rw [if_neg z, if_neg z, wSet_cm (a' := 5) (Or.inl (by decide)), wSet_cm (a' := 4) (Or.inl (by decide))]
theorem sHov_cm {W : Wd} {k : Nat} {h : Int32} : wSet (sSetH W k h) 3 0 2 (W 3 0 2 + 1) = sHov W k h := by
  unfold sHov sSetH
  rw [wSet_cm (a := 3) (a' := 2) (Or.inl (by decide)), wSet_cm (a := 3) (a' := 2) (Or.inl (by decide)), wSet_cm (a := 3) (a' := 2) (Or.inl (by decide)), wSet_cm (a := 3) (a' := 2) (Or.inl (by decide)), wSet_k (show (0 : Nat) ≠ 2 by decide), sNote_cm]
theorem mCm_ge {N : Nat → Int64} {hr k j : Nat} {h : Int32} (hk : k < 10) (h5 : hr ≤ 500) (hj : 588 ≤ j) : mCm N hr k h j = N j := by
  rw [mCm, mStd_ne (by unfold nbA; omega), cmN_ne (by omega)]
theorem comes_Ch {hr f nt nk k sz : Nat} {W : Wd} {V : Vd} {h : Int32} (hF : RF hr f nt nk W V.1) (h5 : hr ≤ 500) (hz : W 4 0 0 = nI sz) (hz5 : sz < 512) (hk : k < nk) (hh : isHo h) : Ch V hr f nt nk (sSetH W k h) (mCm V.1 hr k h, V.2) :=
  ⟨rfl, fun j hj => mCm_ge (Nat.lt_of_lt_of_le hk hF.1.2.2.2.2) h5 hj, comes_RF hF.1 hF.2.1 (fun j hj _ => hF.2.2 j hj) ((hF.2.2 k hk).pa (Nat.le_refl _) (Nat.le_succ _)) hk h5 hz hz5 hh⟩
/-- a handover counts: the holder's change, one handover more -/
theorem hov_Ch {hr f nt nk k : Nat} {W : Wd} {V V1 : Vd} {h : Int32} (c1 : Ch V hr f nt nk (sSetH W k h) V1) : Ch V hr f nt nk (sHov W k h) (mNo V1 4 (V1.1 4 + 1)) := by
  have c2 := c1.add (q := 2) (Or.inl rfl) (x := 1) (v := 1) (by decide)
  rw [sSetH_r (show (3 : Nat) ≠ 4 by decide) (by decide) (Or.inl (by decide)), sHov_cm] at c2
  exact c2
theorem mNo_at {V : Vd} {p : Nat} {v : Int64} : (mNo V p v).1 p = v := vp_upL_at
theorem mNo_ne {V : Vd} {p j : Nat} {v : Int64} (h : j ≠ p) : (mNo V p v).1 j = V.1 j := vp_upL_ne h
theorem nP9 {p : Nat} (h : p < 8) : ¬ nI p = -9 := fun z => nI_pos (n := p) (by omega) (by rw [z]; decide)
theorem ixP {p : Nat} (h : p < 8) : ix (nI p) = p := clP h
theorem ixT {p : Nat} (h : p < 16) : ix (nI p) = p := clT h
theorem m_receives {G : xG} {s : xA} {m hr f nt nk : Nat} {W : Wd} {V : Vd} (hF : RF hr f nt nk W V.1) (h5 : hr ≤ 500) {sz : Nat} (hz : W 4 0 0 = nI sz) (hz5 : sz < 512) {k : Nat} (hk : k < nk) {p a : Nat} (hp : p < 8) (ha : a < 8) (ea : W 2 k 0 = nI a) (eu : W 2 k 5 = 0) : mVQ G MX10_receives [.ref m, .int (nI p), .int (nI k)] s m V (Ch V hr f nt nk (sSet (sHov W k (nI p)) k (nI p))) := by
  have hb := hF.m.2
  have ea2 : sHov W k (nI p) 2 k 0 = nI a := (sHov_r (by decide) (by decide) (Or.inr (Or.inr (by decide))) (Or.inl (by decide))).trans ea
  have eu2 : sHov W k (nI p) 2 k 5 = 0 := (sHov_r (by decide) (by decide) (Or.inr (Or.inr (by decide))) (Or.inl (by decide))).trans eu
  refine x_aload_n (k := 0) rfl rfl ?_
  refine x_iload_n (k := 1) rfl rfl ?_
  refine x_iload_n (k := 2) rfl rfl ?_
  refine m_callV (ci := 10) (k := 3) rfl (by rfl) (m_comesTo hF.m hk _) okX10_comesTo viX10_comesTo mlRX10_122 ⟨Nat.le_of_ble_eq_true rfl, Nat.le_of_ble_eq_true rfl⟩ (by exact Nat.le_of_ble_eq_true rfl) rfl rfl mG0 (by exact Nat.le_of_ble_eq_true rfl) ?_
  have c1 := comes_Ch hF h5 hz hz5 hk (h := nI p) (Or.inl ⟨p, hp, rfl⟩)
  refine x_aload_n (k := 4) rfl rfl ?_
  refine m_getA (a := 1) (k := 5) rfl flRX10_7 rfl ?_
  refine x_iconst (v := 4) (k := 6) rfl (by decide) ?_
  refine x_dup2 (k := 7) rfl rfl rfl ?_
  refine m_nat (k := 8) rfl (show (4 : Int32) = nI 4 from rfl) (by first | assumption | omega) ?_
  refine x_lconst (v := 1) (k := 9) rfl (by decide) ?_
  refine x_ladd (k := 10) rfl ?_
  refine m_nput (k := 11) rfl (show (4 : Int32) = nI 4 from rfl) (by first | assumption | omega) ?_
  have c2 := hov_Ch c1
  refine x_aload_n (k := 12) rfl rfl ?_
  refine x_iload_n (k := 13) rfl rfl ?_
  refine x_iconst (v := 2) (k := 14) rfl (by decide) ?_
  refine m_callI (ci := 10) (k := 15) rfl (by rfl) (m_ofP c2.m (k := 2) hp (by decide)) okX10_ofP viX10_ofP mlRX10_91 ⟨Nat.le_of_ble_eq_true rfl, Nat.le_of_ble_eq_true rfl⟩ (by exact Nat.le_of_ble_eq_true rfl) rfl rfl mG0 (by exact Nat.le_of_ble_eq_true rfl) ?_
  refine x_istore_n (k := 16) rfl (by decide) ?_
  refine x_iload_n (k := 17) rfl rfl ?_
  refine x_aload_n (k := 18) rfl rfl ?_
  refine x_iload_n (k := 19) rfl rfl ?_
  refine x_iconst (v := 1) (k := 20) rfl (by decide) ?_
  refine m_callI (ci := 10) (k := 21) rfl (by rfl) (m_of c2.m (k := 1) hk (by decide)) okX10_of viX10_of mlRX10_84 ⟨Nat.le_of_ble_eq_true rfl, Nat.le_of_ble_eq_true rfl⟩ (by exact Nat.le_of_ble_eq_true rfl) rfl rfl mG0 (by exact Nat.le_of_ble_eq_true rfl) ?_
  refine x_icmp_ne (tgt := 57) (k := 22) rfl (by decide) (fun c30 => ?_) (fun c30 => ?_)
  · refine x_aload_n (k := 37) rfl rfl ?_
    refine x_iload_n (k := 38) rfl rfl ?_
    refine x_iload_n (k := 39) rfl rfl ?_
    refine m_callI (ci := 10) (k := 40) rfl (by rfl) (m_firstTrip c2.m (c := nI p) (by rw [ixP hp])) okX10_firstTrip viX10_firstTrip mlRX10_126 ⟨Nat.le_of_ble_eq_true rfl, Nat.le_of_ble_eq_true rfl⟩ (by exact Nat.le_of_ble_eq_true rfl) rfl rfl mG0 (by exact Nat.le_of_ble_eq_true rfl) ?_
    refine x_istore (k := 41) rfl (by decide) ?_
    refine x_iload (k := 42) rfl rfl ?_
    refine x_bipush (v := -9) (k := 43) rfl (by decide) ?_
    refine x_icmp_eq (tgt := 90) (k := 44) rfl (by decide) (fun c69 => ?_) (fun c69 => ?_)
    · have c3 := c2.w (show sHov W k (nI p) = sSet (sHov W k (nI p)) k (nI p) by rw [sSet, if_pos c30, sPay, c2.m.cT, if_pos c69])
      exact m_rQ (k := 56) rfl rfl c3
    · obtain ⟨j, hj, ej⟩ := (ntTo_is (W := sHov W k (nI p)) (c := nI p) nt).resolve_left c69
      rw [ej]
      refine x_aload_n (k := 45) rfl rfl ?_
      refine x_aload_n (k := 46) rfl rfl ?_
      refine x_iload_n (k := 47) rfl rfl ?_
      refine x_iconst (v := 0) (k := 48) rfl (by decide) ?_
      refine m_callI (ci := 10) (k := 49) rfl (by rfl) (m_of c2.m (k := 0) hk (by decide)) okX10_of viX10_of mlRX10_84 ⟨Nat.le_of_ble_eq_true rfl, Nat.le_of_ble_eq_true rfl⟩ (by exact Nat.le_of_ble_eq_true rfl) rfl rfl mG0 (by exact Nat.le_of_ble_eq_true rfl) ?_
      rw [ea2]
      refine x_iload_n (k := 50) rfl rfl ?_
      refine x_aload_n (k := 51) rfl rfl ?_
      refine x_iload (k := 52) rfl rfl ?_
      refine x_iconst (v := 5) (k := 53) rfl (by decide) ?_
      refine m_callI (ci := 10) (k := 54) rfl (by rfl) (m_ofT c2.m (k := 5) hj (by decide)) okX10_ofT viX10_ofT mlRX10_55 ⟨Nat.le_of_ble_eq_true rfl, Nat.le_of_ble_eq_true rfl⟩ (by exact Nat.le_of_ble_eq_true rfl) rfl rfl mG0 (by exact Nat.le_of_ble_eq_true rfl) ?_
      refine m_callVQ (ci := 10) (k := 55) rfl (by rfl) (m_pays c2.2.2 ha hp _) okX10_pays viX10_pays mlRX10_129 ⟨Nat.le_of_ble_eq_true rfl, Nat.le_of_ble_eq_true rfl⟩ (by exact Nat.le_of_ble_eq_true rfl) rfl rfl mG0 (by exact Nat.le_of_ble_eq_true rfl) (fun V3 q3 => ?_)
      have c3 := (c2.tr q3).w (show sPay2 (sHov W k (nI p)) a p p (iMin (sHov W k (nI p) 1 j 5) (sHov W k (nI p) 0 a 0)) = sSet (sHov W k (nI p)) k (nI p) by rw [sSet, if_pos c30, sPay, c2.m.cT, if_neg c69, sPaid, c2.m.cT, ej, ea2, ixP ha, ixP hp, ixT (show j < 16 by omega)])
      exact m_rQ (k := 56) rfl rfl c3
  · refine x_aload_n (k := 23) rfl rfl ?_
    refine x_iload_n (k := 24) rfl rfl ?_
    refine x_iconst (v := 5) (k := 25) rfl (by decide) ?_
    refine x_iload_n (k := 26) rfl rfl ?_
    refine x_aload_n (k := 27) rfl rfl ?_
    refine x_iload_n (k := 28) rfl rfl ?_
    refine x_iconst (v := 2) (k := 29) rfl (by decide) ?_
    refine m_callI (ci := 10) (k := 30) rfl (by rfl) (m_of c2.m (k := 2) hk (by decide)) okX10_of viX10_of mlRX10_84 ⟨Nat.le_of_ble_eq_true rfl, Nat.le_of_ble_eq_true rfl⟩ (by exact Nat.le_of_ble_eq_true rfl) rfl rfl mG0 (by exact Nat.le_of_ble_eq_true rfl) ?_
    refine x_icmp_ne (tgt := 50) (k := 31) rfl (by decide) (fun c43 => ?_) (fun c43 => ?_)
    · have ev : (0 : Int64).toInt32 = 0 := by decide
      have eS : wSet (sHov W k (nI p)) 2 k 5 0 = sSet (sHov W k (nI p)) k (nI p) := by rw [sSet, if_neg (fun z => z c30), if_neg (by rw [ixP hp]; exact c43), wSet_id eu2]
      refine x_lconst (v := 0) (k := 34) rfl (by decide) ?_
      refine m_callV (ci := 10) (k := 35) rfl (by rfl) (m_sets (k := 5) (by omega) (by decide) _) okX10_sets viX10_sets mlRX10_119 ⟨Nat.le_of_ble_eq_true rfl, Nat.le_of_ble_eq_true rfl⟩ (by exact Nat.le_of_ble_eq_true rfl) rfl rfl mG0 (by exact Nat.le_of_ble_eq_true rfl) ?_
      have c3 := (c2.setK (k := 5) hk (by decide) (by decide) ev).w eS
      refine x_goto (tgt := 90) (k := 36) rfl (by decide) ?_
      exact m_rQ (k := 56) rfl rfl c3
    · have ev : (1 : Int64).toInt32 = 1 := by decide
      have eS : wSet (sHov W k (nI p)) 2 k 5 1 = sSet (sHov W k (nI p)) k (nI p) := by rw [sSet, if_neg (fun z => z c30), if_pos (by rw [ixP hp]; exact c43)]
      refine x_lconst (v := 1) (k := 32) rfl (by decide) ?_
      refine x_goto (tgt := 51) (k := 33) rfl (by decide) ?_
      refine m_callV (ci := 10) (k := 35) rfl (by rfl) (m_sets (k := 5) (by omega) (by decide) _) okX10_sets viX10_sets mlRX10_119 ⟨Nat.le_of_ble_eq_true rfl, Nat.le_of_ble_eq_true rfl⟩ (by exact Nat.le_of_ble_eq_true rfl) rfl rfl mG0 (by exact Nat.le_of_ble_eq_true rfl) ?_
      have c3 := (c2.setK (k := 5) hk (by decide) (by decide) ev).w eS
      refine x_goto (tgt := 90) (k := 36) rfl (by decide) ?_
      exact m_rQ (k := 56) rfl rfl c3
theorem m_says {G : xG} {s : xA} {m hr f nt nk : Nat} {W : Wd} {V : Vd} (hF : RF hr f nt nk W V.1) (h5 : hr ≤ 500) {sz : Nat} (hz : W 4 0 0 = nI sz) (hz5 : sz < 512) {k : Nat} (hk : k < nk) {p a kd : Nat} (hkd : kd = 8 ∨ kd = 9) (hp : p < 8) (ha : a < 8) (ea : W 2 k 0 = nI a) (eu : W 2 k 5 = 0) : mIQ G MX10_says [.ref m, .int (nI k), .int (nI kd), .int (nI p)] s m V (bz (fit (wSet W 2 k kd (nI p)) k)) (Ch V hr f nt nk (sHow (wSet W 2 k kd (nI p)) k (nI p))) := by
  have hb := hF.m.2
  have hor : wSet W 2 k kd (nI p) 2 k 8 = nI p ∨ wSet W 2 k kd (nI p) 2 k 9 = nI p := by
    rcases hkd with rfl | rfl
    · exact Or.inl (wSet_same _ _ _ _ _)
    · exact Or.inr (wSet_same _ _ _ _ _)
  refine x_aload_n (k := 0) rfl rfl ?_
  refine x_iload_n (k := 1) rfl rfl ?_
  refine x_iload_n (k := 2) rfl rfl ?_
  refine x_iload_n (k := 3) rfl rfl ?_
  refine x_i2l (k := 4) rfl ?_
  refine m_callV (ci := 10) (k := 5) rfl (by rfl) (m_sets (p := k) (k := kd) (by omega) (by omega) _) okX10_sets viX10_sets mlRX10_119 ⟨Nat.le_of_ble_eq_true rfl, Nat.le_of_ble_eq_true rfl⟩ (by exact Nat.le_of_ble_eq_true rfl) rfl rfl mG0 (by exact Nat.le_of_ble_eq_true rfl) ?_
  have c1 := (Chh.rf hF).setK (k := kd) hk (by omega) (by omega) (t32 (nI p))
  refine x_aload_n (k := 6) rfl rfl ?_
  refine x_iload_n (k := 7) rfl rfl ?_
  refine x_bipush (v := 8) (k := 8) rfl (by decide) ?_
  refine m_callI (ci := 10) (k := 9) rfl (by rfl) (m_of c1.m (k := 8) hk (by decide)) okX10_of viX10_of mlRX10_84 ⟨Nat.le_of_ble_eq_true rfl, Nat.le_of_ble_eq_true rfl⟩ (by exact Nat.le_of_ble_eq_true rfl) rfl rfl mG0 (by exact Nat.le_of_ble_eq_true rfl) ?_
  refine x_iload_n (k := 10) rfl rfl ?_
  refine x_icmp_ne (tgt := 30) (k := 11) rfl (by decide) (fun c16 => ?_) (fun c16 => ?_)
  · have nf : ¬ fit (wSet W 2 k kd (nI p)) k := fun q => c16 (hor.elim id (fun z => q.2.trans z))
    refine x_iconst (v := 0) (k := 18) rfl (by decide) ?_
    exact m_irQ (k := 19) rfl rfl rfl (bz_0 nf).symm (c1.w (if_neg nf).symm)
  · refine x_aload_n (k := 12) rfl rfl ?_
    refine x_iload_n (k := 13) rfl rfl ?_
    refine x_bipush (v := 9) (k := 14) rfl (by decide) ?_
    refine m_callI (ci := 10) (k := 15) rfl (by rfl) (m_of c1.m (k := 9) hk (by decide)) okX10_of viX10_of mlRX10_84 ⟨Nat.le_of_ble_eq_true rfl, Nat.le_of_ble_eq_true rfl⟩ (by exact Nat.le_of_ble_eq_true rfl) rfl rfl mG0 (by exact Nat.le_of_ble_eq_true rfl) ?_
    refine x_iload_n (k := 16) rfl rfl ?_
    refine x_icmp_eq (tgt := 32) (k := 17) rfl (by decide) (fun c27 => ?_) (fun c27 => ?_)
    · have yf : fit (wSet W 2 k kd (nI p)) k := ⟨by rw [c16]; exact nP9 hp, c16.trans c27.symm⟩
      refine x_aload_n (k := 20) rfl rfl ?_
      refine x_iload_n (k := 21) rfl rfl ?_
      refine x_iload_n (k := 22) rfl rfl ?_
      refine m_callVQ (ci := 10) (k := 23) rfl (by rfl) (m_receives c1.2.2 h5 (sz := sz) ((wSet_a (by decide)).trans hz) hz5 hk hp ha ((wSet_k (by omega)).trans ea) ((wSet_k (by omega)).trans eu)) okX10_receives viX10_receives mlRX10_136 ⟨Nat.le_of_ble_eq_true rfl, Nat.le_of_ble_eq_true rfl⟩ (by exact Nat.le_of_ble_eq_true rfl) rfl rfl mG0 (by exact Nat.le_of_ble_eq_true rfl) (fun V2 q2 => ?_)
      have c2 : Ch V hr f nt nk (sHow (wSet W 2 k kd (nI p)) k (nI p)) V2 := (c1.tr q2).w (if_pos yf).symm
      refine x_iconst (v := 1) (k := 24) rfl (by decide) ?_
      exact m_irQ (k := 25) rfl rfl rfl (bz_1 yf).symm c2
    · have nf : ¬ fit (wSet W 2 k kd (nI p)) k := fun q => c27 (hor.elim (fun z => q.2.symm.trans z) id)
      refine x_iconst (v := 0) (k := 18) rfl (by decide) ?_
      exact m_irQ (k := 19) rfl rfl rfl (bz_0 nf).symm (c1.w (if_neg nf).symm)
theorem m_puts {G : xG} {s : xA} {m hr f nt nk : Nat} {W : Wd} {V : Vd} (hF : RF hr f nt nk W V.1) (h5 : hr ≤ 500) {sz : Nat} (hz : W 4 0 0 = nI sz) (hz5 : sz < 512) {k : Nat} (hk : k < nk) {p : Nat} (hp : p < 8) (ht : isTn (W 0 p 2)) : mIQ G MX10_puts [.ref m, .int (nI p), .int (nI k)] s m V (sHeld (sPut W p k) (10 + W 0 p 2)) (Ch V hr f nt nk (sPut W p k)) := by
  refine x_bipush (v := 10) (k := 0) rfl (by decide) ?_
  refine x_aload_n (k := 1) rfl rfl ?_
  refine x_iload_n (k := 2) rfl rfl ?_
  refine x_iconst (v := 2) (k := 3) rfl (by decide) ?_
  refine m_callI (ci := 10) (k := 4) rfl (by rfl) (m_ofP hF.m (k := 2) hp (by decide)) okX10_ofP viX10_ofP mlRX10_91 ⟨Nat.le_of_ble_eq_true rfl, Nat.le_of_ble_eq_true rfl⟩ (by exact Nat.le_of_ble_eq_true rfl) rfl rfl mG0 (by exact Nat.le_of_ble_eq_true rfl) ?_
  refine x_iadd (k := 5) rfl ?_
  refine x_istore_n (k := 6) rfl (by decide) ?_
  refine x_aload_n (k := 7) rfl rfl ?_
  refine x_iload_n (k := 8) rfl rfl ?_
  refine x_iload_n (k := 9) rfl rfl ?_
  refine m_callV (ci := 10) (k := 10) rfl (by rfl) (m_comesTo hF.m hk _) okX10_comesTo viX10_comesTo mlRX10_122 ⟨Nat.le_of_ble_eq_true rfl, Nat.le_of_ble_eq_true rfl⟩ (by exact Nat.le_of_ble_eq_true rfl) rfl rfl mG0 (by exact Nat.le_of_ble_eq_true rfl) ?_
  have c1 := comes_Ch hF h5 hz hz5 hk (h := 10 + W 0 p 2) (by obtain ⟨t, h1, h2⟩ := ht; exact Or.inr ⟨t, h1, by rw [h2, ← nI_add]; rfl⟩)
  refine x_aload_n (k := 11) rfl rfl ?_
  refine m_getA (a := 1) (k := 12) rfl flRX10_7 rfl ?_
  refine x_iconst (v := 4) (k := 13) rfl (by decide) ?_
  refine x_dup2 (k := 14) rfl rfl rfl ?_
  refine m_nat (k := 15) rfl (show (4 : Int32) = nI 4 from rfl) (by first | assumption | omega) ?_
  refine x_lconst (v := 1) (k := 16) rfl (by decide) ?_
  refine x_ladd (k := 17) rfl ?_
  refine m_nput (k := 18) rfl (show (4 : Int32) = nI 4 from rfl) (by first | assumption | omega) ?_
  have c2 := hov_Ch c1
  refine x_aload_n (k := 19) rfl rfl ?_
  refine x_iload_n (k := 20) rfl rfl ?_
  refine m_callI (ci := 10) (k := 21) rfl (by rfl) (m_heldBy c2.m _) okX10_heldBy viX10_heldBy mlRX10_114 ⟨Nat.le_of_ble_eq_true rfl, Nat.le_of_ble_eq_true rfl⟩ (by exact Nat.le_of_ble_eq_true rfl) rfl rfl mG0 (by exact Nat.le_of_ble_eq_true rfl) ?_
  exact m_irQ (k := 22) rfl rfl rfl rfl c2
theorem m_fetches {G : xG} {s : xA} {m hr f nt nk : Nat} {W : Wd} {V : Vd} (hF : RF hr f nt nk W V.1) (h5 : hr ≤ 500) {sz : Nat} (hz : W 4 0 0 = nI sz) (hz5 : sz < 512) {k : Nat} (hk : k < nk) {p a : Nat} (hp : p < 8) (ha : a < 8) (ea : W 2 k 0 = nI a) (eu : W 2 k 5 = 0) : mIQ G MX10_fetches [.ref m, .int (nI p), .int (nI k)] s m V (sHeld (sFet W p k) (10 + sFet W p k 0 p 2)) (Ch V hr f nt nk (sFet W p k)) := by
  refine x_aload_n (k := 0) rfl rfl ?_
  refine x_iload_n (k := 1) rfl rfl ?_
  refine x_iload_n (k := 2) rfl rfl ?_
  refine m_callVQ (ci := 10) (k := 3) rfl (by rfl) (m_receives hF h5 hz hz5 hk hp ha ea eu) okX10_receives viX10_receives mlRX10_136 ⟨Nat.le_of_ble_eq_true rfl, Nat.le_of_ble_eq_true rfl⟩ (by exact Nat.le_of_ble_eq_true rfl) rfl rfl mG0 (by exact Nat.le_of_ble_eq_true rfl) (fun V1 q1 => ?_)
  refine x_aload_n (k := 4) rfl rfl ?_
  refine x_bipush (v := 10) (k := 5) rfl (by decide) ?_
  refine x_aload_n (k := 6) rfl rfl ?_
  refine x_iload_n (k := 7) rfl rfl ?_
  refine x_iconst (v := 2) (k := 8) rfl (by decide) ?_
  refine m_callI (ci := 10) (k := 9) rfl (by rfl) (m_ofP q1.m (k := 2) hp (by decide)) okX10_ofP viX10_ofP mlRX10_91 ⟨Nat.le_of_ble_eq_true rfl, Nat.le_of_ble_eq_true rfl⟩ (by exact Nat.le_of_ble_eq_true rfl) rfl rfl mG0 (by exact Nat.le_of_ble_eq_true rfl) ?_
  refine x_iadd (k := 10) rfl ?_
  refine m_callI (ci := 10) (k := 11) rfl (by rfl) (m_heldBy q1.m _) okX10_heldBy viX10_heldBy mlRX10_114 ⟨Nat.le_of_ble_eq_true rfl, Nat.le_of_ble_eq_true rfl⟩ (by exact Nat.le_of_ble_eq_true rfl) rfl rfl mG0 (by exact Nat.le_of_ble_eq_true rfl) ?_
  exact m_irQ (k := 12) rfl rfl rfl rfl q1
theorem m_leaves {G : xG} {s : xA} {m h0 hr f nt nk : Nat} {W : Wd} {V0 V : Vd} (hC : Chh V0 h0 hr f nt nk W V) {t p : Nat} (ht : t < nt) (hp : p < 8) (ep : W 1 t 0 = nI p) : mVQ G MX10_leaves [.ref m, .int (nI t)] s m V (Chh V0 h0 hr f nt nk (gStep W t)) := by
  have hb := hC.m.2
  have ex : ix (W 1 t 0) = p := by rw [ep]; exact ixP hp
  refine x_aload_n (k := 0) rfl rfl ?_
  refine x_iload_n (k := 1) rfl rfl ?_
  refine x_iconst (v := 0) (k := 2) rfl (by decide) ?_
  refine m_callI (ci := 10) (k := 3) rfl (by rfl) (m_ofT hC.m (k := 0) ht (by decide)) okX10_ofT viX10_ofT mlRX10_55 ⟨Nat.le_of_ble_eq_true rfl, Nat.le_of_ble_eq_true rfl⟩ (by exact Nat.le_of_ble_eq_true rfl) rfl rfl mG0 (by exact Nat.le_of_ble_eq_true rfl) ?_
  rw [ep]
  refine x_istore_n (k := 4) rfl (by decide) ?_
  refine x_aload_n (k := 5) rfl rfl ?_
  refine x_iload_n (k := 6) rfl rfl ?_
  refine x_iconst (v := 2) (k := 7) rfl (by decide) ?_
  refine m_callI (ci := 10) (k := 8) rfl (by rfl) (m_ofP hC.m (k := 2) hp (by decide)) okX10_ofP viX10_ofP mlRX10_91 ⟨Nat.le_of_ble_eq_true rfl, Nat.le_of_ble_eq_true rfl⟩ (by exact Nat.le_of_ble_eq_true rfl) rfl rfl mG0 (by exact Nat.le_of_ble_eq_true rfl) ?_
  refine x_aload_n (k := 9) rfl rfl ?_
  refine x_iload_n (k := 10) rfl rfl ?_
  refine x_iconst (v := 1) (k := 11) rfl (by decide) ?_
  refine m_callI (ci := 10) (k := 12) rfl (by rfl) (m_ofT hC.m (k := 1) ht (by decide)) okX10_ofT viX10_ofT mlRX10_55 ⟨Nat.le_of_ble_eq_true rfl, Nat.le_of_ble_eq_true rfl⟩ (by exact Nat.le_of_ble_eq_true rfl) rfl rfl mG0 (by exact Nat.le_of_ble_eq_true rfl) ?_
  refine x_icmp_ne (tgt := 50) (k := 13) rfl (by decide) (fun c19 => ?_) (fun c19 => ?_)
  · have eS : wSet W 1 t 6 3 = gStep W t := by rw [gStep, ex, if_neg c19]
    refine x_aload_n (k := 31) rfl rfl ?_
    refine x_iload_n (k := 32) rfl rfl ?_
    refine x_bipush (v := 6) (k := 33) rfl (by decide) ?_
    refine x_ldc2 (k := 34) rfl klRX10_82 ?_
    refine m_callV (ci := 10) (k := 35) rfl (by rfl) (m_setsT (k := 6) (by omega) (by decide) _) okX10_setsT viX10_setsT mlRX10_76 ⟨Nat.le_of_ble_eq_true rfl, Nat.le_of_ble_eq_true rfl⟩ (by exact Nat.le_of_ble_eq_true rfl) rfl rfl mG0 (by exact Nat.le_of_ble_eq_true rfl) ?_
    have d3 := (hC.setT (k := 6) (x := 3) (v := 3) ht (by decide) (by decide)).w eS
    exact m_rQ (k := 36) rfl rfl d3
  · have eS : wSet (wSet (wSet W 1 t 6 1) 0 p 2 (-9)) 0 p 3 (nI t) = gStep W t := by rw [gStep, ex, if_pos c19]
    refine x_aload_n (k := 14) rfl rfl ?_
    refine x_iload_n (k := 15) rfl rfl ?_
    refine x_bipush (v := 6) (k := 16) rfl (by decide) ?_
    refine x_lconst (v := 1) (k := 17) rfl (by decide) ?_
    refine m_callV (ci := 10) (k := 18) rfl (by rfl) (m_setsT (k := 6) (by omega) (by decide) _) okX10_setsT viX10_setsT mlRX10_76 ⟨Nat.le_of_ble_eq_true rfl, Nat.le_of_ble_eq_true rfl⟩ (by exact Nat.le_of_ble_eq_true rfl) rfl rfl mG0 (by exact Nat.le_of_ble_eq_true rfl) ?_
    have d1 := hC.setT (k := 6) (x := 1) (v := 1) ht (by decide) (by decide)
    refine x_aload_n (k := 19) rfl rfl ?_
    refine x_iload_n (k := 20) rfl rfl ?_
    refine x_iconst (v := 2) (k := 21) rfl (by decide) ?_
    refine x_ldc2 (k := 22) rfl klRX10_34 ?_
    refine m_callV (ci := 10) (k := 23) rfl (by rfl) (m_setsP (k := 2) hp (by decide) _) okX10_setsP viX10_setsP mlRX10_28 ⟨Nat.le_of_ble_eq_true rfl, Nat.le_of_ble_eq_true rfl⟩ (by exact Nat.le_of_ble_eq_true rfl) rfl rfl mG0 (by exact Nat.le_of_ble_eq_true rfl) ?_
    have d2 := d1.setP (k := 2) (x := -9) (v := -9) hp (by decide) (by decide)
    refine x_aload_n (k := 24) rfl rfl ?_
    refine x_iload_n (k := 25) rfl rfl ?_
    refine x_iconst (v := 3) (k := 26) rfl (by decide) ?_
    refine x_iload_n (k := 27) rfl rfl ?_
    refine x_i2l (k := 28) rfl ?_
    refine m_callV (ci := 10) (k := 29) rfl (by rfl) (m_setsP (k := 3) hp (by decide) _) okX10_setsP viX10_setsP mlRX10_28 ⟨Nat.le_of_ble_eq_true rfl, Nat.le_of_ble_eq_true rfl⟩ (by exact Nat.le_of_ble_eq_true rfl) rfl rfl mG0 (by exact Nat.le_of_ble_eq_true rfl) ?_
    have d3 := (d2.setP (k := 3) hp (by decide) (t32 (nI t))).w eS
    refine x_goto (tgt := 60) (k := 30) rfl (by decide) ?_
    exact m_rQ (k := 36) rfl rfl d3
/-- while the holders stand for a new hour: below i done -/
def stI (V0 : Vd) (hr f nt nk i : Nat) (W : Wd) (V : Vd) : Prop := (V.2 = V0.2 ∧ (∀ j, 588 ≤ j → V.1 j = V0.1 j) ∧ Rm hr f nt nk W V ∧ enOk hr nk W) ∧ (∀ k, k < nk → LU W k hr = W 2 k 6 ∧ isHo (W 2 k 6)) ∧ (∀ k, k < i → hNo hr W V.1 k) ∧ ∀ k, i ≤ k → k < nk → hPa hr W V.1 k
theorem stI.next {V0 V : Vd} {hr f nt nk i : Nat} {W : Wd} (h : stI V0 hr f nt nk i W V) (hi : i < nk) (h5 : hr ≤ 500) : stI V0 hr f nt nk (i + 1) W (mStd V.1 i hr (W 2 i 6), V.2) := by
  obtain ⟨⟨a1, a2, a3, a4⟩, b, c, d⟩ := h
  have hk10 := a3.2.2.2.2
  refine ⟨⟨a1, fun j hj => (mStd_ne (by unfold nbA; omega)).trans (a2 j hj), a3.els (by unfold nbA; omega), a4⟩, b, fun k hk => ?_, fun k h1 h2 => ?_⟩
  · by_cases e : k = i
    · subst e
      exact (d k (Nat.le_refl _) hi).stand (by omega) (by omega) (b k hi).1 (b k hi).2
    · exact (c k (by omega)).eq (fun _ _ => rfl) rfl (mStd_ne (by unfold nbA; omega)) (fun h hh => mStd_ne (by unfold nbA; omega))
  · exact (d k (by omega) h2).eq (fun _ _ => rfl) (mStd_ne (by unfold nbA; omega)) (fun h hh => congrArg (fun z => nbG z (h % 16)) (mStd_ne (by unfold nbA; omega)))
theorem stI.end_ {V0 V : Vd} {hr f nt nk : Nat} {W : Wd} (h : stI V0 hr f nt nk nk W V) : Ch V0 hr f nt nk W V := ⟨h.1.1, h.1.2.1, h.1.2.2.1, h.1.2.2.2, h.2.2.1⟩
theorem stI.mk {V0 V : Vd} {h0 hr f nt nk : Nat} {W : Wd} (h : Chh V0 h0 hr f nt nk W V) (hh : hr = h0 + 1) (h5 : hr ≤ 500) : stI V0 hr f nt nk 0 W V := by
  have hb := h.m.2
  refine ⟨⟨h.1, h.2.1, h.m, h.2.2.2.1.up (by omega) (Nat.le_refl _)⟩, fun k hk => ?_, fun k hk => absurd hk (Nat.not_lt_zero _), fun k _ hk => (h.2.2.2.2 k hk).pa (by omega) (by omega)⟩
  obtain ⟨q1, q2, -⟩ := h.2.2.2.2 k hk
  exact ⟨(LU_late h.2.2.2.1 (by omega) (by omega) (by omega) (by omega)).trans q1, q2⟩
theorem l_hour3 {G : xG} {s : xA} {m hr f nt nk : Nat} {W : Wd} {V0 : Vd} (h5 : hr ≤ 500) {v : Int32} : ∀ (d i : Nat) (V : Vd) (ls : List (Nat × Value)), nk - i < d → i ≤ nk → stI V0 hr f nt nk i W V → ls.lookup 0 = some (.ref m) → ls.lookup 1 = some (.int v) → ls.lookup 2 = some (.int (nI i)) → mE G MX10_passesHour 151 ls [] s m V (fun r V1 => r = some (.int v) ∧ Ch V0 hr f nt nk W V1) := by
  intro d
  induction d with
  | zero =>
    intro i V ls hd hi hI g0 g1 g2
    exact absurd hd (Nat.not_lt_zero _)
  | succ d ih =>
    intro i V ls hd hi hI g0 g1 g2
    have hb := hI.1.2.2.1.2
    refine x_sub (ls' := [(0, .ref m), (1, .int v), (2, .int (nI i))]) (by simp [*]) ?_
    refine x_iload_n (k := 90) rfl rfl ?_
    refine x_i2l (k := 91) rfl ?_
    refine x_aload_n (k := 92) rfl rfl ?_
    refine m_getA (a := 1) (k := 93) rfl flRX10_7 rfl ?_
    refine x_iconst (v := 3) (k := 94) rfl (by decide) ?_
    refine m_nat (k := 95) rfl (show (3 : Int32) = nI 3 from rfl) (by first | assumption | omega) ?_
    refine x_lcmp (k := 96) rfl ?_
    refine x_if_ge (tgt := 174) (k := 97) rfl (by decide) (fun c160 => ?_) (fun c160 => ?_)
    · replace c160 := (lg_cmp_ge _ _).mp c160
      have e : i = nk := by
        have := (lle hI.1.2.2.1.1.2.2.2.2 (by omega) (by omega)).mp c160
        omega
      subst e
      refine x_iload_n (k := 103) rfl rfl ?_
      exact m_irQ (k := 104) rfl rfl rfl rfl hI.end_
    · replace c160 := mt (lg_cmp_ge _ _).mpr c160
      have hin : i < nk := by
        have := mt (lle hI.1.2.2.1.1.2.2.2.2 (by omega) (by omega)).mpr c160
        omega
      refine x_aload_n (k := 98) rfl rfl ?_
      refine x_iload_n (k := 99) rfl rfl ?_
      refine m_callV (ci := 10) (k := 100) rfl (by rfl) (m_stands hI.1.2.2.1 hin) okX10_stands viX10_stands mlRX10_100 ⟨Nat.le_of_ble_eq_true rfl, Nat.le_of_ble_eq_true rfl⟩ (by exact Nat.le_of_ble_eq_true rfl) rfl rfl mG0 (by exact Nat.le_of_ble_eq_true rfl) ?_
      have hI2 := hI.next hin h5
      refine x_iinc (k := 101) rfl rfl (nI_1 i) (by decide) ?_
      refine x_goto (tgt := 151) (k := 102) rfl (by decide) ?_
      exact ih (i + 1) _ _ (by omega) (by omega) hI2 rfl rfl rfl
theorem l_hour2 {G : xG} {s : xA} {m hr f nt nk : Nat} {W : Wd} {V0 : Vd} (h5 : hr + 1 ≤ 500) (htr : ∀ t, t < nt → isP (W 1 t 0)) {v : Int32} : ∀ (d i : Nat) (V : Vd) (ls : List (Nat × Value)), nt - i < d → i ≤ nt → Chh V0 hr (hr + 1) f nt nk (gtTo W i) V → ls.lookup 0 = some (.ref m) → ls.lookup 1 = some (.int v) → ls.lookup 2 = some (.int (nI i)) → mE G MX10_passesHour 103 ls [] s m V (fun r V1 => r = some (.int v) ∧ Ch V0 (hr + 1) f nt nk (gtTo W nt) V1) := by
  intro d
  induction d with
  | zero =>
    intro i V ls hd hi hC g0 g1 g2
    exact absurd hd (Nat.not_lt_zero _)
  | succ d ih =>
    intro i V ls hd hi hC g0 g1 g2
    have hb := hC.m.2
    refine x_sub (ls' := [(0, .ref m), (1, .int v), (2, .int (nI i))]) (by simp [*]) ?_
    refine x_iload_n (k := 63) rfl rfl ?_
    refine x_i2l (k := 64) rfl ?_
    refine x_aload_n (k := 65) rfl rfl ?_
    refine m_getA (a := 1) (k := 66) rfl flRX10_7 rfl ?_
    refine x_iconst (v := 2) (k := 67) rfl (by decide) ?_
    refine m_nat (k := 68) rfl (show (2 : Int32) = nI 2 from rfl) (by first | assumption | omega) ?_
    refine x_lcmp (k := 69) rfl ?_
    refine x_if_ge (tgt := 149) (k := 70) rfl (by decide) (fun c112 => ?_) (fun c112 => ?_)
    · replace c112 := (lg_cmp_ge _ _).mp c112
      have e : i = nt := by
        have := (lle hC.m.1.2.2.2.1 (by omega) (by omega)).mp c112
        omega
      subst e
      refine x_iconst (v := 0) (k := 88) rfl (by decide) ?_
      refine x_istore_n (k := 89) rfl (by decide) ?_
      exact l_hour3 h5 (nk + 1) 0 _ _ (by omega) (by omega) (stI.mk hC rfl h5) rfl rfl rfl
    · replace c112 := mt (lg_cmp_ge _ _).mpr c112
      have hin : i < nt := by
        have := mt (lle hC.m.1.2.2.2.1 (by omega) (by omega)).mpr c112
        omega
      refine x_aload_n (k := 71) rfl rfl ?_
      refine x_iload_n (k := 72) rfl rfl ?_
      refine x_bipush (v := 6) (k := 73) rfl (by decide) ?_
      refine m_callI (ci := 10) (k := 74) rfl (by rfl) (m_ofT hC.m (k := 6) hin (by decide)) okX10_ofT viX10_ofT mlRX10_55 ⟨Nat.le_of_ble_eq_true rfl, Nat.le_of_ble_eq_true rfl⟩ (by exact Nat.le_of_ble_eq_true rfl) rfl rfl mG0 (by exact Nat.le_of_ble_eq_true rfl) ?_
      refine x_if_ne (tgt := 143) (k := 75) rfl (by decide) (fun c122 => ?_) (fun c122 => ?_)
      · have c2 := hC.w (show gtTo W i = gtTo W (i + 1) by rw [gtTo, if_neg (fun q => c122 q.1)])
        refine x_iinc (k := 86) rfl rfl (nI_1 i) (by decide) ?_
        refine x_goto (tgt := 103) (k := 87) rfl (by decide) ?_
        exact ih (i + 1) _ _ (by omega) (by omega) c2 rfl rfl rfl
      · refine x_aload_n (k := 76) rfl rfl ?_
        refine x_iload_n (k := 77) rfl rfl ?_
        refine x_iconst (v := 3) (k := 78) rfl (by decide) ?_
        refine m_callI (ci := 10) (k := 79) rfl (by rfl) (m_ofT hC.m (k := 3) hin (by decide)) okX10_ofT viX10_ofT mlRX10_55 ⟨Nat.le_of_ble_eq_true rfl, Nat.le_of_ble_eq_true rfl⟩ (by exact Nat.le_of_ble_eq_true rfl) rfl rfl mG0 (by exact Nat.le_of_ble_eq_true rfl) ?_
        refine x_aload_n (k := 80) rfl rfl ?_
        refine m_callI (ci := 10) (k := 81) rfl (by rfl) (m_hour hC.m) okX10_hour viX10_hour mlRX10_51 ⟨Nat.le_of_ble_eq_true rfl, Nat.le_of_ble_eq_true rfl⟩ (by exact Nat.le_of_ble_eq_true rfl) rfl rfl mG0 (by exact Nat.le_of_ble_eq_true rfl) ?_
        refine x_icmp_ne (tgt := 143) (k := 82) rfl (by decide) (fun c135 => ?_) (fun c135 => ?_)
        · have c2 := hC.w (show gtTo W i = gtTo W (i + 1) by rw [gtTo, if_neg (fun q => c135 (q.2.trans hC.m.eH))])
          refine x_iinc (k := 86) rfl rfl (nI_1 i) (by decide) ?_
          refine x_goto (tgt := 103) (k := 87) rfl (by decide) ?_
          exact ih (i + 1) _ _ (by omega) (by omega) c2 rfl rfl rfl
        · obtain ⟨p, hp, ep⟩ := htr i hin
          rw [← (gtTo_k W i).2 i] at ep
          refine x_aload_n (k := 83) rfl rfl ?_
          refine x_iload_n (k := 84) rfl rfl ?_
          refine m_callVQ (ci := 10) (k := 85) rfl (by rfl) (m_leaves hC hin hp ep) okX10_leaves viX10_leaves mlRX10_96 ⟨Nat.le_of_ble_eq_true rfl, Nat.le_of_ble_eq_true rfl⟩ (by exact Nat.le_of_ble_eq_true rfl) rfl rfl mG0 (by exact Nat.le_of_ble_eq_true rfl) (fun V2 q2 => ?_)
          have c2 := q2.w (show gStep (gtTo W i) i = gtTo W (i + 1) by rw [gtTo, if_pos ⟨c122, c135.trans hC.m.eH.symm⟩])
          refine x_iinc (k := 86) rfl rfl (nI_1 i) (by decide) ?_
          refine x_goto (tgt := 103) (k := 87) rfl (by decide) ?_
          exact ih (i + 1) _ _ (by omega) (by omega) c2 rfl rfl rfl
theorem l_hour1 {G : xG} {s : xA} {m hr f nt nk : Nat} {W : Wd} {V0 : Vd} (h5 : hr + 1 ≤ 500) (htr : ∀ t, t < nt → isP (W 1 t 0)) : ∀ (d i : Nat) (v : Int32) (V : Vd) (ls : List (Nat × Value)), nt - i < d → i ≤ nt → v = ecTo W i → Chh V0 hr (hr + 1) f nt nk (etTo W i) V → ls.lookup 0 = some (.ref m) → ls.lookup 1 = some (.int v) → ls.lookup 2 = some (.int (nI i)) → mE G MX10_passesHour 14 ls [] s m V (fun r V1 => r = some (.int (ecTo W nt)) ∧ Ch V0 (hr + 1) f nt nk (gtTo (etTo W nt) nt) V1) := by
  intro d
  induction d with
  | zero =>
    intro i v V ls hd hi hv hC g0 g1 g2
    exact absurd hd (Nat.not_lt_zero _)
  | succ d ih =>
    intro i v V ls hd hi hv hC g0 g1 g2
    have hb := hC.m.2
    refine x_sub (ls' := [(0, .ref m), (1, .int v), (2, .int (nI i))]) (by simp [*]) ?_
    refine x_iload_n (k := 12) rfl rfl ?_
    refine x_i2l (k := 13) rfl ?_
    refine x_aload_n (k := 14) rfl rfl ?_
    refine m_getA (a := 1) (k := 15) rfl flRX10_7 rfl ?_
    refine x_iconst (v := 2) (k := 16) rfl (by decide) ?_
    refine m_nat (k := 17) rfl (show (2 : Int32) = nI 2 from rfl) (by first | assumption | omega) ?_
    refine x_lcmp (k := 18) rfl ?_
    refine x_if_ge (tgt := 101) (k := 19) rfl (by decide) (fun c23 => ?_) (fun c23 => ?_)
    · replace c23 := (lg_cmp_ge _ _).mp c23
      have e : i = nt := by
        have := (lle hC.m.1.2.2.2.1 (by omega) (by omega)).mp c23
        omega
      subst e
      subst hv
      refine x_iconst (v := 0) (k := 61) rfl (by decide) ?_
      refine x_istore_n (k := 62) rfl (by decide) ?_
      exact l_hour2 h5 (fun t ht => by rw [(etTo_k W i).2 t]; exact htr t ht) (i + 1) 0 _ _ (by omega) (by omega) hC rfl rfl rfl
    · replace c23 := mt (lg_cmp_ge _ _).mpr c23
      have hin : i < nt := by
        have := mt (lle hC.m.1.2.2.2.1 (by omega) (by omega)).mpr c23
        omega
      refine x_aload_n (k := 20) rfl rfl ?_
      refine x_iload_n (k := 21) rfl rfl ?_
      refine x_bipush (v := 6) (k := 22) rfl (by decide) ?_
      refine m_callI (ci := 10) (k := 23) rfl (by rfl) (m_ofT hC.m (k := 6) hin (by decide)) okX10_ofT viX10_ofT mlRX10_55 ⟨Nat.le_of_ble_eq_true rfl, Nat.le_of_ble_eq_true rfl⟩ (by exact Nat.le_of_ble_eq_true rfl) rfl rfl mG0 (by exact Nat.le_of_ble_eq_true rfl) ?_
      refine x_iconst (v := 1) (k := 24) rfl (by decide) ?_
      refine x_icmp_ne (tgt := 95) (k := 25) rfl (by decide) (fun c34 => ?_) (fun c34 => ?_)
      · have nc : ¬ eCond (etTo W i) i := fun q => c34 q.1
        have c2 := hC.w (show etTo W i = etTo W (i + 1) by rw [etTo, if_neg nc])
        have e : v = ecTo W (i + 1) := by rw [ecTo, if_neg nc]; exact hv
        refine x_iinc (k := 59) rfl rfl (nI_1 i) (by decide) ?_
        refine x_goto (tgt := 14) (k := 60) rfl (by decide) ?_
        exact ih (i + 1) _ _ _ (by omega) (by omega) e c2 rfl rfl rfl
      · refine x_aload_n (k := 26) rfl rfl ?_
        refine x_iload_n (k := 27) rfl rfl ?_
        refine x_iconst (v := 4) (k := 28) rfl (by decide) ?_
        refine m_callI (ci := 10) (k := 29) rfl (by rfl) (m_ofT hC.m (k := 4) hin (by decide)) okX10_ofT viX10_ofT mlRX10_55 ⟨Nat.le_of_ble_eq_true rfl, Nat.le_of_ble_eq_true rfl⟩ (by exact Nat.le_of_ble_eq_true rfl) rfl rfl mG0 (by exact Nat.le_of_ble_eq_true rfl) ?_
        refine x_aload_n (k := 30) rfl rfl ?_
        refine m_callI (ci := 10) (k := 31) rfl (by rfl) (m_hour hC.m) okX10_hour viX10_hour mlRX10_51 ⟨Nat.le_of_ble_eq_true rfl, Nat.le_of_ble_eq_true rfl⟩ (by exact Nat.le_of_ble_eq_true rfl) rfl rfl mG0 (by exact Nat.le_of_ble_eq_true rfl) ?_
        refine x_icmp_ne (tgt := 95) (k := 32) rfl (by decide) (fun c47 => ?_) (fun c47 => ?_)
        · have nc : ¬ eCond (etTo W i) i := fun q => c47 (q.2.trans hC.m.eH)
          have c2 := hC.w (show etTo W i = etTo W (i + 1) by rw [etTo, if_neg nc])
          have e : v = ecTo W (i + 1) := by rw [ecTo, if_neg nc]; exact hv
          refine x_iinc (k := 59) rfl rfl (nI_1 i) (by decide) ?_
          refine x_goto (tgt := 14) (k := 60) rfl (by decide) ?_
          exact ih (i + 1) _ _ _ (by omega) (by omega) e c2 rfl rfl rfl
        · have yc : eCond (etTo W i) i := ⟨c34, c47.trans hC.m.eH.symm⟩
          obtain ⟨p, hp, ep⟩ := htr i hin
          rw [← (etTo_k W i).2 i] at ep
          have ex : ix (etTo W i 1 i 0) = p := by rw [ep]; exact ixP hp
          refine x_aload_n (k := 33) rfl rfl ?_
          refine x_iload_n (k := 34) rfl rfl ?_
          refine x_bipush (v := 6) (k := 35) rfl (by decide) ?_
          refine x_ldc2 (k := 36) rfl klRX10_94 ?_
          refine m_callV (ci := 10) (k := 37) rfl (by rfl) (m_setsT (k := 6) (by omega) (by decide) _) okX10_setsT viX10_setsT mlRX10_76 ⟨Nat.le_of_ble_eq_true rfl, Nat.le_of_ble_eq_true rfl⟩ (by exact Nat.le_of_ble_eq_true rfl) rfl rfl mG0 (by exact Nat.le_of_ble_eq_true rfl) ?_
          have d1 := hC.setT (k := 6) (x := 2) (v := 2) hin (by decide) (by decide)
          refine x_aload_n (k := 38) rfl rfl ?_
          refine x_aload_n (k := 39) rfl rfl ?_
          refine x_iload_n (k := 40) rfl rfl ?_
          refine x_iconst (v := 0) (k := 41) rfl (by decide) ?_
          refine m_callI (ci := 10) (k := 42) rfl (by rfl) (m_ofT d1.m (k := 0) hin (by decide)) okX10_ofT viX10_ofT mlRX10_55 ⟨Nat.le_of_ble_eq_true rfl, Nat.le_of_ble_eq_true rfl⟩ (by exact Nat.le_of_ble_eq_true rfl) rfl rfl mG0 (by exact Nat.le_of_ble_eq_true rfl) ?_
          rw [show wSet (etTo W i) 1 i 6 2 1 i 0 = nI p from (wSet_k (by decide)).trans ep]
          refine x_iconst (v := 2) (k := 43) rfl (by decide) ?_
          refine x_aload_n (k := 44) rfl rfl ?_
          refine x_iload_n (k := 45) rfl rfl ?_
          refine x_iconst (v := 2) (k := 46) rfl (by decide) ?_
          refine m_callI (ci := 10) (k := 47) rfl (by rfl) (m_ofT d1.m (k := 2) hin (by decide)) okX10_ofT viX10_ofT mlRX10_55 ⟨Nat.le_of_ble_eq_true rfl, Nat.le_of_ble_eq_true rfl⟩ (by exact Nat.le_of_ble_eq_true rfl) rfl rfl mG0 (by exact Nat.le_of_ble_eq_true rfl) ?_
          rw [show wSet (etTo W i) 1 i 6 2 1 i 2 = etTo W i 1 i 2 from wSet_k (by decide)]
          refine x_i2l (k := 48) rfl ?_
          refine m_callV (ci := 10) (k := 49) rfl (by rfl) (m_setsP (k := 2) hp (by decide) _) okX10_setsP viX10_setsP mlRX10_28 ⟨Nat.le_of_ble_eq_true rfl, Nat.le_of_ble_eq_true rfl⟩ (by exact Nat.le_of_ble_eq_true rfl) rfl rfl mG0 (by exact Nat.le_of_ble_eq_true rfl) ?_
          have d2 := d1.setP (k := 2) hp (by decide) (t32 (etTo W i 1 i 2))
          refine x_aload_n (k := 50) rfl rfl ?_
          refine x_aload_n (k := 51) rfl rfl ?_
          refine x_iload_n (k := 52) rfl rfl ?_
          refine x_iconst (v := 0) (k := 53) rfl (by decide) ?_
          refine m_callI (ci := 10) (k := 54) rfl (by rfl) (m_ofT d2.m (k := 0) hin (by decide)) okX10_ofT viX10_ofT mlRX10_55 ⟨Nat.le_of_ble_eq_true rfl, Nat.le_of_ble_eq_true rfl⟩ (by exact Nat.le_of_ble_eq_true rfl) rfl rfl mG0 (by exact Nat.le_of_ble_eq_true rfl) ?_
          rw [show wSet (wSet (etTo W i) 1 i 6 2) 0 p 2 (etTo W i 1 i 2) 1 i 0 = nI p from ((wSet_a (by decide)).trans (wSet_k (by decide))).trans ep]
          refine x_iconst (v := 3) (k := 55) rfl (by decide) ?_
          refine x_ldc2 (k := 56) rfl klRX10_34 ?_
          refine m_callV (ci := 10) (k := 57) rfl (by rfl) (m_setsP (k := 3) hp (by decide) _) okX10_setsP viX10_setsP mlRX10_28 ⟨Nat.le_of_ble_eq_true rfl, Nat.le_of_ble_eq_true rfl⟩ (by exact Nat.le_of_ble_eq_true rfl) rfl rfl mG0 (by exact Nat.le_of_ble_eq_true rfl) ?_
          have c2 := (d2.setP (k := 3) (x := -9) (v := -9) hp (by decide) (by decide)).w (show _ = etTo W (i + 1) by rw [etTo, if_pos yc, eStep, ex])
          refine x_iinc (k := 58) rfl rfl (show v + 1 = ecTo W (i + 1) by rw [ecTo, if_pos yc, hv]) (by decide) ?_
          have e : ecTo W (i + 1) = ecTo W (i + 1) := rfl
          refine x_iinc (k := 59) rfl rfl (nI_1 i) (by decide) ?_
          refine x_goto (tgt := 14) (k := 60) rfl (by decide) ?_
          exact ih (i + 1) _ _ _ (by omega) (by omega) e c2 rfl rfl rfl
theorem hour_Ch {hr f nt nk : Nat} {W : Wd} {V : Vd} (hF : RF hr f nt nk W V.1) (h5 : hr + 1 ≤ 500) : Chh V hr (hr + 1) f nt nk (wSet W 3 0 0 (W 3 0 0 + 1)) (mNo V 0 (V.1 0 + 1)) := by
  obtain ⟨⟨⟨r1, r2, r3, r4, r5⟩, hb⟩, h2, h3⟩ := hF
  have e0 : V.1 0 + 1 = lN (hr + 1) := by rw [show V.1 0 = lN hr from r2, lN_1]
  have eH : W 3 0 0 = nI hr := by
    have := r1 3 0 0 (Or.inr (Or.inr (Or.inr ⟨rfl, rfl, by decide⟩)))
    rw [← this, ← lN_i, ← r2]
    rfl
  refine ⟨rfl, ge_no (fun _ _ => rfl) (by decide), ⟨⟨r1.set (a := 3) (i := 0) (k := 0) hb.2.2.1 hb.2.2.2 (Or.inr (Or.inr (Or.inr ⟨rfl, rfl, by decide⟩))) (by rw [e0, lN_i, eH, nI_1]), (mNo_at (V := V) (p := 0) (v := V.1 0 + 1)).trans e0, (mNo_ne (V := V) (p := 0) (v := V.1 0 + 1) (by decide)).trans r3, (mNo_ne (V := V) (p := 0) (v := V.1 0 + 1) (by decide)).trans r4, (mNo_ne (V := V) (p := 0) (v := V.1 0 + 1) (by decide)).trans r5⟩, by omega, hb.2⟩, h2.eq (wSet_a (by decide)) (fun j _ => wSet_a (by decide)), fun k hk => (h3 k hk).eq (fun h _ => LU_eq (wSet_a (by decide)) (fun j _ => wSet_a (by decide)) k h) (wSet_a (by decide)) (mNo_ne (by omega)) (fun h _ => mNo_ne (by unfold nbA; omega))⟩
theorem m_passesHour {G : xG} {s : xA} {m hr f nt nk : Nat} {W : Wd} {V : Vd} (hF : RF hr f nt nk W V.1) (h5 : hr + 1 ≤ 500) (htr : ∀ t, t < nt → isP (W 1 t 0)) : mIQ G MX10_passesHour [.ref m] s m V (ecTo (wSet W 3 0 0 (W 3 0 0 + 1)) nt) (Ch V (hr + 1) f nt nk (sHour W)) := by
  have hc := hF.m.cT
  rw [sHour, hc]
  refine x_iconst (v := 0) (k := 0) rfl (by decide) ?_
  refine x_istore_n (k := 1) rfl (by decide) ?_
  refine x_aload_n (k := 2) rfl rfl ?_
  refine m_getA (a := 1) (k := 3) rfl flRX10_7 rfl ?_
  refine x_iconst (v := 0) (k := 4) rfl (by decide) ?_
  refine x_dup2 (k := 5) rfl rfl rfl ?_
  refine m_nat (k := 6) rfl (show (0 : Int32) = nI 0 from rfl) (by first | assumption | omega) ?_
  refine x_lconst (v := 1) (k := 7) rfl (by decide) ?_
  refine x_ladd (k := 8) rfl ?_
  refine m_nput (k := 9) rfl (show (0 : Int32) = nI 0 from rfl) (by first | assumption | omega) ?_
  refine x_iconst (v := 0) (k := 10) rfl (by decide) ?_
  refine x_istore_n (k := 11) rfl (by decide) ?_
  exact l_hour1 h5 (fun t ht => by rw [wSet_a (by decide)]; exact htr t ht) (nt + 1) 0 0 _ _ (by omega) (by omega) rfl (hour_Ch hF h5) rfl rfl rfl
