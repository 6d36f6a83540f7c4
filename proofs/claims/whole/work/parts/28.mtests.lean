-- ===== the model: tests and answers =====
theorem iMin_ge {x y : Int32} (h : y ≤ x) : iMin x y = y := by
  unfold iMin
  split
  · rfl
  · rename_i z
    exact Int32.le_antisymm (Int32.not_lt.mp z) h
theorem iMin_lt {x y : Int32} (h : ¬ y ≤ x) : iMin x y = x := if_neg (fun z => h (Int32.le_of_lt z))
theorem w_le (a b : Int32) : a.toInt64 ≤ b.toInt64 ↔ a ≤ b := by rw [Int64.le_iff_toInt_le, Int32.le_iff_toInt_le, Int32.toInt_toInt64, Int32.toInt_toInt64]
theorem m_overlaps {G : xG} {s : xA} {m hr f nt nk : Nat} {W : Wd} {V : Vd} (hM : Rm hr f nt nk W V) {t : Nat} (ht : t < nt) (p lv ar : Int32) : mI G MX10_overlaps [.ref m, .int (nI t), .int p, .int lv, .int ar] s m V (bz (opn W t ∧ W 1 t 0 = p ∧ ovl W t lv ar)) V := by
  refine x_aload_n (k := 0) rfl rfl ?_
  refine x_iload_n (k := 1) rfl rfl ?_
  refine x_bipush (v := 6) (k := 2) rfl (by decide) ?_
  refine m_callI (ci := 10) (k := 3) rfl (by rfl) (m_ofT hM (k := 6) ht (by decide)) okX10_ofT viX10_ofT mlRX10_55 ⟨Nat.le_of_ble_eq_true rfl, Nat.le_of_ble_eq_true rfl⟩ (by exact Nat.le_of_ble_eq_true rfl) rfl rfl mG0 (by exact Nat.le_of_ble_eq_true rfl) ?_
  refine x_if_eq (tgt := 21) (k := 4) rfl (by decide) (fun c7 => ?_) (fun c7 => ?_)
  · have h7 : opn W t := Or.inl c7
    refine x_iconst (v := 1) (k := 11) rfl (by decide) ?_
    refine x_goto (tgt := 26) (k := 12) rfl (by decide) ?_
    refine x_istore (k := 14) rfl (by decide) ?_
    refine x_iload (k := 15) rfl rfl ?_
    refine x_if_eq (tgt := 68) (k := 16) rfl (by decide) (fun c30 => absurd c30 (by decide)) (fun c30 => ?_)
    refine x_aload_n (k := 17) rfl rfl ?_
    refine x_iload_n (k := 18) rfl rfl ?_
    refine x_iconst (v := 0) (k := 19) rfl (by decide) ?_
    refine m_callI (ci := 10) (k := 20) rfl (by rfl) (m_ofT hM (k := 0) ht (by decide)) okX10_ofT viX10_ofT mlRX10_55 ⟨Nat.le_of_ble_eq_true rfl, Nat.le_of_ble_eq_true rfl⟩ (by exact Nat.le_of_ble_eq_true rfl) rfl rfl mG0 (by exact Nat.le_of_ble_eq_true rfl) ?_
    refine x_iload_n (k := 21) rfl rfl ?_
    refine x_icmp_ne (tgt := 68) (k := 22) rfl (by decide) (fun c40 => ?_) (fun c40 => ?_)
    · have e : bz (opn W t ∧ W 1 t 0 = p ∧ ovl W t lv ar) = 0 := bz_0 (fun q => c40 q.2.1)
      refine x_iconst (v := 0) (k := 37) rfl (by decide) ?_
      exact m_irD (k := 38) rfl rfl rfl e.symm rfl
    · refine x_aload_n (k := 23) rfl rfl ?_
      refine x_iload_n (k := 24) rfl rfl ?_
      refine x_iconst (v := 3) (k := 25) rfl (by decide) ?_
      refine m_callI (ci := 10) (k := 26) rfl (by rfl) (m_ofT hM (k := 3) ht (by decide)) okX10_ofT viX10_ofT mlRX10_55 ⟨Nat.le_of_ble_eq_true rfl, Nat.le_of_ble_eq_true rfl⟩ (by exact Nat.le_of_ble_eq_true rfl) rfl rfl mG0 (by exact Nat.le_of_ble_eq_true rfl) ?_
      refine x_iload (k := 27) rfl rfl ?_
      refine x_icmp_ge (tgt := 68) (k := 28) rfl (by decide) (fun c51 => ?_) (fun c51 => ?_)
      · have e : bz (opn W t ∧ W 1 t 0 = p ∧ ovl W t lv ar) = 0 := bz_0 (fun q => Int32.not_lt.mpr c51 q.2.2.1)
        refine x_iconst (v := 0) (k := 37) rfl (by decide) ?_
        exact m_irD (k := 38) rfl rfl rfl e.symm rfl
      · refine x_iload_n (k := 29) rfl rfl ?_
        refine x_aload_n (k := 30) rfl rfl ?_
        refine x_iload_n (k := 31) rfl rfl ?_
        refine x_iconst (v := 4) (k := 32) rfl (by decide) ?_
        refine m_callI (ci := 10) (k := 33) rfl (by rfl) (m_ofT hM (k := 4) ht (by decide)) okX10_ofT viX10_ofT mlRX10_55 ⟨Nat.le_of_ble_eq_true rfl, Nat.le_of_ble_eq_true rfl⟩ (by exact Nat.le_of_ble_eq_true rfl) rfl rfl mG0 (by exact Nat.le_of_ble_eq_true rfl) ?_
        refine x_icmp_ge (tgt := 68) (k := 34) rfl (by decide) (fun c61 => ?_) (fun c61 => ?_)
        · have e : bz (opn W t ∧ W 1 t 0 = p ∧ ovl W t lv ar) = 0 := bz_0 (fun q => Int32.not_lt.mpr c61 q.2.2.2)
          refine x_iconst (v := 0) (k := 37) rfl (by decide) ?_
          exact m_irD (k := 38) rfl rfl rfl e.symm rfl
        · have e : bz (opn W t ∧ W 1 t 0 = p ∧ ovl W t lv ar) = 1 := bz_1 ⟨h7, c40, Int32.not_le.mp c51, Int32.not_le.mp c61⟩
          refine x_iconst (v := 1) (k := 35) rfl (by decide) ?_
          refine x_goto (tgt := 69) (k := 36) rfl (by decide) ?_
          exact m_irD (k := 38) rfl rfl rfl e.symm rfl
  · refine x_aload_n (k := 5) rfl rfl ?_
    refine x_iload_n (k := 6) rfl rfl ?_
    refine x_bipush (v := 6) (k := 7) rfl (by decide) ?_
    refine m_callI (ci := 10) (k := 8) rfl (by rfl) (m_ofT hM (k := 6) ht (by decide)) okX10_ofT viX10_ofT mlRX10_55 ⟨Nat.le_of_ble_eq_true rfl, Nat.le_of_ble_eq_true rfl⟩ (by exact Nat.le_of_ble_eq_true rfl) rfl rfl mG0 (by exact Nat.le_of_ble_eq_true rfl) ?_
    refine x_iconst (v := 1) (k := 9) rfl (by decide) ?_
    refine x_icmp_ne (tgt := 25) (k := 10) rfl (by decide) (fun c18 => ?_) (fun c18 => ?_)
    · have e : bz (opn W t ∧ W 1 t 0 = p ∧ ovl W t lv ar) = 0 := bz_0 (fun q => q.1.elim c7 c18)
      refine x_iconst (v := 0) (k := 13) rfl (by decide) ?_
      refine x_istore (k := 14) rfl (by decide) ?_
      refine x_iload (k := 15) rfl rfl ?_
      refine x_if_eq (tgt := 68) (k := 16) rfl (by decide) (fun c30 => ?_) (fun c30 => absurd c30 (by decide))
      refine x_iconst (v := 0) (k := 37) rfl (by decide) ?_
      exact m_irD (k := 38) rfl rfl rfl e.symm rfl
    · have h7 : opn W t := Or.inr c18
      refine x_iconst (v := 1) (k := 11) rfl (by decide) ?_
      refine x_goto (tgt := 26) (k := 12) rfl (by decide) ?_
      refine x_istore (k := 14) rfl (by decide) ?_
      refine x_iload (k := 15) rfl rfl ?_
      refine x_if_eq (tgt := 68) (k := 16) rfl (by decide) (fun c30 => absurd c30 (by decide)) (fun c30 => ?_)
      refine x_aload_n (k := 17) rfl rfl ?_
      refine x_iload_n (k := 18) rfl rfl ?_
      refine x_iconst (v := 0) (k := 19) rfl (by decide) ?_
      refine m_callI (ci := 10) (k := 20) rfl (by rfl) (m_ofT hM (k := 0) ht (by decide)) okX10_ofT viX10_ofT mlRX10_55 ⟨Nat.le_of_ble_eq_true rfl, Nat.le_of_ble_eq_true rfl⟩ (by exact Nat.le_of_ble_eq_true rfl) rfl rfl mG0 (by exact Nat.le_of_ble_eq_true rfl) ?_
      refine x_iload_n (k := 21) rfl rfl ?_
      refine x_icmp_ne (tgt := 68) (k := 22) rfl (by decide) (fun c40 => ?_) (fun c40 => ?_)
      · have e : bz (opn W t ∧ W 1 t 0 = p ∧ ovl W t lv ar) = 0 := bz_0 (fun q => c40 q.2.1)
        refine x_iconst (v := 0) (k := 37) rfl (by decide) ?_
        exact m_irD (k := 38) rfl rfl rfl e.symm rfl
      · refine x_aload_n (k := 23) rfl rfl ?_
        refine x_iload_n (k := 24) rfl rfl ?_
        refine x_iconst (v := 3) (k := 25) rfl (by decide) ?_
        refine m_callI (ci := 10) (k := 26) rfl (by rfl) (m_ofT hM (k := 3) ht (by decide)) okX10_ofT viX10_ofT mlRX10_55 ⟨Nat.le_of_ble_eq_true rfl, Nat.le_of_ble_eq_true rfl⟩ (by exact Nat.le_of_ble_eq_true rfl) rfl rfl mG0 (by exact Nat.le_of_ble_eq_true rfl) ?_
        refine x_iload (k := 27) rfl rfl ?_
        refine x_icmp_ge (tgt := 68) (k := 28) rfl (by decide) (fun c51 => ?_) (fun c51 => ?_)
        · have e : bz (opn W t ∧ W 1 t 0 = p ∧ ovl W t lv ar) = 0 := bz_0 (fun q => Int32.not_lt.mpr c51 q.2.2.1)
          refine x_iconst (v := 0) (k := 37) rfl (by decide) ?_
          exact m_irD (k := 38) rfl rfl rfl e.symm rfl
        · refine x_iload_n (k := 29) rfl rfl ?_
          refine x_aload_n (k := 30) rfl rfl ?_
          refine x_iload_n (k := 31) rfl rfl ?_
          refine x_iconst (v := 4) (k := 32) rfl (by decide) ?_
          refine m_callI (ci := 10) (k := 33) rfl (by rfl) (m_ofT hM (k := 4) ht (by decide)) okX10_ofT viX10_ofT mlRX10_55 ⟨Nat.le_of_ble_eq_true rfl, Nat.le_of_ble_eq_true rfl⟩ (by exact Nat.le_of_ble_eq_true rfl) rfl rfl mG0 (by exact Nat.le_of_ble_eq_true rfl) ?_
          refine x_icmp_ge (tgt := 68) (k := 34) rfl (by decide) (fun c61 => ?_) (fun c61 => ?_)
          · have e : bz (opn W t ∧ W 1 t 0 = p ∧ ovl W t lv ar) = 0 := bz_0 (fun q => Int32.not_lt.mpr c61 q.2.2.2)
            refine x_iconst (v := 0) (k := 37) rfl (by decide) ?_
            exact m_irD (k := 38) rfl rfl rfl e.symm rfl
          · have e : bz (opn W t ∧ W 1 t 0 = p ∧ ovl W t lv ar) = 1 := bz_1 ⟨h7, c40, Int32.not_le.mp c51, Int32.not_le.mp c61⟩
            refine x_iconst (v := 1) (k := 35) rfl (by decide) ?_
            refine x_goto (tgt := 69) (k := 36) rfl (by decide) ?_
            exact m_irD (k := 38) rfl rfl rfl e.symm rfl
theorem m_townOf {G : xG} {s : xA} {m hr f nt nk : Nat} {W : Wd} {V : Vd} (hM : Rm hr f nt nk W V) {k : Nat} (hk : k < nk) (hh : W 2 k 6 < 10 → isP (W 2 k 6)) : mI G MX10_townOf [.ref m, .int (nI k)] s m V (sTown W (W 2 k 6)) V := by
  refine x_aload_n (k := 0) rfl rfl ?_
  refine x_iload_n (k := 1) rfl rfl ?_
  refine x_bipush (v := 6) (k := 2) rfl (by decide) ?_
  refine m_callI (ci := 10) (k := 3) rfl (by rfl) (m_of hM (k := 6) hk (by decide)) okX10_of viX10_of mlRX10_84 ⟨Nat.le_of_ble_eq_true rfl, Nat.le_of_ble_eq_true rfl⟩ (by exact Nat.le_of_ble_eq_true rfl) rfl rfl mG0 (by exact Nat.le_of_ble_eq_true rfl) ?_
  refine x_istore_n (k := 4) rfl (by decide) ?_
  refine x_iload_n (k := 5) rfl rfl ?_
  refine x_bipush (v := 10) (k := 6) rfl (by decide) ?_
  refine x_icmp_lt (tgt := 21) (k := 7) rfl (by decide) (fun c11 => ?_) (fun c11 => ?_)
  · obtain ⟨p, hp, ep⟩ := hh c11
    have e : sTown W (W 2 k 6) = W 0 p 2 := by rw [sTown, if_pos c11, ep, show ix (nI p) = p from clP hp]
    rw [ep] at e ⊢
    refine x_aload_n (k := 12) rfl rfl ?_
    refine x_iload_n (k := 13) rfl rfl ?_
    refine x_iconst (v := 2) (k := 14) rfl (by decide) ?_
    refine m_callI (ci := 10) (k := 15) rfl (by rfl) (m_ofP hM (k := 2) hp (by decide)) okX10_ofP viX10_ofP mlRX10_91 ⟨Nat.le_of_ble_eq_true rfl, Nat.le_of_ble_eq_true rfl⟩ (by exact Nat.le_of_ble_eq_true rfl) rfl rfl mG0 (by exact Nat.le_of_ble_eq_true rfl) ?_
    exact m_irD (k := 16) rfl rfl rfl e.symm rfl
  · have e : sTown W (W 2 k 6) = W 2 k 6 - 10 := if_neg c11
    refine x_iload_n (k := 8) rfl rfl ?_
    refine x_bipush (v := 10) (k := 9) rfl (by decide) ?_
    refine x_isub (k := 10) rfl ?_
    refine x_goto (tgt := 27) (k := 11) rfl (by decide) ?_
    exact m_irD (k := 16) rfl rfl rfl e.symm rfl
theorem m_wordError {G : xG} {s : xA} {m hr f nt nk : Nat} {W : Wd} {V : Vd} (hM : Rm hr f nt nk W V) (x n y : Int32) : mI G MX10_wordError [.ref m, .int x, .int n, .int y] s m V (sHoF W x n y) V := by
  refine x_iload_n (k := 0) rfl rfl ?_
  refine x_sD (k := 1) rfl (by rfl) (m_isPerson _) okX10_isPerson viX10_isPerson mlRX10_61 ⟨Nat.le_of_ble_eq_true rfl, Nat.le_of_ble_eq_true rfl⟩ (by exact Nat.le_of_ble_eq_true rfl) rfl (by exact Nat.le_of_ble_eq_true rfl) ?_
  refine x_if_eq (tgt := 27) (k := 2) rfl (by decide) (fun c4 => ?_) (fun c4 => ?_)
  · replace c4 := bz_eq0 c4
    have e : sHoF W x n y = -1 := if_pos (Or.inl c4)
    refine x_iconst (v := -1) (k := 13) rfl (by decide) ?_
    exact m_irD (k := 14) rfl rfl rfl e.symm rfl
  · replace c4 := bz_ne0 c4
    refine x_aload_n (k := 3) rfl rfl ?_
    refine x_iload_n (k := 4) rfl rfl ?_
    refine m_callI (ci := 10) (k := 5) rfl (by rfl) (m_isParcel hM _) okX10_isParcel viX10_isParcel mlRX10_133 ⟨Nat.le_of_ble_eq_true rfl, Nat.le_of_ble_eq_true rfl⟩ (by exact Nat.le_of_ble_eq_true rfl) rfl rfl mG0 (by exact Nat.le_of_ble_eq_true rfl) ?_
    refine x_if_eq (tgt := 27) (k := 6) rfl (by decide) (fun c12 => ?_) (fun c12 => ?_)
    · replace c12 := bz_eq0 c12
      have e : sHoF W x n y = -1 := if_pos (Or.inr (Or.inl c12))
      refine x_iconst (v := -1) (k := 13) rfl (by decide) ?_
      exact m_irD (k := 14) rfl rfl rfl e.symm rfl
    · replace c12 := bz_ne0 c12
      refine x_iload_n (k := 7) rfl rfl ?_
      refine x_sD (k := 8) rfl (by rfl) (m_isPerson _) okX10_isPerson viX10_isPerson mlRX10_61 ⟨Nat.le_of_ble_eq_true rfl, Nat.le_of_ble_eq_true rfl⟩ (by exact Nat.le_of_ble_eq_true rfl) rfl (by exact Nat.le_of_ble_eq_true rfl) ?_
      refine x_if_eq (tgt := 27) (k := 9) rfl (by decide) (fun c19 => ?_) (fun c19 => ?_)
      · replace c19 := bz_eq0 c19
        have e : sHoF W x n y = -1 := if_pos (Or.inr (Or.inr (Or.inl c19)))
        refine x_iconst (v := -1) (k := 13) rfl (by decide) ?_
        exact m_irD (k := 14) rfl rfl rfl e.symm rfl
      · replace c19 := bz_ne0 c19
        refine x_iload_n (k := 10) rfl rfl ?_
        refine x_iload_n (k := 11) rfl rfl ?_
        refine x_icmp_ne (tgt := 29) (k := 12) rfl (by decide) (fun c24 => ?_) (fun c24 => ?_)
        · have e2 : sHoF W x n y = if huw W (ix n) x ∧ tog W x y ∧ ¬ 3 ≤ sHeld W y then 0 else -2 := if_neg (fun q => q.elim (fun z => z c4) (fun q => q.elim (fun z => z c12) (fun q => q.elim (fun z => z c19) c24)))
          obtain ⟨x1, hx1, rfl⟩ := gP_is c4
          obtain ⟨y1, hy1, rfl⟩ := gP_is c19
          obtain ⟨k1, hk1, hk2, rfl⟩ := hM.kP c12
          have ek : ix (nI k1) = k1 := clK hk2
          have tx : sTown W (nI x1) = W 0 x1 2 := by rw [sTown, if_pos (show nI x1 < 10 from nI_lt (b := 10) (by omega) (by omega)), show ix (nI x1) = x1 from clP hx1]
          have ty : sTown W (nI y1) = W 0 y1 2 := by rw [sTown, if_pos (show nI y1 < 10 from nI_lt (b := 10) (by omega) (by omega)), show ix (nI y1) = y1 from clP hy1]
          have eo : ∀ R, ((huw W k1 (nI x1) ∧ (¬ W 0 x1 2 = -9 ∧ W 0 x1 2 = W 0 y1 2) ∧ ¬ 3 ≤ sHeld W (nI y1)) → R = 0) → (¬ (huw W k1 (nI x1) ∧ (¬ W 0 x1 2 = -9 ∧ W 0 x1 2 = W 0 y1 2) ∧ ¬ 3 ≤ sHeld W (nI y1)) → R = -2) → R = sHoF W (nI x1) (nI k1) (nI y1) := fun R p q => by
            rw [e2]
            by_cases z : huw W k1 (nI x1) ∧ (¬ W 0 x1 2 = -9 ∧ W 0 x1 2 = W 0 y1 2) ∧ ¬ 3 ≤ sHeld W (nI y1)
            · rw [p z, if_pos (by rw [ek]; unfold tog; rw [tx, ty]; exact z)]
            · rw [q z, if_neg (by rw [ek]; unfold tog; rw [tx, ty]; exact z)]
          refine x_aload_n (k := 15) rfl rfl ?_
          refine x_iload_n (k := 16) rfl rfl ?_
          refine x_iconst (v := 5) (k := 17) rfl (by decide) ?_
          refine m_callI (ci := 10) (k := 18) rfl (by rfl) (m_of hM (k := 5) hk1 (by decide)) okX10_of viX10_of mlRX10_84 ⟨Nat.le_of_ble_eq_true rfl, Nat.le_of_ble_eq_true rfl⟩ (by exact Nat.le_of_ble_eq_true rfl) rfl rfl mG0 (by exact Nat.le_of_ble_eq_true rfl) ?_
          refine x_if_ne (tgt := 53) (k := 19) rfl (by decide) (fun c35 => ?_) (fun c35 => ?_)
          · have e := eo (-2) (fun z => absurd z.1.1 c35) (fun _ => rfl)
            refine x_iconst (v := 0) (k := 28) rfl (by decide) ?_
            refine x_istore (k := 29) rfl (by decide) ?_
            refine x_aload_n (k := 30) rfl rfl ?_
            refine x_iload_n (k := 31) rfl rfl ?_
            refine x_iconst (v := 2) (k := 32) rfl (by decide) ?_
            refine m_callI (ci := 10) (k := 33) rfl (by rfl) (m_ofP hM (k := 2) hx1 (by decide)) okX10_ofP viX10_ofP mlRX10_91 ⟨Nat.le_of_ble_eq_true rfl, Nat.le_of_ble_eq_true rfl⟩ (by exact Nat.le_of_ble_eq_true rfl) rfl rfl mG0 (by exact Nat.le_of_ble_eq_true rfl) ?_
            refine x_bipush (v := -9) (k := 34) rfl (by decide) ?_
            refine x_icmp_eq (tgt := 86) (k := 35) rfl (by decide) (fun c64 => ?_) (fun c64 => ?_)
            · have e := eo (-2) (fun z => absurd c64 z.2.1.1) (fun _ => rfl)
              refine x_iconst (v := 0) (k := 47) rfl (by decide) ?_
              refine x_istore (k := 48) rfl (by decide) ?_
              refine x_iload (k := 49) rfl rfl ?_
              refine x_if_eq (tgt := 112) (k := 50) rfl (by decide) (fun c91 => ?_) (fun c91 => absurd c91 (by decide))
              refine x_bipush (v := -2) (k := 60) rfl (by decide) ?_
              exact m_irD (k := 61) rfl rfl rfl e rfl
            · refine x_aload_n (k := 36) rfl rfl ?_
              refine x_iload_n (k := 37) rfl rfl ?_
              refine x_iconst (v := 2) (k := 38) rfl (by decide) ?_
              refine m_callI (ci := 10) (k := 39) rfl (by rfl) (m_ofP hM (k := 2) hx1 (by decide)) okX10_ofP viX10_ofP mlRX10_91 ⟨Nat.le_of_ble_eq_true rfl, Nat.le_of_ble_eq_true rfl⟩ (by exact Nat.le_of_ble_eq_true rfl) rfl rfl mG0 (by exact Nat.le_of_ble_eq_true rfl) ?_
              refine x_aload_n (k := 40) rfl rfl ?_
              refine x_iload_n (k := 41) rfl rfl ?_
              refine x_iconst (v := 2) (k := 42) rfl (by decide) ?_
              refine m_callI (ci := 10) (k := 43) rfl (by rfl) (m_ofP hM (k := 2) hy1 (by decide)) okX10_ofP viX10_ofP mlRX10_91 ⟨Nat.le_of_ble_eq_true rfl, Nat.le_of_ble_eq_true rfl⟩ (by exact Nat.le_of_ble_eq_true rfl) rfl rfl mG0 (by exact Nat.le_of_ble_eq_true rfl) ?_
              refine x_icmp_ne (tgt := 86) (k := 44) rfl (by decide) (fun c79 => ?_) (fun c79 => ?_)
              · have e := eo (-2) (fun z => absurd z.2.1.2 c79) (fun _ => rfl)
                refine x_iconst (v := 0) (k := 47) rfl (by decide) ?_
                refine x_istore (k := 48) rfl (by decide) ?_
                refine x_iload (k := 49) rfl rfl ?_
                refine x_if_eq (tgt := 112) (k := 50) rfl (by decide) (fun c91 => ?_) (fun c91 => absurd c91 (by decide))
                refine x_bipush (v := -2) (k := 60) rfl (by decide) ?_
                exact m_irD (k := 61) rfl rfl rfl e rfl
              · refine x_iconst (v := 1) (k := 45) rfl (by decide) ?_
                refine x_goto (tgt := 87) (k := 46) rfl (by decide) ?_
                refine x_istore (k := 48) rfl (by decide) ?_
                refine x_iload (k := 49) rfl rfl ?_
                refine x_if_eq (tgt := 112) (k := 50) rfl (by decide) (fun c91 => ?_) (fun c91 => absurd c91 (by decide))
                refine x_bipush (v := -2) (k := 60) rfl (by decide) ?_
                exact m_irD (k := 61) rfl rfl rfl e rfl
          · refine x_aload_n (k := 20) rfl rfl ?_
            refine x_iload_n (k := 21) rfl rfl ?_
            refine x_bipush (v := 6) (k := 22) rfl (by decide) ?_
            refine m_callI (ci := 10) (k := 23) rfl (by rfl) (m_of hM (k := 6) hk1 (by decide)) okX10_of viX10_of mlRX10_84 ⟨Nat.le_of_ble_eq_true rfl, Nat.le_of_ble_eq_true rfl⟩ (by exact Nat.le_of_ble_eq_true rfl) rfl rfl mG0 (by exact Nat.le_of_ble_eq_true rfl) ?_
            refine x_iload_n (k := 24) rfl rfl ?_
            refine x_icmp_ne (tgt := 53) (k := 25) rfl (by decide) (fun c46 => ?_) (fun c46 => ?_)
            · have e := eo (-2) (fun z => absurd z.1.2 c46) (fun _ => rfl)
              refine x_iconst (v := 0) (k := 28) rfl (by decide) ?_
              refine x_istore (k := 29) rfl (by decide) ?_
              refine x_aload_n (k := 30) rfl rfl ?_
              refine x_iload_n (k := 31) rfl rfl ?_
              refine x_iconst (v := 2) (k := 32) rfl (by decide) ?_
              refine m_callI (ci := 10) (k := 33) rfl (by rfl) (m_ofP hM (k := 2) hx1 (by decide)) okX10_ofP viX10_ofP mlRX10_91 ⟨Nat.le_of_ble_eq_true rfl, Nat.le_of_ble_eq_true rfl⟩ (by exact Nat.le_of_ble_eq_true rfl) rfl rfl mG0 (by exact Nat.le_of_ble_eq_true rfl) ?_
              refine x_bipush (v := -9) (k := 34) rfl (by decide) ?_
              refine x_icmp_eq (tgt := 86) (k := 35) rfl (by decide) (fun c64 => ?_) (fun c64 => ?_)
              · have e := eo (-2) (fun z => absurd c64 z.2.1.1) (fun _ => rfl)
                refine x_iconst (v := 0) (k := 47) rfl (by decide) ?_
                refine x_istore (k := 48) rfl (by decide) ?_
                refine x_iload (k := 49) rfl rfl ?_
                refine x_if_eq (tgt := 112) (k := 50) rfl (by decide) (fun c91 => ?_) (fun c91 => absurd c91 (by decide))
                refine x_bipush (v := -2) (k := 60) rfl (by decide) ?_
                exact m_irD (k := 61) rfl rfl rfl e rfl
              · refine x_aload_n (k := 36) rfl rfl ?_
                refine x_iload_n (k := 37) rfl rfl ?_
                refine x_iconst (v := 2) (k := 38) rfl (by decide) ?_
                refine m_callI (ci := 10) (k := 39) rfl (by rfl) (m_ofP hM (k := 2) hx1 (by decide)) okX10_ofP viX10_ofP mlRX10_91 ⟨Nat.le_of_ble_eq_true rfl, Nat.le_of_ble_eq_true rfl⟩ (by exact Nat.le_of_ble_eq_true rfl) rfl rfl mG0 (by exact Nat.le_of_ble_eq_true rfl) ?_
                refine x_aload_n (k := 40) rfl rfl ?_
                refine x_iload_n (k := 41) rfl rfl ?_
                refine x_iconst (v := 2) (k := 42) rfl (by decide) ?_
                refine m_callI (ci := 10) (k := 43) rfl (by rfl) (m_ofP hM (k := 2) hy1 (by decide)) okX10_ofP viX10_ofP mlRX10_91 ⟨Nat.le_of_ble_eq_true rfl, Nat.le_of_ble_eq_true rfl⟩ (by exact Nat.le_of_ble_eq_true rfl) rfl rfl mG0 (by exact Nat.le_of_ble_eq_true rfl) ?_
                refine x_icmp_ne (tgt := 86) (k := 44) rfl (by decide) (fun c79 => ?_) (fun c79 => ?_)
                · have e := eo (-2) (fun z => absurd z.2.1.2 c79) (fun _ => rfl)
                  refine x_iconst (v := 0) (k := 47) rfl (by decide) ?_
                  refine x_istore (k := 48) rfl (by decide) ?_
                  refine x_iload (k := 49) rfl rfl ?_
                  refine x_if_eq (tgt := 112) (k := 50) rfl (by decide) (fun c91 => ?_) (fun c91 => absurd c91 (by decide))
                  refine x_bipush (v := -2) (k := 60) rfl (by decide) ?_
                  exact m_irD (k := 61) rfl rfl rfl e rfl
                · refine x_iconst (v := 1) (k := 45) rfl (by decide) ?_
                  refine x_goto (tgt := 87) (k := 46) rfl (by decide) ?_
                  refine x_istore (k := 48) rfl (by decide) ?_
                  refine x_iload (k := 49) rfl rfl ?_
                  refine x_if_eq (tgt := 112) (k := 50) rfl (by decide) (fun c91 => ?_) (fun c91 => absurd c91 (by decide))
                  refine x_bipush (v := -2) (k := 60) rfl (by decide) ?_
                  exact m_irD (k := 61) rfl rfl rfl e rfl
            · refine x_iconst (v := 1) (k := 26) rfl (by decide) ?_
              refine x_goto (tgt := 54) (k := 27) rfl (by decide) ?_
              refine x_istore (k := 29) rfl (by decide) ?_
              refine x_aload_n (k := 30) rfl rfl ?_
              refine x_iload_n (k := 31) rfl rfl ?_
              refine x_iconst (v := 2) (k := 32) rfl (by decide) ?_
              refine m_callI (ci := 10) (k := 33) rfl (by rfl) (m_ofP hM (k := 2) hx1 (by decide)) okX10_ofP viX10_ofP mlRX10_91 ⟨Nat.le_of_ble_eq_true rfl, Nat.le_of_ble_eq_true rfl⟩ (by exact Nat.le_of_ble_eq_true rfl) rfl rfl mG0 (by exact Nat.le_of_ble_eq_true rfl) ?_
              refine x_bipush (v := -9) (k := 34) rfl (by decide) ?_
              refine x_icmp_eq (tgt := 86) (k := 35) rfl (by decide) (fun c64 => ?_) (fun c64 => ?_)
              · have e := eo (-2) (fun z => absurd c64 z.2.1.1) (fun _ => rfl)
                refine x_iconst (v := 0) (k := 47) rfl (by decide) ?_
                refine x_istore (k := 48) rfl (by decide) ?_
                refine x_iload (k := 49) rfl rfl ?_
                refine x_if_eq (tgt := 112) (k := 50) rfl (by decide) (fun c91 => absurd c91 (by decide)) (fun c91 => ?_)
                refine x_iload (k := 51) rfl rfl ?_
                refine x_if_eq (tgt := 112) (k := 52) rfl (by decide) (fun c96 => ?_) (fun c96 => absurd c96 (by decide))
                refine x_bipush (v := -2) (k := 60) rfl (by decide) ?_
                exact m_irD (k := 61) rfl rfl rfl e rfl
              · refine x_aload_n (k := 36) rfl rfl ?_
                refine x_iload_n (k := 37) rfl rfl ?_
                refine x_iconst (v := 2) (k := 38) rfl (by decide) ?_
                refine m_callI (ci := 10) (k := 39) rfl (by rfl) (m_ofP hM (k := 2) hx1 (by decide)) okX10_ofP viX10_ofP mlRX10_91 ⟨Nat.le_of_ble_eq_true rfl, Nat.le_of_ble_eq_true rfl⟩ (by exact Nat.le_of_ble_eq_true rfl) rfl rfl mG0 (by exact Nat.le_of_ble_eq_true rfl) ?_
                refine x_aload_n (k := 40) rfl rfl ?_
                refine x_iload_n (k := 41) rfl rfl ?_
                refine x_iconst (v := 2) (k := 42) rfl (by decide) ?_
                refine m_callI (ci := 10) (k := 43) rfl (by rfl) (m_ofP hM (k := 2) hy1 (by decide)) okX10_ofP viX10_ofP mlRX10_91 ⟨Nat.le_of_ble_eq_true rfl, Nat.le_of_ble_eq_true rfl⟩ (by exact Nat.le_of_ble_eq_true rfl) rfl rfl mG0 (by exact Nat.le_of_ble_eq_true rfl) ?_
                refine x_icmp_ne (tgt := 86) (k := 44) rfl (by decide) (fun c79 => ?_) (fun c79 => ?_)
                · have e := eo (-2) (fun z => absurd z.2.1.2 c79) (fun _ => rfl)
                  refine x_iconst (v := 0) (k := 47) rfl (by decide) ?_
                  refine x_istore (k := 48) rfl (by decide) ?_
                  refine x_iload (k := 49) rfl rfl ?_
                  refine x_if_eq (tgt := 112) (k := 50) rfl (by decide) (fun c91 => absurd c91 (by decide)) (fun c91 => ?_)
                  refine x_iload (k := 51) rfl rfl ?_
                  refine x_if_eq (tgt := 112) (k := 52) rfl (by decide) (fun c96 => ?_) (fun c96 => absurd c96 (by decide))
                  refine x_bipush (v := -2) (k := 60) rfl (by decide) ?_
                  exact m_irD (k := 61) rfl rfl rfl e rfl
                · refine x_iconst (v := 1) (k := 45) rfl (by decide) ?_
                  refine x_goto (tgt := 87) (k := 46) rfl (by decide) ?_
                  refine x_istore (k := 48) rfl (by decide) ?_
                  refine x_iload (k := 49) rfl rfl ?_
                  refine x_if_eq (tgt := 112) (k := 50) rfl (by decide) (fun c91 => absurd c91 (by decide)) (fun c91 => ?_)
                  refine x_iload (k := 51) rfl rfl ?_
                  refine x_if_eq (tgt := 112) (k := 52) rfl (by decide) (fun c96 => absurd c96 (by decide)) (fun c96 => ?_)
                  refine x_aload_n (k := 53) rfl rfl ?_
                  refine x_iload_n (k := 54) rfl rfl ?_
                  refine m_callI (ci := 10) (k := 55) rfl (by rfl) (m_heldBy hM _) okX10_heldBy viX10_heldBy mlRX10_114 ⟨Nat.le_of_ble_eq_true rfl, Nat.le_of_ble_eq_true rfl⟩ (by exact Nat.le_of_ble_eq_true rfl) rfl rfl mG0 (by exact Nat.le_of_ble_eq_true rfl) ?_
                  refine x_iconst (v := 3) (k := 56) rfl (by decide) ?_
                  refine x_icmp_ge (tgt := 112) (k := 57) rfl (by decide) (fun c105 => ?_) (fun c105 => ?_)
                  · have e := eo (-2) (fun z => absurd c105 z.2.2) (fun _ => rfl)
                    refine x_bipush (v := -2) (k := 60) rfl (by decide) ?_
                    exact m_irD (k := 61) rfl rfl rfl e rfl
                  · have e := eo 0 (fun _ => rfl) (fun z => absurd ⟨⟨c35, c46⟩, ⟨c64, c79⟩, c105⟩ z)
                    refine x_iconst (v := 0) (k := 58) rfl (by decide) ?_
                    refine x_goto (tgt := 114) (k := 59) rfl (by decide) ?_
                    exact m_irD (k := 61) rfl rfl rfl e rfl
        · have e : sHoF W x n y = -1 := if_pos (Or.inr (Or.inr (Or.inr c24)))
          refine x_iconst (v := -1) (k := 13) rfl (by decide) ?_
          exact m_irD (k := 14) rfl rfl rfl e.symm rfl
