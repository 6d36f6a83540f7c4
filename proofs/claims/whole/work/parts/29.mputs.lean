-- ===== the model: more tests and answers =====
theorem isP_town {W : Wd} {p : Nat} (hp : p < 8) : sTown W (nI p) = W 0 p 2 := by rw [sTown, if_pos (show nI p < 10 from nI_lt (b := 10) (by omega) (by omega)), show ix (nI p) = p from clP hp]
theorem m_putError {G : xG} {s : xA} {m hr f nt nk : Nat} {W : Wd} {V : Vd} (hM : Rm hr f nt nk W V) (h3 : ∀ x, sHeld W x ≤ 3) (x n : Int32) : mI G MX10_putError [.ref m, .int x, .int n] s m V (sPuF W x n) V := by
  refine x_iload_n (k := 0) rfl rfl ?_
  refine x_sD (k := 1) rfl (by rfl) (m_isPerson _) okX10_isPerson viX10_isPerson mlRX10_61 ⟨Nat.le_of_ble_eq_true rfl, Nat.le_of_ble_eq_true rfl⟩ (by exact Nat.le_of_ble_eq_true rfl) rfl (by exact Nat.le_of_ble_eq_true rfl) ?_
  refine x_if_eq (tgt := 15) (k := 2) rfl (by decide) (fun c4 => ?_) (fun c4 => ?_)
  · replace c4 := bz_eq0 c4
    have e : sPuF W x n = -1 := if_pos (Or.inl c4)
    refine x_iconst (v := -1) (k := 7) rfl (by decide) ?_
    exact m_irD (k := 8) rfl rfl rfl e.symm rfl
  · replace c4 := bz_ne0 c4
    refine x_aload_n (k := 3) rfl rfl ?_
    refine x_iload_n (k := 4) rfl rfl ?_
    refine m_callI (ci := 10) (k := 5) rfl (by rfl) (m_isParcel hM _) okX10_isParcel viX10_isParcel mlRX10_133 ⟨Nat.le_of_ble_eq_true rfl, Nat.le_of_ble_eq_true rfl⟩ (by exact Nat.le_of_ble_eq_true rfl) rfl rfl mG0 (by exact Nat.le_of_ble_eq_true rfl) ?_
    refine x_if_ne (tgt := 17) (k := 6) rfl (by decide) (fun c12 => ?_) (fun c12 => ?_)
    · replace c12 := bz_ne0 c12
      have e2 : sPuF W x n = if ¬ huw W (ix n) x ∨ W 0 (ix x) 2 = -9 then -2 else if 3 ≤ sHeld W (10 + W 0 (ix x) 2) then -3 else 0 := if_neg (fun q => q.elim (fun z => z c4) (fun z => z c12))
      obtain ⟨x1, hx1, rfl⟩ := gP_is c4
      obtain ⟨k1, hk1, hk2, rfl⟩ := hM.kP c12
      have ek : ix (nI k1) = k1 := clK hk2
      have ex : ix (nI x1) = x1 := clP hx1
      rw [show (if ¬ huw W (ix (nI k1)) (nI x1) ∨ W 0 (ix (nI x1)) 2 = -9 then (-2 : Int32) else if 3 ≤ sHeld W (10 + W 0 (ix (nI x1)) 2) then -3 else 0) = if ¬ huw W k1 (nI x1) ∨ W 0 x1 2 = -9 then -2 else if 3 ≤ sHeld W (10 + W 0 x1 2) then -3 else 0 from by rw [ek, ex]] at e2
      refine x_aload_n (k := 9) rfl rfl ?_
      refine x_iload_n (k := 10) rfl rfl ?_
      refine x_iconst (v := 2) (k := 11) rfl (by decide) ?_
      refine m_callI (ci := 10) (k := 12) rfl (by rfl) (m_ofP hM (k := 2) hx1 (by decide)) okX10_ofP viX10_ofP mlRX10_91 ⟨Nat.le_of_ble_eq_true rfl, Nat.le_of_ble_eq_true rfl⟩ (by exact Nat.le_of_ble_eq_true rfl) rfl rfl mG0 (by exact Nat.le_of_ble_eq_true rfl) ?_
      refine x_istore_n (k := 13) rfl (by decide) ?_
      refine x_aload_n (k := 14) rfl rfl ?_
      refine x_iload_n (k := 15) rfl rfl ?_
      refine x_iconst (v := 5) (k := 16) rfl (by decide) ?_
      refine m_callI (ci := 10) (k := 17) rfl (by rfl) (m_of hM (k := 5) hk1 (by decide)) okX10_of viX10_of mlRX10_84 ⟨Nat.le_of_ble_eq_true rfl, Nat.le_of_ble_eq_true rfl⟩ (by exact Nat.le_of_ble_eq_true rfl) rfl rfl mG0 (by exact Nat.le_of_ble_eq_true rfl) ?_
      refine x_if_ne (tgt := 50) (k := 18) rfl (by decide) (fun c30 => ?_) (fun c30 => ?_)
      · have e : sPuF W (nI x1) (nI k1) = -2 := e2.trans (if_pos (Or.inl (fun q => c30 q.1)))
        refine x_bipush (v := -2) (k := 28) rfl (by decide) ?_
        exact m_irD (k := 29) rfl rfl rfl e.symm rfl
      · refine x_aload_n (k := 19) rfl rfl ?_
        refine x_iload_n (k := 20) rfl rfl ?_
        refine x_bipush (v := 6) (k := 21) rfl (by decide) ?_
        refine m_callI (ci := 10) (k := 22) rfl (by rfl) (m_of hM (k := 6) hk1 (by decide)) okX10_of viX10_of mlRX10_84 ⟨Nat.le_of_ble_eq_true rfl, Nat.le_of_ble_eq_true rfl⟩ (by exact Nat.le_of_ble_eq_true rfl) rfl rfl mG0 (by exact Nat.le_of_ble_eq_true rfl) ?_
        refine x_iload_n (k := 23) rfl rfl ?_
        refine x_icmp_ne (tgt := 50) (k := 24) rfl (by decide) (fun c41 => ?_) (fun c41 => ?_)
        · have e : sPuF W (nI x1) (nI k1) = -2 := e2.trans (if_pos (Or.inl (fun q => c41 q.2)))
          refine x_bipush (v := -2) (k := 28) rfl (by decide) ?_
          exact m_irD (k := 29) rfl rfl rfl e.symm rfl
        · refine x_iload_n (k := 25) rfl rfl ?_
          refine x_bipush (v := -9) (k := 26) rfl (by decide) ?_
          refine x_icmp_ne (tgt := 53) (k := 27) rfl (by decide) (fun c47 => ?_) (fun c47 => ?_)
          · have e3 : sPuF W (nI x1) (nI k1) = if 3 ≤ sHeld W (10 + W 0 x1 2) then -3 else 0 := e2.trans (if_neg (fun q => q.elim (fun z => z ⟨c30, c41⟩) c47))
            refine x_aload_n (k := 30) rfl rfl ?_
            refine x_bipush (v := 10) (k := 31) rfl (by decide) ?_
            refine x_iload_n (k := 32) rfl rfl ?_
            refine x_iadd (k := 33) rfl ?_
            refine m_callI (ci := 10) (k := 34) rfl (by rfl) (m_heldBy hM _) okX10_heldBy viX10_heldBy mlRX10_114 ⟨Nat.le_of_ble_eq_true rfl, Nat.le_of_ble_eq_true rfl⟩ (by exact Nat.le_of_ble_eq_true rfl) rfl rfl mG0 (by exact Nat.le_of_ble_eq_true rfl) ?_
            refine x_iconst (v := 3) (k := 35) rfl (by decide) ?_
            refine x_icmp_ne (tgt := 70) (k := 36) rfl (by decide) (fun c62 => ?_) (fun c62 => ?_)
            · have e : sPuF W (nI x1) (nI k1) = 0 := e3.trans (if_neg (fun q => c62 (Int32.le_antisymm (h3 _) q)))
              refine x_iconst (v := 0) (k := 39) rfl (by decide) ?_
              exact m_irD (k := 40) rfl rfl rfl e.symm rfl
            · have e : sPuF W (nI x1) (nI k1) = -3 := e3.trans (if_pos (by rw [c62]; exact Int32.le_refl _))
              refine x_bipush (v := -3) (k := 37) rfl (by decide) ?_
              refine x_goto (tgt := 71) (k := 38) rfl (by decide) ?_
              exact m_irD (k := 40) rfl rfl rfl e.symm rfl
          · have e : sPuF W (nI x1) (nI k1) = -2 := e2.trans (if_pos (Or.inr c47))
            refine x_bipush (v := -2) (k := 28) rfl (by decide) ?_
            exact m_irD (k := 29) rfl rfl rfl e.symm rfl
    · replace c12 := bz_eq0 c12
      have e : sPuF W x n = -1 := if_pos (Or.inr c12)
      refine x_iconst (v := -1) (k := 7) rfl (by decide) ?_
      exact m_irD (k := 8) rfl rfl rfl e.symm rfl
theorem m_fetchError {G : xG} {s : xA} {m hr f nt nk : Nat} {W : Wd} {V : Vd} (hM : Rm hr f nt nk W V) (x n : Int32) : mI G MX10_fetchError [.ref m, .int x, .int n] s m V (sFeF W x n) V := by
  refine x_iload_n (k := 0) rfl rfl ?_
  refine x_sD (k := 1) rfl (by rfl) (m_isPerson _) okX10_isPerson viX10_isPerson mlRX10_61 ⟨Nat.le_of_ble_eq_true rfl, Nat.le_of_ble_eq_true rfl⟩ (by exact Nat.le_of_ble_eq_true rfl) rfl (by exact Nat.le_of_ble_eq_true rfl) ?_
  refine x_if_eq (tgt := 15) (k := 2) rfl (by decide) (fun c4 => ?_) (fun c4 => ?_)
  · replace c4 := bz_eq0 c4
    have e : sFeF W x n = -1 := if_pos (Or.inl c4)
    refine x_iconst (v := -1) (k := 7) rfl (by decide) ?_
    exact m_irD (k := 8) rfl rfl rfl e.symm rfl
  · replace c4 := bz_ne0 c4
    refine x_aload_n (k := 3) rfl rfl ?_
    refine x_iload_n (k := 4) rfl rfl ?_
    refine m_callI (ci := 10) (k := 5) rfl (by rfl) (m_isParcel hM _) okX10_isParcel viX10_isParcel mlRX10_133 ⟨Nat.le_of_ble_eq_true rfl, Nat.le_of_ble_eq_true rfl⟩ (by exact Nat.le_of_ble_eq_true rfl) rfl rfl mG0 (by exact Nat.le_of_ble_eq_true rfl) ?_
    refine x_if_ne (tgt := 17) (k := 6) rfl (by decide) (fun c12 => ?_) (fun c12 => ?_)
    · replace c12 := bz_ne0 c12
      have e2 : sFeF W x n = if ¬ W 0 (ix x) 2 = -9 ∧ huw W (ix n) (10 + W 0 (ix x) 2) ∧ ¬ 3 ≤ sHeld W x then 0 else -2 := if_neg (fun q => q.elim (fun z => z c4) (fun z => z c12))
      obtain ⟨x1, hx1, rfl⟩ := gP_is c4
      obtain ⟨k1, hk1, hk2, rfl⟩ := hM.kP c12
      have ek : ix (nI k1) = k1 := clK hk2
      have ex : ix (nI x1) = x1 := clP hx1
      rw [show (if ¬ W 0 (ix (nI x1)) 2 = -9 ∧ huw W (ix (nI k1)) (10 + W 0 (ix (nI x1)) 2) ∧ ¬ 3 ≤ sHeld W (nI x1) then (0 : Int32) else -2) = if ¬ W 0 x1 2 = -9 ∧ huw W k1 (10 + W 0 x1 2) ∧ ¬ 3 ≤ sHeld W (nI x1) then 0 else -2 from by rw [ek, ex]] at e2
      refine x_aload_n (k := 9) rfl rfl ?_
      refine x_iload_n (k := 10) rfl rfl ?_
      refine x_iconst (v := 2) (k := 11) rfl (by decide) ?_
      refine m_callI (ci := 10) (k := 12) rfl (by rfl) (m_ofP hM (k := 2) hx1 (by decide)) okX10_ofP viX10_ofP mlRX10_91 ⟨Nat.le_of_ble_eq_true rfl, Nat.le_of_ble_eq_true rfl⟩ (by exact Nat.le_of_ble_eq_true rfl) rfl rfl mG0 (by exact Nat.le_of_ble_eq_true rfl) ?_
      refine x_bipush (v := -9) (k := 13) rfl (by decide) ?_
      refine x_icmp_eq (tgt := 60) (k := 14) rfl (by decide) (fun c25 => ?_) (fun c25 => ?_)
      · have e : sFeF W (nI x1) (nI k1) = -2 := e2.trans (if_neg (fun q => q.1 c25))
        refine x_iconst (v := 0) (k := 33) rfl (by decide) ?_
        refine x_istore_n (k := 34) rfl (by decide) ?_
        refine x_iload_n (k := 35) rfl rfl ?_
        refine x_if_eq (tgt := 79) (k := 36) rfl (by decide) (fun c63 => ?_) (fun c63 => absurd c63 (by decide))
        refine x_bipush (v := -2) (k := 44) rfl (by decide) ?_
        exact m_irD (k := 45) rfl rfl rfl e.symm rfl
      · refine x_aload_n (k := 15) rfl rfl ?_
        refine x_iload_n (k := 16) rfl rfl ?_
        refine x_iconst (v := 5) (k := 17) rfl (by decide) ?_
        refine m_callI (ci := 10) (k := 18) rfl (by rfl) (m_of hM (k := 5) hk1 (by decide)) okX10_of viX10_of mlRX10_84 ⟨Nat.le_of_ble_eq_true rfl, Nat.le_of_ble_eq_true rfl⟩ (by exact Nat.le_of_ble_eq_true rfl) rfl rfl mG0 (by exact Nat.le_of_ble_eq_true rfl) ?_
        refine x_if_ne (tgt := 60) (k := 19) rfl (by decide) (fun c34 => ?_) (fun c34 => ?_)
        · have e : sFeF W (nI x1) (nI k1) = -2 := e2.trans (if_neg (fun q => c34 q.2.1.1))
          refine x_iconst (v := 0) (k := 33) rfl (by decide) ?_
          refine x_istore_n (k := 34) rfl (by decide) ?_
          refine x_iload_n (k := 35) rfl rfl ?_
          refine x_if_eq (tgt := 79) (k := 36) rfl (by decide) (fun c63 => ?_) (fun c63 => absurd c63 (by decide))
          refine x_bipush (v := -2) (k := 44) rfl (by decide) ?_
          exact m_irD (k := 45) rfl rfl rfl e.symm rfl
        · refine x_aload_n (k := 20) rfl rfl ?_
          refine x_iload_n (k := 21) rfl rfl ?_
          refine x_bipush (v := 6) (k := 22) rfl (by decide) ?_
          refine m_callI (ci := 10) (k := 23) rfl (by rfl) (m_of hM (k := 6) hk1 (by decide)) okX10_of viX10_of mlRX10_84 ⟨Nat.le_of_ble_eq_true rfl, Nat.le_of_ble_eq_true rfl⟩ (by exact Nat.le_of_ble_eq_true rfl) rfl rfl mG0 (by exact Nat.le_of_ble_eq_true rfl) ?_
          refine x_bipush (v := 10) (k := 24) rfl (by decide) ?_
          refine x_aload_n (k := 25) rfl rfl ?_
          refine x_iload_n (k := 26) rfl rfl ?_
          refine x_iconst (v := 2) (k := 27) rfl (by decide) ?_
          refine m_callI (ci := 10) (k := 28) rfl (by rfl) (m_ofP hM (k := 2) hx1 (by decide)) okX10_ofP viX10_ofP mlRX10_91 ⟨Nat.le_of_ble_eq_true rfl, Nat.le_of_ble_eq_true rfl⟩ (by exact Nat.le_of_ble_eq_true rfl) rfl rfl mG0 (by exact Nat.le_of_ble_eq_true rfl) ?_
          refine x_iadd (k := 29) rfl ?_
          refine x_icmp_ne (tgt := 60) (k := 30) rfl (by decide) (fun c53 => ?_) (fun c53 => ?_)
          · have e : sFeF W (nI x1) (nI k1) = -2 := e2.trans (if_neg (fun q => c53 q.2.1.2))
            refine x_iconst (v := 0) (k := 33) rfl (by decide) ?_
            refine x_istore_n (k := 34) rfl (by decide) ?_
            refine x_iload_n (k := 35) rfl rfl ?_
            refine x_if_eq (tgt := 79) (k := 36) rfl (by decide) (fun c63 => ?_) (fun c63 => absurd c63 (by decide))
            refine x_bipush (v := -2) (k := 44) rfl (by decide) ?_
            exact m_irD (k := 45) rfl rfl rfl e.symm rfl
          · refine x_iconst (v := 1) (k := 31) rfl (by decide) ?_
            refine x_goto (tgt := 61) (k := 32) rfl (by decide) ?_
            refine x_istore_n (k := 34) rfl (by decide) ?_
            refine x_iload_n (k := 35) rfl rfl ?_
            refine x_if_eq (tgt := 79) (k := 36) rfl (by decide) (fun c63 => absurd c63 (by decide)) (fun c63 => ?_)
            refine x_aload_n (k := 37) rfl rfl ?_
            refine x_iload_n (k := 38) rfl rfl ?_
            refine m_callI (ci := 10) (k := 39) rfl (by rfl) (m_heldBy hM _) okX10_heldBy viX10_heldBy mlRX10_114 ⟨Nat.le_of_ble_eq_true rfl, Nat.le_of_ble_eq_true rfl⟩ (by exact Nat.le_of_ble_eq_true rfl) rfl rfl mG0 (by exact Nat.le_of_ble_eq_true rfl) ?_
            refine x_iconst (v := 3) (k := 40) rfl (by decide) ?_
            refine x_icmp_ge (tgt := 79) (k := 41) rfl (by decide) (fun c72 => ?_) (fun c72 => ?_)
            · have e : sFeF W (nI x1) (nI k1) = -2 := e2.trans (if_neg (fun q => q.2.2 c72))
              refine x_bipush (v := -2) (k := 44) rfl (by decide) ?_
              exact m_irD (k := 45) rfl rfl rfl e.symm rfl
            · have e : sFeF W (nI x1) (nI k1) = 0 := e2.trans (if_pos ⟨c25, ⟨c34, c53⟩, c72⟩)
              refine x_iconst (v := 0) (k := 42) rfl (by decide) ?_
              refine x_goto (tgt := 81) (k := 43) rfl (by decide) ?_
              exact m_irD (k := 45) rfl rfl rfl e.symm rfl
    · replace c12 := bz_eq0 c12
      have e : sFeF W x n = -1 := if_pos (Or.inr c12)
      refine x_iconst (v := -1) (k := 7) rfl (by decide) ?_
      exact m_irD (k := 8) rfl rfl rfl e.symm rfl
