theorem m_fundPays {G : xG} {s : xA} {m hr f nt nk : Nat} {W : Wd} {V : Vd} (hM : Rm hr f nt nk W V) {k : Nat} (hk : k < nk) (ht : ∃ q : Nat, q < 4 ∧ W 2 k 4 = nI q) : mI G MX10_fundPays [.ref m, .int (nI k)] s m V (sFund W k) V := by
  obtain ⟨q, hq, eq⟩ := ht
  have es : sFund W k = iMin (iMin (W 2 k 3) (iCover q)) (W 3 0 1) := by rw [sFund, eq, show ix (nI q) = q from cl4 hq]
  have ef : V.1 1 = (W 3 0 1).toInt64 := by rw [hM.1.2.2.1, hM.eF, nI_l hM.2.2.1]
  refine x_aload_n (k := 0) rfl rfl ?_
  refine x_iload_n (k := 1) rfl rfl ?_
  refine x_iconst (v := 4) (k := 2) rfl (by decide) ?_
  refine m_callI (ci := 10) (k := 3) rfl (by rfl) (m_of hM (k := 4) hk (by decide)) okX10_of viX10_of mlRX10_84 ⟨Nat.le_of_ble_eq_true rfl, Nat.le_of_ble_eq_true rfl⟩ (by exact Nat.le_of_ble_eq_true rfl) rfl rfl mG0 (by exact Nat.le_of_ble_eq_true rfl) ?_
  rw [eq]
  refine x_sD (k := 4) rfl (by rfl) (m_coverOf hq) okX10_coverOf viX10_coverOf mlRX10_158 ⟨Nat.le_of_ble_eq_true rfl, Nat.le_of_ble_eq_true rfl⟩ (by exact Nat.le_of_ble_eq_true rfl) rfl (by exact Nat.le_of_ble_eq_true rfl) ?_
  refine x_istore_n (k := 5) rfl (by decide) ?_
  refine x_aload_n (k := 6) rfl rfl ?_
  refine x_iload_n (k := 7) rfl rfl ?_
  refine x_iconst (v := 3) (k := 8) rfl (by decide) ?_
  refine m_callI (ci := 10) (k := 9) rfl (by rfl) (m_of hM (k := 3) hk (by decide)) okX10_of viX10_of mlRX10_84 ⟨Nat.le_of_ble_eq_true rfl, Nat.le_of_ble_eq_true rfl⟩ (by exact Nat.le_of_ble_eq_true rfl) rfl rfl mG0 (by exact Nat.le_of_ble_eq_true rfl) ?_
  refine x_iload_n (k := 10) rfl rfl ?_
  refine x_icmp_ge (tgt := 29) (k := 11) rfl (by decide) (fun c17 => ?_) (fun c17 => ?_)
  · rw [iMin_ge c17] at es
    refine x_iload_n (k := 17) rfl rfl ?_
    refine x_istore_n (k := 18) rfl (by decide) ?_
    refine x_iload_n (k := 19) rfl rfl ?_
    refine x_i2l (k := 20) rfl ?_
    refine x_aload_n (k := 21) rfl rfl ?_
    refine m_getA (a := 1) (k := 22) rfl flRX10_7 rfl ?_
    refine x_iconst (v := 1) (k := 23) rfl (by decide) ?_
    refine m_nat (k := 24) rfl (show (1 : Int32) = nI 1 from rfl) (by first | assumption | omega) ?_
    refine x_lcmp (k := 25) rfl ?_
    refine x_if_ge (tgt := 47) (k := 26) rfl (by decide) (fun c40 => ?_) (fun c40 => ?_)
    · replace c40 := (lg_cmp_ge _ _).mp c40
      rw [ef, w_le] at c40
      rw [iMin_ge c40] at es
      refine x_aload_n (k := 29) rfl rfl ?_
      refine m_getA (a := 1) (k := 30) rfl flRX10_7 rfl ?_
      refine x_iconst (v := 1) (k := 31) rfl (by decide) ?_
      refine m_nat (k := 32) rfl (show (1 : Int32) = nI 1 from rfl) (by first | assumption | omega) ?_
      refine x_l2i (k := 33) rfl ?_
      exact m_irD (k := 34) rfl rfl rfl (by first | exact es.symm | (rw [es, hM.1.2.2.1, lN_i, hM.eF])) rfl
    · replace c40 := mt (lg_cmp_ge _ _).mpr c40
      rw [ef, w_le] at c40
      rw [iMin_lt c40] at es
      refine x_iload_n (k := 27) rfl rfl ?_
      refine x_goto (tgt := 54) (k := 28) rfl (by decide) ?_
      exact m_irD (k := 34) rfl rfl rfl (by first | exact es.symm | (rw [es, hM.1.2.2.1, lN_i, hM.eF])) rfl
  · rw [iMin_lt c17] at es
    refine x_aload_n (k := 12) rfl rfl ?_
    refine x_iload_n (k := 13) rfl rfl ?_
    refine x_iconst (v := 3) (k := 14) rfl (by decide) ?_
    refine m_callI (ci := 10) (k := 15) rfl (by rfl) (m_of hM (k := 3) hk (by decide)) okX10_of viX10_of mlRX10_84 ⟨Nat.le_of_ble_eq_true rfl, Nat.le_of_ble_eq_true rfl⟩ (by exact Nat.le_of_ble_eq_true rfl) rfl rfl mG0 (by exact Nat.le_of_ble_eq_true rfl) ?_
    refine x_goto (tgt := 30) (k := 16) rfl (by decide) ?_
    refine x_istore_n (k := 18) rfl (by decide) ?_
    refine x_iload_n (k := 19) rfl rfl ?_
    refine x_i2l (k := 20) rfl ?_
    refine x_aload_n (k := 21) rfl rfl ?_
    refine m_getA (a := 1) (k := 22) rfl flRX10_7 rfl ?_
    refine x_iconst (v := 1) (k := 23) rfl (by decide) ?_
    refine m_nat (k := 24) rfl (show (1 : Int32) = nI 1 from rfl) (by first | assumption | omega) ?_
    refine x_lcmp (k := 25) rfl ?_
    refine x_if_ge (tgt := 47) (k := 26) rfl (by decide) (fun c40 => ?_) (fun c40 => ?_)
    · replace c40 := (lg_cmp_ge _ _).mp c40
      rw [ef, w_le] at c40
      rw [iMin_ge c40] at es
      refine x_aload_n (k := 29) rfl rfl ?_
      refine m_getA (a := 1) (k := 30) rfl flRX10_7 rfl ?_
      refine x_iconst (v := 1) (k := 31) rfl (by decide) ?_
      refine m_nat (k := 32) rfl (show (1 : Int32) = nI 1 from rfl) (by first | assumption | omega) ?_
      refine x_l2i (k := 33) rfl ?_
      exact m_irD (k := 34) rfl rfl rfl (by first | exact es.symm | (rw [es, hM.1.2.2.1, lN_i, hM.eF])) rfl
    · replace c40 := mt (lg_cmp_ge _ _).mpr c40
      rw [ef, w_le] at c40
      rw [iMin_lt c40] at es
      refine x_iload_n (k := 27) rfl rfl ?_
      refine x_goto (tgt := 54) (k := 28) rfl (by decide) ?_
      exact m_irD (k := 34) rfl rfl rfl (by first | exact es.symm | (rw [es, hM.1.2.2.1, lN_i, hM.eF])) rfl
theorem m_owes0 {G : xG} {s : xA} {m hr f nt nk : Nat} {W : Wd} {V : Vd} (hM : Rm hr f nt nk W V) {k : Nat} (hk : k < nk) (ht : ∃ q : Nat, q < 4 ∧ W 2 k 4 = nI q) (hh : W 2 k 6 < 10 → isP (W 2 k 6)) : mI G MX10_owes [.ref m, .int (nI k), .int 0] s m V (sHoP W k) V := by
  refine x_aload_n (k := 0) rfl rfl ?_
  refine x_iload_n (k := 1) rfl rfl ?_
  refine x_bipush (v := 6) (k := 2) rfl (by decide) ?_
  refine m_callI (ci := 10) (k := 3) rfl (by rfl) (m_of hM (k := 6) hk (by decide)) okX10_of viX10_of mlRX10_84 ⟨Nat.le_of_ble_eq_true rfl, Nat.le_of_ble_eq_true rfl⟩ (by exact Nat.le_of_ble_eq_true rfl) rfl rfl mG0 (by exact Nat.le_of_ble_eq_true rfl) ?_
  refine x_istore_n (k := 4) rfl (by decide) ?_
  refine x_aload_n (k := 5) rfl rfl ?_
  refine x_iload_n (k := 6) rfl rfl ?_
  refine x_bipush (v := 8) (k := 7) rfl (by decide) ?_
  refine m_callI (ci := 10) (k := 8) rfl (by rfl) (m_of hM (k := 8) hk (by decide)) okX10_of viX10_of mlRX10_84 ⟨Nat.le_of_ble_eq_true rfl, Nat.le_of_ble_eq_true rfl⟩ (by exact Nat.le_of_ble_eq_true rfl) rfl rfl mG0 (by exact Nat.le_of_ble_eq_true rfl) ?_
  refine x_istore (k := 9) rfl (by decide) ?_
  refine x_iload_n (k := 10) rfl rfl ?_
  refine x_bipush (v := 10) (k := 11) rfl (by decide) ?_
  refine x_icmp_ge (tgt := 35) (k := 12) rfl (by decide) (fun c20 => ?_) (fun c20 => ?_)
  · have e : sHoP W k = 0 := if_pos c20
    refine x_iconst (v := 0) (k := 19) rfl (by decide) ?_
    exact m_irD (k := 20) rfl rfl rfl e.symm rfl
  · have e2 : sHoP W k = iMin (if W 2 k 8 = -9 then W 2 k 3 - sFund W k else W 2 k 3 - sFund W k - (W 2 k 3 - sFund W k) / 2) (W 0 (ix (W 2 k 6)) 1) := by
      unfold sHoP sMiss
      exact if_neg c20
    obtain ⟨p, hp, ep⟩ := hh (Int32.not_le.mp c20)
    rw [ep, show ix (nI p) = p from clP hp] at e2
    rw [ep]
    refine x_iload_n (k := 13) rfl rfl ?_
    refine x_iconst (v := 1) (k := 14) rfl (by decide) ?_
    refine x_icmp_ne (tgt := 37) (k := 15) rfl (by decide) (fun c25 => ?_) (fun c25 => absurd c25 (by decide))
    refine x_aload_n (k := 21) rfl rfl ?_
    refine x_iload_n (k := 22) rfl rfl ?_
    refine x_iconst (v := 3) (k := 23) rfl (by decide) ?_
    refine m_callI (ci := 10) (k := 24) rfl (by rfl) (m_of hM (k := 3) hk (by decide)) okX10_of viX10_of mlRX10_84 ⟨Nat.le_of_ble_eq_true rfl, Nat.le_of_ble_eq_true rfl⟩ (by exact Nat.le_of_ble_eq_true rfl) rfl rfl mG0 (by exact Nat.le_of_ble_eq_true rfl) ?_
    refine x_aload_n (k := 25) rfl rfl ?_
    refine x_iload_n (k := 26) rfl rfl ?_
    refine m_callI (ci := 10) (k := 27) rfl (by rfl) (m_fundPays hM hk ht) okX10_fundPays viX10_fundPays mlRX10_161 ⟨Nat.le_of_ble_eq_true rfl, Nat.le_of_ble_eq_true rfl⟩ (by exact Nat.le_of_ble_eq_true rfl) rfl rfl mG0 (by exact Nat.le_of_ble_eq_true rfl) ?_
    refine x_isub (k := 28) rfl ?_
    refine x_istore (k := 29) rfl (by decide) ?_
    refine x_iload (k := 30) rfl rfl ?_
    refine x_bipush (v := -9) (k := 31) rfl (by decide) ?_
    refine x_icmp_ne (tgt := 63) (k := 32) rfl (by decide) (fun c55 => ?_) (fun c55 => ?_)
    · rw [if_neg c55] at e2
      refine x_iload_n (k := 35) rfl rfl ?_
      refine x_if_ne (tgt := 77) (k := 36) rfl (by decide) (fun c64 => absurd rfl c64) (fun c64 => ?_)
      refine x_iload (k := 37) rfl rfl ?_
      refine x_iload (k := 38) rfl rfl ?_
      refine x_iconst (v := 2) (k := 39) rfl (by decide) ?_
      refine x_idiv (k := 40) rfl (by decide) ?_
      refine x_isub (k := 41) rfl ?_
      refine x_goto (tgt := 81) (k := 42) rfl (by decide) ?_
      refine x_istore (k := 46) rfl (by decide) ?_
      refine x_aload_n (k := 47) rfl rfl ?_
      refine x_iload_n (k := 48) rfl rfl ?_
      refine x_if_ne (tgt := 92) (k := 49) rfl (by decide) (fun c85 => absurd rfl c85) (fun c85 => ?_)
      refine x_iload_n (k := 50) rfl rfl ?_
      refine x_goto (tgt := 94) (k := 51) rfl (by decide) ?_
      refine x_iconst (v := 1) (k := 53) rfl (by decide) ?_
      refine m_callI (ci := 10) (k := 54) rfl (by rfl) (m_ofP hM (k := 1) hp (by decide)) okX10_ofP viX10_ofP mlRX10_91 ⟨Nat.le_of_ble_eq_true rfl, Nat.le_of_ble_eq_true rfl⟩ (by exact Nat.le_of_ble_eq_true rfl) rfl rfl mG0 (by exact Nat.le_of_ble_eq_true rfl) ?_
      refine x_istore (k := 55) rfl (by decide) ?_
      refine x_iload (k := 56) rfl rfl ?_
      refine x_iload (k := 57) rfl rfl ?_
      refine x_icmp_ge (tgt := 112) (k := 58) rfl (by decide) (fun c104 => ?_) (fun c104 => ?_)
      · have e := e2.trans (iMin_ge c104)
        refine x_iload (k := 61) rfl rfl ?_
        exact m_irD (k := 62) rfl rfl rfl e.symm rfl
      · have e := e2.trans (iMin_lt c104)
        refine x_iload (k := 59) rfl rfl ?_
        refine x_goto (tgt := 114) (k := 60) rfl (by decide) ?_
        exact m_irD (k := 62) rfl rfl rfl e.symm rfl
    · rw [if_pos c55] at e2
      refine x_iload (k := 33) rfl rfl ?_
      refine x_goto (tgt := 81) (k := 34) rfl (by decide) ?_
      refine x_istore (k := 46) rfl (by decide) ?_
      refine x_aload_n (k := 47) rfl rfl ?_
      refine x_iload_n (k := 48) rfl rfl ?_
      refine x_if_ne (tgt := 92) (k := 49) rfl (by decide) (fun c85 => absurd rfl c85) (fun c85 => ?_)
      refine x_iload_n (k := 50) rfl rfl ?_
      refine x_goto (tgt := 94) (k := 51) rfl (by decide) ?_
      refine x_iconst (v := 1) (k := 53) rfl (by decide) ?_
      refine m_callI (ci := 10) (k := 54) rfl (by rfl) (m_ofP hM (k := 1) hp (by decide)) okX10_ofP viX10_ofP mlRX10_91 ⟨Nat.le_of_ble_eq_true rfl, Nat.le_of_ble_eq_true rfl⟩ (by exact Nat.le_of_ble_eq_true rfl) rfl rfl mG0 (by exact Nat.le_of_ble_eq_true rfl) ?_
      refine x_istore (k := 55) rfl (by decide) ?_
      refine x_iload (k := 56) rfl rfl ?_
      refine x_iload (k := 57) rfl rfl ?_
      refine x_icmp_ge (tgt := 112) (k := 58) rfl (by decide) (fun c104 => ?_) (fun c104 => ?_)
      · have e := e2.trans (iMin_ge c104)
        refine x_iload (k := 61) rfl rfl ?_
        exact m_irD (k := 62) rfl rfl rfl e.symm rfl
      · have e := e2.trans (iMin_lt c104)
        refine x_iload (k := 59) rfl rfl ?_
        refine x_goto (tgt := 114) (k := 60) rfl (by decide) ?_
        exact m_irD (k := 62) rfl rfl rfl e.symm rfl
theorem m_owes1 {G : xG} {s : xA} {m hr f nt nk : Nat} {W : Wd} {V : Vd} (hM : Rm hr f nt nk W V) {k : Nat} (hk : k < nk) (ht : ∃ q : Nat, q < 4 ∧ W 2 k 4 = nI q) (hw : ¬ W 2 k 8 = -9 → isP (W 2 k 8)) (hl : 10 ≤ W 2 k 6 → W 2 k 8 = -9) : mI G MX10_owes [.ref m, .int (nI k), .int 1] s m V (sNaP W k) V := by
  refine x_aload_n (k := 0) rfl rfl ?_
  refine x_iload_n (k := 1) rfl rfl ?_
  refine x_bipush (v := 6) (k := 2) rfl (by decide) ?_
  refine m_callI (ci := 10) (k := 3) rfl (by rfl) (m_of hM (k := 6) hk (by decide)) okX10_of viX10_of mlRX10_84 ⟨Nat.le_of_ble_eq_true rfl, Nat.le_of_ble_eq_true rfl⟩ (by exact Nat.le_of_ble_eq_true rfl) rfl rfl mG0 (by exact Nat.le_of_ble_eq_true rfl) ?_
  refine x_istore_n (k := 4) rfl (by decide) ?_
  refine x_aload_n (k := 5) rfl rfl ?_
  refine x_iload_n (k := 6) rfl rfl ?_
  refine x_bipush (v := 8) (k := 7) rfl (by decide) ?_
  refine m_callI (ci := 10) (k := 8) rfl (by rfl) (m_of hM (k := 8) hk (by decide)) okX10_of viX10_of mlRX10_84 ⟨Nat.le_of_ble_eq_true rfl, Nat.le_of_ble_eq_true rfl⟩ (by exact Nat.le_of_ble_eq_true rfl) rfl rfl mG0 (by exact Nat.le_of_ble_eq_true rfl) ?_
  refine x_istore (k := 9) rfl (by decide) ?_
  refine x_iload_n (k := 10) rfl rfl ?_
  refine x_bipush (v := 10) (k := 11) rfl (by decide) ?_
  refine x_icmp_ge (tgt := 35) (k := 12) rfl (by decide) (fun c20 => ?_) (fun c20 => ?_)
  · have e : sNaP W k = 0 := if_pos (hl c20)
    refine x_iconst (v := 0) (k := 19) rfl (by decide) ?_
    exact m_irD (k := 20) rfl rfl rfl e.symm rfl
  · refine x_iload_n (k := 13) rfl rfl ?_
    refine x_iconst (v := 1) (k := 14) rfl (by decide) ?_
    refine x_icmp_ne (tgt := 37) (k := 15) rfl (by decide) (fun c25 => absurd (show (1 : Int32) = 1 from rfl) c25) (fun c25 => ?_)
    refine x_iload (k := 16) rfl rfl ?_
    refine x_bipush (v := -9) (k := 17) rfl (by decide) ?_
    refine x_icmp_ne (tgt := 37) (k := 18) rfl (by decide) (fun c32 => ?_) (fun c32 => ?_)
    · have e2 : sNaP W k = iMin ((W 2 k 3 - sFund W k) / 2) (W 0 (ix (W 2 k 8)) 1) := by
        unfold sNaP sMiss
        exact if_neg c32
      obtain ⟨p, hp, ep⟩ := hw c32
      rw [ep, show ix (nI p) = p from clP hp] at e2
      rw [ep]
      have c55n : ¬ nI p = -9 := by rw [← ep]; exact c32
      refine x_aload_n (k := 21) rfl rfl ?_
      refine x_iload_n (k := 22) rfl rfl ?_
      refine x_iconst (v := 3) (k := 23) rfl (by decide) ?_
      refine m_callI (ci := 10) (k := 24) rfl (by rfl) (m_of hM (k := 3) hk (by decide)) okX10_of viX10_of mlRX10_84 ⟨Nat.le_of_ble_eq_true rfl, Nat.le_of_ble_eq_true rfl⟩ (by exact Nat.le_of_ble_eq_true rfl) rfl rfl mG0 (by exact Nat.le_of_ble_eq_true rfl) ?_
      refine x_aload_n (k := 25) rfl rfl ?_
      refine x_iload_n (k := 26) rfl rfl ?_
      refine m_callI (ci := 10) (k := 27) rfl (by rfl) (m_fundPays hM hk ht) okX10_fundPays viX10_fundPays mlRX10_161 ⟨Nat.le_of_ble_eq_true rfl, Nat.le_of_ble_eq_true rfl⟩ (by exact Nat.le_of_ble_eq_true rfl) rfl rfl mG0 (by exact Nat.le_of_ble_eq_true rfl) ?_
      refine x_isub (k := 28) rfl ?_
      refine x_istore (k := 29) rfl (by decide) ?_
      refine x_iload (k := 30) rfl rfl ?_
      refine x_bipush (v := -9) (k := 31) rfl (by decide) ?_
      refine x_icmp_ne (tgt := 63) (k := 32) rfl (by decide) (fun c55 => ?_) (fun c55 => absurd c55 c55n)
      refine x_iload_n (k := 35) rfl rfl ?_
      refine x_if_ne (tgt := 77) (k := 36) rfl (by decide) (fun c64 => ?_) (fun c64 => absurd c64 (by decide))
      refine x_iload (k := 43) rfl rfl ?_
      refine x_iconst (v := 2) (k := 44) rfl (by decide) ?_
      refine x_idiv (k := 45) rfl (by decide) ?_
      refine x_istore (k := 46) rfl (by decide) ?_
      refine x_aload_n (k := 47) rfl rfl ?_
      refine x_iload_n (k := 48) rfl rfl ?_
      refine x_if_ne (tgt := 92) (k := 49) rfl (by decide) (fun c85 => ?_) (fun c85 => absurd c85 (by decide))
      refine x_iload (k := 52) rfl rfl ?_
      refine x_iconst (v := 1) (k := 53) rfl (by decide) ?_
      refine m_callI (ci := 10) (k := 54) rfl (by rfl) (m_ofP hM (k := 1) hp (by decide)) okX10_ofP viX10_ofP mlRX10_91 ⟨Nat.le_of_ble_eq_true rfl, Nat.le_of_ble_eq_true rfl⟩ (by exact Nat.le_of_ble_eq_true rfl) rfl rfl mG0 (by exact Nat.le_of_ble_eq_true rfl) ?_
      refine x_istore (k := 55) rfl (by decide) ?_
      refine x_iload (k := 56) rfl rfl ?_
      refine x_iload (k := 57) rfl rfl ?_
      refine x_icmp_ge (tgt := 112) (k := 58) rfl (by decide) (fun c104 => ?_) (fun c104 => ?_)
      · have e := e2.trans (iMin_ge c104)
        refine x_iload (k := 61) rfl rfl ?_
        exact m_irD (k := 62) rfl rfl rfl e.symm rfl
      · have e := e2.trans (iMin_lt c104)
        refine x_iload (k := 59) rfl rfl ?_
        refine x_goto (tgt := 114) (k := 60) rfl (by decide) ?_
        exact m_irD (k := 62) rfl rfl rfl e.symm rfl
    · have e : sNaP W k = 0 := if_pos c32
      refine x_iconst (v := 0) (k := 19) rfl (by decide) ?_
      exact m_irD (k := 20) rfl rfl rfl e.symm rfl
