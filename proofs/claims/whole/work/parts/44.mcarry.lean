-- ===== the model: a text carried out =====
theorem m_oeEg {G : xG} {s : xA} {m hr f nt nk : Nat} {W : Wd} {V : Vd} (hM : Rm hr f nt nk W V) (h6 : V.2.2 0 6 = 103) : mI G MX10_orderError [.ref m] s m V (sHoF W (V.2.2 2 0) (V.2.2 2 1) (V.2.2 2 2)) V := by
  refine x_aload_n (k := 0) rfl rfl ?_
  refine m_get (k := 1) rfl flRX10_175 rfl ?_
  refine x_top h6 ?_
  refine x_lookup (tgt := 48) (off := 44) (k := 2) rfl (by decide) (by decide) (by decide) ?_
  refine x_aload_n (k := 3) rfl rfl ?_
  refine x_aload_n (k := 4) rfl rfl ?_
  refine m_getA (a := 4) (k := 5) rfl flRX10_20 rfl ?_
  refine x_iconst (v := 0) (k := 6) rfl (by decide) ?_
  refine m_dat (k := 7) rfl (show (0 : Int32) = nI 0 from rfl) (by first | assumption | omega) ?_
  refine x_aload_n (k := 8) rfl rfl ?_
  refine m_getA (a := 4) (k := 9) rfl flRX10_20 rfl ?_
  refine x_iconst (v := 1) (k := 10) rfl (by decide) ?_
  refine m_dat (k := 11) rfl (show (1 : Int32) = nI 1 from rfl) (by first | assumption | omega) ?_
  refine x_aload_n (k := 12) rfl rfl ?_
  refine m_getA (a := 4) (k := 13) rfl flRX10_20 rfl ?_
  refine x_iconst (v := 2) (k := 14) rfl (by decide) ?_
  refine m_dat (k := 15) rfl (show (2 : Int32) = nI 2 from rfl) (by first | assumption | omega) ?_
  refine m_callI (ci := 10) (k := 16) rfl (by rfl) (m_wordError hM _ _ _) okX10_wordError viX10_wordError mlRX10_139 ⟨Nat.le_of_ble_eq_true rfl, Nat.le_of_ble_eq_true rfl⟩ (by exact Nat.le_of_ble_eq_true rfl) rfl rfl mG0 (by exact Nat.le_of_ble_eq_true rfl) ?_
  exact m_irD (k := 17) rfl rfl rfl rfl rfl
theorem m_oeEt {G : xG} {s : xA} {m hr f nt nk : Nat} {W : Wd} {V : Vd} (hM : Rm hr f nt nk W V) (h6 : V.2.2 0 6 = 116) : mI G MX10_orderError [.ref m] s m V (sHoF W (V.2.2 2 2) (V.2.2 2 1) (V.2.2 2 0)) V := by
  refine x_aload_n (k := 0) rfl rfl ?_
  refine m_get (k := 1) rfl flRX10_175 rfl ?_
  refine x_top h6 ?_
  refine x_lookup (tgt := 71) (off := 67) (k := 2) rfl (by decide) (by decide) (by decide) ?_
  refine x_aload_n (k := 18) rfl rfl ?_
  refine x_aload_n (k := 19) rfl rfl ?_
  refine m_getA (a := 4) (k := 20) rfl flRX10_20 rfl ?_
  refine x_iconst (v := 2) (k := 21) rfl (by decide) ?_
  refine m_dat (k := 22) rfl (show (2 : Int32) = nI 2 from rfl) (by first | assumption | omega) ?_
  refine x_aload_n (k := 23) rfl rfl ?_
  refine m_getA (a := 4) (k := 24) rfl flRX10_20 rfl ?_
  refine x_iconst (v := 1) (k := 25) rfl (by decide) ?_
  refine m_dat (k := 26) rfl (show (1 : Int32) = nI 1 from rfl) (by first | assumption | omega) ?_
  refine x_aload_n (k := 27) rfl rfl ?_
  refine m_getA (a := 4) (k := 28) rfl flRX10_20 rfl ?_
  refine x_iconst (v := 0) (k := 29) rfl (by decide) ?_
  refine m_dat (k := 30) rfl (show (0 : Int32) = nI 0 from rfl) (by first | assumption | omega) ?_
  refine m_callI (ci := 10) (k := 31) rfl (by rfl) (m_wordError hM _ _ _) okX10_wordError viX10_wordError mlRX10_139 ⟨Nat.le_of_ble_eq_true rfl, Nat.le_of_ble_eq_true rfl⟩ (by exact Nat.le_of_ble_eq_true rfl) rfl rfl mG0 (by exact Nat.le_of_ble_eq_true rfl) ?_
  exact m_irD (k := 32) rfl rfl rfl rfl rfl
theorem m_oeEp {G : xG} {s : xA} {m hr f nt nk : Nat} {W : Wd} {V : Vd} (hM : Rm hr f nt nk W V) (h3 : ∀ x, sHeld W x ≤ 3) (h6 : V.2.2 0 6 = 112) : mI G MX10_orderError [.ref m] s m V (sPuF W (V.2.2 2 0) (V.2.2 2 1)) V := by
  refine x_aload_n (k := 0) rfl rfl ?_
  refine m_get (k := 1) rfl flRX10_175 rfl ?_
  refine x_top h6 ?_
  refine x_lookup (tgt := 94) (off := 90) (k := 2) rfl (by decide) (by decide) (by decide) ?_
  refine x_aload_n (k := 33) rfl rfl ?_
  refine x_aload_n (k := 34) rfl rfl ?_
  refine m_getA (a := 4) (k := 35) rfl flRX10_20 rfl ?_
  refine x_iconst (v := 0) (k := 36) rfl (by decide) ?_
  refine m_dat (k := 37) rfl (show (0 : Int32) = nI 0 from rfl) (by first | assumption | omega) ?_
  refine x_aload_n (k := 38) rfl rfl ?_
  refine m_getA (a := 4) (k := 39) rfl flRX10_20 rfl ?_
  refine x_iconst (v := 1) (k := 40) rfl (by decide) ?_
  refine m_dat (k := 41) rfl (show (1 : Int32) = nI 1 from rfl) (by first | assumption | omega) ?_
  refine m_callI (ci := 10) (k := 42) rfl (by rfl) (m_putError hM h3 _ _) okX10_putError viX10_putError mlRX10_146 ⟨Nat.le_of_ble_eq_true rfl, Nat.le_of_ble_eq_true rfl⟩ (by exact Nat.le_of_ble_eq_true rfl) rfl rfl mG0 (by exact Nat.le_of_ble_eq_true rfl) ?_
  exact m_irD (k := 43) rfl rfl rfl rfl rfl
theorem m_oeEf {G : xG} {s : xA} {m hr f nt nk : Nat} {W : Wd} {V : Vd} (hM : Rm hr f nt nk W V) (h6 : V.2.2 0 6 = 102) : mI G MX10_orderError [.ref m] s m V (sFeF W (V.2.2 2 0) (V.2.2 2 1)) V := by
  refine x_aload_n (k := 0) rfl rfl ?_
  refine m_get (k := 1) rfl flRX10_175 rfl ?_
  refine x_top h6 ?_
  refine x_lookup (tgt := 111) (off := 107) (k := 2) rfl (by decide) (by decide) (by decide) ?_
  refine x_aload_n (k := 44) rfl rfl ?_
  refine x_aload_n (k := 45) rfl rfl ?_
  refine m_getA (a := 4) (k := 46) rfl flRX10_20 rfl ?_
  refine x_iconst (v := 0) (k := 47) rfl (by decide) ?_
  refine m_dat (k := 48) rfl (show (0 : Int32) = nI 0 from rfl) (by first | assumption | omega) ?_
  refine x_aload_n (k := 49) rfl rfl ?_
  refine m_getA (a := 4) (k := 50) rfl flRX10_20 rfl ?_
  refine x_iconst (v := 1) (k := 51) rfl (by decide) ?_
  refine m_dat (k := 52) rfl (show (1 : Int32) = nI 1 from rfl) (by first | assumption | omega) ?_
  refine m_callI (ci := 10) (k := 53) rfl (by rfl) (m_fetchError hM _ _) okX10_fetchError viX10_fetchError mlRX10_152 ⟨Nat.le_of_ble_eq_true rfl, Nat.le_of_ble_eq_true rfl⟩ (by exact Nat.le_of_ble_eq_true rfl) rfl rfl mG0 (by exact Nat.le_of_ble_eq_true rfl) ?_
  exact m_irD (k := 54) rfl rfl rfl rfl rfl
theorem m_oeEh {G : xG} {s : xA} {m hr f nt nk : Nat} {W : Wd} {V : Vd} (hM : Rm hr f nt nk W V) (h6 : V.2.2 0 6 = 104) (h5 : hr ≤ 500) : mI G MX10_orderError [.ref m] s m V (sPaF W 1) V := by
  refine x_aload_n (k := 0) rfl rfl ?_
  refine m_get (k := 1) rfl flRX10_175 rfl ?_
  refine x_top h6 ?_
  refine x_lookup (tgt := 128) (off := 124) (k := 2) rfl (by decide) (by decide) (by decide) ?_
  refine x_aload_n (k := 55) rfl rfl ?_
  refine m_callI (ci := 10) (k := 56) rfl (by rfl) (m_hour hM) okX10_hour viX10_hour mlRX10_51 ⟨Nat.le_of_ble_eq_true rfl, Nat.le_of_ble_eq_true rfl⟩ (by exact Nat.le_of_ble_eq_true rfl) rfl rfl mG0 (by exact Nat.le_of_ble_eq_true rfl) ?_
  refine x_sipush (v := 500) (k := 57) rfl (by decide) ?_
  refine x_icmp_ge (tgt := 142) (k := 58) rfl (by decide) (fun c135 => ?_) (fun c135 => ?_)
  · have e : sPaF W 1 = -3 := by
      rw [sPaF, if_neg (by decide), if_pos]
      have := (nI_leI (a := 500) (b := hr) (by decide) (by omega)).mp c135
      rw [hM.eH, nI_1]
      exact nI_lt (a := 500) (by omega) (by omega)
    refine x_bipush (v := -3) (k := 61) rfl (by decide) ?_
    exact m_irD (k := 62) rfl rfl rfl e.symm rfl
  · have e : sPaF W 1 = 0 := by
      rw [sPaF, if_neg (by decide), if_neg]
      have := mt (nI_leI (a := 500) (b := hr) (by decide) (by omega)).mpr c135
      rw [hM.eH, nI_1]
      exact nI_nlt (b := hr + 1) (a := 500) (by omega) (by omega)
    refine x_iconst (v := 0) (k := 59) rfl (by decide) ?_
    refine x_goto (tgt := 144) (k := 60) rfl (by decide) ?_
    exact m_irD (k := 62) rfl rfl rfl e.symm rfl
theorem m_doG {G : xG} {s : xA} {m hr f nt nk : Nat} {W : Wd} {V : Vd} (hF : RF hr f nt nk W V.1) (h5 : hr ≤ 500) {sz : Nat} (hz : W 4 0 0 = nI sz) (hz5 : sz < 512) {k p a : Nat} (hk : k < nk) (hp : p < 8) (ha : a < 8) (ea : W 2 k 0 = nI a) (eu : W 2 k 5 = 0) (h6 : V.2.2 0 6 = 103) (d1 : V.2.2 2 1 = nI k) (d2 : V.2.2 2 2 = nI p) : mIQ G MX10_does [.ref m] s m V (bz (fit (wSet W 2 k 8 (nI p)) k)) (Ch V hr f nt nk (sGav W k (nI p))) := by
  refine x_aload_n (k := 0) rfl rfl ?_
  refine m_get (k := 1) rfl flRX10_175 rfl ?_
  refine x_top h6 ?_
  refine x_lookup (tgt := 48) (off := 44) (k := 2) rfl (by decide) (by decide) (by decide) ?_
  refine x_aload_n (k := 3) rfl rfl ?_
  refine x_aload_n (k := 4) rfl rfl ?_
  refine m_getA (a := 4) (k := 5) rfl flRX10_20 rfl ?_
  refine x_iconst (v := 1) (k := 6) rfl (by decide) ?_
  refine m_dat (k := 7) rfl (show (1 : Int32) = nI 1 from rfl) (by first | assumption | omega) ?_
  refine x_top d1 ?_
  refine x_bipush (v := 8) (k := 8) rfl (by decide) ?_
  refine x_aload_n (k := 9) rfl rfl ?_
  refine m_getA (a := 4) (k := 10) rfl flRX10_20 rfl ?_
  refine x_iconst (v := 2) (k := 11) rfl (by decide) ?_
  refine m_dat (k := 12) rfl (show (2 : Int32) = nI 2 from rfl) (by first | assumption | omega) ?_
  refine x_top d2 ?_
  refine m_callIQ (ci := 10) (k := 13) rfl (by rfl) (m_says (kd := 8) hF h5 hz hz5 hk (by decide) hp ha ea eu) okX10_says viX10_says mlRX10_143 ⟨Nat.le_of_ble_eq_true rfl, Nat.le_of_ble_eq_true rfl⟩ (by exact Nat.le_of_ble_eq_true rfl) rfl rfl mG0 (by exact Nat.le_of_ble_eq_true rfl) (fun V9 q9 => ?_)
  exact m_irQ (k := 14) rfl rfl rfl rfl q9
theorem m_doT {G : xG} {s : xA} {m hr f nt nk : Nat} {W : Wd} {V : Vd} (hF : RF hr f nt nk W V.1) (h5 : hr ≤ 500) {sz : Nat} (hz : W 4 0 0 = nI sz) (hz5 : sz < 512) {k p a : Nat} (hk : k < nk) (hp : p < 8) (ha : a < 8) (ea : W 2 k 0 = nI a) (eu : W 2 k 5 = 0) (h6 : V.2.2 0 6 = 116) (d1 : V.2.2 2 1 = nI k) (d0 : V.2.2 2 0 = nI p) : mIQ G MX10_does [.ref m] s m V (bz (fit (wSet W 2 k 9 (nI p)) k)) (Ch V hr f nt nk (sTok W k (nI p))) := by
  refine x_aload_n (k := 0) rfl rfl ?_
  refine m_get (k := 1) rfl flRX10_175 rfl ?_
  refine x_top h6 ?_
  refine x_lookup (tgt := 67) (off := 63) (k := 2) rfl (by decide) (by decide) (by decide) ?_
  refine x_aload_n (k := 15) rfl rfl ?_
  refine x_aload_n (k := 16) rfl rfl ?_
  refine m_getA (a := 4) (k := 17) rfl flRX10_20 rfl ?_
  refine x_iconst (v := 1) (k := 18) rfl (by decide) ?_
  refine m_dat (k := 19) rfl (show (1 : Int32) = nI 1 from rfl) (by first | assumption | omega) ?_
  refine x_top d1 ?_
  refine x_bipush (v := 9) (k := 20) rfl (by decide) ?_
  refine x_aload_n (k := 21) rfl rfl ?_
  refine m_getA (a := 4) (k := 22) rfl flRX10_20 rfl ?_
  refine x_iconst (v := 0) (k := 23) rfl (by decide) ?_
  refine m_dat (k := 24) rfl (show (0 : Int32) = nI 0 from rfl) (by first | assumption | omega) ?_
  refine x_top d0 ?_
  refine m_callIQ (ci := 10) (k := 25) rfl (by rfl) (m_says (kd := 9) hF h5 hz hz5 hk (by decide) hp ha ea eu) okX10_says viX10_says mlRX10_143 ⟨Nat.le_of_ble_eq_true rfl, Nat.le_of_ble_eq_true rfl⟩ (by exact Nat.le_of_ble_eq_true rfl) rfl rfl mG0 (by exact Nat.le_of_ble_eq_true rfl) (fun V9 q9 => ?_)
  exact m_irQ (k := 26) rfl rfl rfl rfl q9
theorem m_doP {G : xG} {s : xA} {m hr f nt nk : Nat} {W : Wd} {V : Vd} (hF : RF hr f nt nk W V.1) (h5 : hr ≤ 500) {sz : Nat} (hz : W 4 0 0 = nI sz) (hz5 : sz < 512) {k p : Nat} (hk : k < nk) (hp : p < 8) (ht : isTn (W 0 p 2)) (h6 : V.2.2 0 6 = 112) (d1 : V.2.2 2 1 = nI k) (d0 : V.2.2 2 0 = nI p) : mIQ G MX10_does [.ref m] s m V (sHeld (sPut W p k) (10 + W 0 p 2)) (Ch V hr f nt nk (sPut W p k)) := by
  refine x_aload_n (k := 0) rfl rfl ?_
  refine m_get (k := 1) rfl flRX10_175 rfl ?_
  refine x_top h6 ?_
  refine x_lookup (tgt := 86) (off := 82) (k := 2) rfl (by decide) (by decide) (by decide) ?_
  refine x_aload_n (k := 27) rfl rfl ?_
  refine x_aload_n (k := 28) rfl rfl ?_
  refine m_getA (a := 4) (k := 29) rfl flRX10_20 rfl ?_
  refine x_iconst (v := 0) (k := 30) rfl (by decide) ?_
  refine m_dat (k := 31) rfl (show (0 : Int32) = nI 0 from rfl) (by first | assumption | omega) ?_
  refine x_top d0 ?_
  refine x_aload_n (k := 32) rfl rfl ?_
  refine m_getA (a := 4) (k := 33) rfl flRX10_20 rfl ?_
  refine x_iconst (v := 1) (k := 34) rfl (by decide) ?_
  refine m_dat (k := 35) rfl (show (1 : Int32) = nI 1 from rfl) (by first | assumption | omega) ?_
  refine x_top d1 ?_
  refine m_callIQ (ci := 10) (k := 36) rfl (by rfl) (m_puts hF h5 hz hz5 hk hp ht) okX10_puts viX10_puts mlRX10_149 ⟨Nat.le_of_ble_eq_true rfl, Nat.le_of_ble_eq_true rfl⟩ (by exact Nat.le_of_ble_eq_true rfl) rfl rfl mG0 (by exact Nat.le_of_ble_eq_true rfl) (fun V9 q9 => ?_)
  exact m_irQ (k := 37) rfl rfl rfl rfl q9
theorem m_doF {G : xG} {s : xA} {m hr f nt nk : Nat} {W : Wd} {V : Vd} (hF : RF hr f nt nk W V.1) (h5 : hr ≤ 500) {sz : Nat} (hz : W 4 0 0 = nI sz) (hz5 : sz < 512) {k p a : Nat} (hk : k < nk) (hp : p < 8) (ha : a < 8) (ea : W 2 k 0 = nI a) (eu : W 2 k 5 = 0) (h6 : V.2.2 0 6 = 102) (d1 : V.2.2 2 1 = nI k) (d0 : V.2.2 2 0 = nI p) : mIQ G MX10_does [.ref m] s m V (sHeld (sFet W p k) (10 + sFet W p k 0 p 2)) (Ch V hr f nt nk (sFet W p k)) := by
  refine x_aload_n (k := 0) rfl rfl ?_
  refine m_get (k := 1) rfl flRX10_175 rfl ?_
  refine x_top h6 ?_
  refine x_lookup (tgt := 103) (off := 99) (k := 2) rfl (by decide) (by decide) (by decide) ?_
  refine x_aload_n (k := 38) rfl rfl ?_
  refine x_aload_n (k := 39) rfl rfl ?_
  refine m_getA (a := 4) (k := 40) rfl flRX10_20 rfl ?_
  refine x_iconst (v := 0) (k := 41) rfl (by decide) ?_
  refine m_dat (k := 42) rfl (show (0 : Int32) = nI 0 from rfl) (by first | assumption | omega) ?_
  refine x_top d0 ?_
  refine x_aload_n (k := 43) rfl rfl ?_
  refine m_getA (a := 4) (k := 44) rfl flRX10_20 rfl ?_
  refine x_iconst (v := 1) (k := 45) rfl (by decide) ?_
  refine m_dat (k := 46) rfl (show (1 : Int32) = nI 1 from rfl) (by first | assumption | omega) ?_
  refine x_top d1 ?_
  refine m_callIQ (ci := 10) (k := 47) rfl (by rfl) (m_fetches hF h5 hz hz5 hk hp ha ea eu) okX10_fetches viX10_fetches mlRX10_155 ⟨Nat.le_of_ble_eq_true rfl, Nat.le_of_ble_eq_true rfl⟩ (by exact Nat.le_of_ble_eq_true rfl) rfl rfl mG0 (by exact Nat.le_of_ble_eq_true rfl) (fun V9 q9 => ?_)
  exact m_irQ (k := 48) rfl rfl rfl rfl q9
theorem m_doH {G : xG} {s : xA} {m hr f nt nk : Nat} {W : Wd} {V : Vd} (hF : RF hr f nt nk W V.1) (h5 : hr + 1 ≤ 500) (htr : ∀ t, t < nt → isP (W 1 t 0)) (h6 : V.2.2 0 6 = 104) : mIQ G MX10_does [.ref m] s m V (pcTo W 1) (Ch V (hr + 1) f nt nk (paTo W 1)) := by
  refine x_aload_n (k := 0) rfl rfl ?_
  refine m_get (k := 1) rfl flRX10_175 rfl ?_
  refine x_top h6 ?_
  refine x_lookup (tgt := 120) (off := 116) (k := 2) rfl (by decide) (by decide) (by decide) ?_
  refine x_aload_n (k := 49) rfl rfl ?_
  refine m_callIQ (ci := 10) (k := 50) rfl (by rfl) (m_passesHour hF h5 htr) okX10_passesHour viX10_passesHour mlRX10_105 ⟨Nat.le_of_ble_eq_true rfl, Nat.le_of_ble_eq_true rfl⟩ (by exact Nat.le_of_ble_eq_true rfl) rfl rfl mG0 (by exact Nat.le_of_ble_eq_true rfl) (fun V9 q9 => ?_)
  exact m_irQ (k := 51) rfl rfl rfl (by rw [pcTo, pcTo, Int32.zero_add, hF.m.cT]; rfl) q9
def CoI (V1 : Vd) (hr f nt nk : Nat) (W : Wd) (V : Vd) : Prop := (V.2.1 = V1.2.1 ∧ V.2.2 0 2 = V1.2.2 0 2 ∧ V.2.2 0 4 = V1.2.2 0 4 ∧ V.2.2 1 = V1.2.2 1) ∧ (∀ j, 588 ≤ j → V.1 j = V1.1 j) ∧ RF hr f nt nk W V.1
theorem CoI.tf {V1 V V' : Vd} {hr f nt nk : Nat} {W : Wd} (h : CoI V1 hr f nt nk W V) (ht : tF V V') : CoI V1 hr f nt nk W V' := ⟨⟨ht.2.1.trans h.1.1, ht.2.2.1.trans h.1.2.1, ht.2.2.2.1.trans h.1.2.2.1, ht.2.2.2.2.trans h.1.2.2.2⟩, fun j hj => by rw [ht.1]; exact h.2.1 j hj, by rw [ht.1]; exact h.2.2⟩
theorem CoI.ch {V1 V V' : Vd} {hr f nt nk hr' : Nat} {W W' : Wd} (h : CoI V1 hr f nt nk W V) (hc : Ch V hr' f nt nk W' V') : CoI V1 hr' f nt nk W' V' := ⟨by rw [hc.1]; exact h.1, fun j hj => (hc.2.1 j hj).trans (h.2.1 j hj), hc.2.2⟩
/-- a text was carried out: what is left -/
def CoE (V1 : Vd) (f nt nk n : Nat) (R : Int32 × Wd) : Option Value → Vd → Prop := fun r V' => r = some (.int R.1) ∧ V'.2.1 = V1.2.1 ∧ V'.2.2 0 2 = V1.2.2 0 2 ∧ V'.2.2 0 4 = 0 ∧ (∀ j, 588 ≤ j → V'.1 j = V1.1 j) ∧ ∃ hr' sz' : Nat, RF hr' f nt nk R.2 V'.1 ∧ Gd hr' f nt nk R.2 ∧ R.2 4 0 0 = nI sz' ∧ sz' ≤ n
theorem l_coEnd {G : xG} {s : xA} {m : Nat} {V : Vd} {Q : Option Value → Vd → Prop} {ls : List (Nat × Value)} {c : Int32} (g : (∀ q ∈ [(0, .ref m), (2, .int c), (3, .int 0)], ls.lookup q.1 = some q.2)) (hQ : Q (some (.int c)) (mSc V 4 0)) : mE G MX10_carryOut 30 ls [] s m V Q := by
  refine x_sub (ls' := [(0, .ref m), (2, .int c), (3, .int 0)]) g ?_
  refine x_iload_n (k := 19) rfl rfl ?_
  refine x_if_eq (tgt := 107) (k := 20) rfl (by decide) (fun c31 => ?_) (fun c31 => absurd c31 (by decide))
  refine x_aload_n (k := 60) rfl rfl ?_
  refine x_iconst (v := 0) (k := 61) rfl (by decide) ?_
  refine m_put (k := 62) rfl flRX10_169 ft10_4 (by decide) rfl ?_
  refine x_iload_n (k := 63) rfl rfl ?_
  exact m_irZ (k := 64) rfl rfl rfl hQ
theorem l_co60F {G : xG} {s : xA} {m p : Nat} {V : Vd} {Q : Option Value → Vd → Prop} {ls : List (Nat × Value)} {c : Int32} (g : (∀ q ∈ [(0, .ref m), (2, .int c)], ls.lookup q.1 = some q.2)) (hQ : ∀ x : Int32, Q (some (.int c)) (mSc (mSc V 5 x) 4 0)) : mE G MX10_carryOut 60 ls [.int 0] s m V Q := by
  refine x_sub (ls' := [(0, .ref m), (2, .int c)]) g ?_
  refine x_istore_n (k := 33) rfl (by decide) ?_
  refine x_iload_n (k := 34) rfl rfl ?_
  refine x_iload_n (k := 35) rfl rfl ?_
  refine x_if_eq (tgt := 70) (k := 36) rfl (by decide) (fun c63 => ?_) (fun c63 => absurd c63 (by decide))
  refine x_iconst (v := 0) (k := 39) rfl (by decide) ?_
  refine x_iadd (k := 40) rfl ?_
  refine x_top (y := c) (by rw [Int32.add_zero]) ?_
  refine x_istore_n (k := 41) rfl (by decide) ?_
  refine x_aload_n (k := 42) rfl rfl ?_
  refine x_dup (k := 43) rfl rfl ?_
  refine m_get (k := 44) rfl flRX10_172 rfl ?_
  refine x_iconst (v := 1) (k := 45) rfl (by decide) ?_
  refine x_iadd (k := 46) rfl ?_
  refine m_put (k := 47) rfl flRX10_172 ft10_5 (by decide) rfl ?_
  refine x_iload_n (k := 48) rfl rfl ?_
  refine x_if_eq (tgt := 102) (k := 49) rfl (by decide) (fun c84 => ?_) (fun c84 => absurd c84 (by decide))
  refine x_iconst (v := 0) (k := 57) rfl (by decide) ?_
  refine x_istore_n (k := 58) rfl (by decide) ?_
  refine x_goto (tgt := 30) (k := 59) rfl (by decide) ?_
  exact l_coEnd (by intro q hq; simp only [List.mem_cons, List.not_mem_nil, or_false] at hq; rcases hq with rfl | rfl | rfl <;> rfl) (hQ _)
theorem l_co60T {G : xG} {s : xA} {m q n : Nat} {V : Vd} {Q : Option Value → Vd → Prop} {ls : List (Nat × Value)} {c : Int32} (g : (∀ q ∈ [(0, .ref m), (2, .int c)], ls.lookup q.1 = some q.2)) (hq : q ≤ n) (hn : n ≤ 80) (e4 : V.2.2 0 4 = nI n) (e5 : V.2.2 0 5 = nI q) (hE : q = n → Q (some (.int (c + 1))) (mSc (mSc V 5 (nI (q + 1))) 4 0)) (hC : q + 1 < n → ∀ ls, (∀ q ∈ [(0, .ref m), (2, .int (c + 1)), (3, .int 1)], ls.lookup q.1 = some q.2) → mE G MX10_carryOut 30 ls [] s m (mSc V 5 (nI (q + 1))) Q) (hX : ¬ q + 1 = n) : mE G MX10_carryOut 60 ls [.int 1] s m V Q := by
  refine x_sub (ls' := [(0, .ref m), (2, .int c)]) g ?_
  refine x_istore_n (k := 33) rfl (by decide) ?_
  refine x_iload_n (k := 34) rfl rfl ?_
  refine x_iload_n (k := 35) rfl rfl ?_
  refine x_if_eq (tgt := 70) (k := 36) rfl (by decide) (fun c63 => absurd c63 (by decide)) (fun c63 => ?_)
  refine x_iconst (v := 1) (k := 37) rfl (by decide) ?_
  refine x_goto (tgt := 71) (k := 38) rfl (by decide) ?_
  refine x_iadd (k := 40) rfl ?_
  refine x_istore_n (k := 41) rfl (by decide) ?_
  refine x_aload_n (k := 42) rfl rfl ?_
  refine x_dup (k := 43) rfl rfl ?_
  refine m_get (k := 44) rfl flRX10_172 rfl ?_
  refine x_top e5 ?_
  refine x_iconst (v := 1) (k := 45) rfl (by decide) ?_
  refine x_iadd (k := 46) rfl ?_
  refine x_top (nI_1 q) ?_
  refine m_put (k := 47) rfl flRX10_172 ft10_5 (by decide) rfl ?_
  refine x_iload_n (k := 48) rfl rfl ?_
  refine x_if_eq (tgt := 102) (k := 49) rfl (by decide) (fun c84 => absurd c84 (by decide)) (fun c84 => ?_)
  refine x_aload_n (k := 50) rfl rfl ?_
  refine m_get (k := 51) rfl flRX10_172 rfl ?_
  refine x_top mSc_at ?_
  refine x_aload_n (k := 52) rfl rfl ?_
  refine m_get (k := 53) rfl flRX10_169 rfl ?_
  refine x_top ((mSc_0 (by decide)).trans e4) ?_
  refine x_icmp_ge (tgt := 102) (k := 54) rfl (by decide) (fun c95 => ?_) (fun c95 => ?_)
  · have hqn : q = n := by
      have := (nI_leI (a := n) (b := q + 1) (by omega) (by omega)).mp c95
      omega
    refine x_iconst (v := 0) (k := 57) rfl (by decide) ?_
    refine x_istore_n (k := 58) rfl (by decide) ?_
    refine x_goto (tgt := 30) (k := 59) rfl (by decide) ?_
    first | exact l_coEnd (by intro q hq; simp only [List.mem_cons, List.not_mem_nil, or_false] at hq; rcases hq with rfl | rfl | rfl <;> rfl) (hE hqn) | exact hC hqn _ (by intro q hq; simp only [List.mem_cons, List.not_mem_nil, or_false] at hq; rcases hq with rfl | rfl | rfl <;> rfl)
  · have hqn : q + 1 < n := by
      have := mt (nI_leI (a := n) (b := q + 1) (by omega) (by omega)).mpr c95
      omega
    refine x_iconst (v := 1) (k := 55) rfl (by decide) ?_
    refine x_goto (tgt := 103) (k := 56) rfl (by decide) ?_
    refine x_istore_n (k := 58) rfl (by decide) ?_
    refine x_goto (tgt := 30) (k := 59) rfl (by decide) ?_
    first | exact l_coEnd (by intro q hq; simp only [List.mem_cons, List.not_mem_nil, or_false] at hq; rcases hq with rfl | rfl | rfl <;> rfl) (hE hqn) | exact hC hqn _ (by intro q hq; simp only [List.mem_cons, List.not_mem_nil, or_false] at hq; rcases hq with rfl | rfl | rfl <;> rfl)
abbrev ordX (W : Wd) (V : Vd) : Wd := ordW W (V.2.2 0 6) (V.2.2 2 0) (V.2.2 2 1) (V.2.2 2 2)
abbrev ordY (W : Wd) (V : Vd) : Int32 := ordF W (V.2.2 0 6) (V.2.2 2 0) (V.2.2 2 1) (V.2.2 2 2)
theorem sPaF_n {W : Wd} {n : Int32} (h : ¬ sPaF W n = 0) : sPaF W n < 0 := by
  unfold sPaF at h ⊢
  split
  · decide
  · rename_i z
    rw [if_neg z] at h
    split
    · decide
    · rename_i y
      rw [if_neg y] at h
      exact absurd rfl h
theorem l_co41g {G : xG} {s : xA} {m hr f nt nk : Nat} {W : Wd} {V : Vd} {Q : Option Value → Vd → Prop} {ls : List (Nat × Value)} {c : Int32} (hF : RF hr f nt nk W V.1) (hG : Gd hr f nt nk W) {sz : Nat} (hz : W 4 0 0 = nI sz) (hz5 : sz < 512) (g : (∀ q ∈ [(0, .ref m), (2, .int c)], ls.lookup q.1 = some q.2)) (kF : ordY W V < 0 → ∀ ls, (∀ q ∈ [(0, .ref m), (2, .int c)], ls.lookup q.1 = some q.2) → mE G MX10_carryOut 60 ls [.int 0] s m V Q) (kT : ¬ ordY W V < 0 → ∀ (hr' : Nat) (V' : Vd) (ls : List (Nat × Value)), hr' ≤ 500 → Gd hr' f nt nk (ordX W V) → Ch V hr' f nt nk (ordX W V) V' → (∀ q ∈ [(0, .ref m), (2, .int c)], ls.lookup q.1 = some q.2) → mE G MX10_carryOut 60 ls [.int 1] s m V' Q) (h6 : V.2.2 0 6 = 103) : mE G MX10_carryOut 41 ls [] s m V Q := by
  refine x_sub (ls' := [(0, .ref m), (2, .int c)]) g ?_
  have h5 := hG.1.1.1
  have eF : ordY W V = sHoF W (V.2.2 2 0) (V.2.2 2 1) (V.2.2 2 2) := by rw [ordY, h6]; rfl
  have eW : ordX W V = foW (sHoF W (V.2.2 2 0) (V.2.2 2 1) (V.2.2 2 2)) W (sGav W (ix (V.2.2 2 1)) (V.2.2 2 2)) := by rw [ordX, h6]; rfl
  refine x_aload_n (k := 24) rfl rfl ?_
  refine m_callI (ci := 10) (k := 25) rfl (by rfl) (m_oeEg hF.m h6) okX10_orderError viX10_orderError mlRX10_189 ⟨Nat.le_of_ble_eq_true rfl, Nat.le_of_ble_eq_true rfl⟩ (by exact Nat.le_of_ble_eq_true rfl) rfl rfl mG0 (by exact Nat.le_of_ble_eq_true rfl) ?_
  refine x_if_ne (tgt := 59) (k := 26) rfl (by decide) (fun c45 => ?_) (fun c45 => ?_)
  · have hlt : sHoF W (V.2.2 2 0) (V.2.2 2 1) (V.2.2 2 2) < 0 := sHoF_n c45
    refine x_iconst (v := 0) (k := 32) rfl (by decide) ?_
    first | exact kF (by rw [eF]; exact hlt) _ (by intro q hq; simp only [List.mem_cons, List.not_mem_nil, or_false] at hq; rcases hq with rfl | rfl <;> rfl) | exact kT (by rw [eF]; exact hge) _ _ _ h5b (by rw [eW]; exact hg2) (by rw [eW]; exact q9) (by intro q hq; simp only [List.mem_cons, List.not_mem_nil, or_false] at hq; rcases hq with rfl | rfl <;> rfl)
  · have hge : ¬ sHoF W (V.2.2 2 0) (V.2.2 2 1) (V.2.2 2 2) < 0 := by rw [c45]; exact n0z
    rw [foW_o hge] at eW
    obtain ⟨⟨h1, h2, h3, h4⟩, h6b, h7, h8⟩ := sHoF_ge hge
    obtain ⟨p, hp, ep⟩ := gP_is h3
    obtain ⟨gv, hgv, eg⟩ := gP_is h1
    obtain ⟨k, hk, hk10, ek⟩ := hF.m.kP h2
    rw [ek, show ix (nI k) = k from clK hk10] at h6b
    rw [ep] at h8
    rw [ek, ep, show ix (nI k) = k from clK hk10] at eW
    obtain ⟨a, ha, ea⟩ := (hG.2.2.2.1 k hk).1
    have h5b := h5
    rw [eg] at h6b h4
    rw [ep] at h4
    have hg2 := hG.gav hk hp hgv h6b.2 h4 (hG.h2 h8)
    have hnn := bz_nn (p := fit (wSet W 2 k 8 (nI p)) k)
    refine x_aload_n (k := 27) rfl rfl ?_
    refine m_callIQ (ci := 10) (k := 28) rfl (by rfl) (m_doG hF h5 hz hz5 hk hp ha ea h6b.1 h6 ek ep) okX10_does viX10_does mlRX10_192 ⟨Nat.le_of_ble_eq_true rfl, Nat.le_of_ble_eq_true rfl⟩ (by exact Nat.le_of_ble_eq_true rfl) rfl rfl mG0 (by exact Nat.le_of_ble_eq_true rfl) (fun V9 q9 => ?_)
    refine x_if_lt (tgt := 59) (k := 29) rfl (by decide) (fun c52 => absurd c52 (by assumption)) (fun c52 => ?_)
    refine x_iconst (v := 1) (k := 30) rfl (by decide) ?_
    refine x_goto (tgt := 60) (k := 31) rfl (by decide) ?_
    first | exact kF (by rw [eF]; exact hlt) _ (by intro q hq; simp only [List.mem_cons, List.not_mem_nil, or_false] at hq; rcases hq with rfl | rfl <;> rfl) | exact kT (by rw [eF]; exact hge) _ _ _ h5b (by rw [eW]; exact hg2) (by rw [eW]; exact q9) (by intro q hq; simp only [List.mem_cons, List.not_mem_nil, or_false] at hq; rcases hq with rfl | rfl <;> rfl)
theorem l_co41t {G : xG} {s : xA} {m hr f nt nk : Nat} {W : Wd} {V : Vd} {Q : Option Value → Vd → Prop} {ls : List (Nat × Value)} {c : Int32} (hF : RF hr f nt nk W V.1) (hG : Gd hr f nt nk W) {sz : Nat} (hz : W 4 0 0 = nI sz) (hz5 : sz < 512) (g : (∀ q ∈ [(0, .ref m), (2, .int c)], ls.lookup q.1 = some q.2)) (kF : ordY W V < 0 → ∀ ls, (∀ q ∈ [(0, .ref m), (2, .int c)], ls.lookup q.1 = some q.2) → mE G MX10_carryOut 60 ls [.int 0] s m V Q) (kT : ¬ ordY W V < 0 → ∀ (hr' : Nat) (V' : Vd) (ls : List (Nat × Value)), hr' ≤ 500 → Gd hr' f nt nk (ordX W V) → Ch V hr' f nt nk (ordX W V) V' → (∀ q ∈ [(0, .ref m), (2, .int c)], ls.lookup q.1 = some q.2) → mE G MX10_carryOut 60 ls [.int 1] s m V' Q) (h6 : V.2.2 0 6 = 116) : mE G MX10_carryOut 41 ls [] s m V Q := by
  refine x_sub (ls' := [(0, .ref m), (2, .int c)]) g ?_
  have h5 := hG.1.1.1
  have eF : ordY W V = sHoF W (V.2.2 2 2) (V.2.2 2 1) (V.2.2 2 0) := by rw [ordY, h6]; rfl
  have eW : ordX W V = foW (sHoF W (V.2.2 2 2) (V.2.2 2 1) (V.2.2 2 0)) W (sTok W (ix (V.2.2 2 1)) (V.2.2 2 0)) := by rw [ordX, h6]; rfl
  refine x_aload_n (k := 24) rfl rfl ?_
  refine m_callI (ci := 10) (k := 25) rfl (by rfl) (m_oeEt hF.m h6) okX10_orderError viX10_orderError mlRX10_189 ⟨Nat.le_of_ble_eq_true rfl, Nat.le_of_ble_eq_true rfl⟩ (by exact Nat.le_of_ble_eq_true rfl) rfl rfl mG0 (by exact Nat.le_of_ble_eq_true rfl) ?_
  refine x_if_ne (tgt := 59) (k := 26) rfl (by decide) (fun c45 => ?_) (fun c45 => ?_)
  · have hlt : sHoF W (V.2.2 2 2) (V.2.2 2 1) (V.2.2 2 0) < 0 := sHoF_n c45
    refine x_iconst (v := 0) (k := 32) rfl (by decide) ?_
    first | exact kF (by rw [eF]; exact hlt) _ (by intro q hq; simp only [List.mem_cons, List.not_mem_nil, or_false] at hq; rcases hq with rfl | rfl <;> rfl) | exact kT (by rw [eF]; exact hge) _ _ _ h5b (by rw [eW]; exact hg2) (by rw [eW]; exact q9) (by intro q hq; simp only [List.mem_cons, List.not_mem_nil, or_false] at hq; rcases hq with rfl | rfl <;> rfl)
  · have hge : ¬ sHoF W (V.2.2 2 2) (V.2.2 2 1) (V.2.2 2 0) < 0 := by rw [c45]; exact n0z
    rw [foW_o hge] at eW
    obtain ⟨⟨h1, h2, h3, h4⟩, h6b, h7, h8⟩ := sHoF_ge hge
    obtain ⟨p, hp, ep⟩ := gP_is h3
    obtain ⟨gv, hgv, eg⟩ := gP_is h1
    obtain ⟨k, hk, hk10, ek⟩ := hF.m.kP h2
    rw [ek, show ix (nI k) = k from clK hk10] at h6b
    rw [ep] at h8
    rw [ek, ep, show ix (nI k) = k from clK hk10] at eW
    obtain ⟨a, ha, ea⟩ := (hG.2.2.2.1 k hk).1
    have h5b := h5
    have hg2 := hG.tok hk hp (hG.h2 h8)
    have hnn := bz_nn (p := fit (wSet W 2 k 9 (nI p)) k)
    refine x_aload_n (k := 27) rfl rfl ?_
    refine m_callIQ (ci := 10) (k := 28) rfl (by rfl) (m_doT hF h5 hz hz5 hk hp ha ea h6b.1 h6 ek ep) okX10_does viX10_does mlRX10_192 ⟨Nat.le_of_ble_eq_true rfl, Nat.le_of_ble_eq_true rfl⟩ (by exact Nat.le_of_ble_eq_true rfl) rfl rfl mG0 (by exact Nat.le_of_ble_eq_true rfl) (fun V9 q9 => ?_)
    refine x_if_lt (tgt := 59) (k := 29) rfl (by decide) (fun c52 => absurd c52 (by assumption)) (fun c52 => ?_)
    refine x_iconst (v := 1) (k := 30) rfl (by decide) ?_
    refine x_goto (tgt := 60) (k := 31) rfl (by decide) ?_
    first | exact kF (by rw [eF]; exact hlt) _ (by intro q hq; simp only [List.mem_cons, List.not_mem_nil, or_false] at hq; rcases hq with rfl | rfl <;> rfl) | exact kT (by rw [eF]; exact hge) _ _ _ h5b (by rw [eW]; exact hg2) (by rw [eW]; exact q9) (by intro q hq; simp only [List.mem_cons, List.not_mem_nil, or_false] at hq; rcases hq with rfl | rfl <;> rfl)
theorem l_co41p {G : xG} {s : xA} {m hr f nt nk : Nat} {W : Wd} {V : Vd} {Q : Option Value → Vd → Prop} {ls : List (Nat × Value)} {c : Int32} (hF : RF hr f nt nk W V.1) (hG : Gd hr f nt nk W) {sz : Nat} (hz : W 4 0 0 = nI sz) (hz5 : sz < 512) (g : (∀ q ∈ [(0, .ref m), (2, .int c)], ls.lookup q.1 = some q.2)) (kF : ordY W V < 0 → ∀ ls, (∀ q ∈ [(0, .ref m), (2, .int c)], ls.lookup q.1 = some q.2) → mE G MX10_carryOut 60 ls [.int 0] s m V Q) (kT : ¬ ordY W V < 0 → ∀ (hr' : Nat) (V' : Vd) (ls : List (Nat × Value)), hr' ≤ 500 → Gd hr' f nt nk (ordX W V) → Ch V hr' f nt nk (ordX W V) V' → (∀ q ∈ [(0, .ref m), (2, .int c)], ls.lookup q.1 = some q.2) → mE G MX10_carryOut 60 ls [.int 1] s m V' Q) (h6 : V.2.2 0 6 = 112) : mE G MX10_carryOut 41 ls [] s m V Q := by
  refine x_sub (ls' := [(0, .ref m), (2, .int c)]) g ?_
  have h5 := hG.1.1.1
  have eF : ordY W V = sPuF W (V.2.2 2 0) (V.2.2 2 1) := by rw [ordY, h6]; rfl
  have eW : ordX W V = foW (sPuF W (V.2.2 2 0) (V.2.2 2 1)) W (sPut W (ix (V.2.2 2 0)) (ix (V.2.2 2 1))) := by rw [ordX, h6]; rfl
  refine x_aload_n (k := 24) rfl rfl ?_
  refine m_callI (ci := 10) (k := 25) rfl (by rfl) (m_oeEp hF.m hG.h3 h6) okX10_orderError viX10_orderError mlRX10_189 ⟨Nat.le_of_ble_eq_true rfl, Nat.le_of_ble_eq_true rfl⟩ (by exact Nat.le_of_ble_eq_true rfl) rfl rfl mG0 (by exact Nat.le_of_ble_eq_true rfl) ?_
  refine x_if_ne (tgt := 59) (k := 26) rfl (by decide) (fun c45 => ?_) (fun c45 => ?_)
  · have hlt : sPuF W (V.2.2 2 0) (V.2.2 2 1) < 0 := sPuF_n c45
    refine x_iconst (v := 0) (k := 32) rfl (by decide) ?_
    first | exact kF (by rw [eF]; exact hlt) _ (by intro q hq; simp only [List.mem_cons, List.not_mem_nil, or_false] at hq; rcases hq with rfl | rfl <;> rfl) | exact kT (by rw [eF]; exact hge) _ _ _ h5b (by rw [eW]; exact hg2) (by rw [eW]; exact q9) (by intro q hq; simp only [List.mem_cons, List.not_mem_nil, or_false] at hq; rcases hq with rfl | rfl <;> rfl)
  · have hge : ¬ sPuF W (V.2.2 2 0) (V.2.2 2 1) < 0 := by rw [c45]; exact n0z
    rw [foW_o hge] at eW
    obtain ⟨⟨h1, h2⟩, h6b, h7, h8⟩ := sPuF_ge hge
    obtain ⟨p, hp, ep⟩ := gP_is h1
    obtain ⟨k, hk, hk10, ek⟩ := hF.m.kP h2
    rw [ek, show ix (nI k) = k from clK hk10] at h6b
    rw [ep, ixP hp] at h7
    rw [ek, ep, show ix (nI k) = k from clK hk10, ixP hp] at eW
    have h5b := h5
    rw [ep, ixP hp] at h8
    have hg2 := hG.put hk hp h7 (hG.h2 h8)
    have hnn := hg2.held_nn (10 + W 0 p 2)
    refine x_aload_n (k := 27) rfl rfl ?_
    refine m_callIQ (ci := 10) (k := 28) rfl (by rfl) (m_doP hF h5 hz hz5 hk hp ((hG.2.1 p hp).1.elim (fun z => absurd z.1 h7) (fun z => z.1)) h6 ek ep) okX10_does viX10_does mlRX10_192 ⟨Nat.le_of_ble_eq_true rfl, Nat.le_of_ble_eq_true rfl⟩ (by exact Nat.le_of_ble_eq_true rfl) rfl rfl mG0 (by exact Nat.le_of_ble_eq_true rfl) (fun V9 q9 => ?_)
    refine x_if_lt (tgt := 59) (k := 29) rfl (by decide) (fun c52 => absurd c52 (by assumption)) (fun c52 => ?_)
    refine x_iconst (v := 1) (k := 30) rfl (by decide) ?_
    refine x_goto (tgt := 60) (k := 31) rfl (by decide) ?_
    first | exact kF (by rw [eF]; exact hlt) _ (by intro q hq; simp only [List.mem_cons, List.not_mem_nil, or_false] at hq; rcases hq with rfl | rfl <;> rfl) | exact kT (by rw [eF]; exact hge) _ _ _ h5b (by rw [eW]; exact hg2) (by rw [eW]; exact q9) (by intro q hq; simp only [List.mem_cons, List.not_mem_nil, or_false] at hq; rcases hq with rfl | rfl <;> rfl)
theorem l_co41f {G : xG} {s : xA} {m hr f nt nk : Nat} {W : Wd} {V : Vd} {Q : Option Value → Vd → Prop} {ls : List (Nat × Value)} {c : Int32} (hF : RF hr f nt nk W V.1) (hG : Gd hr f nt nk W) {sz : Nat} (hz : W 4 0 0 = nI sz) (hz5 : sz < 512) (g : (∀ q ∈ [(0, .ref m), (2, .int c)], ls.lookup q.1 = some q.2)) (kF : ordY W V < 0 → ∀ ls, (∀ q ∈ [(0, .ref m), (2, .int c)], ls.lookup q.1 = some q.2) → mE G MX10_carryOut 60 ls [.int 0] s m V Q) (kT : ¬ ordY W V < 0 → ∀ (hr' : Nat) (V' : Vd) (ls : List (Nat × Value)), hr' ≤ 500 → Gd hr' f nt nk (ordX W V) → Ch V hr' f nt nk (ordX W V) V' → (∀ q ∈ [(0, .ref m), (2, .int c)], ls.lookup q.1 = some q.2) → mE G MX10_carryOut 60 ls [.int 1] s m V' Q) (h6 : V.2.2 0 6 = 102) : mE G MX10_carryOut 41 ls [] s m V Q := by
  refine x_sub (ls' := [(0, .ref m), (2, .int c)]) g ?_
  have h5 := hG.1.1.1
  have eF : ordY W V = sFeF W (V.2.2 2 0) (V.2.2 2 1) := by rw [ordY, h6]; rfl
  have eW : ordX W V = foW (sFeF W (V.2.2 2 0) (V.2.2 2 1)) W (sFet W (ix (V.2.2 2 0)) (ix (V.2.2 2 1))) := by rw [ordX, h6]; rfl
  refine x_aload_n (k := 24) rfl rfl ?_
  refine m_callI (ci := 10) (k := 25) rfl (by rfl) (m_oeEf hF.m h6) okX10_orderError viX10_orderError mlRX10_189 ⟨Nat.le_of_ble_eq_true rfl, Nat.le_of_ble_eq_true rfl⟩ (by exact Nat.le_of_ble_eq_true rfl) rfl rfl mG0 (by exact Nat.le_of_ble_eq_true rfl) ?_
  refine x_if_ne (tgt := 59) (k := 26) rfl (by decide) (fun c45 => ?_) (fun c45 => ?_)
  · have hlt : sFeF W (V.2.2 2 0) (V.2.2 2 1) < 0 := sFeF_n c45
    refine x_iconst (v := 0) (k := 32) rfl (by decide) ?_
    first | exact kF (by rw [eF]; exact hlt) _ (by intro q hq; simp only [List.mem_cons, List.not_mem_nil, or_false] at hq; rcases hq with rfl | rfl <;> rfl) | exact kT (by rw [eF]; exact hge) _ _ _ h5b (by rw [eW]; exact hg2) (by rw [eW]; exact q9) (by intro q hq; simp only [List.mem_cons, List.not_mem_nil, or_false] at hq; rcases hq with rfl | rfl <;> rfl)
  · have hge : ¬ sFeF W (V.2.2 2 0) (V.2.2 2 1) < 0 := by rw [c45]; exact n0z
    rw [foW_o hge] at eW
    obtain ⟨⟨h1, h2⟩, h7, h6b, h8⟩ := sFeF_ge hge
    obtain ⟨p, hp, ep⟩ := gP_is h1
    obtain ⟨k, hk, hk10, ek⟩ := hF.m.kP h2
    rw [ek, show ix (nI k) = k from clK hk10] at h6b
    rw [ep, ixP hp] at h7
    rw [ek, ep, show ix (nI k) = k from clK hk10, ixP hp] at eW
    have h5b := h5
    rw [ep] at h8
    obtain ⟨a, ha, ea⟩ := (hG.2.2.2.1 k hk).1
    have hg2 := hG.fet hk hp (hG.h2 h8)
    have hnn := hg2.held_nn (10 + sFet W p k 0 p 2)
    refine x_aload_n (k := 27) rfl rfl ?_
    refine m_callIQ (ci := 10) (k := 28) rfl (by rfl) (m_doF hF h5 hz hz5 hk hp ha ea h6b.1 h6 ek ep) okX10_does viX10_does mlRX10_192 ⟨Nat.le_of_ble_eq_true rfl, Nat.le_of_ble_eq_true rfl⟩ (by exact Nat.le_of_ble_eq_true rfl) rfl rfl mG0 (by exact Nat.le_of_ble_eq_true rfl) (fun V9 q9 => ?_)
    refine x_if_lt (tgt := 59) (k := 29) rfl (by decide) (fun c52 => absurd c52 (by assumption)) (fun c52 => ?_)
    refine x_iconst (v := 1) (k := 30) rfl (by decide) ?_
    refine x_goto (tgt := 60) (k := 31) rfl (by decide) ?_
    first | exact kF (by rw [eF]; exact hlt) _ (by intro q hq; simp only [List.mem_cons, List.not_mem_nil, or_false] at hq; rcases hq with rfl | rfl <;> rfl) | exact kT (by rw [eF]; exact hge) _ _ _ h5b (by rw [eW]; exact hg2) (by rw [eW]; exact q9) (by intro q hq; simp only [List.mem_cons, List.not_mem_nil, or_false] at hq; rcases hq with rfl | rfl <;> rfl)
theorem l_co41h {G : xG} {s : xA} {m hr f nt nk : Nat} {W : Wd} {V : Vd} {Q : Option Value → Vd → Prop} {ls : List (Nat × Value)} {c : Int32} (hF : RF hr f nt nk W V.1) (hG : Gd hr f nt nk W) {sz : Nat} (hz : W 4 0 0 = nI sz) (hz5 : sz < 512) (g : (∀ q ∈ [(0, .ref m), (2, .int c)], ls.lookup q.1 = some q.2)) (kF : ordY W V < 0 → ∀ ls, (∀ q ∈ [(0, .ref m), (2, .int c)], ls.lookup q.1 = some q.2) → mE G MX10_carryOut 60 ls [.int 0] s m V Q) (kT : ¬ ordY W V < 0 → ∀ (hr' : Nat) (V' : Vd) (ls : List (Nat × Value)), hr' ≤ 500 → Gd hr' f nt nk (ordX W V) → Ch V hr' f nt nk (ordX W V) V' → (∀ q ∈ [(0, .ref m), (2, .int c)], ls.lookup q.1 = some q.2) → mE G MX10_carryOut 60 ls [.int 1] s m V' Q) (h6 : V.2.2 0 6 = 104) : mE G MX10_carryOut 41 ls [] s m V Q := by
  refine x_sub (ls' := [(0, .ref m), (2, .int c)]) g ?_
  have h5 := hG.1.1.1
  have eF : ordY W V = sPaF W 1 := by rw [ordY, h6]; rfl
  have eW : ordX W V = foW (sPaF W 1) W (paTo W 1) := by rw [ordX, h6]; rfl
  refine x_aload_n (k := 24) rfl rfl ?_
  refine m_callI (ci := 10) (k := 25) rfl (by rfl) (m_oeEh hF.m h6 h5) okX10_orderError viX10_orderError mlRX10_189 ⟨Nat.le_of_ble_eq_true rfl, Nat.le_of_ble_eq_true rfl⟩ (by exact Nat.le_of_ble_eq_true rfl) rfl rfl mG0 (by exact Nat.le_of_ble_eq_true rfl) ?_
  refine x_if_ne (tgt := 59) (k := 26) rfl (by decide) (fun c45 => ?_) (fun c45 => ?_)
  · have hlt : sPaF W 1 < 0 := sPaF_n c45
    refine x_iconst (v := 0) (k := 32) rfl (by decide) ?_
    first | exact kF (by rw [eF]; exact hlt) _ (by intro q hq; simp only [List.mem_cons, List.not_mem_nil, or_false] at hq; rcases hq with rfl | rfl <;> rfl) | exact kT (by rw [eF]; exact hge) _ _ _ h5b (by rw [eW]; exact hg2) (by rw [eW]; exact q9) (by intro q hq; simp only [List.mem_cons, List.not_mem_nil, or_false] at hq; rcases hq with rfl | rfl <;> rfl)
  · have hge : ¬ sPaF W 1 < 0 := by rw [c45]; exact n0z
    rw [foW_o hge] at eW
    obtain ⟨-, h2⟩ := sPaF_ge hge
    have h5b : hr + 1 ≤ 500 := by
      rw [hG.1.2.1, nI_1] at h2
      have := mt (nI_ltI (a := 500) (b := hr + 1) (by decide) (by omega)).mpr h2
      omega
    have hg2 : Gd (hr + 1) f nt nk (paTo W 1) := hG.hour h5b
    have hnn : ¬ pcTo W 1 < 0 := by
      obtain ⟨q, hq, eq⟩ := ecTo_n (W := wSet (paTo W 0) 3 0 0 (paTo W 0 3 0 0 + 1)) (cT W)
      have hc := hG.cT
      have hb := hG.1.1
      rw [pcTo, pcTo, eq, Int32.zero_add]
      exact nI_pos (by omega)
    refine x_aload_n (k := 27) rfl rfl ?_
    refine m_callIQ (ci := 10) (k := 28) rfl (by rfl) (m_doH hF h5b (fun t ht => (hG.2.2.1 t ht).1.1) h6) okX10_does viX10_does mlRX10_192 ⟨Nat.le_of_ble_eq_true rfl, Nat.le_of_ble_eq_true rfl⟩ (by exact Nat.le_of_ble_eq_true rfl) rfl rfl mG0 (by exact Nat.le_of_ble_eq_true rfl) (fun V9 q9 => ?_)
    refine x_if_lt (tgt := 59) (k := 29) rfl (by decide) (fun c52 => absurd c52 (by assumption)) (fun c52 => ?_)
    refine x_iconst (v := 1) (k := 30) rfl (by decide) ?_
    refine x_goto (tgt := 60) (k := 31) rfl (by decide) ?_
    first | exact kF (by rw [eF]; exact hlt) _ (by intro q hq; simp only [List.mem_cons, List.not_mem_nil, or_false] at hq; rcases hq with rfl | rfl <;> rfl) | exact kT (by rw [eF]; exact hge) _ _ _ h5b (by rw [eW]; exact hg2) (by rw [eW]; exact q9) (by intro q hq; simp only [List.mem_cons, List.not_mem_nil, or_false] at hq; rcases hq with rfl | rfl <;> rfl)
