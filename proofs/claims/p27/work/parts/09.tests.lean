-- ===== contracts: the tests ahead of a change, what is told =====
theorem cl4 {p : Nat} (h : p < 4) : (nI p).toNatClampNeg = p := nI_clamp (by omega)
theorem c_offerFault {G : xG} {s : xA} {w : Nat} {W : Wd} (hk : hT W) (p a b i l f : Int32) : wI G MX8_offerFault [.ref w, .int p, .int a, .int b, .int i, .int l, .int f] s w W (sOfF W p a b i l f) W := by
  refine x_iload_n (k := 0) rfl rfl ?_
  refine x_sDN (k := 1) rfl (by rfl) (c_isPerson _) okX9_isPerson viX9_isPerson nlRX8_89 ⟨Nat.le_of_ble_eq_true rfl, Nat.le_of_ble_eq_true rfl⟩ (by exact Nat.le_of_ble_eq_true rfl) rfl (by exact Nat.le_of_ble_eq_true rfl) ?_
  refine x_if_eq (tgt := 26) (k := 2) rfl (by decide) (fun c4 => ?_) (fun c4 => ?_)
  · replace c4 := bz_eq0 c4
    refine x_iconst (v := -1) (k := 12) rfl (by decide) ?_
    exact w_irD (k := 13) rfl rfl rfl (by first | (simp [sOfF, *]; done) | simp_all [sOfF]) rfl
  · replace c4 := bz_ne0 c4
    refine x_iload_n (k := 3) rfl rfl ?_
    refine x_sDN (k := 4) rfl (by rfl) (c_isTown _) okX9_isTown viX9_isTown nlRX8_93 ⟨Nat.le_of_ble_eq_true rfl, Nat.le_of_ble_eq_true rfl⟩ (by exact Nat.le_of_ble_eq_true rfl) rfl (by exact Nat.le_of_ble_eq_true rfl) ?_
    refine x_if_eq (tgt := 26) (k := 5) rfl (by decide) (fun c11 => ?_) (fun c11 => ?_)
    · replace c11 := bz_eq0 c11
      refine x_iconst (v := -1) (k := 12) rfl (by decide) ?_
      exact w_irD (k := 13) rfl rfl rfl (by first | (simp [sOfF, *]; done) | simp_all [sOfF]) rfl
    · replace c11 := bz_ne0 c11
      refine x_iload_n (k := 6) rfl rfl ?_
      refine x_sDN (k := 7) rfl (by rfl) (c_isTown _) okX9_isTown viX9_isTown nlRX8_93 ⟨Nat.le_of_ble_eq_true rfl, Nat.le_of_ble_eq_true rfl⟩ (by exact Nat.le_of_ble_eq_true rfl) rfl (by exact Nat.le_of_ble_eq_true rfl) ?_
      refine x_if_eq (tgt := 26) (k := 8) rfl (by decide) (fun c18 => ?_) (fun c18 => ?_)
      · replace c18 := bz_eq0 c18
        refine x_iconst (v := -1) (k := 12) rfl (by decide) ?_
        exact w_irD (k := 13) rfl rfl rfl (by first | (simp [sOfF, *]; done) | simp_all [sOfF]) rfl
      · replace c18 := bz_ne0 c18
        refine x_iload_n (k := 9) rfl rfl ?_
        refine x_iload_n (k := 10) rfl rfl ?_
        refine x_icmp_ne (tgt := 28) (k := 11) rfl (by decide) (fun c23 => ?_) (fun c23 => ?_)
        · refine x_iload (k := 14) rfl rfl ?_
          refine x_iconst (v := 1) (k := 15) rfl (by decide) ?_
          refine x_bipush (v := 50) (k := 16) rfl (by decide) ?_
          refine x_sDN (k := 17) rfl (by rfl) (c_isWithin _ _ _) okX9_isWithin viX9_isWithin nlRX8_96 ⟨Nat.le_of_ble_eq_true rfl, Nat.le_of_ble_eq_true rfl⟩ (by exact Nat.le_of_ble_eq_true rfl) rfl (by exact Nat.le_of_ble_eq_true rfl) ?_
          refine x_if_eq (tgt := 61) (k := 18) rfl (by decide) (fun c36 => ?_) (fun c36 => ?_)
          · replace c36 := bz_eq0 c36
            refine x_iconst (v := -1) (k := 29) rfl (by decide) ?_
            exact w_irD (k := 30) rfl rfl rfl (by first | (simp [sOfF, *]; done) | simp_all [sOfF]) rfl
          · replace c36 := bz_ne0 c36
            refine x_iload (k := 19) rfl rfl ?_
            refine x_iconst (v := 1) (k := 20) rfl (by decide) ?_
            refine x_bipush (v := 50) (k := 21) rfl (by decide) ?_
            refine x_sDN (k := 22) rfl (by rfl) (c_isWithin _ _ _) okX9_isWithin viX9_isWithin nlRX8_96 ⟨Nat.le_of_ble_eq_true rfl, Nat.le_of_ble_eq_true rfl⟩ (by exact Nat.le_of_ble_eq_true rfl) rfl (by exact Nat.le_of_ble_eq_true rfl) ?_
            refine x_if_eq (tgt := 61) (k := 23) rfl (by decide) (fun c47 => ?_) (fun c47 => ?_)
            · replace c47 := bz_eq0 c47
              refine x_iconst (v := -1) (k := 29) rfl (by decide) ?_
              exact w_irD (k := 30) rfl rfl rfl (by first | (simp [sOfF, *]; done) | simp_all [sOfF]) rfl
            · replace c47 := bz_ne0 c47
              refine x_iload (k := 24) rfl rfl ?_
              refine x_iconst (v := 0) (k := 25) rfl (by decide) ?_
              refine x_bipush (v := 99) (k := 26) rfl (by decide) ?_
              refine x_sDN (k := 27) rfl (by rfl) (c_isWithin _ _ _) okX9_isWithin viX9_isWithin nlRX8_96 ⟨Nat.le_of_ble_eq_true rfl, Nat.le_of_ble_eq_true rfl⟩ (by exact Nat.le_of_ble_eq_true rfl) rfl (by exact Nat.le_of_ble_eq_true rfl) ?_
              refine x_if_ne (tgt := 63) (k := 28) rfl (by decide) (fun c58 => ?_) (fun c58 => ?_)
              · replace c58 := bz_ne0 c58
                refine x_aload_n (k := 31) rfl rfl ?_
                refine x_iload_n (k := 32) rfl rfl ?_
                refine x_aload_n (k := 33) rfl rfl ?_
                refine w_get (k := 34) rfl flRX8_41 (by decide) ?_
                refine x_iload (k := 35) rfl rfl ?_
                refine x_iadd (k := 36) rfl ?_
                refine x_aload_n (k := 37) rfl rfl ?_
                refine w_get (k := 38) rfl flRX8_41 (by decide) ?_
                refine x_iload (k := 39) rfl rfl ?_
                refine x_iadd (k := 40) rfl ?_
                refine x_iload (k := 41) rfl rfl ?_
                refine x_iadd (k := 42) rfl ?_
                refine w_callI (ci := 8) (k := 43) rfl (by rfl) (c_overlapsATrip _ _ _ hk) okX8_overlapsATrip viX8_overlapsATrip mlRX8_100 ⟨Nat.le_of_ble_eq_true rfl, Nat.le_of_ble_eq_true rfl⟩ (by exact Nat.le_of_ble_eq_true rfl) rfl rfl wG0 (by exact Nat.le_of_ble_eq_true rfl) ?_
                refine x_if_eq (tgt := 91) (k := 44) rfl (by decide) (fun c85 => ?_) (fun c85 => ?_)
                · replace c85 := bz_eq0 c85
                  refine x_aload_n (k := 47) rfl rfl ?_
                  refine w_get (k := 48) rfl flRX8_54 (by decide) ?_
                  refine x_bipush (v := 16) (k := 49) rfl (by decide) ?_
                  refine x_icmp_ge (tgt := 104) (k := 50) rfl (by decide) (fun c97 => ?_) (fun c97 => ?_)
                  · refine x_bipush (v := -3) (k := 53) rfl (by decide) ?_
                    exact w_irD (k := 54) rfl rfl rfl (by first | (simp [sOfF, *]; done) | simp_all [sOfF]) rfl
                  · refine x_iconst (v := 0) (k := 51) rfl (by decide) ?_
                    refine x_goto (tgt := 106) (k := 52) rfl (by decide) ?_
                    exact w_irD (k := 54) rfl rfl rfl (by first | (simp [sOfF, *]; done) | simp_all [sOfF]) rfl
                · replace c85 := bz_ne0 c85
                  refine x_bipush (v := -2) (k := 45) rfl (by decide) ?_
                  exact w_irD (k := 46) rfl rfl rfl (by first | (simp [sOfF, *]; done) | simp_all [sOfF]) rfl
              · replace c58 := bz_eq0 c58
                refine x_iconst (v := -1) (k := 29) rfl (by decide) ?_
                exact w_irD (k := 30) rfl rfl rfl (by first | (simp [sOfF, *]; done) | simp_all [sOfF]) rfl
        · refine x_iconst (v := -1) (k := 12) rfl (by decide) ?_
          exact w_irD (k := 13) rfl rfl rfl (by first | (simp [sOfF, *]; done) | simp_all [sOfF]) rfl
theorem c_takeBackFault {G : xG} {s : xA} {w : Nat} {W : Wd} (hk : hT W) (n : Int32) : wI G MX8_takeBackFault [.ref w, .int n] s w W (sTbF W n) W := by
  refine x_aload_n (k := 0) rfl rfl ?_
  refine x_iload_n (k := 1) rfl rfl ?_
  refine w_callI (ci := 8) (k := 2) rfl (by rfl) (c_isTrip _) okX8_isTrip viX8_isTrip mlRX8_130 ⟨Nat.le_of_ble_eq_true rfl, Nat.le_of_ble_eq_true rfl⟩ (by exact Nat.le_of_ble_eq_true rfl) rfl rfl wG0 (by exact Nat.le_of_ble_eq_true rfl) ?_
  refine x_if_ne (tgt := 10) (k := 3) rfl (by decide) (fun c5 => ?_) (fun c5 => ?_)
  · replace c5 := bz_ne0 c5
    obtain ⟨t, ht, ht16, rfl⟩ := tP_is hk c5
    refine x_aload_n (k := 6) rfl rfl ?_
    refine w_getT (k := 7) rfl flRX8_19 ?_
    refine x_iload_n (k := 8) rfl rfl ?_
    refine w_atT (k := 9) rfl rfl (by first | assumption | omega) ?_
    refine w_fT (k := 10) rfl flRX8_129 (by first | assumption | omega) (by decide) ?_
    refine x_if_ne (tgt := 26) (k := 11) rfl (by decide) (fun c19 => ?_) (fun c19 => ?_)
    · refine x_bipush (v := -2) (k := 14) rfl (by decide) ?_
      exact w_irD (k := 15) rfl rfl rfl (by first | (simp [sTbF, ix, clT, *]; done) | simp_all [sTbF, ix, clT]) rfl
    · refine x_iconst (v := 0) (k := 12) rfl (by decide) ?_
      refine x_goto (tgt := 28) (k := 13) rfl (by decide) ?_
      exact w_irD (k := 15) rfl rfl rfl (by first | (simp [sTbF, ix, clT, *]; done) | simp_all [sTbF, ix, clT]) rfl
  · replace c5 := bz_eq0 c5
    refine x_iconst (v := -1) (k := 4) rfl (by decide) ?_
    exact w_irD (k := 5) rfl rfl rfl (by first | (simp [sTbF, ix, clT, *]; done) | simp_all [sTbF, ix, clT]) rfl
theorem c_passFault {G : xG} {s : xA} {w : Nat} {W : Wd} (h : Int32) : wI G MX8_passFault [.ref w, .int h] s w W (sPaF W h) W := by
  refine x_iload_n (k := 0) rfl rfl ?_
  refine x_iconst (v := 1) (k := 1) rfl (by decide) ?_
  refine x_bipush (v := 24) (k := 2) rfl (by decide) ?_
  refine x_sDN (k := 3) rfl (by rfl) (c_isWithin _ _ _) okX9_isWithin viX9_isWithin nlRX8_96 ⟨Nat.le_of_ble_eq_true rfl, Nat.le_of_ble_eq_true rfl⟩ (by exact Nat.le_of_ble_eq_true rfl) rfl (by exact Nat.le_of_ble_eq_true rfl) ?_
  refine x_if_ne (tgt := 12) (k := 4) rfl (by decide) (fun c7 => ?_) (fun c7 => ?_)
  · replace c7 := bz_ne0 c7
    refine x_aload_n (k := 7) rfl rfl ?_
    refine w_get (k := 8) rfl flRX8_41 (by decide) ?_
    refine x_iload_n (k := 9) rfl rfl ?_
    refine x_iadd (k := 10) rfl ?_
    refine x_sipush (v := 500) (k := 11) rfl (by decide) ?_
    refine x_icmp_gt (tgt := 28) (k := 12) rfl (by decide) (fun c21 => ?_) (fun c21 => ?_)
    · refine x_bipush (v := -3) (k := 15) rfl (by decide) ?_
      exact w_irD (k := 16) rfl rfl rfl (by first | (simp [sPaF, *]; done) | simp_all [sPaF]) rfl
    · refine x_iconst (v := 0) (k := 13) rfl (by decide) ?_
      refine x_goto (tgt := 30) (k := 14) rfl (by decide) ?_
      exact w_irD (k := 16) rfl rfl rfl (by first | (simp [sPaF, *]; done) | simp_all [sPaF]) rfl
  · replace c7 := bz_eq0 c7
    refine x_iconst (v := -1) (k := 5) rfl (by decide) ?_
    exact w_irD (k := 6) rfl rfl rfl (by first | (simp [sPaF, *]; done) | simp_all [sPaF]) rfl
theorem c_postFault {G : xG} {s : xA} {w : Nat} {W : Wd} (hk : hK W) (a b t v c : Int32) : wI G MX8_postFault [.ref w, .int a, .int b, .int t, .int v, .int c] s w W (sPoF W a b t v c) W := by
  refine x_iload_n (k := 0) rfl rfl ?_
  refine x_sDN (k := 1) rfl (by rfl) (c_isPerson _) okX9_isPerson viX9_isPerson nlRX8_89 ⟨Nat.le_of_ble_eq_true rfl, Nat.le_of_ble_eq_true rfl⟩ (by exact Nat.le_of_ble_eq_true rfl) rfl (by exact Nat.le_of_ble_eq_true rfl) ?_
  refine x_if_eq (tgt := 26) (k := 2) rfl (by decide) (fun c4 => ?_) (fun c4 => ?_)
  · replace c4 := bz_eq0 c4
    refine x_iconst (v := -1) (k := 12) rfl (by decide) ?_
    exact w_irD (k := 13) rfl rfl rfl (by first | (simp [sPoF, ix, clP, cl4, *]; done) | simp_all [sPoF, ix, clP, cl4]) rfl
  · replace c4 := bz_ne0 c4
    refine x_iload_n (k := 3) rfl rfl ?_
    refine x_sDN (k := 4) rfl (by rfl) (c_isPerson _) okX9_isPerson viX9_isPerson nlRX8_89 ⟨Nat.le_of_ble_eq_true rfl, Nat.le_of_ble_eq_true rfl⟩ (by exact Nat.le_of_ble_eq_true rfl) rfl (by exact Nat.le_of_ble_eq_true rfl) ?_
    refine x_if_eq (tgt := 26) (k := 5) rfl (by decide) (fun c11 => ?_) (fun c11 => ?_)
    · replace c11 := bz_eq0 c11
      refine x_iconst (v := -1) (k := 12) rfl (by decide) ?_
      exact w_irD (k := 13) rfl rfl rfl (by first | (simp [sPoF, ix, clP, cl4, *]; done) | simp_all [sPoF, ix, clP, cl4]) rfl
    · replace c11 := bz_ne0 c11
      refine x_iload_n (k := 6) rfl rfl ?_
      refine x_iload_n (k := 7) rfl rfl ?_
      refine x_icmp_eq (tgt := 26) (k := 8) rfl (by decide) (fun c16 => ?_) (fun c16 => ?_)
      · refine x_iconst (v := -1) (k := 12) rfl (by decide) ?_
        exact w_irD (k := 13) rfl rfl rfl (by first | (simp [sPoF, ix, clP, cl4, *]; done) | simp_all [sPoF, ix, clP, cl4]) rfl
      · refine x_iload_n (k := 9) rfl rfl ?_
        refine x_sDN (k := 10) rfl (by rfl) (c_isTown _) okX9_isTown viX9_isTown nlRX8_93 ⟨Nat.le_of_ble_eq_true rfl, Nat.le_of_ble_eq_true rfl⟩ (by exact Nat.le_of_ble_eq_true rfl) rfl (by exact Nat.le_of_ble_eq_true rfl) ?_
        refine x_if_ne (tgt := 28) (k := 11) rfl (by decide) (fun c23 => ?_) (fun c23 => ?_)
        · replace c23 := bz_ne0 c23
          refine x_iload (k := 14) rfl rfl ?_
          refine x_iconst (v := 1) (k := 15) rfl (by decide) ?_
          refine x_sipush (v := 999) (k := 16) rfl (by decide) ?_
          refine x_sDN (k := 17) rfl (by rfl) (c_isWithin _ _ _) okX9_isWithin viX9_isWithin nlRX8_96 ⟨Nat.le_of_ble_eq_true rfl, Nat.le_of_ble_eq_true rfl⟩ (by exact Nat.le_of_ble_eq_true rfl) rfl (by exact Nat.le_of_ble_eq_true rfl) ?_
          refine x_if_eq (tgt := 50) (k := 18) rfl (by decide) (fun c37 => ?_) (fun c37 => ?_)
          · replace c37 := bz_eq0 c37
            refine x_iconst (v := -1) (k := 24) rfl (by decide) ?_
            exact w_irD (k := 25) rfl rfl rfl (by first | (simp [sPoF, ix, clP, cl4, *]; done) | simp_all [sPoF, ix, clP, cl4]) rfl
          · replace c37 := bz_ne0 c37
            refine x_iload (k := 19) rfl rfl ?_
            refine x_iconst (v := 0) (k := 20) rfl (by decide) ?_
            refine x_iconst (v := 3) (k := 21) rfl (by decide) ?_
            refine x_sDN (k := 22) rfl (by rfl) (c_isWithin _ _ _) okX9_isWithin viX9_isWithin nlRX8_96 ⟨Nat.le_of_ble_eq_true rfl, Nat.le_of_ble_eq_true rfl⟩ (by exact Nat.le_of_ble_eq_true rfl) rfl (by exact Nat.le_of_ble_eq_true rfl) ?_
            refine x_if_ne (tgt := 52) (k := 23) rfl (by decide) (fun c47 => ?_) (fun c47 => ?_)
            · replace c47 := bz_ne0 c47
              have q4 := c4
              have q44 := c47
              obtain ⟨p, hp, rfl⟩ := gP_is q4
              obtain ⟨q, hq, rfl⟩ := wIn_nI (hi := 3) (by decide) q44
              refine x_aload_n (k := 26) rfl rfl ?_
              refine w_getP (k := 27) rfl flRX8_11 ?_
              refine x_iload_n (k := 28) rfl rfl ?_
              refine w_atP (k := 29) rfl rfl (by first | assumption | omega) ?_
              refine w_fP (k := 30) rfl flRX8_79 (by first | assumption | omega) (by decide) ?_
              refine x_bipush (v := -9) (k := 31) rfl (by decide) ?_
              refine x_icmp_ne (tgt := 70) (k := 32) rfl (by decide) (fun c63 => ?_) (fun c63 => ?_)
              · refine x_iconst (v := 0) (k := 35) rfl (by decide) ?_
                refine x_istore (k := 36) rfl (by decide) ?_
                refine x_aload_n (k := 37) rfl rfl ?_
                refine w_getP (k := 38) rfl flRX8_11 ?_
                refine x_iload_n (k := 39) rfl rfl ?_
                refine w_atP (k := 40) rfl rfl (by first | assumption | omega) ?_
                refine w_fP (k := 41) rfl flRX8_143 (by first | assumption | omega) (by decide) ?_
                refine x_cost (k := 42) rfl rfl ?_
                refine x_iload (k := 43) rfl rfl ?_
                refine w_cost (k := 44) rfl rfl (by first | assumption | omega) ?_
                refine x_icmp_ge (tgt := 95) (k := 45) rfl (by decide) (fun c88 => ?_) (fun c88 => ?_)
                · refine x_iconst (v := 0) (k := 48) rfl (by decide) ?_
                  refine x_istore (k := 49) rfl (by decide) ?_
                  refine x_iload (k := 50) rfl rfl ?_
                  refine x_if_ne (tgt := 117) (k := 51) rfl (by decide) (fun c100 => absurd c100 (by decide)) (fun c100 => ?_)
                  refine x_iload (k := 52) rfl rfl ?_
                  refine x_if_ne (tgt := 117) (k := 53) rfl (by decide) (fun c105 => absurd c105 (by decide)) (fun c105 => ?_)
                  refine x_aload_n (k := 54) rfl rfl ?_
                  refine x_iload_n (k := 55) rfl rfl ?_
                  refine w_callI (ci := 8) (k := 56) rfl (by rfl) (c_heldBy _ hk) okX8_heldBy viX8_heldBy mlRX8_150 ⟨Nat.le_of_ble_eq_true rfl, Nat.le_of_ble_eq_true rfl⟩ (by exact Nat.le_of_ble_eq_true rfl) rfl rfl wG0 (by exact Nat.le_of_ble_eq_true rfl) ?_
                  refine x_iconst (v := 3) (k := 57) rfl (by decide) ?_
                  refine x_icmp_lt (tgt := 120) (k := 58) rfl (by decide) (fun c114 => ?_) (fun c114 => ?_)
                  · refine x_aload_n (k := 61) rfl rfl ?_
                    refine w_get (k := 62) rfl flRX8_57 (by decide) ?_
                    refine x_bipush (v := 10) (k := 63) rfl (by decide) ?_
                    refine x_icmp_ge (tgt := 133) (k := 64) rfl (by decide) (fun c126 => ?_) (fun c126 => ?_)
                    · refine x_bipush (v := -3) (k := 67) rfl (by decide) ?_
                      exact w_irD (k := 68) rfl rfl rfl (by first | (simp [sPoF, ix, clP, cl4, *]; done) | simp_all [sPoF, ix, clP, cl4]) rfl
                    · refine x_iconst (v := 0) (k := 65) rfl (by decide) ?_
                      refine x_goto (tgt := 135) (k := 66) rfl (by decide) ?_
                      exact w_irD (k := 68) rfl rfl rfl (by first | (simp [sPoF, ix, clP, cl4, *]; done) | simp_all [sPoF, ix, clP, cl4]) rfl
                  · refine x_bipush (v := -2) (k := 59) rfl (by decide) ?_
                    exact w_irD (k := 60) rfl rfl rfl (by first | (simp [sPoF, ix, clP, cl4, *]; done) | simp_all [sPoF, ix, clP, cl4]) rfl
                · refine x_iconst (v := 1) (k := 46) rfl (by decide) ?_
                  refine x_goto (tgt := 96) (k := 47) rfl (by decide) ?_
                  refine x_istore (k := 49) rfl (by decide) ?_
                  refine x_iload (k := 50) rfl rfl ?_
                  refine x_if_ne (tgt := 117) (k := 51) rfl (by decide) (fun c100 => absurd c100 (by decide)) (fun c100 => ?_)
                  refine x_iload (k := 52) rfl rfl ?_
                  refine x_if_ne (tgt := 117) (k := 53) rfl (by decide) (fun c105 => ?_) (fun c105 => absurd c105 (by decide))
                  refine x_bipush (v := -2) (k := 59) rfl (by decide) ?_
                  exact w_irD (k := 60) rfl rfl rfl (by first | (simp [sPoF, ix, clP, cl4, *]; done) | simp_all [sPoF, ix, clP, cl4]) rfl
              · refine x_iconst (v := 1) (k := 33) rfl (by decide) ?_
                refine x_goto (tgt := 71) (k := 34) rfl (by decide) ?_
                refine x_istore (k := 36) rfl (by decide) ?_
                refine x_aload_n (k := 37) rfl rfl ?_
                refine w_getP (k := 38) rfl flRX8_11 ?_
                refine x_iload_n (k := 39) rfl rfl ?_
                refine w_atP (k := 40) rfl rfl (by first | assumption | omega) ?_
                refine w_fP (k := 41) rfl flRX8_143 (by first | assumption | omega) (by decide) ?_
                refine x_cost (k := 42) rfl rfl ?_
                refine x_iload (k := 43) rfl rfl ?_
                refine w_cost (k := 44) rfl rfl (by first | assumption | omega) ?_
                refine x_icmp_ge (tgt := 95) (k := 45) rfl (by decide) (fun c88 => ?_) (fun c88 => ?_)
                · refine x_iconst (v := 0) (k := 48) rfl (by decide) ?_
                  refine x_istore (k := 49) rfl (by decide) ?_
                  refine x_iload (k := 50) rfl rfl ?_
                  refine x_if_ne (tgt := 117) (k := 51) rfl (by decide) (fun c100 => ?_) (fun c100 => absurd c100 (by decide))
                  refine x_bipush (v := -2) (k := 59) rfl (by decide) ?_
                  exact w_irD (k := 60) rfl rfl rfl (by first | (simp [sPoF, ix, clP, cl4, *]; done) | simp_all [sPoF, ix, clP, cl4]) rfl
                · refine x_iconst (v := 1) (k := 46) rfl (by decide) ?_
                  refine x_goto (tgt := 96) (k := 47) rfl (by decide) ?_
                  refine x_istore (k := 49) rfl (by decide) ?_
                  refine x_iload (k := 50) rfl rfl ?_
                  refine x_if_ne (tgt := 117) (k := 51) rfl (by decide) (fun c100 => ?_) (fun c100 => absurd c100 (by decide))
                  refine x_bipush (v := -2) (k := 59) rfl (by decide) ?_
                  exact w_irD (k := 60) rfl rfl rfl (by first | (simp [sPoF, ix, clP, cl4, *]; done) | simp_all [sPoF, ix, clP, cl4]) rfl
            · replace c47 := bz_eq0 c47
              refine x_iconst (v := -1) (k := 24) rfl (by decide) ?_
              exact w_irD (k := 25) rfl rfl rfl (by first | (simp [sPoF, ix, clP, cl4, *]; done) | simp_all [sPoF, ix, clP, cl4]) rfl
        · replace c23 := bz_eq0 c23
          refine x_iconst (v := -1) (k := 12) rfl (by decide) ?_
          exact w_irD (k := 13) rfl rfl rfl (by first | (simp [sPoF, ix, clP, cl4, *]; done) | simp_all [sPoF, ix, clP, cl4]) rfl
theorem c_handoverFault {G : xG} {s : xA} {w : Nat} {W : Wd} (hk : hK W) (a n b : Int32) : wI G MX8_handoverFault [.ref w, .int a, .int n, .int b] s w W (sHoF W a n b) W := by
  refine x_iload_n (k := 0) rfl rfl ?_
  refine x_sDN (k := 1) rfl (by rfl) (c_isPerson _) okX9_isPerson viX9_isPerson nlRX8_89 ⟨Nat.le_of_ble_eq_true rfl, Nat.le_of_ble_eq_true rfl⟩ (by exact Nat.le_of_ble_eq_true rfl) rfl (by exact Nat.le_of_ble_eq_true rfl) ?_
  refine x_if_eq (tgt := 27) (k := 2) rfl (by decide) (fun c4 => ?_) (fun c4 => ?_)
  · replace c4 := bz_eq0 c4
    refine x_iconst (v := -1) (k := 13) rfl (by decide) ?_
    exact w_irD (k := 14) rfl rfl rfl (by first | (rw [sHoF, if_neg (by simp_all), if_pos ⟨by rw [e1]; exact c35, c44, c65⟩]; done) | (simp [sHoF, *]; done) | (simp_all [sHoF]; done) | simp_all [sHoF, tog, huw, cvd, ix]) rfl
  · replace c4 := bz_ne0 c4
    refine x_aload_n (k := 3) rfl rfl ?_
    refine x_iload_n (k := 4) rfl rfl ?_
    refine w_callI (ci := 8) (k := 5) rfl (by rfl) (c_isParcel _) okX8_isParcel viX8_isParcel mlRX8_182 ⟨Nat.le_of_ble_eq_true rfl, Nat.le_of_ble_eq_true rfl⟩ (by exact Nat.le_of_ble_eq_true rfl) rfl rfl wG0 (by exact Nat.le_of_ble_eq_true rfl) ?_
    refine x_if_eq (tgt := 27) (k := 6) rfl (by decide) (fun c12 => ?_) (fun c12 => ?_)
    · replace c12 := bz_eq0 c12
      refine x_iconst (v := -1) (k := 13) rfl (by decide) ?_
      exact w_irD (k := 14) rfl rfl rfl (by first | (rw [sHoF, if_neg (by simp_all), if_pos ⟨by rw [e1]; exact c35, c44, c65⟩]; done) | (simp [sHoF, *]; done) | (simp_all [sHoF]; done) | simp_all [sHoF, tog, huw, cvd, ix]) rfl
    · replace c12 := bz_ne0 c12
      refine x_iload_n (k := 7) rfl rfl ?_
      refine x_sDN (k := 8) rfl (by rfl) (c_isPerson _) okX9_isPerson viX9_isPerson nlRX8_89 ⟨Nat.le_of_ble_eq_true rfl, Nat.le_of_ble_eq_true rfl⟩ (by exact Nat.le_of_ble_eq_true rfl) rfl (by exact Nat.le_of_ble_eq_true rfl) ?_
      refine x_if_eq (tgt := 27) (k := 9) rfl (by decide) (fun c19 => ?_) (fun c19 => ?_)
      · replace c19 := bz_eq0 c19
        refine x_iconst (v := -1) (k := 13) rfl (by decide) ?_
        exact w_irD (k := 14) rfl rfl rfl (by first | (rw [sHoF, if_neg (by simp_all), if_pos ⟨by rw [e1]; exact c35, c44, c65⟩]; done) | (simp [sHoF, *]; done) | (simp_all [sHoF]; done) | simp_all [sHoF, tog, huw, cvd, ix]) rfl
      · replace c19 := bz_ne0 c19
        refine x_iload_n (k := 10) rfl rfl ?_
        refine x_iload_n (k := 11) rfl rfl ?_
        refine x_icmp_ne (tgt := 29) (k := 12) rfl (by decide) (fun c24 => ?_) (fun c24 => ?_)
        · obtain ⟨k, hk1, hk2, rfl⟩ := kP_is hk c12
          have e1 : ix (nI k) = k := clK hk2
          refine x_aload_n (k := 15) rfl rfl ?_
          refine x_iload_n (k := 16) rfl rfl ?_
          refine x_iload_n (k := 17) rfl rfl ?_
          refine w_callI (ci := 8) (k := 18) rfl (by rfl) (c_isHeldUnderWay hk2 _) okX8_isHeldUnderWay viX8_isHeldUnderWay mlRX8_185 ⟨Nat.le_of_ble_eq_true rfl, Nat.le_of_ble_eq_true rfl⟩ (by exact Nat.le_of_ble_eq_true rfl) rfl rfl wG0 (by exact Nat.le_of_ble_eq_true rfl) ?_
          refine x_if_eq (tgt := 51) (k := 19) rfl (by decide) (fun c35 => ?_) (fun c35 => ?_)
          · replace c35 := bz_eq0 c35
            refine x_iconst (v := 0) (k := 27) rfl (by decide) ?_
            refine x_istore (k := 28) rfl (by decide) ?_
            refine x_iload (k := 29) rfl rfl ?_
            refine x_if_eq (tgt := 72) (k := 30) rfl (by decide) (fun c56 => ?_) (fun c56 => absurd c56 (by decide))
            refine x_bipush (v := -2) (k := 38) rfl (by decide) ?_
            exact w_irD (k := 39) rfl rfl rfl (by first | (rw [sHoF, if_neg (by simp_all), if_pos ⟨by rw [e1]; exact c35, c44, c65⟩]; done) | (simp [sHoF, *]; done) | (simp_all [sHoF]; done) | simp_all [sHoF, tog, huw, cvd, ix]) rfl
          · replace c35 := bz_ne0 c35
            refine x_aload_n (k := 20) rfl rfl ?_
            refine x_iload_n (k := 21) rfl rfl ?_
            refine x_iload_n (k := 22) rfl rfl ?_
            refine w_callI (ci := 8) (k := 23) rfl (by rfl) (c_areTogether (gP_is c4) (gP_is c19)) okX8_areTogether viX8_areTogether mlRX8_188 ⟨Nat.le_of_ble_eq_true rfl, Nat.le_of_ble_eq_true rfl⟩ (by exact Nat.le_of_ble_eq_true rfl) rfl rfl wG0 (by exact Nat.le_of_ble_eq_true rfl) ?_
            refine x_if_eq (tgt := 51) (k := 24) rfl (by decide) (fun c44 => ?_) (fun c44 => ?_)
            · replace c44 := bz_eq0 c44
              refine x_iconst (v := 0) (k := 27) rfl (by decide) ?_
              refine x_istore (k := 28) rfl (by decide) ?_
              refine x_iload (k := 29) rfl rfl ?_
              refine x_if_eq (tgt := 72) (k := 30) rfl (by decide) (fun c56 => ?_) (fun c56 => absurd c56 (by decide))
              refine x_bipush (v := -2) (k := 38) rfl (by decide) ?_
              exact w_irD (k := 39) rfl rfl rfl (by first | (rw [sHoF, if_neg (by simp_all), if_pos ⟨by rw [e1]; exact c35, c44, c65⟩]; done) | (simp [sHoF, *]; done) | (simp_all [sHoF]; done) | simp_all [sHoF, tog, huw, cvd, ix]) rfl
            · replace c44 := bz_ne0 c44
              refine x_iconst (v := 1) (k := 25) rfl (by decide) ?_
              refine x_goto (tgt := 52) (k := 26) rfl (by decide) ?_
              refine x_istore (k := 28) rfl (by decide) ?_
              refine x_iload (k := 29) rfl rfl ?_
              refine x_if_eq (tgt := 72) (k := 30) rfl (by decide) (fun c56 => absurd c56 (by decide)) (fun c56 => ?_)
              refine x_aload_n (k := 31) rfl rfl ?_
              refine x_iload_n (k := 32) rfl rfl ?_
              refine w_callI (ci := 8) (k := 33) rfl (by rfl) (c_heldBy _ hk) okX8_heldBy viX8_heldBy mlRX8_150 ⟨Nat.le_of_ble_eq_true rfl, Nat.le_of_ble_eq_true rfl⟩ (by exact Nat.le_of_ble_eq_true rfl) rfl rfl wG0 (by exact Nat.le_of_ble_eq_true rfl) ?_
              refine x_iconst (v := 3) (k := 34) rfl (by decide) ?_
              refine x_icmp_ge (tgt := 72) (k := 35) rfl (by decide) (fun c65 => ?_) (fun c65 => ?_)
              · refine x_bipush (v := -2) (k := 38) rfl (by decide) ?_
                exact w_irD (k := 39) rfl rfl rfl (by first | (rw [sHoF, if_neg (by simp_all), if_pos ⟨by rw [e1]; exact c35, c44, c65⟩]; done) | (simp [sHoF, *]; done) | (simp_all [sHoF]; done) | simp_all [sHoF, tog, huw, cvd, ix]) rfl
              · refine x_iconst (v := 0) (k := 36) rfl (by decide) ?_
                refine x_goto (tgt := 74) (k := 37) rfl (by decide) ?_
                exact w_irD (k := 39) rfl rfl rfl (by first | (rw [sHoF, if_neg (by simp_all), if_pos ⟨by rw [e1]; exact c35, c44, c65⟩]; done) | (simp [sHoF, *]; done) | (simp_all [sHoF]; done) | simp_all [sHoF, tog, huw, cvd, ix]) rfl
        · refine x_iconst (v := -1) (k := 13) rfl (by decide) ?_
          exact w_irD (k := 14) rfl rfl rfl (by first | (rw [sHoF, if_neg (by simp_all), if_pos ⟨by rw [e1]; exact c35, c44, c65⟩]; done) | (simp [sHoF, *]; done) | (simp_all [sHoF]; done) | simp_all [sHoF, tog, huw, cvd, ix]) rfl
theorem c_putInFault {G : xG} {s : xA} {w : Nat} {W : Wd} (hk : hK W) (p n : Int32) : wI G MX8_putInFault [.ref w, .int p, .int n] s w W (sPuF W p n) W := by
  refine x_iload_n (k := 0) rfl rfl ?_
  refine x_sDN (k := 1) rfl (by rfl) (c_isPerson _) okX9_isPerson viX9_isPerson nlRX8_89 ⟨Nat.le_of_ble_eq_true rfl, Nat.le_of_ble_eq_true rfl⟩ (by exact Nat.le_of_ble_eq_true rfl) rfl (by exact Nat.le_of_ble_eq_true rfl) ?_
  refine x_if_eq (tgt := 15) (k := 2) rfl (by decide) (fun c4 => ?_) (fun c4 => ?_)
  · replace c4 := bz_eq0 c4
    refine x_iconst (v := -1) (k := 7) rfl (by decide) ?_
    exact w_irD (k := 8) rfl rfl rfl (by first | (simp [sPuF, *]; done) | (simp_all [sPuF]; done) | simp_all [sPuF, tog, huw, cvd, ix]) rfl
  · replace c4 := bz_ne0 c4
    refine x_aload_n (k := 3) rfl rfl ?_
    refine x_iload_n (k := 4) rfl rfl ?_
    refine w_callI (ci := 8) (k := 5) rfl (by rfl) (c_isParcel _) okX8_isParcel viX8_isParcel mlRX8_182 ⟨Nat.le_of_ble_eq_true rfl, Nat.le_of_ble_eq_true rfl⟩ (by exact Nat.le_of_ble_eq_true rfl) rfl rfl wG0 (by exact Nat.le_of_ble_eq_true rfl) ?_
    refine x_if_ne (tgt := 17) (k := 6) rfl (by decide) (fun c12 => ?_) (fun c12 => ?_)
    · replace c12 := bz_ne0 c12
      obtain ⟨k, hk1, hk2, rfl⟩ := kP_is hk c12
      have e1 : ix (nI k) = k := clK hk2
      obtain ⟨q, hq, rfl⟩ := gP_is c4
      have e2 : ix (nI q) = q := clP hq
      refine x_aload_n (k := 9) rfl rfl ?_
      refine w_getP (k := 10) rfl flRX8_11 ?_
      refine x_iload_n (k := 11) rfl rfl ?_
      refine w_atP (k := 12) rfl rfl (by first | assumption | omega) ?_
      refine w_fP (k := 13) rfl flRX8_79 (by first | assumption | omega) (by decide) ?_
      refine x_istore_n (k := 14) rfl (by decide) ?_
      refine x_aload_n (k := 15) rfl rfl ?_
      refine x_iload_n (k := 16) rfl rfl ?_
      refine x_iload_n (k := 17) rfl rfl ?_
      refine w_callI (ci := 8) (k := 18) rfl (by rfl) (c_isHeldUnderWay hk2 _) okX8_isHeldUnderWay viX8_isHeldUnderWay mlRX8_185 ⟨Nat.le_of_ble_eq_true rfl, Nat.le_of_ble_eq_true rfl⟩ (by exact Nat.le_of_ble_eq_true rfl) rfl rfl wG0 (by exact Nat.le_of_ble_eq_true rfl) ?_
      refine x_if_eq (tgt := 42) (k := 19) rfl (by decide) (fun c33 => ?_) (fun c33 => ?_)
      · replace c33 := bz_eq0 c33
        refine x_bipush (v := -2) (k := 23) rfl (by decide) ?_
        exact w_irD (k := 24) rfl rfl rfl (by first | (simp [sPuF, *]; done) | (simp_all [sPuF]; done) | simp_all [sPuF, tog, huw, cvd, ix]) rfl
      · replace c33 := bz_ne0 c33
        refine x_iload_n (k := 20) rfl rfl ?_
        refine x_bipush (v := -9) (k := 21) rfl (by decide) ?_
        refine x_icmp_ne (tgt := 45) (k := 22) rfl (by decide) (fun c39 => ?_) (fun c39 => ?_)
        · refine x_aload_n (k := 25) rfl rfl ?_
          refine x_bipush (v := 10) (k := 26) rfl (by decide) ?_
          refine x_iload_n (k := 27) rfl rfl ?_
          refine x_iadd (k := 28) rfl ?_
          refine w_callI (ci := 8) (k := 29) rfl (by rfl) (c_heldBy _ hk) okX8_heldBy viX8_heldBy mlRX8_150 ⟨Nat.le_of_ble_eq_true rfl, Nat.le_of_ble_eq_true rfl⟩ (by exact Nat.le_of_ble_eq_true rfl) rfl rfl wG0 (by exact Nat.le_of_ble_eq_true rfl) ?_
          refine x_iconst (v := 3) (k := 30) rfl (by decide) ?_
          refine x_icmp_ge (tgt := 61) (k := 31) rfl (by decide) (fun c54 => ?_) (fun c54 => ?_)
          · refine x_bipush (v := -3) (k := 34) rfl (by decide) ?_
            exact w_irD (k := 35) rfl rfl rfl (by first | (simp [sPuF, *]; done) | (simp_all [sPuF]; done) | simp_all [sPuF, tog, huw, cvd, ix]) rfl
          · refine x_iconst (v := 0) (k := 32) rfl (by decide) ?_
            refine x_goto (tgt := 63) (k := 33) rfl (by decide) ?_
            exact w_irD (k := 35) rfl rfl rfl (by first | (simp [sPuF, *]; done) | (simp_all [sPuF]; done) | simp_all [sPuF, tog, huw, cvd, ix]) rfl
        · refine x_bipush (v := -2) (k := 23) rfl (by decide) ?_
          exact w_irD (k := 24) rfl rfl rfl (by first | (simp [sPuF, *]; done) | (simp_all [sPuF]; done) | simp_all [sPuF, tog, huw, cvd, ix]) rfl
    · replace c12 := bz_eq0 c12
      refine x_iconst (v := -1) (k := 7) rfl (by decide) ?_
      exact w_irD (k := 8) rfl rfl rfl (by first | (simp [sPuF, *]; done) | (simp_all [sPuF]; done) | simp_all [sPuF, tog, huw, cvd, ix]) rfl
theorem c_fetchFault {G : xG} {s : xA} {w : Nat} {W : Wd} (hk : hK W) (p n : Int32) : wI G MX8_fetchFault [.ref w, .int p, .int n] s w W (sFeF W p n) W := by
  refine x_iload_n (k := 0) rfl rfl ?_
  refine x_sDN (k := 1) rfl (by rfl) (c_isPerson _) okX9_isPerson viX9_isPerson nlRX8_89 ⟨Nat.le_of_ble_eq_true rfl, Nat.le_of_ble_eq_true rfl⟩ (by exact Nat.le_of_ble_eq_true rfl) rfl (by exact Nat.le_of_ble_eq_true rfl) ?_
  refine x_if_eq (tgt := 15) (k := 2) rfl (by decide) (fun c4 => ?_) (fun c4 => ?_)
  · replace c4 := bz_eq0 c4
    refine x_iconst (v := -1) (k := 7) rfl (by decide) ?_
    exact w_irD (k := 8) rfl rfl rfl (by first | (simp [sFeF, *]; done) | (simp_all [sFeF]; done) | simp_all [sFeF, tog, huw, cvd, ix]) rfl
  · replace c4 := bz_ne0 c4
    refine x_aload_n (k := 3) rfl rfl ?_
    refine x_iload_n (k := 4) rfl rfl ?_
    refine w_callI (ci := 8) (k := 5) rfl (by rfl) (c_isParcel _) okX8_isParcel viX8_isParcel mlRX8_182 ⟨Nat.le_of_ble_eq_true rfl, Nat.le_of_ble_eq_true rfl⟩ (by exact Nat.le_of_ble_eq_true rfl) rfl rfl wG0 (by exact Nat.le_of_ble_eq_true rfl) ?_
    refine x_if_ne (tgt := 17) (k := 6) rfl (by decide) (fun c12 => ?_) (fun c12 => ?_)
    · replace c12 := bz_ne0 c12
      obtain ⟨k, hk1, hk2, rfl⟩ := kP_is hk c12
      have e1 : ix (nI k) = k := clK hk2
      obtain ⟨q, hq, rfl⟩ := gP_is c4
      have e2 : ix (nI q) = q := clP hq
      refine x_aload_n (k := 9) rfl rfl ?_
      refine w_getP (k := 10) rfl flRX8_11 ?_
      refine x_iload_n (k := 11) rfl rfl ?_
      refine w_atP (k := 12) rfl rfl (by first | assumption | omega) ?_
      refine w_fP (k := 13) rfl flRX8_79 (by first | assumption | omega) (by decide) ?_
      refine x_istore_n (k := 14) rfl (by decide) ?_
      refine x_iload_n (k := 15) rfl rfl ?_
      refine x_bipush (v := -9) (k := 16) rfl (by decide) ?_
      refine x_icmp_eq (tgt := 49) (k := 17) rfl (by decide) (fun c30 => ?_) (fun c30 => ?_)
      · refine x_iconst (v := 0) (k := 27) rfl (by decide) ?_
        refine x_istore (k := 28) rfl (by decide) ?_
        refine x_iload (k := 29) rfl rfl ?_
        refine x_if_eq (tgt := 70) (k := 30) rfl (by decide) (fun c54 => ?_) (fun c54 => absurd c54 (by decide))
        refine x_bipush (v := -2) (k := 38) rfl (by decide) ?_
        exact w_irD (k := 39) rfl rfl rfl (by first | (simp [sFeF, *]; done) | (simp_all [sFeF]; done) | simp_all [sFeF, tog, huw, cvd, ix]) rfl
      · refine x_aload_n (k := 18) rfl rfl ?_
        refine x_iload_n (k := 19) rfl rfl ?_
        refine x_bipush (v := 10) (k := 20) rfl (by decide) ?_
        refine x_iload_n (k := 21) rfl rfl ?_
        refine x_iadd (k := 22) rfl ?_
        refine w_callI (ci := 8) (k := 23) rfl (by rfl) (c_isHeldUnderWay hk2 _) okX8_isHeldUnderWay viX8_isHeldUnderWay mlRX8_185 ⟨Nat.le_of_ble_eq_true rfl, Nat.le_of_ble_eq_true rfl⟩ (by exact Nat.le_of_ble_eq_true rfl) rfl rfl wG0 (by exact Nat.le_of_ble_eq_true rfl) ?_
        refine x_if_eq (tgt := 49) (k := 24) rfl (by decide) (fun c42 => ?_) (fun c42 => ?_)
        · replace c42 := bz_eq0 c42
          refine x_iconst (v := 0) (k := 27) rfl (by decide) ?_
          refine x_istore (k := 28) rfl (by decide) ?_
          refine x_iload (k := 29) rfl rfl ?_
          refine x_if_eq (tgt := 70) (k := 30) rfl (by decide) (fun c54 => ?_) (fun c54 => absurd c54 (by decide))
          refine x_bipush (v := -2) (k := 38) rfl (by decide) ?_
          exact w_irD (k := 39) rfl rfl rfl (by first | (simp [sFeF, *]; done) | (simp_all [sFeF]; done) | simp_all [sFeF, tog, huw, cvd, ix]) rfl
        · replace c42 := bz_ne0 c42
          refine x_iconst (v := 1) (k := 25) rfl (by decide) ?_
          refine x_goto (tgt := 50) (k := 26) rfl (by decide) ?_
          refine x_istore (k := 28) rfl (by decide) ?_
          refine x_iload (k := 29) rfl rfl ?_
          refine x_if_eq (tgt := 70) (k := 30) rfl (by decide) (fun c54 => absurd c54 (by decide)) (fun c54 => ?_)
          refine x_aload_n (k := 31) rfl rfl ?_
          refine x_iload_n (k := 32) rfl rfl ?_
          refine w_callI (ci := 8) (k := 33) rfl (by rfl) (c_heldBy _ hk) okX8_heldBy viX8_heldBy mlRX8_150 ⟨Nat.le_of_ble_eq_true rfl, Nat.le_of_ble_eq_true rfl⟩ (by exact Nat.le_of_ble_eq_true rfl) rfl rfl wG0 (by exact Nat.le_of_ble_eq_true rfl) ?_
          refine x_iconst (v := 3) (k := 34) rfl (by decide) ?_
          refine x_icmp_ge (tgt := 70) (k := 35) rfl (by decide) (fun c63 => ?_) (fun c63 => ?_)
          · refine x_bipush (v := -2) (k := 38) rfl (by decide) ?_
            exact w_irD (k := 39) rfl rfl rfl (by first | (simp [sFeF, *]; done) | (simp_all [sFeF]; done) | simp_all [sFeF, tog, huw, cvd, ix]) rfl
          · refine x_iconst (v := 0) (k := 36) rfl (by decide) ?_
            refine x_goto (tgt := 72) (k := 37) rfl (by decide) ?_
            exact w_irD (k := 39) rfl rfl rfl (by first | (simp [sFeF, *]; done) | (simp_all [sFeF]; done) | simp_all [sFeF, tog, huw, cvd, ix]) rfl
    · replace c12 := bz_eq0 c12
      refine x_iconst (v := -1) (k := 7) rfl (by decide) ?_
      exact w_irD (k := 8) rfl rfl rfl (by first | (simp [sFeF, *]; done) | (simp_all [sFeF]; done) | simp_all [sFeF, tog, huw, cvd, ix]) rfl
theorem c_claimFault {G : xG} {s : xA} {w : Nat} {W : Wd} (hk : hK W) (n : Int32) : wI G MX8_claimFault [.ref w, .int n] s w W (sClF W n) W := by
  refine x_aload_n (k := 0) rfl rfl ?_
  refine x_iload_n (k := 1) rfl rfl ?_
  refine w_callI (ci := 8) (k := 2) rfl (by rfl) (c_isParcel _) okX8_isParcel viX8_isParcel mlRX8_182 ⟨Nat.le_of_ble_eq_true rfl, Nat.le_of_ble_eq_true rfl⟩ (by exact Nat.le_of_ble_eq_true rfl) rfl rfl wG0 (by exact Nat.le_of_ble_eq_true rfl) ?_
  refine x_if_ne (tgt := 10) (k := 3) rfl (by decide) (fun c5 => ?_) (fun c5 => ?_)
  · replace c5 := bz_ne0 c5
    obtain ⟨k, hk1, hk2, rfl⟩ := kP_is hk c5
    have e1 : ix (nI k) = k := clK hk2
    refine x_aload_n (k := 6) rfl rfl ?_
    refine w_get (k := 7) rfl flRX8_41 (by decide) ?_
    refine x_aload_n (k := 8) rfl rfl ?_
    refine w_getK (k := 9) rfl flRX8_25 ?_
    refine x_iload_n (k := 10) rfl rfl ?_
    refine w_atK (k := 11) rfl rfl (by first | assumption | omega) ?_
    refine w_fK (k := 12) rfl flRX8_172 (by first | assumption | omega) (by decide) ?_
    refine x_isub (k := 13) rfl ?_
    refine x_bipush (v := 10) (k := 14) rfl (by decide) ?_
    refine x_icmp_lt (tgt := 33) (k := 15) rfl (by decide) (fun c26 => ?_) (fun c26 => ?_)
    · refine x_iconst (v := 0) (k := 18) rfl (by decide) ?_
      refine x_istore_n (k := 19) rfl (by decide) ?_
      refine x_aload_n (k := 20) rfl rfl ?_
      refine x_iload_n (k := 21) rfl rfl ?_
      refine w_callI (ci := 8) (k := 22) rfl (by rfl) (c_isCoveredNow hk2) okX8_isCoveredNow viX8_isCoveredNow mlRX8_224 ⟨Nat.le_of_ble_eq_true rfl, Nat.le_of_ble_eq_true rfl⟩ (by exact Nat.le_of_ble_eq_true rfl) rfl rfl wG0 (by exact Nat.le_of_ble_eq_true rfl) ?_
      refine x_if_eq (tgt := 51) (k := 23) rfl (by decide) (fun c40 => ?_) (fun c40 => ?_)
      · replace c40 := bz_eq0 c40
        refine x_bipush (v := -2) (k := 28) rfl (by decide) ?_
        exact w_irD (k := 29) rfl rfl rfl (by first | (simp [sClF, *]; done) | (simp_all [sClF]; done) | simp_all [sClF, tog, huw, cvd, ix]) rfl
      · replace c40 := bz_ne0 c40
        refine x_iload_n (k := 24) rfl rfl ?_
        refine x_if_eq (tgt := 51) (k := 25) rfl (by decide) (fun c44 => ?_) (fun c44 => absurd c44 (by decide))
        refine x_bipush (v := -2) (k := 28) rfl (by decide) ?_
        exact w_irD (k := 29) rfl rfl rfl (by first | (simp [sClF, *]; done) | (simp_all [sClF]; done) | simp_all [sClF, tog, huw, cvd, ix]) rfl
    · refine x_iconst (v := 1) (k := 16) rfl (by decide) ?_
      refine x_goto (tgt := 34) (k := 17) rfl (by decide) ?_
      refine x_istore_n (k := 19) rfl (by decide) ?_
      refine x_aload_n (k := 20) rfl rfl ?_
      refine x_iload_n (k := 21) rfl rfl ?_
      refine w_callI (ci := 8) (k := 22) rfl (by rfl) (c_isCoveredNow hk2) okX8_isCoveredNow viX8_isCoveredNow mlRX8_224 ⟨Nat.le_of_ble_eq_true rfl, Nat.le_of_ble_eq_true rfl⟩ (by exact Nat.le_of_ble_eq_true rfl) rfl rfl wG0 (by exact Nat.le_of_ble_eq_true rfl) ?_
      refine x_if_eq (tgt := 51) (k := 23) rfl (by decide) (fun c40 => ?_) (fun c40 => ?_)
      · replace c40 := bz_eq0 c40
        refine x_bipush (v := -2) (k := 28) rfl (by decide) ?_
        exact w_irD (k := 29) rfl rfl rfl (by first | (simp [sClF, *]; done) | (simp_all [sClF]; done) | simp_all [sClF, tog, huw, cvd, ix]) rfl
      · replace c40 := bz_ne0 c40
        refine x_iload_n (k := 24) rfl rfl ?_
        refine x_if_eq (tgt := 51) (k := 25) rfl (by decide) (fun c44 => absurd c44 (by decide)) (fun c44 => ?_)
        refine x_iconst (v := 0) (k := 26) rfl (by decide) ?_
        refine x_goto (tgt := 53) (k := 27) rfl (by decide) ?_
        exact w_irD (k := 29) rfl rfl rfl (by first | (simp [sClF, *]; done) | (simp_all [sClF]; done) | simp_all [sClF, tog, huw, cvd, ix]) rfl
  · replace c5 := bz_eq0 c5
    refine x_iconst (v := -1) (k := 4) rfl (by decide) ?_
    exact w_irD (k := 5) rfl rfl rfl (by first | (simp [sClF, *]; done) | (simp_all [sClF]; done) | simp_all [sClF, tog, huw, cvd, ix]) rfl
theorem c_fundPays {G : xG} {s : xA} {w : Nat} {W : Wd} {k : Nat} (hk : k < 10) (ht : ∃ q : Nat, q < 4 ∧ W 2 k 4 = nI q) : wI G MX8_fundPays [.ref w, .int (nI k)] s w W (sFund W k) W := by
  obtain ⟨q, hq, eq⟩ := ht
  refine x_aload_n (k := 0) rfl rfl ?_
  refine w_getK (k := 1) rfl flRX8_25 ?_
  refine x_iload_n (k := 2) rfl rfl ?_
  refine w_atK (k := 3) rfl rfl (by first | assumption | omega) ?_
  refine w_fK (k := 4) rfl flRX8_162 (by first | assumption | omega) (by decide) ?_
  refine x_cover (k := 5) rfl rfl ?_
  refine x_aload_n (k := 6) rfl rfl ?_
  refine w_getK (k := 7) rfl flRX8_25 ?_
  refine x_iload_n (k := 8) rfl rfl ?_
  refine w_atK (k := 9) rfl rfl (by first | assumption | omega) ?_
  refine w_fK (k := 10) rfl flRX8_165 (by first | assumption | omega) (by decide) ?_
  refine w_cover (k := 11) rfl eq hq ?_
  refine x_min (k := 12) rfl mlRX8_216 wMin1 wMin2 wMin3 (by exact Nat.le_of_ble_eq_true rfl) (by exact Nat.le_of_ble_eq_true rfl) ?_
  refine x_istore_n (k := 13) rfl (by decide) ?_
  refine x_iload_n (k := 14) rfl rfl ?_
  refine x_aload_n (k := 15) rfl rfl ?_
  refine w_get (k := 16) rfl flRX8_45 (by decide) ?_
  refine x_min (k := 17) rfl mlRX8_216 wMin1 wMin2 wMin3 (by exact Nat.le_of_ble_eq_true rfl) (by exact Nat.le_of_ble_eq_true rfl) ?_
  exact w_irD (k := 18) rfl rfl rfl (by rw [sFund, eq, ix, nI_clamp (by omega)]; rfl) rfl
theorem c_missing {G : xG} {s : xA} {w : Nat} {W : Wd} {k : Nat} (hk : k < 10) (ht : ∃ q : Nat, q < 4 ∧ W 2 k 4 = nI q) : wI G MX8_missing [.ref w, .int (nI k)] s w W (sMiss W k) W := by
  refine x_aload_n (k := 0) rfl rfl ?_
  refine w_getK (k := 1) rfl flRX8_25 ?_
  refine x_iload_n (k := 2) rfl rfl ?_
  refine w_atK (k := 3) rfl rfl (by first | assumption | omega) ?_
  refine w_fK (k := 4) rfl flRX8_162 (by first | assumption | omega) (by decide) ?_
  refine x_aload_n (k := 5) rfl rfl ?_
  refine x_iload_n (k := 6) rfl rfl ?_
  refine w_callI (ci := 8) (k := 7) rfl (by rfl) (c_fundPays hk ht) okX8_fundPays viX8_fundPays mlRX8_230 ⟨Nat.le_of_ble_eq_true rfl, Nat.le_of_ble_eq_true rfl⟩ (by exact Nat.le_of_ble_eq_true rfl) rfl rfl wG0 (by exact Nat.le_of_ble_eq_true rfl) ?_
  refine x_isub (k := 8) rfl ?_
  exact w_irD (k := 9) rfl rfl rfl rfl rfl
theorem c_holderPays {G : xG} {s : xA} {w : Nat} {W : Wd} {k : Nat} (hk : k < 10) (ht : ∃ q : Nat, q < 4 ∧ W 2 k 4 = nI q) (hh : W 2 k 6 < 10 → isP (W 2 k 6)) : wI G MX8_holderPays [.ref w, .int (nI k)] s w W (sHoP W k) W := by
  refine x_aload_n (k := 0) rfl rfl ?_
  refine w_getK (k := 1) rfl flRX8_25 ?_
  refine x_iload_n (k := 2) rfl rfl ?_
  refine w_atK (k := 3) rfl rfl (by first | assumption | omega) ?_
  refine x_astore_n (k := 4) rfl (by decide) ?_
  refine x_aload_n (k := 5) rfl rfl ?_
  refine w_fK (k := 6) rfl flRX8_76 (by first | assumption | omega) (by decide) ?_
  refine x_bipush (v := 10) (k := 7) rfl (by decide) ?_
  refine x_icmp_lt (tgt := 18) (k := 8) rfl (by decide) (fun c13 => ?_) (fun c13 => ?_)
  · obtain ⟨p, hp, ep⟩ := hh c13
    have e2 : ix (nI p) = p := clP hp
    refine x_aload_n (k := 11) rfl rfl ?_
    refine x_iload_n (k := 12) rfl rfl ?_
    refine w_callI (ci := 8) (k := 13) rfl (by rfl) (c_missing hk ht) okX8_missing viX8_missing mlRX8_233 ⟨Nat.le_of_ble_eq_true rfl, Nat.le_of_ble_eq_true rfl⟩ (by exact Nat.le_of_ble_eq_true rfl) rfl rfl wG0 (by exact Nat.le_of_ble_eq_true rfl) ?_
    refine x_istore_n (k := 14) rfl (by decide) ?_
    refine x_aload_n (k := 15) rfl rfl ?_
    refine w_fK (k := 16) rfl flRX8_191 (by first | assumption | omega) (by decide) ?_
    refine x_bipush (v := -9) (k := 17) rfl (by decide) ?_
    refine x_icmp_ne (tgt := 37) (k := 18) rfl (by decide) (fun c30 => ?_) (fun c30 => ?_)
    · refine x_iload_n (k := 21) rfl rfl ?_
      refine x_iload_n (k := 22) rfl rfl ?_
      refine x_iconst (v := 2) (k := 23) rfl (by decide) ?_
      refine x_idiv (k := 24) rfl (by decide) ?_
      refine x_isub (k := 25) rfl ?_
      refine x_istore (k := 26) rfl (by decide) ?_
      refine x_iload (k := 27) rfl rfl ?_
      refine x_aload_n (k := 28) rfl rfl ?_
      refine w_getP (k := 29) rfl flRX8_11 ?_
      refine x_aload_n (k := 30) rfl rfl ?_
      refine w_fK (k := 31) rfl flRX8_76 (by first | assumption | omega) (by decide) ?_
      refine w_atP (k := 32) rfl ep hp ?_
      refine w_fP (k := 33) rfl flRX8_236 (by first | assumption | omega) (by decide) ?_
      refine x_min (k := 34) rfl mlRX8_216 wMin1 wMin2 wMin3 (by exact Nat.le_of_ble_eq_true rfl) (by exact Nat.le_of_ble_eq_true rfl) ?_
      exact w_irD (k := 35) rfl rfl rfl (by first | rw [sHoP, if_pos (Int32.not_lt.mp c13)] | (rw [sHoP, if_neg (Int32.not_le.mpr c13), if_neg c30, ep, e2]; rfl) | (rw [sHoP, if_neg (Int32.not_le.mpr c13), if_pos c30, ep, e2]; rfl)) rfl
    · refine x_iload_n (k := 19) rfl rfl ?_
      refine x_goto (tgt := 42) (k := 20) rfl (by decide) ?_
      refine x_istore (k := 26) rfl (by decide) ?_
      refine x_iload (k := 27) rfl rfl ?_
      refine x_aload_n (k := 28) rfl rfl ?_
      refine w_getP (k := 29) rfl flRX8_11 ?_
      refine x_aload_n (k := 30) rfl rfl ?_
      refine w_fK (k := 31) rfl flRX8_76 (by first | assumption | omega) (by decide) ?_
      refine w_atP (k := 32) rfl ep hp ?_
      refine w_fP (k := 33) rfl flRX8_236 (by first | assumption | omega) (by decide) ?_
      refine x_min (k := 34) rfl mlRX8_216 wMin1 wMin2 wMin3 (by exact Nat.le_of_ble_eq_true rfl) (by exact Nat.le_of_ble_eq_true rfl) ?_
      exact w_irD (k := 35) rfl rfl rfl (by first | rw [sHoP, if_pos (Int32.not_lt.mp c13)] | (rw [sHoP, if_neg (Int32.not_le.mpr c13), if_neg c30, ep, e2]; rfl) | (rw [sHoP, if_neg (Int32.not_le.mpr c13), if_pos c30, ep, e2]; rfl)) rfl
  · refine x_iconst (v := 0) (k := 9) rfl (by decide) ?_
    exact w_irD (k := 10) rfl rfl rfl (by first | rw [sHoP, if_pos (Int32.not_lt.mp c13)] | (rw [sHoP, if_neg (Int32.not_le.mpr c13), if_neg c30, ep, e2]; rfl) | (rw [sHoP, if_neg (Int32.not_le.mpr c13), if_pos c30, ep, e2]; rfl)) rfl
theorem c_namedPays {G : xG} {s : xA} {w : Nat} {W : Wd} {k : Nat} (hk : k < 10) (ht : ∃ q : Nat, q < 4 ∧ W 2 k 4 = nI q) (hh : ¬ W 2 k 8 = -9 → isP (W 2 k 8)) : wI G MX8_namedPays [.ref w, .int (nI k)] s w W (sNaP W k) W := by
  refine x_aload_n (k := 0) rfl rfl ?_
  refine w_getK (k := 1) rfl flRX8_25 ?_
  refine x_iload_n (k := 2) rfl rfl ?_
  refine w_atK (k := 3) rfl rfl (by first | assumption | omega) ?_
  refine w_fK (k := 4) rfl flRX8_191 (by first | assumption | omega) (by decide) ?_
  refine x_istore_n (k := 5) rfl (by decide) ?_
  refine x_iload_n (k := 6) rfl rfl ?_
  refine x_bipush (v := -9) (k := 7) rfl (by decide) ?_
  refine x_icmp_ne (tgt := 20) (k := 8) rfl (by decide) (fun c13 => ?_) (fun c13 => ?_)
  · obtain ⟨p, hp, ep⟩ := hh c13
    have e2 : ix (nI p) = p := clP hp
    refine x_aload_n (k := 11) rfl rfl ?_
    refine x_iload_n (k := 12) rfl rfl ?_
    refine w_callI (ci := 8) (k := 13) rfl (by rfl) (c_missing hk ht) okX8_missing viX8_missing mlRX8_233 ⟨Nat.le_of_ble_eq_true rfl, Nat.le_of_ble_eq_true rfl⟩ (by exact Nat.le_of_ble_eq_true rfl) rfl rfl wG0 (by exact Nat.le_of_ble_eq_true rfl) ?_
    refine x_iconst (v := 2) (k := 14) rfl (by decide) ?_
    refine x_idiv (k := 15) rfl (by decide) ?_
    refine x_aload_n (k := 16) rfl rfl ?_
    refine w_getP (k := 17) rfl flRX8_11 ?_
    refine x_iload_n (k := 18) rfl rfl ?_
    refine w_atP (k := 19) rfl ep hp ?_
    refine w_fP (k := 20) rfl flRX8_236 (by first | assumption | omega) (by decide) ?_
    refine x_min (k := 21) rfl mlRX8_216 wMin1 wMin2 wMin3 (by exact Nat.le_of_ble_eq_true rfl) (by exact Nat.le_of_ble_eq_true rfl) ?_
    exact w_irD (k := 22) rfl rfl rfl (by first | rw [sNaP, if_pos c13] | (rw [sNaP, if_neg c13, ep, e2]; rfl)) rfl
  · refine x_iconst (v := 0) (k := 9) rfl (by decide) ?_
    refine x_goto (tgt := 39) (k := 10) rfl (by decide) ?_
    exact w_irD (k := 22) rfl rfl rfl (by first | rw [sNaP, if_pos c13] | (rw [sNaP, if_neg c13, ep, e2]; rfl)) rfl
