-- ===== the law's own methods: persons, parcels, trips are right =====
section ARE
variable {G : xG} {t : xA} {own : Nat → Nat} {a B hr f nt nk sz : Nat} {D : OD} {Q : Option Value → xA → Prop}
theorem p_on (hG : Gd hr f nt nk D.1.1) {p : Nat} (hp : p < 8) (z : ¬ D.1.1 0 p 3 = -9) : ∃ u, u < nt ∧ D.1.1 0 p 3 = nI u ∧ D.1.1 0 p 2 = -9 := by
  rcases (hG.2.1 p hp).1 with ⟨e2, u, hu, e3⟩ | ⟨-, e3⟩
  · exact ⟨u, hu, e3, e2⟩
  · exact absurd e3 z
theorem p_in (hG : Gd hr f nt nk D.1.1) {p : Nat} (hp : p < 8) (z : D.1.1 0 p 3 = -9) : ¬ D.1.1 0 p 2 < 0 := by
  rcases (hG.2.1 p hp).1 with ⟨e2, u, hu, e3⟩ | ⟨e2, -⟩
  · have hb := hG.1.1
    exact absurd (show nI u < 0 by rw [← e3, z]; decide) (nI_pos (by omega))
  · obtain ⟨y, hy, e⟩ := e2
    rw [e]
    exact nI_pos (by omega)
theorem l_per1 (h : Ob G t own a D) (hJ : IvD B D) {p : Nat} (kk : xE G ML_arePersons 88 [(0, .ref a), (1, .int (ccTo D.1.1 p)), (2, .int (fsTo D.1.1 p)), (3, .int 1), (4, .int (nI p)), (5, .int (hbTo D.1.1 (nI p) (cK D.1.1))), (6, .int (nI (cK D.1.1)))] [] t Q) : ∀ d i, i + d = cK D.1.1 → xE G ML_arePersons 39 [(0, .ref a), (1, .int (ccTo D.1.1 p)), (2, .int (fsTo D.1.1 p)), (3, .int 1), (4, .int (nI p)), (5, .int (hbTo D.1.1 (nI p) i)), (6, .int (nI i))] [] t Q
  | 0, i, hd => by
    obtain rfl : cK D.1.1 = i := hd.symm
    refine x_iload (k := 23) rfl rfl ?_
    refine x_aload_n (k := 24) rfl rfl ?_
    refine x_iconst (v := 5) (k := 25) rfl (by decide) ?_
    refine x_cVI (ci := 9) (k := 26) rfl (by rfl) (g_c5 h) okX9_count viX9_count mlRL_13 ⟨Nat.le_of_ble_eq_true rfl, Nat.le_of_ble_eq_true rfl⟩ (by exact Nat.le_of_ble_eq_true rfl) rfl rfl h.1.1 (by exact Nat.le_of_ble_eq_true rfl) ?_
    refine x_icmp_ge (tgt := 88) (k := 27) rfl (by decide) (fun c46 => ?_) (fun c46 => absurd (nI_le (Nat.le_refl _) (by have := h.hK.1; omega)) c46)
    exact kk
  | d + 1, i, hd => by
    refine x_iload (k := 23) rfl rfl ?_
    refine x_aload_n (k := 24) rfl rfl ?_
    refine x_iconst (v := 5) (k := 25) rfl (by decide) ?_
    refine x_cVI (ci := 9) (k := 26) rfl (by rfl) (g_c5 h) okX9_count viX9_count mlRL_13 ⟨Nat.le_of_ble_eq_true rfl, Nat.le_of_ble_eq_true rfl⟩ (by exact Nat.le_of_ble_eq_true rfl) rfl rfl h.1.1 (by exact Nat.le_of_ble_eq_true rfl) ?_
    refine x_icmp_ge (tgt := 88) (k := 27) rfl (by decide) (fun c46 => absurd c46 (nI_ge (by omega) (by have := h.hK.1; omega))) (fun c46 => ?_)
    refine x_iload (k := 28) rfl rfl ?_
    refine x_aload_n (k := 29) rfl rfl ?_
    refine x_iload (k := 30) rfl rfl ?_
    refine x_iconst (v := 5) (k := 31) rfl (by decide) ?_
    refine x_cVI (ci := 9) (k := 32) rfl (by rfl) (g_par h hJ (k := i) (q := 5) (by omega) (by decide)) okX9_parcel viX9_parcel mlRL_26 ⟨Nat.le_of_ble_eq_true rfl, Nat.le_of_ble_eq_true rfl⟩ (by exact Nat.le_of_ble_eq_true rfl) rfl rfl h.1.1 (by exact Nat.le_of_ble_eq_true rfl) ?_
    refine x_if_ne (tgt := 78) (k := 33) rfl (by decide) (fun c58 => ?_) (fun c58 => ?_)
    · refine x_iconst (v := 0) (k := 42) rfl (by decide) ?_
      refine x_iadd (k := 43) rfl ?_
      refine x_istore (k := 44) rfl (by decide) ?_
      refine x_iinc (k := 45) rfl rfl (nI_1 i) (by decide) ?_
      refine x_goto (tgt := 39) (k := 46) rfl (by decide) ?_
      have k := l_per1 h hJ kk d (i + 1) (by omega)
      first | (rw [hbTo, if_pos ⟨c58, c71⟩] at k; exact k) | (rw [hbTo, if_neg (fun z => c58 z.1), ← Int32.add_zero (hbTo D.1.1 (nI p) i)] at k; exact k) | (rw [hbTo, if_neg (fun z => c71 z.2), ← Int32.add_zero (hbTo D.1.1 (nI p) i)] at k; exact k)
    · refine x_aload_n (k := 34) rfl rfl ?_
      refine x_iload (k := 35) rfl rfl ?_
      refine x_bipush (v := 6) (k := 36) rfl (by decide) ?_
      refine x_cVI (ci := 9) (k := 37) rfl (by rfl) (g_par h hJ (k := i) (q := 6) (by omega) (by decide)) okX9_parcel viX9_parcel mlRL_26 ⟨Nat.le_of_ble_eq_true rfl, Nat.le_of_ble_eq_true rfl⟩ (by exact Nat.le_of_ble_eq_true rfl) rfl rfl h.1.1 (by exact Nat.le_of_ble_eq_true rfl) ?_
      refine x_iload (k := 38) rfl rfl ?_
      refine x_icmp_ne (tgt := 78) (k := 39) rfl (by decide) (fun c71 => ?_) (fun c71 => ?_)
      · refine x_iconst (v := 0) (k := 42) rfl (by decide) ?_
        refine x_iadd (k := 43) rfl ?_
        refine x_istore (k := 44) rfl (by decide) ?_
        refine x_iinc (k := 45) rfl rfl (nI_1 i) (by decide) ?_
        refine x_goto (tgt := 39) (k := 46) rfl (by decide) ?_
        have k := l_per1 h hJ kk d (i + 1) (by omega)
        first | (rw [hbTo, if_pos ⟨c58, c71⟩] at k; exact k) | (rw [hbTo, if_neg (fun z => c58 z.1), ← Int32.add_zero (hbTo D.1.1 (nI p) i)] at k; exact k) | (rw [hbTo, if_neg (fun z => c71 z.2), ← Int32.add_zero (hbTo D.1.1 (nI p) i)] at k; exact k)
      · refine x_iconst (v := 1) (k := 40) rfl (by decide) ?_
        refine x_goto (tgt := 79) (k := 41) rfl (by decide) ?_
        refine x_iadd (k := 43) rfl ?_
        refine x_istore (k := 44) rfl (by decide) ?_
        refine x_iinc (k := 45) rfl rfl (nI_1 i) (by decide) ?_
        refine x_goto (tgt := 39) (k := 46) rfl (by decide) ?_
        have k := l_per1 h hJ kk d (i + 1) (by omega)
        first | (rw [hbTo, if_pos ⟨c58, c71⟩] at k; exact k) | (rw [hbTo, if_neg (fun z => c58 z.1), ← Int32.add_zero (hbTo D.1.1 (nI p) i)] at k; exact k) | (rw [hbTo, if_neg (fun z => c71 z.2), ← Int32.add_zero (hbTo D.1.1 (nI p) i)] at k; exact k)
theorem l_per2 (h : Ob G t own a D) (hJ : IvD B D) (j1 : Jn hr f nt nk sz D.1.1) (kk : xE G ML_arePersons 241 [(0, .ref a), (1, .int (ccTo D.1.1 8)), (2, .int (fsTo D.1.1 8)), (3, .int 1), (4, .int (nI 8))] [] t Q) : ∀ d p, p + d = 8 → xE G ML_arePersons 22 [(0, .ref a), (1, .int (ccTo D.1.1 p)), (2, .int (fsTo D.1.1 p)), (3, .int 1), (4, .int (nI p))] [] t Q
  | 0, p, hd => by
    obtain rfl : 8 = p := hd.symm
    refine x_iload (k := 14) rfl rfl ?_
    refine x_bipush (v := 8) (k := 15) rfl (by decide) ?_
    refine x_icmp_ge (tgt := 241) (k := 16) rfl (by decide) (fun c26 => ?_) (fun c26 => absurd (nI_le (a := 8) (b := 8) (by decide) (by decide)) c26)
    exact kk
  | d + 1, p, hd => by
    have hp : p < 8 := by omega
    have hG := j1.1
    have hM := j1.2.2.1
    have hP := j1.2.2.2.1.1 p hp
    refine x_iload (k := 14) rfl rfl ?_
    refine x_bipush (v := 8) (k := 15) rfl (by decide) ?_
    refine x_icmp_ge (tgt := 241) (k := 16) rfl (by decide) (fun c26 => absurd c26 (nI_ge (b := 8) (by omega) (by decide))) (fun c26 => ?_)
    refine x_iload_n (k := 17) rfl rfl ?_
    refine x_if_eq (tgt := 241) (k := 18) rfl (by decide) (fun c30 => absurd c30 (by decide)) (fun c30 => ?_)
    refine x_iconst (v := 0) (k := 19) rfl (by decide) ?_
    refine x_istore (k := 20) rfl (by decide) ?_
    refine x_iconst (v := 0) (k := 21) rfl (by decide) ?_
    refine x_istore (k := 22) rfl (by decide) ?_
    refine l_per1 h hJ (p := p) ?_ (cK D.1.1) 0 (Nat.zero_add _)
    refine x_aload_n (k := 47) rfl rfl ?_
    refine x_iload (k := 48) rfl rfl ?_
    refine x_iconst (v := 3) (k := 49) rfl (by decide) ?_
    refine x_cVI (ci := 9) (k := 50) rfl (by rfl) (c_person h (p := p) (q := 3) hp (by decide)) okX9_person viX9_person mlRL_19 ⟨Nat.le_of_ble_eq_true rfl, Nat.le_of_ble_eq_true rfl⟩ (by exact Nat.le_of_ble_eq_true rfl) rfl rfl h.1.1 (by exact Nat.le_of_ble_eq_true rfl) ?_
    refine x_istore (k := 51) rfl (by decide) ?_
    refine x_aload_n (k := 52) rfl rfl ?_
    refine x_iload (k := 53) rfl rfl ?_
    refine x_iconst (v := 0) (k := 54) rfl (by decide) ?_
    refine x_cVI (ci := 9) (k := 55) rfl (by rfl) (c_person h (p := p) (q := 0) hp (by decide)) okX9_person viX9_person mlRL_19 ⟨Nat.le_of_ble_eq_true rfl, Nat.le_of_ble_eq_true rfl⟩ (by exact Nat.le_of_ble_eq_true rfl) rfl rfl h.1.1 (by exact Nat.le_of_ble_eq_true rfl) ?_
    refine x_if_lt (tgt := 139) (k := 56) rfl (by decide) (fun c104 => absurd c104 (hM.nn hp).1) (fun c104 => ?_)
    refine x_aload_n (k := 57) rfl rfl ?_
    refine x_iload (k := 58) rfl rfl ?_
    refine x_iconst (v := 1) (k := 59) rfl (by decide) ?_
    refine x_cVI (ci := 9) (k := 60) rfl (by rfl) (c_person h (p := p) (q := 1) hp (by decide)) okX9_person viX9_person mlRL_19 ⟨Nat.le_of_ble_eq_true rfl, Nat.le_of_ble_eq_true rfl⟩ (by exact Nat.le_of_ble_eq_true rfl) rfl rfl h.1.1 (by exact Nat.le_of_ble_eq_true rfl) ?_
    refine x_if_lt (tgt := 139) (k := 61) rfl (by decide) (fun c114 => absurd c114 (hM.nn hp).2) (fun c114 => ?_)
    refine x_iload (k := 62) rfl rfl ?_
    refine x_aload_n (k := 63) rfl rfl ?_
    refine x_iload (k := 64) rfl rfl ?_
    refine x_iconst (v := 4) (k := 65) rfl (by decide) ?_
    refine x_cVI (ci := 9) (k := 66) rfl (by rfl) (c_person h (p := p) (q := 4) hp (by decide)) okX9_person viX9_person mlRL_19 ⟨Nat.le_of_ble_eq_true rfl, Nat.le_of_ble_eq_true rfl⟩ (by exact Nat.le_of_ble_eq_true rfl) rfl rfl h.1.1 (by exact Nat.le_of_ble_eq_true rfl) ?_
    refine x_icmp_ne (tgt := 139) (k := 67) rfl (by decide) (fun c126 => absurd rfl c126) (fun c126 => ?_)
    refine x_iload (k := 68) rfl rfl ?_
    refine x_iconst (v := 3) (k := 69) rfl (by decide) ?_
    refine x_icmp_gt (tgt := 139) (k := 70) rfl (by decide) (fun c132 => absurd c132 (Int32.not_lt.mpr (hG.h3 (nI p)))) (fun c132 => ?_)
    refine x_iconst (v := 1) (k := 71) rfl (by decide) ?_
    refine x_goto (tgt := 140) (k := 72) rfl (by decide) ?_
    refine x_istore_n (k := 74) rfl (by decide) ?_
    refine x_iload_n (k := 75) rfl rfl ?_
    refine x_if_eq (tgt := 205) (k := 76) rfl (by decide) (fun c142 => absurd c142 (by decide)) (fun c142 => ?_)
    refine x_iload (k := 77) rfl rfl ?_
    refine x_bipush (v := -9) (k := 78) rfl (by decide) ?_
    refine x_icmp_ne (tgt := 165) (k := 79) rfl (by decide) (fun c149 => ?_) (fun c149 => ?_)
    · obtain ⟨u, hu, eu, e2⟩ := p_on hG hp c149
      have hq := hP u hu eu
      refine x_aload_n (k := 86) rfl rfl ?_
      refine x_iload (k := 87) rfl rfl ?_
      refine x_iconst (v := 2) (k := 88) rfl (by decide) ?_
      refine x_cVI (ci := 9) (k := 89) rfl (by rfl) (c_person h (p := p) (q := 2) hp (by decide)) okX9_person viX9_person mlRL_19 ⟨Nat.le_of_ble_eq_true rfl, Nat.le_of_ble_eq_true rfl⟩ (by exact Nat.le_of_ble_eq_true rfl) rfl rfl h.1.1 (by exact Nat.le_of_ble_eq_true rfl) ?_
      refine x_bipush (v := -9) (k := 90) rfl (by decide) ?_
      refine x_icmp_ne (tgt := 205) (k := 91) rfl (by decide) (fun c174 => absurd e2 c174) (fun c174 => ?_)
      rw [show sPer D.1.1 p 3 = nI u from eu]
      refine x_aload_n (k := 92) rfl rfl ?_
      refine x_iload (k := 93) rfl rfl ?_
      refine x_bipush (v := 6) (k := 94) rfl (by decide) ?_
      refine x_cVI (ci := 9) (k := 95) rfl (by rfl) (g_trip h (n := u) (q := 6) (by rw [hG.cT]; exact hu) (by decide)) okX9_trip viX9_trip mlRL_23 ⟨Nat.le_of_ble_eq_true rfl, Nat.le_of_ble_eq_true rfl⟩ (by exact Nat.le_of_ble_eq_true rfl) rfl rfl h.1.1 (by exact Nat.le_of_ble_eq_true rfl) ?_
      refine x_iconst (v := 1) (k := 96) rfl (by decide) ?_
      refine x_icmp_ne (tgt := 205) (k := 97) rfl (by decide) (fun c186 => absurd hq.1 c186) (fun c186 => ?_)
      refine x_aload_n (k := 98) rfl rfl ?_
      refine x_iload (k := 99) rfl rfl ?_
      refine x_iconst (v := 0) (k := 100) rfl (by decide) ?_
      refine x_cVI (ci := 9) (k := 101) rfl (by rfl) (g_trip h (n := u) (q := 0) (by rw [hG.cT]; exact hu) (by decide)) okX9_trip viX9_trip mlRL_23 ⟨Nat.le_of_ble_eq_true rfl, Nat.le_of_ble_eq_true rfl⟩ (by exact Nat.le_of_ble_eq_true rfl) rfl rfl h.1.1 (by exact Nat.le_of_ble_eq_true rfl) ?_
      refine x_iload (k := 102) rfl rfl ?_
      refine x_icmp_ne (tgt := 205) (k := 103) rfl (by decide) (fun c198 => absurd hq.2 c198) (fun c198 => ?_)
      refine x_iconst (v := 1) (k := 104) rfl (by decide) ?_
      refine x_goto (tgt := 206) (k := 105) rfl (by decide) ?_
      refine x_istore_n (k := 107) rfl (by decide) ?_
      refine x_iload_n (k := 108) rfl rfl ?_
      refine x_aload_n (k := 109) rfl rfl ?_
      refine x_iload (k := 110) rfl rfl ?_
      refine x_iconst (v := 0) (k := 111) rfl (by decide) ?_
      refine x_cVI (ci := 9) (k := 112) rfl (by rfl) (c_person h (p := p) (q := 0) hp (by decide)) okX9_person viX9_person mlRL_19 ⟨Nat.le_of_ble_eq_true rfl, Nat.le_of_ble_eq_true rfl⟩ (by exact Nat.le_of_ble_eq_true rfl) rfl rfl h.1.1 (by exact Nat.le_of_ble_eq_true rfl) ?_
      refine x_aload_n (k := 113) rfl rfl ?_
      refine x_iload (k := 114) rfl rfl ?_
      refine x_iconst (v := 1) (k := 115) rfl (by decide) ?_
      refine x_cVI (ci := 9) (k := 116) rfl (by rfl) (c_person h (p := p) (q := 1) hp (by decide)) okX9_person viX9_person mlRL_19 ⟨Nat.le_of_ble_eq_true rfl, Nat.le_of_ble_eq_true rfl⟩ (by exact Nat.le_of_ble_eq_true rfl) rfl rfl h.1.1 (by exact Nat.le_of_ble_eq_true rfl) ?_
      refine x_iadd (k := 117) rfl ?_
      refine x_iadd (k := 118) rfl ?_
      refine x_istore_n (k := 119) rfl (by decide) ?_
      refine x_iload_n (k := 120) rfl rfl ?_
      refine x_aload_n (k := 121) rfl rfl ?_
      refine x_iload (k := 122) rfl rfl ?_
      refine x_iconst (v := 5) (k := 123) rfl (by decide) ?_
      refine x_cVI (ci := 9) (k := 124) rfl (by rfl) (c_person h (p := p) (q := 5) hp (by decide)) okX9_person viX9_person mlRL_19 ⟨Nat.le_of_ble_eq_true rfl, Nat.le_of_ble_eq_true rfl⟩ (by exact Nat.le_of_ble_eq_true rfl) rfl rfl h.1.1 (by exact Nat.le_of_ble_eq_true rfl) ?_
      refine x_iadd (k := 125) rfl ?_
      refine x_istore_n (k := 126) rfl (by decide) ?_
      refine x_sub (ls' := [(0, .ref a), (1, .int _), (2, .int _), (3, .int 1), (4, .int (nI p))]) (by intro q hq; simp only [List.mem_cons, List.not_mem_nil, or_false] at hq; rcases hq with rfl | rfl | rfl | rfl | rfl <;> rfl) ?_
      refine x_iinc (k := 127) rfl rfl (nI_1 p) (by decide) ?_
      refine x_goto (tgt := 22) (k := 128) rfl (by decide) ?_
      exact l_per2 h hJ j1 kk d (p + 1) (by omega)
    · refine x_aload_n (k := 80) rfl rfl ?_
      refine x_iload (k := 81) rfl rfl ?_
      refine x_iconst (v := 2) (k := 82) rfl (by decide) ?_
      refine x_cVI (ci := 9) (k := 83) rfl (by rfl) (c_person h (p := p) (q := 2) hp (by decide)) okX9_person viX9_person mlRL_19 ⟨Nat.le_of_ble_eq_true rfl, Nat.le_of_ble_eq_true rfl⟩ (by exact Nat.le_of_ble_eq_true rfl) rfl rfl h.1.1 (by exact Nat.le_of_ble_eq_true rfl) ?_
      refine x_if_lt (tgt := 205) (k := 84) rfl (by decide) (fun c159 => absurd c159 (p_in hG hp c149)) (fun c159 => ?_)
      refine x_goto (tgt := 201) (k := 85) rfl (by decide) ?_
      refine x_iconst (v := 1) (k := 104) rfl (by decide) ?_
      refine x_goto (tgt := 206) (k := 105) rfl (by decide) ?_
      refine x_istore_n (k := 107) rfl (by decide) ?_
      refine x_iload_n (k := 108) rfl rfl ?_
      refine x_aload_n (k := 109) rfl rfl ?_
      refine x_iload (k := 110) rfl rfl ?_
      refine x_iconst (v := 0) (k := 111) rfl (by decide) ?_
      refine x_cVI (ci := 9) (k := 112) rfl (by rfl) (c_person h (p := p) (q := 0) hp (by decide)) okX9_person viX9_person mlRL_19 ⟨Nat.le_of_ble_eq_true rfl, Nat.le_of_ble_eq_true rfl⟩ (by exact Nat.le_of_ble_eq_true rfl) rfl rfl h.1.1 (by exact Nat.le_of_ble_eq_true rfl) ?_
      refine x_aload_n (k := 113) rfl rfl ?_
      refine x_iload (k := 114) rfl rfl ?_
      refine x_iconst (v := 1) (k := 115) rfl (by decide) ?_
      refine x_cVI (ci := 9) (k := 116) rfl (by rfl) (c_person h (p := p) (q := 1) hp (by decide)) okX9_person viX9_person mlRL_19 ⟨Nat.le_of_ble_eq_true rfl, Nat.le_of_ble_eq_true rfl⟩ (by exact Nat.le_of_ble_eq_true rfl) rfl rfl h.1.1 (by exact Nat.le_of_ble_eq_true rfl) ?_
      refine x_iadd (k := 117) rfl ?_
      refine x_iadd (k := 118) rfl ?_
      refine x_istore_n (k := 119) rfl (by decide) ?_
      refine x_iload_n (k := 120) rfl rfl ?_
      refine x_aload_n (k := 121) rfl rfl ?_
      refine x_iload (k := 122) rfl rfl ?_
      refine x_iconst (v := 5) (k := 123) rfl (by decide) ?_
      refine x_cVI (ci := 9) (k := 124) rfl (by rfl) (c_person h (p := p) (q := 5) hp (by decide)) okX9_person viX9_person mlRL_19 ⟨Nat.le_of_ble_eq_true rfl, Nat.le_of_ble_eq_true rfl⟩ (by exact Nat.le_of_ble_eq_true rfl) rfl rfl h.1.1 (by exact Nat.le_of_ble_eq_true rfl) ?_
      refine x_iadd (k := 125) rfl ?_
      refine x_istore_n (k := 126) rfl (by decide) ?_
      refine x_sub (ls' := [(0, .ref a), (1, .int _), (2, .int _), (3, .int 1), (4, .int (nI p))]) (by intro q hq; simp only [List.mem_cons, List.not_mem_nil, or_false] at hq; rcases hq with rfl | rfl | rfl | rfl | rfl <;> rfl) ?_
      refine x_iinc (k := 127) rfl rfl (nI_1 p) (by decide) ?_
      refine x_goto (tgt := 22) (k := 128) rfl (by decide) ?_
      exact l_per2 h hJ j1 kk d (p + 1) (by omega)
theorem c_arePersons (h : Ob G t own a D) (hJ : IvD B D) : xMe G ML_arePersons [.ref a] t (fun r t1 => r = some (.int 1) ∧ t1 = t) := by
  obtain ⟨hr, f, nt, nk, sz, j1, j2⟩ := id hJ.1
  have hG := j1.1
  have hM := j1.2.2.1
  have hb := hG.1.1
  refine x_iconst (v := 0) (k := 0) rfl (by decide) ?_
  refine x_istore_n (k := 1) rfl (by decide) ?_
  refine x_iconst (v := 0) (k := 2) rfl (by decide) ?_
  refine x_istore_n (k := 3) rfl (by decide) ?_
  refine x_aload_n (k := 4) rfl rfl ?_
  refine x_bipush (v := 9) (k := 5) rfl (by decide) ?_
  refine x_cVI (ci := 9) (k := 6) rfl (by rfl) (g_num h (q := 9) (by decide)) okX9_count viX9_count mlRL_13 ⟨Nat.le_of_ble_eq_true rfl, Nat.le_of_ble_eq_true rfl⟩ (by exact Nat.le_of_ble_eq_true rfl) rfl rfl h.1.1 (by exact Nat.le_of_ble_eq_true rfl) ?_
  refine x_if_lt (tgt := 17) (k := 7) rfl (by decide) (fun c10 => absurd c10 (by show ¬ D.1.1 3 0 1 < 0; rw [hG.1.2.2.1]; exact nI_pos (by omega))) (fun c10 => ?_)
  refine x_iconst (v := 1) (k := 8) rfl (by decide) ?_
  refine x_goto (tgt := 18) (k := 9) rfl (by decide) ?_
  refine x_istore_n (k := 11) rfl (by decide) ?_
  refine x_iconst (v := 0) (k := 12) rfl (by decide) ?_
  refine x_istore (k := 13) rfl (by decide) ?_
  refine l_per2 h hJ j1 ?_ 8 0 rfl
  refine x_iload_n (k := 129) rfl rfl ?_
  refine x_if_eq (tgt := 283) (k := 130) rfl (by decide) (fun c242 => absurd c242 (by decide)) (fun c242 => ?_)
  refine x_iload_n (k := 131) rfl rfl ?_
  refine x_aload_n (k := 132) rfl rfl ?_
  refine x_bipush (v := 10) (k := 133) rfl (by decide) ?_
  refine x_cVI (ci := 9) (k := 134) rfl (by rfl) (g_num h (q := 10) (by decide)) okX9_count viX9_count mlRL_13 ⟨Nat.le_of_ble_eq_true rfl, Nat.le_of_ble_eq_true rfl⟩ (by exact Nat.le_of_ble_eq_true rfl) rfl rfl h.1.1 (by exact Nat.le_of_ble_eq_true rfl) ?_
  refine x_icmp_ne (tgt := 283) (k := 135) rfl (by decide) (fun c252 => absurd rfl c252) (fun c252 => ?_)
  refine x_iload_n (k := 136) rfl rfl ?_
  refine x_aload_n (k := 137) rfl rfl ?_
  refine x_bipush (v := 9) (k := 138) rfl (by decide) ?_
  refine x_cVI (ci := 9) (k := 139) rfl (by rfl) (g_num h (q := 9) (by decide)) okX9_count viX9_count mlRL_13 ⟨Nat.le_of_ble_eq_true rfl, Nat.le_of_ble_eq_true rfl⟩ (by exact Nat.le_of_ble_eq_true rfl) rfl rfl h.1.1 (by exact Nat.le_of_ble_eq_true rfl) ?_
  refine x_iadd (k := 140) rfl ?_
  refine x_sipush (v := 1120) (k := 141) rfl (by decide) ?_
  refine x_icmp_ne (tgt := 283) (k := 142) rfl (by decide) (fun c266 => absurd (MF.sum hG hM) c266) (fun c266 => ?_)
  refine x_iload_n (k := 143) rfl rfl ?_
  refine x_aload_n (k := 144) rfl rfl ?_
  refine x_bipush (v := 12) (k := 145) rfl (by decide) ?_
  refine x_cVI (ci := 9) (k := 146) rfl (by rfl) (g_num h (q := 12) (by decide)) okX9_count viX9_count mlRL_13 ⟨Nat.le_of_ble_eq_true rfl, Nat.le_of_ble_eq_true rfl⟩ (by exact Nat.le_of_ble_eq_true rfl) rfl rfl h.1.1 (by exact Nat.le_of_ble_eq_true rfl) ?_
  refine x_icmp_ne (tgt := 283) (k := 147) rfl (by decide) (fun c276 => absurd hM.2 c276) (fun c276 => ?_)
  refine x_iconst (v := 1) (k := 148) rfl (by decide) ?_
  refine x_goto (tgt := 284) (k := 149) rfl (by decide) ?_
  exact x_iret (k := 151) rfl rfl rfl ⟨rfl, rfl⟩
theorem tr_lt (hG : Gd hr f nt nk D.1.1) {n u : Nat} (hn : n < nt) (hu : u < nt) : (D.1.1 1 u 4 ≤ D.1.1 1 n 3 ↔ arN D.1.1 u ≤ lvN D.1.1 n) := by
  obtain ⟨a1, a2, a3, a4⟩ := hG.lv hn
  obtain ⟨b1, b2, b3, b4⟩ := hG.lv hu
  rw [a1, b2, nI_leI (by omega) (by omega)]
theorem l_tri1 (h : Ob G t own a D) (hJ : IvD B D) (j1 : Jn hr f nt nk sz D.1.1) {n : Nat} (hn : n < nt) (kk : xE G ML_areTrips 228 [(0, .ref a), (1, .int 1), (2, .int (nI n)), (3, .int (nI n))] [] t Q) : ∀ d u, u + d = n → xE G ML_areTrips 128 [(0, .ref a), (1, .int 1), (2, .int (nI n)), (3, .int (nI u))] [] t Q
  | 0, u, hd => by
    obtain rfl : n = u := hd.symm
    have hb := j1.1.1.1
    refine x_iload_n (k := 76) rfl rfl ?_
    refine x_iload_n (k := 77) rfl rfl ?_
    refine x_icmp_ge (tgt := 228) (k := 78) rfl (by decide) (fun c130 => ?_) (fun c130 => absurd (nI_le (Nat.le_refl _) (by omega)) c130)
    exact kk
  | d + 1, u, hd => by
    have hG := j1.1
    have hb := hG.1.1
    have hov := j1.2.2.2.1.2.2 n u hn (by omega)
    refine x_iload_n (k := 76) rfl rfl ?_
    refine x_iload_n (k := 77) rfl rfl ?_
    refine x_icmp_ge (tgt := 228) (k := 78) rfl (by decide) (fun c130 => absurd c130 (nI_ge (by omega) (by omega))) (fun c130 => ?_)
    refine x_iload_n (k := 79) rfl rfl ?_
    refine x_if_eq (tgt := 228) (k := 80) rfl (by decide) (fun c134 => absurd c134 (by decide)) (fun c134 => ?_)
    refine x_aload_n (k := 81) rfl rfl ?_
    refine x_iload_n (k := 82) rfl rfl ?_
    refine x_iconst (v := 0) (k := 83) rfl (by decide) ?_
    refine x_cVI (ci := 9) (k := 84) rfl (by rfl) (g_trip h (n := n) (q := 0) (by rw [hG.cT]; omega) (by decide)) okX9_trip viX9_trip mlRL_23 ⟨Nat.le_of_ble_eq_true rfl, Nat.le_of_ble_eq_true rfl⟩ (by exact Nat.le_of_ble_eq_true rfl) rfl rfl h.1.1 (by exact Nat.le_of_ble_eq_true rfl) ?_
    refine x_aload_n (k := 85) rfl rfl ?_
    refine x_iload_n (k := 86) rfl rfl ?_
    refine x_iconst (v := 0) (k := 87) rfl (by decide) ?_
    refine x_cVI (ci := 9) (k := 88) rfl (by rfl) (g_trip h (n := u) (q := 0) (by rw [hG.cT]; omega) (by decide)) okX9_trip viX9_trip mlRL_23 ⟨Nat.le_of_ble_eq_true rfl, Nat.le_of_ble_eq_true rfl⟩ (by exact Nat.le_of_ble_eq_true rfl) rfl rfl h.1.1 (by exact Nat.le_of_ble_eq_true rfl) ?_
    refine x_icmp_ne (tgt := 178) (k := 89) rfl (by decide) (fun c149 => ?_) (fun c149 => ?_)
    · refine x_iconst (v := 0) (k := 104) rfl (by decide) ?_
      refine x_istore (k := 105) rfl (by decide) ?_
      refine x_iload (k := 106) rfl rfl ?_
      refine x_if_eq (tgt := 216) (k := 107) rfl (by decide) (fun c183 => ?_) (fun c183 => absurd c183 (by decide))
      refine x_iconst (v := 1) (k := 126) rfl (by decide) ?_
      refine x_goto (tgt := 221) (k := 127) rfl (by decide) ?_
      refine x_istore_n (k := 129) rfl (by decide) ?_
      refine x_sub (ls' := [(0, .ref a), (1, .int 1), (2, .int (nI n)), (3, .int (nI u))]) (by intro q hq; simp only [List.mem_cons, List.not_mem_nil, or_false] at hq; rcases hq with rfl | rfl | rfl | rfl <;> rfl) ?_
      refine x_iinc (k := 130) rfl rfl (nI_1 u) (by decide) ?_
      refine x_goto (tgt := 128) (k := 131) rfl (by decide) ?_
      exact l_tri1 h hJ j1 hn kk d (u + 1) (by omega)
    · refine x_aload_n (k := 90) rfl rfl ?_
      refine x_iload_n (k := 91) rfl rfl ?_
      refine x_bipush (v := 6) (k := 92) rfl (by decide) ?_
      refine x_cVI (ci := 9) (k := 93) rfl (by rfl) (g_trip h (n := n) (q := 6) (by rw [hG.cT]; omega) (by decide)) okX9_trip viX9_trip mlRL_23 ⟨Nat.le_of_ble_eq_true rfl, Nat.le_of_ble_eq_true rfl⟩ (by exact Nat.le_of_ble_eq_true rfl) rfl rfl h.1.1 (by exact Nat.le_of_ble_eq_true rfl) ?_
      refine x_iconst (v := 3) (k := 94) rfl (by decide) ?_
      refine x_icmp_eq (tgt := 178) (k := 95) rfl (by decide) (fun c160 => ?_) (fun c160 => ?_)
      · refine x_iconst (v := 0) (k := 104) rfl (by decide) ?_
        refine x_istore (k := 105) rfl (by decide) ?_
        refine x_iload (k := 106) rfl rfl ?_
        refine x_if_eq (tgt := 216) (k := 107) rfl (by decide) (fun c183 => ?_) (fun c183 => absurd c183 (by decide))
        refine x_iconst (v := 1) (k := 126) rfl (by decide) ?_
        refine x_goto (tgt := 221) (k := 127) rfl (by decide) ?_
        refine x_istore_n (k := 129) rfl (by decide) ?_
        refine x_sub (ls' := [(0, .ref a), (1, .int 1), (2, .int (nI n)), (3, .int (nI u))]) (by intro q hq; simp only [List.mem_cons, List.not_mem_nil, or_false] at hq; rcases hq with rfl | rfl | rfl | rfl <;> rfl) ?_
        refine x_iinc (k := 130) rfl rfl (nI_1 u) (by decide) ?_
        refine x_goto (tgt := 128) (k := 131) rfl (by decide) ?_
        exact l_tri1 h hJ j1 hn kk d (u + 1) (by omega)
      · refine x_aload_n (k := 96) rfl rfl ?_
        refine x_iload_n (k := 97) rfl rfl ?_
        refine x_bipush (v := 6) (k := 98) rfl (by decide) ?_
        refine x_cVI (ci := 9) (k := 99) rfl (by rfl) (g_trip h (n := u) (q := 6) (by rw [hG.cT]; omega) (by decide)) okX9_trip viX9_trip mlRL_23 ⟨Nat.le_of_ble_eq_true rfl, Nat.le_of_ble_eq_true rfl⟩ (by exact Nat.le_of_ble_eq_true rfl) rfl rfl h.1.1 (by exact Nat.le_of_ble_eq_true rfl) ?_
        refine x_iconst (v := 3) (k := 100) rfl (by decide) ?_
        refine x_icmp_eq (tgt := 178) (k := 101) rfl (by decide) (fun c171 => ?_) (fun c171 => ?_)
        · refine x_iconst (v := 0) (k := 104) rfl (by decide) ?_
          refine x_istore (k := 105) rfl (by decide) ?_
          refine x_iload (k := 106) rfl rfl ?_
          refine x_if_eq (tgt := 216) (k := 107) rfl (by decide) (fun c183 => ?_) (fun c183 => absurd c183 (by decide))
          refine x_iconst (v := 1) (k := 126) rfl (by decide) ?_
          refine x_goto (tgt := 221) (k := 127) rfl (by decide) ?_
          refine x_istore_n (k := 129) rfl (by decide) ?_
          refine x_sub (ls' := [(0, .ref a), (1, .int 1), (2, .int (nI n)), (3, .int (nI u))]) (by intro q hq; simp only [List.mem_cons, List.not_mem_nil, or_false] at hq; rcases hq with rfl | rfl | rfl | rfl <;> rfl) ?_
          refine x_iinc (k := 130) rfl rfl (nI_1 u) (by decide) ?_
          refine x_goto (tgt := 128) (k := 131) rfl (by decide) ?_
          exact l_tri1 h hJ j1 hn kk d (u + 1) (by omega)
        · refine x_iconst (v := 1) (k := 102) rfl (by decide) ?_
          refine x_goto (tgt := 179) (k := 103) rfl (by decide) ?_
          refine x_istore (k := 105) rfl (by decide) ?_
          refine x_iload (k := 106) rfl rfl ?_
          refine x_if_eq (tgt := 216) (k := 107) rfl (by decide) (fun c183 => absurd c183 (by decide)) (fun c183 => ?_)
          refine x_aload_n (k := 108) rfl rfl ?_
          refine x_iload_n (k := 109) rfl rfl ?_
          refine x_iconst (v := 3) (k := 110) rfl (by decide) ?_
          refine x_cVI (ci := 9) (k := 111) rfl (by rfl) (g_trip h (n := n) (q := 3) (by rw [hG.cT]; omega) (by decide)) okX9_trip viX9_trip mlRL_23 ⟨Nat.le_of_ble_eq_true rfl, Nat.le_of_ble_eq_true rfl⟩ (by exact Nat.le_of_ble_eq_true rfl) rfl rfl h.1.1 (by exact Nat.le_of_ble_eq_true rfl) ?_
          refine x_aload_n (k := 112) rfl rfl ?_
          refine x_iload_n (k := 113) rfl rfl ?_
          refine x_iconst (v := 4) (k := 114) rfl (by decide) ?_
          refine x_cVI (ci := 9) (k := 115) rfl (by rfl) (g_trip h (n := u) (q := 4) (by rw [hG.cT]; omega) (by decide)) okX9_trip viX9_trip mlRL_23 ⟨Nat.le_of_ble_eq_true rfl, Nat.le_of_ble_eq_true rfl⟩ (by exact Nat.le_of_ble_eq_true rfl) rfl rfl h.1.1 (by exact Nat.le_of_ble_eq_true rfl) ?_
          refine x_icmp_ge (tgt := 216) (k := 116) rfl (by decide) (fun c198 => ?_) (fun c198 => ?_)
          · refine x_iconst (v := 1) (k := 126) rfl (by decide) ?_
            refine x_goto (tgt := 221) (k := 127) rfl (by decide) ?_
            refine x_istore_n (k := 129) rfl (by decide) ?_
            refine x_sub (ls' := [(0, .ref a), (1, .int 1), (2, .int (nI n)), (3, .int (nI u))]) (by intro q hq; simp only [List.mem_cons, List.not_mem_nil, or_false] at hq; rcases hq with rfl | rfl | rfl | rfl <;> rfl) ?_
            refine x_iinc (k := 130) rfl rfl (nI_1 u) (by decide) ?_
            refine x_goto (tgt := 128) (k := 131) rfl (by decide) ?_
            exact l_tri1 h hJ j1 hn kk d (u + 1) (by omega)
          · refine x_aload_n (k := 117) rfl rfl ?_
            refine x_iload_n (k := 118) rfl rfl ?_
            refine x_iconst (v := 3) (k := 119) rfl (by decide) ?_
            refine x_cVI (ci := 9) (k := 120) rfl (by rfl) (g_trip h (n := u) (q := 3) (by rw [hG.cT]; omega) (by decide)) okX9_trip viX9_trip mlRL_23 ⟨Nat.le_of_ble_eq_true rfl, Nat.le_of_ble_eq_true rfl⟩ (by exact Nat.le_of_ble_eq_true rfl) rfl rfl h.1.1 (by exact Nat.le_of_ble_eq_true rfl) ?_
            refine x_aload_n (k := 121) rfl rfl ?_
            refine x_iload_n (k := 122) rfl rfl ?_
            refine x_iconst (v := 4) (k := 123) rfl (by decide) ?_
            refine x_cVI (ci := 9) (k := 124) rfl (by rfl) (g_trip h (n := n) (q := 4) (by rw [hG.cT]; omega) (by decide)) okX9_trip viX9_trip mlRL_23 ⟨Nat.le_of_ble_eq_true rfl, Nat.le_of_ble_eq_true rfl⟩ (by exact Nat.le_of_ble_eq_true rfl) rfl rfl h.1.1 (by exact Nat.le_of_ble_eq_true rfl) ?_
            refine x_icmp_lt (tgt := 220) (k := 125) rfl (by decide) (fun c213 => absurd c213 (Int32.not_lt.mpr ((tr_lt hG (by omega) hn).mpr ((hov c149 c160 c171).resolve_left (fun z => c198 ((tr_lt hG hn (by omega)).mpr z)))))) (fun c213 => ?_)
            refine x_iconst (v := 1) (k := 126) rfl (by decide) ?_
            refine x_goto (tgt := 221) (k := 127) rfl (by decide) ?_
            refine x_istore_n (k := 129) rfl (by decide) ?_
            refine x_sub (ls' := [(0, .ref a), (1, .int 1), (2, .int (nI n)), (3, .int (nI u))]) (by intro q hq; simp only [List.mem_cons, List.not_mem_nil, or_false] at hq; rcases hq with rfl | rfl | rfl | rfl <;> rfl) ?_
            refine x_iinc (k := 130) rfl rfl (nI_1 u) (by decide) ?_
            refine x_goto (tgt := 128) (k := 131) rfl (by decide) ?_
            exact l_tri1 h hJ j1 hn kk d (u + 1) (by omega)
theorem l_tri2 (h : Ob G t own a D) (hJ : IvD B D) (j1 : Jn hr f nt nk sz D.1.1) (kk : xE G ML_areTrips 234 [(0, .ref a), (1, .int 1), (2, .int (nI nt))] [] t Q) : ∀ d n, n + d = nt → xE G ML_areTrips 4 [(0, .ref a), (1, .int 1), (2, .int (nI n))] [] t Q
  | 0, n, hd => by
    obtain rfl : nt = n := hd.symm
    have hb := j1.1.1.1
    have hT0 := j1.1.cT
    refine x_iload_n (k := 4) rfl rfl ?_
    refine x_aload_n (k := 5) rfl rfl ?_
    refine x_iconst (v := 1) (k := 6) rfl (by decide) ?_
    refine x_cVI (ci := 9) (k := 7) rfl (by rfl) (g_c1 h) okX9_count viX9_count mlRL_13 ⟨Nat.le_of_ble_eq_true rfl, Nat.le_of_ble_eq_true rfl⟩ (by exact Nat.le_of_ble_eq_true rfl) rfl rfl h.1.1 (by exact Nat.le_of_ble_eq_true rfl) ?_
    rw [hT0]
    refine x_icmp_ge (tgt := 234) (k := 8) rfl (by decide) (fun c10 => ?_) (fun c10 => absurd (nI_le (Nat.le_refl _) (by omega)) c10)
    exact kk
  | d + 1, n, hd => by
    have hG := j1.1
    have hb := hG.1.1
    have hT0 := hG.cT
    have hn : n < nt := by omega
    obtain ⟨a1, a2, a3, a4⟩ := hG.lv hn
    obtain ⟨b1, b2⟩ := j1.2.2.2.1.2.1 n hn
    have e0 := hG.1.2.1
    have q0 : D.1.1 1 n 6 = 0 → ¬ D.1.1 1 n 3 ≤ nI hr := fun z => by
      rcases b2 with ⟨-, -, y⟩ | ⟨y, -⟩ | ⟨y, -⟩ | y
      · have := y trivial
        rw [a1]
        exact nI_ge this (by omega)
      · rw [z] at y; exact absurd y (by decide)
      · rw [z] at y; exact absurd y (by decide)
      · rw [z] at y; exact absurd y (by decide)
    have q1 : D.1.1 1 n 6 = 1 → ¬ nI hr < D.1.1 1 n 3 ∧ ¬ D.1.1 1 n 4 ≤ nI hr := fun z => by
      rcases b2 with ⟨y, -⟩ | ⟨-, y1, -, y2⟩ | ⟨y, -⟩ | y
      · rw [z] at y; exact absurd y (by decide)
      · have := y2 trivial
        rw [a1, a2]
        exact ⟨nI_nlt y1 (by omega), nI_ge this (by omega)⟩
      · rw [z] at y; exact absurd y (by decide)
      · rw [z] at y; exact absurd y (by decide)
    refine x_iload_n (k := 4) rfl rfl ?_
    refine x_aload_n (k := 5) rfl rfl ?_
    refine x_iconst (v := 1) (k := 6) rfl (by decide) ?_
    refine x_cVI (ci := 9) (k := 7) rfl (by rfl) (g_c1 h) okX9_count viX9_count mlRL_13 ⟨Nat.le_of_ble_eq_true rfl, Nat.le_of_ble_eq_true rfl⟩ (by exact Nat.le_of_ble_eq_true rfl) rfl rfl h.1.1 (by exact Nat.le_of_ble_eq_true rfl) ?_
    rw [hT0]
    refine x_icmp_ge (tgt := 234) (k := 8) rfl (by decide) (fun c10 => absurd c10 (nI_ge (by omega) (by omega))) (fun c10 => ?_)
    refine x_iload_n (k := 9) rfl rfl ?_
    refine x_if_eq (tgt := 234) (k := 10) rfl (by decide) (fun c14 => absurd c14 (by decide)) (fun c14 => ?_)
    refine x_aload_n (k := 11) rfl rfl ?_
    refine x_iload_n (k := 12) rfl rfl ?_
    refine x_iconst (v := 4) (k := 13) rfl (by decide) ?_
    refine x_cVI (ci := 9) (k := 14) rfl (by rfl) (g_trip h (n := n) (q := 4) (by rw [hG.cT]; omega) (by decide)) okX9_trip viX9_trip mlRL_23 ⟨Nat.le_of_ble_eq_true rfl, Nat.le_of_ble_eq_true rfl⟩ (by exact Nat.le_of_ble_eq_true rfl) rfl rfl h.1.1 (by exact Nat.le_of_ble_eq_true rfl) ?_
    refine x_aload_n (k := 15) rfl rfl ?_
    refine x_iload_n (k := 16) rfl rfl ?_
    refine x_iconst (v := 3) (k := 17) rfl (by decide) ?_
    refine x_cVI (ci := 9) (k := 18) rfl (by rfl) (g_trip h (n := n) (q := 3) (by rw [hG.cT]; omega) (by decide)) okX9_trip viX9_trip mlRL_23 ⟨Nat.le_of_ble_eq_true rfl, Nat.le_of_ble_eq_true rfl⟩ (by exact Nat.le_of_ble_eq_true rfl) rfl rfl h.1.1 (by exact Nat.le_of_ble_eq_true rfl) ?_
    refine x_icmp_le (tgt := 51) (k := 19) rfl (by decide) (fun c29 => absurd c29 (by rw [a1, a2]; exact nI_ge a3 (by omega))) (fun c29 => ?_)
    refine x_aload_n (k := 20) rfl rfl ?_
    refine x_iload_n (k := 21) rfl rfl ?_
    refine x_iconst (v := 1) (k := 22) rfl (by decide) ?_
    refine x_cVI (ci := 9) (k := 23) rfl (by rfl) (g_trip h (n := n) (q := 1) (by rw [hG.cT]; omega) (by decide)) okX9_trip viX9_trip mlRL_23 ⟨Nat.le_of_ble_eq_true rfl, Nat.le_of_ble_eq_true rfl⟩ (by exact Nat.le_of_ble_eq_true rfl) rfl rfl h.1.1 (by exact Nat.le_of_ble_eq_true rfl) ?_
    refine x_aload_n (k := 24) rfl rfl ?_
    refine x_iload_n (k := 25) rfl rfl ?_
    refine x_iconst (v := 2) (k := 26) rfl (by decide) ?_
    refine x_cVI (ci := 9) (k := 27) rfl (by rfl) (g_trip h (n := n) (q := 2) (by rw [hG.cT]; omega) (by decide)) okX9_trip viX9_trip mlRL_23 ⟨Nat.le_of_ble_eq_true rfl, Nat.le_of_ble_eq_true rfl⟩ (by exact Nat.le_of_ble_eq_true rfl) rfl rfl h.1.1 (by exact Nat.le_of_ble_eq_true rfl) ?_
    refine x_icmp_eq (tgt := 51) (k := 28) rfl (by decide) (fun c44 => absurd c44 b1) (fun c44 => ?_)
    refine x_iconst (v := 1) (k := 29) rfl (by decide) ?_
    refine x_goto (tgt := 52) (k := 30) rfl (by decide) ?_
    refine x_istore_n (k := 32) rfl (by decide) ?_
    refine x_iload_n (k := 33) rfl rfl ?_
    refine x_if_eq (tgt := 124) (k := 34) rfl (by decide) (fun c54 => absurd c54 (by decide)) (fun c54 => ?_)
    refine x_aload_n (k := 35) rfl rfl ?_
    refine x_iload_n (k := 36) rfl rfl ?_
    refine x_bipush (v := 6) (k := 37) rfl (by decide) ?_
    refine x_cVI (ci := 9) (k := 38) rfl (by rfl) (g_trip h (n := n) (q := 6) (by rw [hG.cT]; omega) (by decide)) okX9_trip viX9_trip mlRL_23 ⟨Nat.le_of_ble_eq_true rfl, Nat.le_of_ble_eq_true rfl⟩ (by exact Nat.le_of_ble_eq_true rfl) rfl rfl h.1.1 (by exact Nat.le_of_ble_eq_true rfl) ?_
    refine x_if_ne (tgt := 81) (k := 39) rfl (by decide) (fun c64 => ?_) (fun c64 => ?_)
    · refine x_aload_n (k := 48) rfl rfl ?_
      refine x_iload_n (k := 49) rfl rfl ?_
      refine x_bipush (v := 6) (k := 50) rfl (by decide) ?_
      refine x_cVI (ci := 9) (k := 51) rfl (by rfl) (g_trip h (n := n) (q := 6) (by rw [hG.cT]; omega) (by decide)) okX9_trip viX9_trip mlRL_23 ⟨Nat.le_of_ble_eq_true rfl, Nat.le_of_ble_eq_true rfl⟩ (by exact Nat.le_of_ble_eq_true rfl) rfl rfl h.1.1 (by exact Nat.le_of_ble_eq_true rfl) ?_
      refine x_iconst (v := 1) (k := 52) rfl (by decide) ?_
      refine x_icmp_ne (tgt := 120) (k := 53) rfl (by decide) (fun c89 => ?_) (fun c89 => ?_)
      · refine x_iconst (v := 1) (k := 70) rfl (by decide) ?_
        refine x_goto (tgt := 125) (k := 71) rfl (by decide) ?_
        refine x_istore_n (k := 73) rfl (by decide) ?_
        refine x_iconst (v := 0) (k := 74) rfl (by decide) ?_
        refine x_istore_n (k := 75) rfl (by decide) ?_
        refine l_tri1 h hJ j1 hn ?_ n 0 (Nat.zero_add _)
        refine x_sub (ls' := [(0, .ref a), (1, .int 1), (2, .int (nI n))]) (by intro q hq; simp only [List.mem_cons, List.not_mem_nil, or_false] at hq; rcases hq with rfl | rfl | rfl <;> rfl) ?_
        refine x_iinc (k := 132) rfl rfl (nI_1 n) (by decide) ?_
        refine x_goto (tgt := 4) (k := 133) rfl (by decide) ?_
        exact l_tri2 h hJ j1 kk d (n + 1) (by omega)
      · refine x_aload_n (k := 54) rfl rfl ?_
        refine x_iload_n (k := 55) rfl rfl ?_
        refine x_iconst (v := 3) (k := 56) rfl (by decide) ?_
        refine x_cVI (ci := 9) (k := 57) rfl (by rfl) (g_trip h (n := n) (q := 3) (by rw [hG.cT]; omega) (by decide)) okX9_trip viX9_trip mlRL_23 ⟨Nat.le_of_ble_eq_true rfl, Nat.le_of_ble_eq_true rfl⟩ (by exact Nat.le_of_ble_eq_true rfl) rfl rfl h.1.1 (by exact Nat.le_of_ble_eq_true rfl) ?_
        refine x_aload_n (k := 58) rfl rfl ?_
        refine x_iconst (v := 0) (k := 59) rfl (by decide) ?_
        refine x_cVI (ci := 9) (k := 60) rfl (by rfl) (g_c0 h e0) okX9_count viX9_count mlRL_13 ⟨Nat.le_of_ble_eq_true rfl, Nat.le_of_ble_eq_true rfl⟩ (by exact Nat.le_of_ble_eq_true rfl) rfl rfl h.1.1 (by exact Nat.le_of_ble_eq_true rfl) ?_
        refine x_icmp_gt (tgt := 124) (k := 61) rfl (by decide) (fun c103 => absurd c103 (q1 c89).1) (fun c103 => ?_)
        refine x_aload_n (k := 62) rfl rfl ?_
        refine x_iload_n (k := 63) rfl rfl ?_
        refine x_iconst (v := 4) (k := 64) rfl (by decide) ?_
        refine x_cVI (ci := 9) (k := 65) rfl (by rfl) (g_trip h (n := n) (q := 4) (by rw [hG.cT]; omega) (by decide)) okX9_trip viX9_trip mlRL_23 ⟨Nat.le_of_ble_eq_true rfl, Nat.le_of_ble_eq_true rfl⟩ (by exact Nat.le_of_ble_eq_true rfl) rfl rfl h.1.1 (by exact Nat.le_of_ble_eq_true rfl) ?_
        refine x_aload_n (k := 66) rfl rfl ?_
        refine x_iconst (v := 0) (k := 67) rfl (by decide) ?_
        refine x_cVI (ci := 9) (k := 68) rfl (by rfl) (g_c0 h e0) okX9_count viX9_count mlRL_13 ⟨Nat.le_of_ble_eq_true rfl, Nat.le_of_ble_eq_true rfl⟩ (by exact Nat.le_of_ble_eq_true rfl) rfl rfl h.1.1 (by exact Nat.le_of_ble_eq_true rfl) ?_
        refine x_icmp_le (tgt := 124) (k := 69) rfl (by decide) (fun c117 => absurd c117 (q1 c89).2) (fun c117 => ?_)
        refine x_iconst (v := 1) (k := 70) rfl (by decide) ?_
        refine x_goto (tgt := 125) (k := 71) rfl (by decide) ?_
        refine x_istore_n (k := 73) rfl (by decide) ?_
        refine x_iconst (v := 0) (k := 74) rfl (by decide) ?_
        refine x_istore_n (k := 75) rfl (by decide) ?_
        refine l_tri1 h hJ j1 hn ?_ n 0 (Nat.zero_add _)
        refine x_sub (ls' := [(0, .ref a), (1, .int 1), (2, .int (nI n))]) (by intro q hq; simp only [List.mem_cons, List.not_mem_nil, or_false] at hq; rcases hq with rfl | rfl | rfl <;> rfl) ?_
        refine x_iinc (k := 132) rfl rfl (nI_1 n) (by decide) ?_
        refine x_goto (tgt := 4) (k := 133) rfl (by decide) ?_
        exact l_tri2 h hJ j1 kk d (n + 1) (by omega)
    · refine x_aload_n (k := 40) rfl rfl ?_
      refine x_iload_n (k := 41) rfl rfl ?_
      refine x_iconst (v := 3) (k := 42) rfl (by decide) ?_
      refine x_cVI (ci := 9) (k := 43) rfl (by rfl) (g_trip h (n := n) (q := 3) (by rw [hG.cT]; omega) (by decide)) okX9_trip viX9_trip mlRL_23 ⟨Nat.le_of_ble_eq_true rfl, Nat.le_of_ble_eq_true rfl⟩ (by exact Nat.le_of_ble_eq_true rfl) rfl rfl h.1.1 (by exact Nat.le_of_ble_eq_true rfl) ?_
      refine x_aload_n (k := 44) rfl rfl ?_
      refine x_iconst (v := 0) (k := 45) rfl (by decide) ?_
      refine x_cVI (ci := 9) (k := 46) rfl (by rfl) (g_c0 h e0) okX9_count viX9_count mlRL_13 ⟨Nat.le_of_ble_eq_true rfl, Nat.le_of_ble_eq_true rfl⟩ (by exact Nat.le_of_ble_eq_true rfl) rfl rfl h.1.1 (by exact Nat.le_of_ble_eq_true rfl) ?_
      refine x_icmp_le (tgt := 124) (k := 47) rfl (by decide) (fun c78 => absurd c78 (q0 c64)) (fun c78 => ?_)
      refine x_aload_n (k := 48) rfl rfl ?_
      refine x_iload_n (k := 49) rfl rfl ?_
      refine x_bipush (v := 6) (k := 50) rfl (by decide) ?_
      refine x_cVI (ci := 9) (k := 51) rfl (by rfl) (g_trip h (n := n) (q := 6) (by rw [hG.cT]; omega) (by decide)) okX9_trip viX9_trip mlRL_23 ⟨Nat.le_of_ble_eq_true rfl, Nat.le_of_ble_eq_true rfl⟩ (by exact Nat.le_of_ble_eq_true rfl) rfl rfl h.1.1 (by exact Nat.le_of_ble_eq_true rfl) ?_
      refine x_iconst (v := 1) (k := 52) rfl (by decide) ?_
      refine x_icmp_ne (tgt := 120) (k := 53) rfl (by decide) (fun c89 => ?_) (fun c89 => ?_)
      · refine x_iconst (v := 1) (k := 70) rfl (by decide) ?_
        refine x_goto (tgt := 125) (k := 71) rfl (by decide) ?_
        refine x_istore_n (k := 73) rfl (by decide) ?_
        refine x_iconst (v := 0) (k := 74) rfl (by decide) ?_
        refine x_istore_n (k := 75) rfl (by decide) ?_
        refine l_tri1 h hJ j1 hn ?_ n 0 (Nat.zero_add _)
        refine x_sub (ls' := [(0, .ref a), (1, .int 1), (2, .int (nI n))]) (by intro q hq; simp only [List.mem_cons, List.not_mem_nil, or_false] at hq; rcases hq with rfl | rfl | rfl <;> rfl) ?_
        refine x_iinc (k := 132) rfl rfl (nI_1 n) (by decide) ?_
        refine x_goto (tgt := 4) (k := 133) rfl (by decide) ?_
        exact l_tri2 h hJ j1 kk d (n + 1) (by omega)
      · refine x_aload_n (k := 54) rfl rfl ?_
        refine x_iload_n (k := 55) rfl rfl ?_
        refine x_iconst (v := 3) (k := 56) rfl (by decide) ?_
        refine x_cVI (ci := 9) (k := 57) rfl (by rfl) (g_trip h (n := n) (q := 3) (by rw [hG.cT]; omega) (by decide)) okX9_trip viX9_trip mlRL_23 ⟨Nat.le_of_ble_eq_true rfl, Nat.le_of_ble_eq_true rfl⟩ (by exact Nat.le_of_ble_eq_true rfl) rfl rfl h.1.1 (by exact Nat.le_of_ble_eq_true rfl) ?_
        refine x_aload_n (k := 58) rfl rfl ?_
        refine x_iconst (v := 0) (k := 59) rfl (by decide) ?_
        refine x_cVI (ci := 9) (k := 60) rfl (by rfl) (g_c0 h e0) okX9_count viX9_count mlRL_13 ⟨Nat.le_of_ble_eq_true rfl, Nat.le_of_ble_eq_true rfl⟩ (by exact Nat.le_of_ble_eq_true rfl) rfl rfl h.1.1 (by exact Nat.le_of_ble_eq_true rfl) ?_
        refine x_icmp_gt (tgt := 124) (k := 61) rfl (by decide) (fun c103 => absurd c103 (q1 c89).1) (fun c103 => ?_)
        refine x_aload_n (k := 62) rfl rfl ?_
        refine x_iload_n (k := 63) rfl rfl ?_
        refine x_iconst (v := 4) (k := 64) rfl (by decide) ?_
        refine x_cVI (ci := 9) (k := 65) rfl (by rfl) (g_trip h (n := n) (q := 4) (by rw [hG.cT]; omega) (by decide)) okX9_trip viX9_trip mlRL_23 ⟨Nat.le_of_ble_eq_true rfl, Nat.le_of_ble_eq_true rfl⟩ (by exact Nat.le_of_ble_eq_true rfl) rfl rfl h.1.1 (by exact Nat.le_of_ble_eq_true rfl) ?_
        refine x_aload_n (k := 66) rfl rfl ?_
        refine x_iconst (v := 0) (k := 67) rfl (by decide) ?_
        refine x_cVI (ci := 9) (k := 68) rfl (by rfl) (g_c0 h e0) okX9_count viX9_count mlRL_13 ⟨Nat.le_of_ble_eq_true rfl, Nat.le_of_ble_eq_true rfl⟩ (by exact Nat.le_of_ble_eq_true rfl) rfl rfl h.1.1 (by exact Nat.le_of_ble_eq_true rfl) ?_
        refine x_icmp_le (tgt := 124) (k := 69) rfl (by decide) (fun c117 => absurd c117 (q1 c89).2) (fun c117 => ?_)
        refine x_iconst (v := 1) (k := 70) rfl (by decide) ?_
        refine x_goto (tgt := 125) (k := 71) rfl (by decide) ?_
        refine x_istore_n (k := 73) rfl (by decide) ?_
        refine x_iconst (v := 0) (k := 74) rfl (by decide) ?_
        refine x_istore_n (k := 75) rfl (by decide) ?_
        refine l_tri1 h hJ j1 hn ?_ n 0 (Nat.zero_add _)
        refine x_sub (ls' := [(0, .ref a), (1, .int 1), (2, .int (nI n))]) (by intro q hq; simp only [List.mem_cons, List.not_mem_nil, or_false] at hq; rcases hq with rfl | rfl | rfl <;> rfl) ?_
        refine x_iinc (k := 132) rfl rfl (nI_1 n) (by decide) ?_
        refine x_goto (tgt := 4) (k := 133) rfl (by decide) ?_
        exact l_tri2 h hJ j1 kk d (n + 1) (by omega)
theorem c_areTrips (h : Ob G t own a D) (hJ : IvD B D) : xMe G ML_areTrips [.ref a] t (fun r t1 => r = some (.int 1) ∧ t1 = t) := by
  obtain ⟨hr, f, nt, nk, sz, j1, j2⟩ := id hJ.1
  refine x_iconst (v := 1) (k := 0) rfl (by decide) ?_
  refine x_istore_n (k := 1) rfl (by decide) ?_
  refine x_iconst (v := 0) (k := 2) rfl (by decide) ?_
  refine x_istore_n (k := 3) rfl (by decide) ?_
  refine l_tri2 h hJ j1 ?_ nt 0 (Nat.zero_add _)
  refine x_iload_n (k := 134) rfl rfl ?_
  exact x_iret (k := 135) rfl rfl rfl ⟨rfl, rfl⟩
end ARE
