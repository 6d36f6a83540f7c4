-- ===== the law's code walked =====
theorem and31 (x : Int32) : ∃ n : Nat, n < 32 ∧ x &&& 31 = nI n := by
  refine ⟨(x &&& 31).toBitVec.toNat, ?_, ?_⟩
  · rw [Int32.toBitVec_and, BitVec.toNat_and]
    exact Nat.lt_of_le_of_lt Nat.and_le_right (by decide)
  · apply Int32.toBitVec.inj
    show (x &&& 31).toBitVec = BitVec.ofNat 32 (x &&& 31).toBitVec.toNat
    simp
theorem sub7_lt {n i : Nat} (hn : n ≤ 3584) (hi : i ≤ 3584) (h : ¬ nI n - 7 < nI i) : i + 7 ≤ n := by
  have e7 : (7 : Int32) = nI 7 := rfl
  by_cases z : 7 ≤ n
  · have e : nI n - 7 = nI (n - 7) := by
      have k := nI_add (n - 7) 7
      rw [show n - 7 + 7 = n by omega] at k
      rw [← k, e7]
      exact Int32.add_sub_cancel _ _
    rw [e] at h
    have := mt (nI_ltI (a := n - 7) (b := i) (by omega) (by omega)).mpr h
    omega
  · exact absurd (by
      have h0 : nI n - 7 < 0 := by
        rcases (by omega : n = 0 ∨ n = 1 ∨ n = 2 ∨ n = 3 ∨ n = 4 ∨ n = 5 ∨ n = 6) with rfl | rfl | rfl | rfl | rfl | rfl | rfl <;> decide
      have h1 : (0 : Int32) ≤ nI i := Int32.not_lt.mp (nI_pos (n := i) (by omega))
      exact Int32.lt_of_lt_of_le h0 h1) h
abbrev lsL (G : xG) (a m i : Nat) : List (Nat × Value) := [(0, .ref (gS3 G)), (1, .ref a), (2, .ref m), (3, .int (nI i))]
section LAW
variable {G : xG} {s : xA} {own : Nat → Nat} {a m c i : Nat} {D : OD} {V : Vd} {Q : Option Value → xA → Prop}
theorem scr_in {i j : Nat} {x : Int32} (hx : x = nI j) (h : i + j < gLen G) (hL : gLen G ≤ 3584) : vp_in (nI i + x) (gLen G) := vp_inN (by rw [hx, nI_add]) h (by omega)
/-- what the walk goes on with after a call of both -/
def LK (G : xG) (s : xA) (a m c i : Nat) (Q : Option Value → xA → Prop) : Prop := ∀ (s2 : xA) (own2 : Nat → Nat) (D2 : OD) (V2 : Vd), Sys G s2 own2 a m (c + 1) D2 V2 → (s.2.1 ≤ s2.2.1 ∧ s2.2.1 ≤ s.2.1 + 163 ∧ s.2.2 ≤ s2.2.2 ∧ s2.2.2 ≤ s.2.2 + 3247) → xE G ML_law 888 (lsL G a m i) [] s2 Q
theorem StepQ.e {MC MM : xM} {As : List Value} {t : xA} (h : StepQ G MC MM As a m c t) : xMe G MC (.ref a :: As) t (fun r t1 => ∃ v : Int32, r = some (.int v) ∧ (t.2.1 ≤ t1.2.1 ∧ t1.2.1 ≤ t.2.1 + 163 ∧ t.2.2 ≤ t1.2.2 ∧ t1.2.2 ≤ t.2.2 + 3247) ∧ (∃ fs, t1.1 m = some (eO 10 fs)) ∧
  xMe G MM (.ref m :: As) t1 (fun r2 t2 => r2 = some (.int v) ∧ t2.2 = t1.2 ∧ ∃ (own2 : Nat → Nat) (D2 : OD) (V2 : Vd), Sys G t2 own2 a m (c + 1) D2 V2)) := h
theorem la_offer (hS : Sys G s own a m c D V) (hc : c ≤ 511) (hi : i + 7 ≤ gLen G) (hL : gLen G ≤ 3584) (kk : LK G s a m c i Q) : xE G ML_law 144 (lsL G a m i) [] s Q := by
  refine x_aload_n (k := 22) rfl rfl ?_
  refine x_aload_n (k := 23) rfl rfl ?_
  refine x_iload_n (k := 24) rfl rfl ?_
  refine x_iconst (v := 1) (k := 25) rfl (by decide) ?_
  refine x_iadd (k := 26) rfl ?_
  refine x_scrAt (k := 27) rfl (scr_in (j := 1) rfl (by omega) hL) ?_
  refine x_aload_n (k := 28) rfl rfl ?_
  refine x_iload_n (k := 29) rfl rfl ?_
  refine x_iconst (v := 2) (k := 30) rfl (by decide) ?_
  refine x_iadd (k := 31) rfl ?_
  refine x_scrAt (k := 32) rfl (scr_in (j := 2) rfl (by omega) hL) ?_
  refine x_aload_n (k := 33) rfl rfl ?_
  refine x_iload_n (k := 34) rfl rfl ?_
  refine x_iconst (v := 3) (k := 35) rfl (by decide) ?_
  refine x_iadd (k := 36) rfl ?_
  refine x_scrAt (k := 37) rfl (scr_in (j := 3) rfl (by omega) hL) ?_
  refine x_aload_n (k := 38) rfl rfl ?_
  refine x_iload_n (k := 39) rfl rfl ?_
  refine x_iconst (v := 4) (k := 40) rfl (by decide) ?_
  refine x_iadd (k := 41) rfl ?_
  refine x_scrAt (k := 42) rfl (scr_in (j := 4) rfl (by omega) hL) ?_
  refine x_aload_n (k := 43) rfl rfl ?_
  refine x_iload_n (k := 44) rfl rfl ?_
  refine x_iconst (v := 5) (k := 45) rfl (by decide) ?_
  refine x_iadd (k := 46) rfl ?_
  refine x_scrAt (k := 47) rfl (scr_in (j := 5) rfl (by omega) hL) ?_
  refine x_aload_n (k := 48) rfl rfl ?_
  refine x_iload_n (k := 49) rfl rfl ?_
  refine x_bipush (v := 6) (k := 50) rfl (by decide) ?_
  refine x_iadd (k := 51) rfl ?_
  refine x_scrAt (k := 52) rfl (scr_in (j := 6) rfl (by omega) hL) ?_
  refine x_cX (ci := 9) (k := 53) rfl (by rfl) (StepQ.e (st_offer hS hc (gScr G (nI i + 1).toNatClampNeg) (gScr G (nI i + 2).toNatClampNeg) (gScr G (nI i + 3).toNatClampNeg) (gScr G (nI i + 4).toNatClampNeg) (gScr G (nI i + 5).toNatClampNeg) (gScr G (nI i + 6).toNatClampNeg))) okX9_offer viX9_offer mlRL_13 ⟨Nat.le_of_ble_eq_true rfl, Nat.le_of_ble_eq_true rfl⟩ (by exact Nat.le_of_ble_eq_true rfl) rfl rfl hS.1.1.1 (by exact Nat.le_of_ble_eq_true rfl) ?_
  intro r s1 q
  obtain ⟨v, rfl, hb, ⟨fs, hfs⟩, q2⟩ := q
  refine x_aload_n (k := 54) rfl rfl ?_
  refine x_aload_n (k := 55) rfl rfl ?_
  refine x_iload_n (k := 56) rfl rfl ?_
  refine x_iconst (v := 1) (k := 57) rfl (by decide) ?_
  refine x_iadd (k := 58) rfl ?_
  refine x_scrAt (k := 59) rfl (scr_in (j := 1) rfl (by omega) hL) ?_
  refine x_aload_n (k := 60) rfl rfl ?_
  refine x_iload_n (k := 61) rfl rfl ?_
  refine x_iconst (v := 2) (k := 62) rfl (by decide) ?_
  refine x_iadd (k := 63) rfl ?_
  refine x_scrAt (k := 64) rfl (scr_in (j := 2) rfl (by omega) hL) ?_
  refine x_aload_n (k := 65) rfl rfl ?_
  refine x_iload_n (k := 66) rfl rfl ?_
  refine x_iconst (v := 3) (k := 67) rfl (by decide) ?_
  refine x_iadd (k := 68) rfl ?_
  refine x_scrAt (k := 69) rfl (scr_in (j := 3) rfl (by omega) hL) ?_
  refine x_aload_n (k := 70) rfl rfl ?_
  refine x_iload_n (k := 71) rfl rfl ?_
  refine x_iconst (v := 4) (k := 72) rfl (by decide) ?_
  refine x_iadd (k := 73) rfl ?_
  refine x_scrAt (k := 74) rfl (scr_in (j := 4) rfl (by omega) hL) ?_
  refine x_aload_n (k := 75) rfl rfl ?_
  refine x_iload_n (k := 76) rfl rfl ?_
  refine x_iconst (v := 5) (k := 77) rfl (by decide) ?_
  refine x_iadd (k := 78) rfl ?_
  refine x_scrAt (k := 79) rfl (scr_in (j := 5) rfl (by omega) hL) ?_
  refine x_aload_n (k := 80) rfl rfl ?_
  refine x_iload_n (k := 81) rfl rfl ?_
  refine x_bipush (v := 6) (k := 82) rfl (by decide) ?_
  refine x_iadd (k := 83) rfl ?_
  refine x_scrAt (k := 84) rfl (scr_in (j := 6) rfl (by omega) hL) ?_
  refine x_cX (ci := 10) (k := 85) rfl (by rfl) q2 okX10_offer viX10_offer mlRL_17 ⟨Nat.le_of_ble_eq_true rfl, Nat.le_of_ble_eq_true rfl⟩ (by exact Nat.le_of_ble_eq_true rfl) rfl rfl hfs (by exact Nat.le_of_ble_eq_true rfl) ?_
  intro r2 s2 q3
  obtain ⟨rfl, er, own2, D2, V2, hS2⟩ := q3
  refine x_icmp_eq (tgt := 888) (k := 86) rfl (by decide) (fun _ => ?_) (fun z => absurd rfl z)
  exact kk s2 own2 D2 V2 hS2 (by rw [er]; exact hb)
theorem la_takeBack (hS : Sys G s own a m c D V) (hc : c ≤ 511) (hi : i + 7 ≤ gLen G) (hL : gLen G ≤ 3584) (kk : LK G s a m c i Q) : xE G ML_law 219 (lsL G a m i) [] s Q := by
  refine x_aload_n (k := 89) rfl rfl ?_
  refine x_aload_n (k := 90) rfl rfl ?_
  refine x_iload_n (k := 91) rfl rfl ?_
  refine x_iconst (v := 1) (k := 92) rfl (by decide) ?_
  refine x_iadd (k := 93) rfl ?_
  refine x_scrAt (k := 94) rfl (scr_in (j := 1) rfl (by omega) hL) ?_
  refine x_cX (ci := 9) (k := 95) rfl (by rfl) (StepQ.e (st_takeBack hS hc (gScr G (nI i + 1).toNatClampNeg))) okX9_takeBack viX9_takeBack mlRL_18 ⟨Nat.le_of_ble_eq_true rfl, Nat.le_of_ble_eq_true rfl⟩ (by exact Nat.le_of_ble_eq_true rfl) rfl rfl hS.1.1.1 (by exact Nat.le_of_ble_eq_true rfl) ?_
  intro r s1 q
  obtain ⟨v, rfl, hb, ⟨fs, hfs⟩, q2⟩ := q
  refine x_aload_n (k := 96) rfl rfl ?_
  refine x_aload_n (k := 97) rfl rfl ?_
  refine x_iload_n (k := 98) rfl rfl ?_
  refine x_iconst (v := 1) (k := 99) rfl (by decide) ?_
  refine x_iadd (k := 100) rfl ?_
  refine x_scrAt (k := 101) rfl (scr_in (j := 1) rfl (by omega) hL) ?_
  refine x_cX (ci := 10) (k := 102) rfl (by rfl) q2 okX10_takeBack viX10_takeBack mlRL_22 ⟨Nat.le_of_ble_eq_true rfl, Nat.le_of_ble_eq_true rfl⟩ (by exact Nat.le_of_ble_eq_true rfl) rfl rfl hfs (by exact Nat.le_of_ble_eq_true rfl) ?_
  intro r2 s2 q3
  obtain ⟨rfl, er, own2, D2, V2, hS2⟩ := q3
  refine x_icmp_eq (tgt := 888) (k := 103) rfl (by decide) (fun _ => ?_) (fun z => absurd rfl z)
  exact kk s2 own2 D2 V2 hS2 (by rw [er]; exact hb)
theorem la_post (hS : Sys G s own a m c D V) (hc : c ≤ 511) (hi : i + 7 ≤ gLen G) (hL : gLen G ≤ 3584) (kk : LK G s a m c i Q) : xE G ML_law 242 (lsL G a m i) [] s Q := by
  refine x_aload_n (k := 106) rfl rfl ?_
  refine x_aload_n (k := 107) rfl rfl ?_
  refine x_iload_n (k := 108) rfl rfl ?_
  refine x_iconst (v := 1) (k := 109) rfl (by decide) ?_
  refine x_iadd (k := 110) rfl ?_
  refine x_scrAt (k := 111) rfl (scr_in (j := 1) rfl (by omega) hL) ?_
  refine x_aload_n (k := 112) rfl rfl ?_
  refine x_iload_n (k := 113) rfl rfl ?_
  refine x_iconst (v := 2) (k := 114) rfl (by decide) ?_
  refine x_iadd (k := 115) rfl ?_
  refine x_scrAt (k := 116) rfl (scr_in (j := 2) rfl (by omega) hL) ?_
  refine x_aload_n (k := 117) rfl rfl ?_
  refine x_iload_n (k := 118) rfl rfl ?_
  refine x_iconst (v := 3) (k := 119) rfl (by decide) ?_
  refine x_iadd (k := 120) rfl ?_
  refine x_scrAt (k := 121) rfl (scr_in (j := 3) rfl (by omega) hL) ?_
  refine x_aload_n (k := 122) rfl rfl ?_
  refine x_iload_n (k := 123) rfl rfl ?_
  refine x_iconst (v := 4) (k := 124) rfl (by decide) ?_
  refine x_iadd (k := 125) rfl ?_
  refine x_scrAt (k := 126) rfl (scr_in (j := 4) rfl (by omega) hL) ?_
  refine x_aload_n (k := 127) rfl rfl ?_
  refine x_iload_n (k := 128) rfl rfl ?_
  refine x_iconst (v := 5) (k := 129) rfl (by decide) ?_
  refine x_iadd (k := 130) rfl ?_
  refine x_scrAt (k := 131) rfl (scr_in (j := 5) rfl (by omega) hL) ?_
  refine x_cX (ci := 9) (k := 132) rfl (by rfl) (StepQ.e (st_post hS hc (gScr G (nI i + 1).toNatClampNeg) (gScr G (nI i + 2).toNatClampNeg) (gScr G (nI i + 3).toNatClampNeg) (gScr G (nI i + 4).toNatClampNeg) (gScr G (nI i + 5).toNatClampNeg))) okX9_post viX9_post mlRL_23 ⟨Nat.le_of_ble_eq_true rfl, Nat.le_of_ble_eq_true rfl⟩ (by exact Nat.le_of_ble_eq_true rfl) rfl rfl hS.1.1.1 (by exact Nat.le_of_ble_eq_true rfl) ?_
  intro r s1 q
  obtain ⟨v, rfl, hb, ⟨fs, hfs⟩, q2⟩ := q
  refine x_aload_n (k := 133) rfl rfl ?_
  refine x_aload_n (k := 134) rfl rfl ?_
  refine x_iload_n (k := 135) rfl rfl ?_
  refine x_iconst (v := 1) (k := 136) rfl (by decide) ?_
  refine x_iadd (k := 137) rfl ?_
  refine x_scrAt (k := 138) rfl (scr_in (j := 1) rfl (by omega) hL) ?_
  refine x_aload_n (k := 139) rfl rfl ?_
  refine x_iload_n (k := 140) rfl rfl ?_
  refine x_iconst (v := 2) (k := 141) rfl (by decide) ?_
  refine x_iadd (k := 142) rfl ?_
  refine x_scrAt (k := 143) rfl (scr_in (j := 2) rfl (by omega) hL) ?_
  refine x_aload_n (k := 144) rfl rfl ?_
  refine x_iload_n (k := 145) rfl rfl ?_
  refine x_iconst (v := 3) (k := 146) rfl (by decide) ?_
  refine x_iadd (k := 147) rfl ?_
  refine x_scrAt (k := 148) rfl (scr_in (j := 3) rfl (by omega) hL) ?_
  refine x_aload_n (k := 149) rfl rfl ?_
  refine x_iload_n (k := 150) rfl rfl ?_
  refine x_iconst (v := 4) (k := 151) rfl (by decide) ?_
  refine x_iadd (k := 152) rfl ?_
  refine x_scrAt (k := 153) rfl (scr_in (j := 4) rfl (by omega) hL) ?_
  refine x_aload_n (k := 154) rfl rfl ?_
  refine x_iload_n (k := 155) rfl rfl ?_
  refine x_iconst (v := 5) (k := 156) rfl (by decide) ?_
  refine x_iadd (k := 157) rfl ?_
  refine x_scrAt (k := 158) rfl (scr_in (j := 5) rfl (by omega) hL) ?_
  refine x_cX (ci := 10) (k := 159) rfl (by rfl) q2 okX10_post viX10_post mlRL_27 ⟨Nat.le_of_ble_eq_true rfl, Nat.le_of_ble_eq_true rfl⟩ (by exact Nat.le_of_ble_eq_true rfl) rfl rfl hfs (by exact Nat.le_of_ble_eq_true rfl) ?_
  intro r2 s2 q3
  obtain ⟨rfl, er, own2, D2, V2, hS2⟩ := q3
  refine x_icmp_eq (tgt := 888) (k := 160) rfl (by decide) (fun _ => ?_) (fun z => absurd rfl z)
  exact kk s2 own2 D2 V2 hS2 (by rw [er]; exact hb)
theorem la_pass (hS : Sys G s own a m c D V) (hc : c ≤ 511) (hi : i + 7 ≤ gLen G) (hL : gLen G ≤ 3584) (kk : LK G s a m c i Q) : xE G ML_law 305 (lsL G a m i) [] s Q := by
  refine x_aload_n (k := 163) rfl rfl ?_
  refine x_aload_n (k := 164) rfl rfl ?_
  refine x_iload_n (k := 165) rfl rfl ?_
  refine x_iconst (v := 1) (k := 166) rfl (by decide) ?_
  refine x_iadd (k := 167) rfl ?_
  refine x_scrAt (k := 168) rfl (scr_in (j := 1) rfl (by omega) hL) ?_
  refine x_cX (ci := 9) (k := 169) rfl (by rfl) (StepQ.e (st_pass hS hc (gScr G (nI i + 1).toNatClampNeg))) okX9_pass viX9_pass mlRL_28 ⟨Nat.le_of_ble_eq_true rfl, Nat.le_of_ble_eq_true rfl⟩ (by exact Nat.le_of_ble_eq_true rfl) rfl rfl hS.1.1.1 (by exact Nat.le_of_ble_eq_true rfl) ?_
  intro r s1 q
  obtain ⟨v, rfl, hb, ⟨fs, hfs⟩, q2⟩ := q
  refine x_aload_n (k := 170) rfl rfl ?_
  refine x_aload_n (k := 171) rfl rfl ?_
  refine x_iload_n (k := 172) rfl rfl ?_
  refine x_iconst (v := 1) (k := 173) rfl (by decide) ?_
  refine x_iadd (k := 174) rfl ?_
  refine x_scrAt (k := 175) rfl (scr_in (j := 1) rfl (by omega) hL) ?_
  refine x_cX (ci := 10) (k := 176) rfl (by rfl) q2 okX10_pass viX10_pass mlRL_31 ⟨Nat.le_of_ble_eq_true rfl, Nat.le_of_ble_eq_true rfl⟩ (by exact Nat.le_of_ble_eq_true rfl) rfl rfl hfs (by exact Nat.le_of_ble_eq_true rfl) ?_
  intro r2 s2 q3
  obtain ⟨rfl, er, own2, D2, V2, hS2⟩ := q3
  refine x_icmp_eq (tgt := 888) (k := 177) rfl (by decide) (fun _ => ?_) (fun z => absurd rfl z)
  exact kk s2 own2 D2 V2 hS2 (by rw [er]; exact hb)
theorem la_gave (hS : Sys G s own a m c D V) (hc : c ≤ 511) (hi : i + 7 ≤ gLen G) (hL : gLen G ≤ 3584) (kk : LK G s a m c i Q) : xE G ML_law 328 (lsL G a m i) [] s Q := by
  refine x_aload_n (k := 180) rfl rfl ?_
  refine x_aload_n (k := 181) rfl rfl ?_
  refine x_iload_n (k := 182) rfl rfl ?_
  refine x_iconst (v := 1) (k := 183) rfl (by decide) ?_
  refine x_iadd (k := 184) rfl ?_
  refine x_scrAt (k := 185) rfl (scr_in (j := 1) rfl (by omega) hL) ?_
  refine x_aload_n (k := 186) rfl rfl ?_
  refine x_iload_n (k := 187) rfl rfl ?_
  refine x_iconst (v := 2) (k := 188) rfl (by decide) ?_
  refine x_iadd (k := 189) rfl ?_
  refine x_scrAt (k := 190) rfl (scr_in (j := 2) rfl (by omega) hL) ?_
  refine x_aload_n (k := 191) rfl rfl ?_
  refine x_iload_n (k := 192) rfl rfl ?_
  refine x_iconst (v := 3) (k := 193) rfl (by decide) ?_
  refine x_iadd (k := 194) rfl ?_
  refine x_scrAt (k := 195) rfl (scr_in (j := 3) rfl (by omega) hL) ?_
  refine x_cX (ci := 9) (k := 196) rfl (by rfl) (StepQ.e (st_gave hS hc (gScr G (nI i + 1).toNatClampNeg) (gScr G (nI i + 2).toNatClampNeg) (gScr G (nI i + 3).toNatClampNeg))) okX9_gave viX9_gave mlRL_32 ⟨Nat.le_of_ble_eq_true rfl, Nat.le_of_ble_eq_true rfl⟩ (by exact Nat.le_of_ble_eq_true rfl) rfl rfl hS.1.1.1 (by exact Nat.le_of_ble_eq_true rfl) ?_
  intro r s1 q
  obtain ⟨v, rfl, hb, ⟨fs, hfs⟩, q2⟩ := q
  refine x_aload_n (k := 197) rfl rfl ?_
  refine x_aload_n (k := 198) rfl rfl ?_
  refine x_iload_n (k := 199) rfl rfl ?_
  refine x_iconst (v := 1) (k := 200) rfl (by decide) ?_
  refine x_iadd (k := 201) rfl ?_
  refine x_scrAt (k := 202) rfl (scr_in (j := 1) rfl (by omega) hL) ?_
  refine x_aload_n (k := 203) rfl rfl ?_
  refine x_iload_n (k := 204) rfl rfl ?_
  refine x_iconst (v := 2) (k := 205) rfl (by decide) ?_
  refine x_iadd (k := 206) rfl ?_
  refine x_scrAt (k := 207) rfl (scr_in (j := 2) rfl (by omega) hL) ?_
  refine x_aload_n (k := 208) rfl rfl ?_
  refine x_iload_n (k := 209) rfl rfl ?_
  refine x_iconst (v := 3) (k := 210) rfl (by decide) ?_
  refine x_iadd (k := 211) rfl ?_
  refine x_scrAt (k := 212) rfl (scr_in (j := 3) rfl (by omega) hL) ?_
  refine x_cX (ci := 10) (k := 213) rfl (by rfl) q2 okX10_gave viX10_gave mlRL_36 ⟨Nat.le_of_ble_eq_true rfl, Nat.le_of_ble_eq_true rfl⟩ (by exact Nat.le_of_ble_eq_true rfl) rfl rfl hfs (by exact Nat.le_of_ble_eq_true rfl) ?_
  intro r2 s2 q3
  obtain ⟨rfl, er, own2, D2, V2, hS2⟩ := q3
  refine x_icmp_eq (tgt := 888) (k := 214) rfl (by decide) (fun _ => ?_) (fun z => absurd rfl z)
  exact kk s2 own2 D2 V2 hS2 (by rw [er]; exact hb)
theorem la_took (hS : Sys G s own a m c D V) (hc : c ≤ 511) (hi : i + 7 ≤ gLen G) (hL : gLen G ≤ 3584) (kk : LK G s a m c i Q) : xE G ML_law 371 (lsL G a m i) [] s Q := by
  refine x_aload_n (k := 217) rfl rfl ?_
  refine x_aload_n (k := 218) rfl rfl ?_
  refine x_iload_n (k := 219) rfl rfl ?_
  refine x_iconst (v := 1) (k := 220) rfl (by decide) ?_
  refine x_iadd (k := 221) rfl ?_
  refine x_scrAt (k := 222) rfl (scr_in (j := 1) rfl (by omega) hL) ?_
  refine x_aload_n (k := 223) rfl rfl ?_
  refine x_iload_n (k := 224) rfl rfl ?_
  refine x_iconst (v := 2) (k := 225) rfl (by decide) ?_
  refine x_iadd (k := 226) rfl ?_
  refine x_scrAt (k := 227) rfl (scr_in (j := 2) rfl (by omega) hL) ?_
  refine x_aload_n (k := 228) rfl rfl ?_
  refine x_iload_n (k := 229) rfl rfl ?_
  refine x_iconst (v := 3) (k := 230) rfl (by decide) ?_
  refine x_iadd (k := 231) rfl ?_
  refine x_scrAt (k := 232) rfl (scr_in (j := 3) rfl (by omega) hL) ?_
  refine x_cX (ci := 9) (k := 233) rfl (by rfl) (StepQ.e (st_took hS hc (gScr G (nI i + 1).toNatClampNeg) (gScr G (nI i + 2).toNatClampNeg) (gScr G (nI i + 3).toNatClampNeg))) okX9_took viX9_took mlRL_37 ⟨Nat.le_of_ble_eq_true rfl, Nat.le_of_ble_eq_true rfl⟩ (by exact Nat.le_of_ble_eq_true rfl) rfl rfl hS.1.1.1 (by exact Nat.le_of_ble_eq_true rfl) ?_
  intro r s1 q
  obtain ⟨v, rfl, hb, ⟨fs, hfs⟩, q2⟩ := q
  refine x_aload_n (k := 234) rfl rfl ?_
  refine x_aload_n (k := 235) rfl rfl ?_
  refine x_iload_n (k := 236) rfl rfl ?_
  refine x_iconst (v := 1) (k := 237) rfl (by decide) ?_
  refine x_iadd (k := 238) rfl ?_
  refine x_scrAt (k := 239) rfl (scr_in (j := 1) rfl (by omega) hL) ?_
  refine x_aload_n (k := 240) rfl rfl ?_
  refine x_iload_n (k := 241) rfl rfl ?_
  refine x_iconst (v := 2) (k := 242) rfl (by decide) ?_
  refine x_iadd (k := 243) rfl ?_
  refine x_scrAt (k := 244) rfl (scr_in (j := 2) rfl (by omega) hL) ?_
  refine x_aload_n (k := 245) rfl rfl ?_
  refine x_iload_n (k := 246) rfl rfl ?_
  refine x_iconst (v := 3) (k := 247) rfl (by decide) ?_
  refine x_iadd (k := 248) rfl ?_
  refine x_scrAt (k := 249) rfl (scr_in (j := 3) rfl (by omega) hL) ?_
  refine x_cX (ci := 10) (k := 250) rfl (by rfl) q2 okX10_took viX10_took mlRL_40 ⟨Nat.le_of_ble_eq_true rfl, Nat.le_of_ble_eq_true rfl⟩ (by exact Nat.le_of_ble_eq_true rfl) rfl rfl hfs (by exact Nat.le_of_ble_eq_true rfl) ?_
  intro r2 s2 q3
  obtain ⟨rfl, er, own2, D2, V2, hS2⟩ := q3
  refine x_icmp_eq (tgt := 888) (k := 251) rfl (by decide) (fun _ => ?_) (fun z => absurd rfl z)
  exact kk s2 own2 D2 V2 hS2 (by rw [er]; exact hb)
theorem la_putIn (hS : Sys G s own a m c D V) (hc : c ≤ 511) (hi : i + 7 ≤ gLen G) (hL : gLen G ≤ 3584) (kk : LK G s a m c i Q) : xE G ML_law 414 (lsL G a m i) [] s Q := by
  refine x_aload_n (k := 254) rfl rfl ?_
  refine x_aload_n (k := 255) rfl rfl ?_
  refine x_iload_n (k := 256) rfl rfl ?_
  refine x_iconst (v := 1) (k := 257) rfl (by decide) ?_
  refine x_iadd (k := 258) rfl ?_
  refine x_scrAt (k := 259) rfl (scr_in (j := 1) rfl (by omega) hL) ?_
  refine x_aload_n (k := 260) rfl rfl ?_
  refine x_iload_n (k := 261) rfl rfl ?_
  refine x_iconst (v := 2) (k := 262) rfl (by decide) ?_
  refine x_iadd (k := 263) rfl ?_
  refine x_scrAt (k := 264) rfl (scr_in (j := 2) rfl (by omega) hL) ?_
  refine x_cX (ci := 9) (k := 265) rfl (by rfl) (StepQ.e (st_putIn hS hc (gScr G (nI i + 1).toNatClampNeg) (gScr G (nI i + 2).toNatClampNeg))) okX9_putIn viX9_putIn mlRL_41 ⟨Nat.le_of_ble_eq_true rfl, Nat.le_of_ble_eq_true rfl⟩ (by exact Nat.le_of_ble_eq_true rfl) rfl rfl hS.1.1.1 (by exact Nat.le_of_ble_eq_true rfl) ?_
  intro r s1 q
  obtain ⟨v, rfl, hb, ⟨fs, hfs⟩, q2⟩ := q
  refine x_aload_n (k := 266) rfl rfl ?_
  refine x_aload_n (k := 267) rfl rfl ?_
  refine x_iload_n (k := 268) rfl rfl ?_
  refine x_iconst (v := 1) (k := 269) rfl (by decide) ?_
  refine x_iadd (k := 270) rfl ?_
  refine x_scrAt (k := 271) rfl (scr_in (j := 1) rfl (by omega) hL) ?_
  refine x_aload_n (k := 272) rfl rfl ?_
  refine x_iload_n (k := 273) rfl rfl ?_
  refine x_iconst (v := 2) (k := 274) rfl (by decide) ?_
  refine x_iadd (k := 275) rfl ?_
  refine x_scrAt (k := 276) rfl (scr_in (j := 2) rfl (by omega) hL) ?_
  refine x_cX (ci := 10) (k := 277) rfl (by rfl) q2 okX10_putIn viX10_putIn mlRL_45 ⟨Nat.le_of_ble_eq_true rfl, Nat.le_of_ble_eq_true rfl⟩ (by exact Nat.le_of_ble_eq_true rfl) rfl rfl hfs (by exact Nat.le_of_ble_eq_true rfl) ?_
  intro r2 s2 q3
  obtain ⟨rfl, er, own2, D2, V2, hS2⟩ := q3
  refine x_icmp_eq (tgt := 888) (k := 278) rfl (by decide) (fun _ => ?_) (fun z => absurd rfl z)
  exact kk s2 own2 D2 V2 hS2 (by rw [er]; exact hb)
theorem la_fetch (hS : Sys G s own a m c D V) (hc : c ≤ 511) (hi : i + 7 ≤ gLen G) (hL : gLen G ≤ 3584) (kk : LK G s a m c i Q) : xE G ML_law 447 (lsL G a m i) [] s Q := by
  refine x_aload_n (k := 281) rfl rfl ?_
  refine x_aload_n (k := 282) rfl rfl ?_
  refine x_iload_n (k := 283) rfl rfl ?_
  refine x_iconst (v := 1) (k := 284) rfl (by decide) ?_
  refine x_iadd (k := 285) rfl ?_
  refine x_scrAt (k := 286) rfl (scr_in (j := 1) rfl (by omega) hL) ?_
  refine x_aload_n (k := 287) rfl rfl ?_
  refine x_iload_n (k := 288) rfl rfl ?_
  refine x_iconst (v := 2) (k := 289) rfl (by decide) ?_
  refine x_iadd (k := 290) rfl ?_
  refine x_scrAt (k := 291) rfl (scr_in (j := 2) rfl (by omega) hL) ?_
  refine x_cX (ci := 9) (k := 292) rfl (by rfl) (StepQ.e (st_fetch hS hc (gScr G (nI i + 1).toNatClampNeg) (gScr G (nI i + 2).toNatClampNeg))) okX9_fetch viX9_fetch mlRL_46 ⟨Nat.le_of_ble_eq_true rfl, Nat.le_of_ble_eq_true rfl⟩ (by exact Nat.le_of_ble_eq_true rfl) rfl rfl hS.1.1.1 (by exact Nat.le_of_ble_eq_true rfl) ?_
  intro r s1 q
  obtain ⟨v, rfl, hb, ⟨fs, hfs⟩, q2⟩ := q
  refine x_aload_n (k := 293) rfl rfl ?_
  refine x_aload_n (k := 294) rfl rfl ?_
  refine x_iload_n (k := 295) rfl rfl ?_
  refine x_iconst (v := 1) (k := 296) rfl (by decide) ?_
  refine x_iadd (k := 297) rfl ?_
  refine x_scrAt (k := 298) rfl (scr_in (j := 1) rfl (by omega) hL) ?_
  refine x_aload_n (k := 299) rfl rfl ?_
  refine x_iload_n (k := 300) rfl rfl ?_
  refine x_iconst (v := 2) (k := 301) rfl (by decide) ?_
  refine x_iadd (k := 302) rfl ?_
  refine x_scrAt (k := 303) rfl (scr_in (j := 2) rfl (by omega) hL) ?_
  refine x_cX (ci := 10) (k := 304) rfl (by rfl) q2 okX10_fetch viX10_fetch mlRL_49 ⟨Nat.le_of_ble_eq_true rfl, Nat.le_of_ble_eq_true rfl⟩ (by exact Nat.le_of_ble_eq_true rfl) rfl rfl hfs (by exact Nat.le_of_ble_eq_true rfl) ?_
  intro r2 s2 q3
  obtain ⟨rfl, er, own2, D2, V2, hS2⟩ := q3
  refine x_icmp_eq (tgt := 888) (k := 305) rfl (by decide) (fun _ => ?_) (fun z => absurd rfl z)
  exact kk s2 own2 D2 V2 hS2 (by rw [er]; exact hb)
theorem la_claim (hS : Sys G s own a m c D V) (hc : c ≤ 511) (hi : i + 7 ≤ gLen G) (hL : gLen G ≤ 3584) (kk : LK G s a m c i Q) : xE G ML_law 480 (lsL G a m i) [] s Q := by
  refine x_aload_n (k := 308) rfl rfl ?_
  refine x_aload_n (k := 309) rfl rfl ?_
  refine x_iload_n (k := 310) rfl rfl ?_
  refine x_iconst (v := 1) (k := 311) rfl (by decide) ?_
  refine x_iadd (k := 312) rfl ?_
  refine x_scrAt (k := 313) rfl (scr_in (j := 1) rfl (by omega) hL) ?_
  refine x_cX (ci := 9) (k := 314) rfl (by rfl) (StepQ.e (st_claim hS hc (gScr G (nI i + 1).toNatClampNeg))) okX9_claim viX9_claim mlRL_50 ⟨Nat.le_of_ble_eq_true rfl, Nat.le_of_ble_eq_true rfl⟩ (by exact Nat.le_of_ble_eq_true rfl) rfl rfl hS.1.1.1 (by exact Nat.le_of_ble_eq_true rfl) ?_
  intro r s1 q
  obtain ⟨v, rfl, hb, ⟨fs, hfs⟩, q2⟩ := q
  refine x_aload_n (k := 315) rfl rfl ?_
  refine x_aload_n (k := 316) rfl rfl ?_
  refine x_iload_n (k := 317) rfl rfl ?_
  refine x_iconst (v := 1) (k := 318) rfl (by decide) ?_
  refine x_iadd (k := 319) rfl ?_
  refine x_scrAt (k := 320) rfl (scr_in (j := 1) rfl (by omega) hL) ?_
  refine x_cX (ci := 10) (k := 321) rfl (by rfl) q2 okX10_claim viX10_claim mlRL_53 ⟨Nat.le_of_ble_eq_true rfl, Nat.le_of_ble_eq_true rfl⟩ (by exact Nat.le_of_ble_eq_true rfl) rfl rfl hfs (by exact Nat.le_of_ble_eq_true rfl) ?_
  intro r2 s2 q3
  obtain ⟨rfl, er, own2, D2, V2, hS2⟩ := q3
  refine x_icmp_eq (tgt := 888) (k := 322) rfl (by decide) (fun _ => ?_) (fun z => absurd rfl z)
  exact kk s2 own2 D2 V2 hS2 (by rw [er]; exact hb)
theorem la_take (hS : Sys G s own a m c D V) (hc : c ≤ 511) (hi : i + 7 ≤ gLen G) (hL : gLen G ≤ 3584) (kk : LK G s a m c i Q) : xE G ML_law 503 (lsL G a m i) [] s Q := by
  refine x_aload_n (k := 325) rfl rfl ?_
  refine x_aload_n (k := 326) rfl rfl ?_
  refine x_iload_n (k := 327) rfl rfl ?_
  refine x_iconst (v := 1) (k := 328) rfl (by decide) ?_
  refine x_iadd (k := 329) rfl ?_
  refine x_scrAt (k := 330) rfl (scr_in (j := 1) rfl (by omega) hL) ?_
  refine x_cX (ci := 9) (k := 331) rfl (by rfl) (StepQ.e (st_take hS (gScr G (nI i + 1).toNatClampNeg))) okX9_take viX9_take mlRL_54 ⟨Nat.le_of_ble_eq_true rfl, Nat.le_of_ble_eq_true rfl⟩ (by exact Nat.le_of_ble_eq_true rfl) rfl rfl hS.1.1.1 (by exact Nat.le_of_ble_eq_true rfl) ?_
  intro r s1 q
  obtain ⟨v, rfl, hb, ⟨fs, hfs⟩, q2⟩ := q
  refine x_aload_n (k := 332) rfl rfl ?_
  refine x_aload_n (k := 333) rfl rfl ?_
  refine x_iload_n (k := 334) rfl rfl ?_
  refine x_iconst (v := 1) (k := 335) rfl (by decide) ?_
  refine x_iadd (k := 336) rfl ?_
  refine x_scrAt (k := 337) rfl (scr_in (j := 1) rfl (by omega) hL) ?_
  refine x_cX (ci := 10) (k := 338) rfl (by rfl) q2 okX10_take viX10_take mlRL_57 ⟨Nat.le_of_ble_eq_true rfl, Nat.le_of_ble_eq_true rfl⟩ (by exact Nat.le_of_ble_eq_true rfl) rfl rfl hfs (by exact Nat.le_of_ble_eq_true rfl) ?_
  intro r2 s2 q3
  obtain ⟨rfl, er, own2, D2, V2, hS2⟩ := q3
  refine x_icmp_eq (tgt := 888) (k := 339) rfl (by decide) (fun _ => ?_) (fun z => absurd rfl z)
  exact kk s2 own2 D2 V2 hS2 (by rw [er]; exact hb)
theorem la_restore (hS : Sys G s own a m c D V) (hc : c ≤ 511) (hi : i + 7 ≤ gLen G) (hL : gLen G ≤ 3584) (kk : LK G s a m c i Q) : xE G ML_law 526 (lsL G a m i) [] s Q := by
  refine x_aload_n (k := 342) rfl rfl ?_
  refine x_aload_n (k := 343) rfl rfl ?_
  refine x_iload_n (k := 344) rfl rfl ?_
  refine x_iconst (v := 1) (k := 345) rfl (by decide) ?_
  refine x_iadd (k := 346) rfl ?_
  refine x_scrAt (k := 347) rfl (scr_in (j := 1) rfl (by omega) hL) ?_
  refine x_cX (ci := 9) (k := 348) rfl (by rfl) (StepQ.e (st_restore hS hc (gScr G (nI i + 1).toNatClampNeg))) okX9_restore viX9_restore mlRL_58 ⟨Nat.le_of_ble_eq_true rfl, Nat.le_of_ble_eq_true rfl⟩ (by exact Nat.le_of_ble_eq_true rfl) rfl rfl hS.1.1.1 (by exact Nat.le_of_ble_eq_true rfl) ?_
  intro r s1 q
  obtain ⟨v, rfl, hb, ⟨fs, hfs⟩, q2⟩ := q
  refine x_aload_n (k := 349) rfl rfl ?_
  refine x_aload_n (k := 350) rfl rfl ?_
  refine x_iload_n (k := 351) rfl rfl ?_
  refine x_iconst (v := 1) (k := 352) rfl (by decide) ?_
  refine x_iadd (k := 353) rfl ?_
  refine x_scrAt (k := 354) rfl (scr_in (j := 1) rfl (by omega) hL) ?_
  refine x_cX (ci := 10) (k := 355) rfl (by rfl) q2 okX10_restore viX10_restore mlRL_61 ⟨Nat.le_of_ble_eq_true rfl, Nat.le_of_ble_eq_true rfl⟩ (by exact Nat.le_of_ble_eq_true rfl) rfl rfl hfs (by exact Nat.le_of_ble_eq_true rfl) ?_
  intro r2 s2 q3
  obtain ⟨rfl, er, own2, D2, V2, hS2⟩ := q3
  refine x_icmp_eq (tgt := 888) (k := 356) rfl (by decide) (fun _ => ?_) (fun z => absurd rfl z)
  exact kk s2 own2 D2 V2 hS2 (by rw [er]; exact hb)
theorem la_undo (hS : Sys G s own a m c D V) (hc : c ≤ 511) (hi : i + 7 ≤ gLen G) (hL : gLen G ≤ 3584) (kk : LK G s a m c i Q) : xE G ML_law 549 (lsL G a m i) [] s Q := by
  refine x_aload_n (k := 359) rfl rfl ?_
  refine x_cX (ci := 9) (k := 360) rfl (by rfl) (StepQ.e (st_undo hS)) okX9_undo viX9_undo mlRL_62 ⟨Nat.le_of_ble_eq_true rfl, Nat.le_of_ble_eq_true rfl⟩ (by exact Nat.le_of_ble_eq_true rfl) rfl rfl hS.1.1.1 (by exact Nat.le_of_ble_eq_true rfl) ?_
  intro r s1 q
  obtain ⟨v, rfl, hb, ⟨fs, hfs⟩, q2⟩ := q
  refine x_aload_n (k := 361) rfl rfl ?_
  refine x_cX (ci := 10) (k := 362) rfl (by rfl) q2 okX10_undo viX10_undo mlRL_66 ⟨Nat.le_of_ble_eq_true rfl, Nat.le_of_ble_eq_true rfl⟩ (by exact Nat.le_of_ble_eq_true rfl) rfl rfl hfs (by exact Nat.le_of_ble_eq_true rfl) ?_
  intro r2 s2 q3
  obtain ⟨rfl, er, own2, D2, V2, hS2⟩ := q3
  refine x_icmp_eq (tgt := 888) (k := 363) rfl (by decide) (fun _ => ?_) (fun z => absurd rfl z)
  exact kk s2 own2 D2 V2 hS2 (by rw [er]; exact hb)
theorem la_append (hS : Sys G s own a m c D V) (hc : c ≤ 511) (hi : i + 7 ≤ gLen G) (hL : gLen G ≤ 3584) (kk : LK G s a m c i Q) : xE G ML_law 562 (lsL G a m i) [] s Q := by
  refine x_aload_n (k := 366) rfl rfl ?_
  refine x_aload_n (k := 367) rfl rfl ?_
  refine x_iload_n (k := 368) rfl rfl ?_
  refine x_iconst (v := 1) (k := 369) rfl (by decide) ?_
  refine x_iadd (k := 370) rfl ?_
  refine x_scrAt (k := 371) rfl (scr_in (j := 1) rfl (by omega) hL) ?_
  refine x_cX (ci := 9) (k := 372) rfl (by rfl) (StepQ.e (st_append hS (gScr G (nI i + 1).toNatClampNeg))) okX9_append viX9_append mlRL_67 ⟨Nat.le_of_ble_eq_true rfl, Nat.le_of_ble_eq_true rfl⟩ (by exact Nat.le_of_ble_eq_true rfl) rfl rfl hS.1.1.1 (by exact Nat.le_of_ble_eq_true rfl) ?_
  intro r s1 q
  obtain ⟨v, rfl, hb, ⟨fs, hfs⟩, q2⟩ := q
  refine x_aload_n (k := 373) rfl rfl ?_
  refine x_aload_n (k := 374) rfl rfl ?_
  refine x_iload_n (k := 375) rfl rfl ?_
  refine x_iconst (v := 1) (k := 376) rfl (by decide) ?_
  refine x_iadd (k := 377) rfl ?_
  refine x_scrAt (k := 378) rfl (scr_in (j := 1) rfl (by omega) hL) ?_
  refine x_cX (ci := 10) (k := 379) rfl (by rfl) q2 okX10_append viX10_append mlRL_70 ⟨Nat.le_of_ble_eq_true rfl, Nat.le_of_ble_eq_true rfl⟩ (by exact Nat.le_of_ble_eq_true rfl) rfl rfl hfs (by exact Nat.le_of_ble_eq_true rfl) ?_
  intro r2 s2 q3
  obtain ⟨rfl, er, own2, D2, V2, hS2⟩ := q3
  refine x_icmp_eq (tgt := 888) (k := 380) rfl (by decide) (fun _ => ?_) (fun z => absurd rfl z)
  exact kk s2 own2 D2 V2 hS2 (by rw [er]; exact hb)
theorem la_clearText (hS : Sys G s own a m c D V) (hc : c ≤ 511) (hi : i + 7 ≤ gLen G) (hL : gLen G ≤ 3584) (kk : LK G s a m c i Q) : xE G ML_law 585 (lsL G a m i) [] s Q := by
  refine x_aload_n (k := 383) rfl rfl ?_
  refine x_cX (ci := 9) (k := 384) rfl (by rfl) (StepQ.e (st_clearText hS)) okX9_clearText viX9_clearText mlRL_71 ⟨Nat.le_of_ble_eq_true rfl, Nat.le_of_ble_eq_true rfl⟩ (by exact Nat.le_of_ble_eq_true rfl) rfl rfl hS.1.1.1 (by exact Nat.le_of_ble_eq_true rfl) ?_
  intro r s1 q
  obtain ⟨v, rfl, hb, ⟨fs, hfs⟩, q2⟩ := q
  refine x_aload_n (k := 385) rfl rfl ?_
  refine x_cX (ci := 10) (k := 386) rfl (by rfl) q2 okX10_clearText viX10_clearText mlRL_74 ⟨Nat.le_of_ble_eq_true rfl, Nat.le_of_ble_eq_true rfl⟩ (by exact Nat.le_of_ble_eq_true rfl) rfl rfl hfs (by exact Nat.le_of_ble_eq_true rfl) ?_
  intro r2 s2 q3
  obtain ⟨rfl, er, own2, D2, V2, hS2⟩ := q3
  refine x_icmp_eq (tgt := 888) (k := 387) rfl (by decide) (fun _ => ?_) (fun z => absurd rfl z)
  exact kk s2 own2 D2 V2 hS2 (by rw [er]; exact hb)
theorem la_carryOut (hS : Sys G s own a m c D V) (hc : c ≤ 511) (hi : i + 7 ≤ gLen G) (hL : gLen G ≤ 3584) (kk : LK G s a m c i Q) : xE G ML_law 598 (lsL G a m i) [] s Q := by
  refine x_aload_n (k := 390) rfl rfl ?_
  refine x_cX (ci := 9) (k := 391) rfl (by rfl) (StepQ.e (st_carryOut hS hc)) okX9_carryOut viX9_carryOut mlRL_75 ⟨Nat.le_of_ble_eq_true rfl, Nat.le_of_ble_eq_true rfl⟩ (by exact Nat.le_of_ble_eq_true rfl) rfl rfl hS.1.1.1 (by exact Nat.le_of_ble_eq_true rfl) ?_
  intro r s1 q
  obtain ⟨v, rfl, hb, ⟨fs, hfs⟩, q2⟩ := q
  refine x_aload_n (k := 392) rfl rfl ?_
  refine x_cX (ci := 10) (k := 393) rfl (by rfl) q2 okX10_carryOut viX10_carryOut mlRL_78 ⟨Nat.le_of_ble_eq_true rfl, Nat.le_of_ble_eq_true rfl⟩ (by exact Nat.le_of_ble_eq_true rfl) rfl rfl hfs (by exact Nat.le_of_ble_eq_true rfl) ?_
  intro r2 s2 q3
  obtain ⟨rfl, er, own2, D2, V2, hS2⟩ := q3
  refine x_icmp_eq (tgt := 888) (k := 394) rfl (by decide) (fun _ => ?_) (fun z => absurd rfl z)
  exact kk s2 own2 D2 V2 hS2 (by rw [er]; exact hb)
theorem la_count (hS : Sys G s own a m c D V) (hc : c ≤ 511) (hi : i + 7 ≤ gLen G) (hL : gLen G ≤ 3584) (kk : LK G s a m c i Q) : xE G ML_law 611 (lsL G a m i) [] s Q := by
  refine x_aload_n (k := 397) rfl rfl ?_
  refine x_aload_n (k := 398) rfl rfl ?_
  refine x_iload_n (k := 399) rfl rfl ?_
  refine x_iconst (v := 1) (k := 400) rfl (by decide) ?_
  refine x_iadd (k := 401) rfl ?_
  refine x_scrAt (k := 402) rfl (scr_in (j := 1) rfl (by omega) hL) ?_
  refine x_cX (ci := 9) (k := 403) rfl (by rfl) (StepQ.e (st_count hS (gScr G (nI i + 1).toNatClampNeg))) okX9_count viX9_count mlRL_79 ⟨Nat.le_of_ble_eq_true rfl, Nat.le_of_ble_eq_true rfl⟩ (by exact Nat.le_of_ble_eq_true rfl) rfl rfl hS.1.1.1 (by exact Nat.le_of_ble_eq_true rfl) ?_
  intro r s1 q
  obtain ⟨v, rfl, hb, ⟨fs, hfs⟩, q2⟩ := q
  refine x_aload_n (k := 404) rfl rfl ?_
  refine x_aload_n (k := 405) rfl rfl ?_
  refine x_iload_n (k := 406) rfl rfl ?_
  refine x_iconst (v := 1) (k := 407) rfl (by decide) ?_
  refine x_iadd (k := 408) rfl ?_
  refine x_scrAt (k := 409) rfl (scr_in (j := 1) rfl (by omega) hL) ?_
  refine x_cX (ci := 10) (k := 410) rfl (by rfl) q2 okX10_count viX10_count mlRL_82 ⟨Nat.le_of_ble_eq_true rfl, Nat.le_of_ble_eq_true rfl⟩ (by exact Nat.le_of_ble_eq_true rfl) rfl rfl hfs (by exact Nat.le_of_ble_eq_true rfl) ?_
  intro r2 s2 q3
  obtain ⟨rfl, er, own2, D2, V2, hS2⟩ := q3
  refine x_icmp_eq (tgt := 888) (k := 411) rfl (by decide) (fun _ => ?_) (fun z => absurd rfl z)
  exact kk s2 own2 D2 V2 hS2 (by rw [er]; exact hb)
theorem la_trip (hS : Sys G s own a m c D V) (hc : c ≤ 511) (hi : i + 7 ≤ gLen G) (hL : gLen G ≤ 3584) (kk : LK G s a m c i Q) : xE G ML_law 634 (lsL G a m i) [] s Q := by
  refine x_aload_n (k := 414) rfl rfl ?_
  refine x_aload_n (k := 415) rfl rfl ?_
  refine x_iload_n (k := 416) rfl rfl ?_
  refine x_iconst (v := 1) (k := 417) rfl (by decide) ?_
  refine x_iadd (k := 418) rfl ?_
  refine x_scrAt (k := 419) rfl (scr_in (j := 1) rfl (by omega) hL) ?_
  refine x_aload_n (k := 420) rfl rfl ?_
  refine x_iload_n (k := 421) rfl rfl ?_
  refine x_iconst (v := 2) (k := 422) rfl (by decide) ?_
  refine x_iadd (k := 423) rfl ?_
  refine x_scrAt (k := 424) rfl (scr_in (j := 2) rfl (by omega) hL) ?_
  refine x_cX (ci := 9) (k := 425) rfl (by rfl) (StepQ.e (st_trip hS (gScr G (nI i + 1).toNatClampNeg) (gScr G (nI i + 2).toNatClampNeg))) okX9_trip viX9_trip mlRL_83 ⟨Nat.le_of_ble_eq_true rfl, Nat.le_of_ble_eq_true rfl⟩ (by exact Nat.le_of_ble_eq_true rfl) rfl rfl hS.1.1.1 (by exact Nat.le_of_ble_eq_true rfl) ?_
  intro r s1 q
  obtain ⟨v, rfl, hb, ⟨fs, hfs⟩, q2⟩ := q
  refine x_aload_n (k := 426) rfl rfl ?_
  refine x_aload_n (k := 427) rfl rfl ?_
  refine x_iload_n (k := 428) rfl rfl ?_
  refine x_iconst (v := 1) (k := 429) rfl (by decide) ?_
  refine x_iadd (k := 430) rfl ?_
  refine x_scrAt (k := 431) rfl (scr_in (j := 1) rfl (by omega) hL) ?_
  refine x_aload_n (k := 432) rfl rfl ?_
  refine x_iload_n (k := 433) rfl rfl ?_
  refine x_iconst (v := 2) (k := 434) rfl (by decide) ?_
  refine x_iadd (k := 435) rfl ?_
  refine x_scrAt (k := 436) rfl (scr_in (j := 2) rfl (by omega) hL) ?_
  refine x_cX (ci := 10) (k := 437) rfl (by rfl) q2 okX10_trip viX10_trip mlRL_86 ⟨Nat.le_of_ble_eq_true rfl, Nat.le_of_ble_eq_true rfl⟩ (by exact Nat.le_of_ble_eq_true rfl) rfl rfl hfs (by exact Nat.le_of_ble_eq_true rfl) ?_
  intro r2 s2 q3
  obtain ⟨rfl, er, own2, D2, V2, hS2⟩ := q3
  refine x_icmp_eq (tgt := 888) (k := 438) rfl (by decide) (fun _ => ?_) (fun z => absurd rfl z)
  exact kk s2 own2 D2 V2 hS2 (by rw [er]; exact hb)
set_option maxRecDepth 20000 in
theorem la_person (hS : Sys G s own a m c D V) (hc : c ≤ 511) (hi : i + 7 ≤ gLen G) (hL : gLen G ≤ 3584) (kk : LK G s a m c i Q) : xE G ML_law 667 (lsL G a m i) [] s Q := by
  refine x_aload_n (k := 441) rfl rfl ?_
  refine x_aload_n (k := 442) rfl rfl ?_
  refine x_iload_n (k := 443) rfl rfl ?_
  refine x_iconst (v := 1) (k := 444) rfl (by decide) ?_
  refine x_iadd (k := 445) rfl ?_
  refine x_scrAt (k := 446) rfl (scr_in (j := 1) rfl (by omega) hL) ?_
  refine x_aload_n (k := 447) rfl rfl ?_
  refine x_iload_n (k := 448) rfl rfl ?_
  refine x_iconst (v := 2) (k := 449) rfl (by decide) ?_
  refine x_iadd (k := 450) rfl ?_
  refine x_scrAt (k := 451) rfl (scr_in (j := 2) rfl (by omega) hL) ?_
  refine x_cX (ci := 9) (k := 452) rfl (by rfl) (StepQ.e (st_person hS (gScr G (nI i + 1).toNatClampNeg) (gScr G (nI i + 2).toNatClampNeg))) okX9_person viX9_person mlRL_87 ⟨Nat.le_of_ble_eq_true rfl, Nat.le_of_ble_eq_true rfl⟩ (by exact Nat.le_of_ble_eq_true rfl) rfl rfl hS.1.1.1 (by exact Nat.le_of_ble_eq_true rfl) ?_
  intro r s1 q
  obtain ⟨v, rfl, hb, ⟨fs, hfs⟩, q2⟩ := q
  refine x_aload_n (k := 453) rfl rfl ?_
  refine x_aload_n (k := 454) rfl rfl ?_
  refine x_iload_n (k := 455) rfl rfl ?_
  refine x_iconst (v := 1) (k := 456) rfl (by decide) ?_
  refine x_iadd (k := 457) rfl ?_
  refine x_scrAt (k := 458) rfl (scr_in (j := 1) rfl (by omega) hL) ?_
  refine x_aload_n (k := 459) rfl rfl ?_
  refine x_iload_n (k := 460) rfl rfl ?_
  refine x_iconst (v := 2) (k := 461) rfl (by decide) ?_
  refine x_iadd (k := 462) rfl ?_
  refine x_scrAt (k := 463) rfl (scr_in (j := 2) rfl (by omega) hL) ?_
  refine x_cX (ci := 10) (k := 464) rfl (by rfl) q2 okX10_person viX10_person mlRL_90 ⟨Nat.le_of_ble_eq_true rfl, Nat.le_of_ble_eq_true rfl⟩ (by exact Nat.le_of_ble_eq_true rfl) rfl rfl hfs (by exact Nat.le_of_ble_eq_true rfl) ?_
  intro r2 s2 q3
  obtain ⟨rfl, er, own2, D2, V2, hS2⟩ := q3
  refine x_icmp_eq (tgt := 888) (k := 465) rfl (by decide) (fun _ => ?_) (fun z => absurd rfl z)
  exact kk s2 own2 D2 V2 hS2 (by rw [er]; exact hb)
set_option maxRecDepth 20000 in
theorem la_parcel (hS : Sys G s own a m c D V) (hc : c ≤ 511) (hi : i + 7 ≤ gLen G) (hL : gLen G ≤ 3584) (kk : LK G s a m c i Q) : xE G ML_law 700 (lsL G a m i) [] s Q := by
  refine x_aload_n (k := 468) rfl rfl ?_
  refine x_aload_n (k := 469) rfl rfl ?_
  refine x_iload_n (k := 470) rfl rfl ?_
  refine x_iconst (v := 1) (k := 471) rfl (by decide) ?_
  refine x_iadd (k := 472) rfl ?_
  refine x_scrAt (k := 473) rfl (scr_in (j := 1) rfl (by omega) hL) ?_
  refine x_aload_n (k := 474) rfl rfl ?_
  refine x_iload_n (k := 475) rfl rfl ?_
  refine x_iconst (v := 2) (k := 476) rfl (by decide) ?_
  refine x_iadd (k := 477) rfl ?_
  refine x_scrAt (k := 478) rfl (scr_in (j := 2) rfl (by omega) hL) ?_
  refine x_cX (ci := 9) (k := 479) rfl (by rfl) (StepQ.e (st_parcel hS (gScr G (nI i + 1).toNatClampNeg) (gScr G (nI i + 2).toNatClampNeg))) okX9_parcel viX9_parcel mlRL_91 ⟨Nat.le_of_ble_eq_true rfl, Nat.le_of_ble_eq_true rfl⟩ (by exact Nat.le_of_ble_eq_true rfl) rfl rfl hS.1.1.1 (by exact Nat.le_of_ble_eq_true rfl) ?_
  intro r s1 q
  obtain ⟨v, rfl, hb, ⟨fs, hfs⟩, q2⟩ := q
  refine x_aload_n (k := 480) rfl rfl ?_
  refine x_aload_n (k := 481) rfl rfl ?_
  refine x_iload_n (k := 482) rfl rfl ?_
  refine x_iconst (v := 1) (k := 483) rfl (by decide) ?_
  refine x_iadd (k := 484) rfl ?_
  refine x_scrAt (k := 485) rfl (scr_in (j := 1) rfl (by omega) hL) ?_
  refine x_aload_n (k := 486) rfl rfl ?_
  refine x_iload_n (k := 487) rfl rfl ?_
  refine x_iconst (v := 2) (k := 488) rfl (by decide) ?_
  refine x_iadd (k := 489) rfl ?_
  refine x_scrAt (k := 490) rfl (scr_in (j := 2) rfl (by omega) hL) ?_
  refine x_cX (ci := 10) (k := 491) rfl (by rfl) q2 okX10_parcel viX10_parcel mlRL_94 ⟨Nat.le_of_ble_eq_true rfl, Nat.le_of_ble_eq_true rfl⟩ (by exact Nat.le_of_ble_eq_true rfl) rfl rfl hfs (by exact Nat.le_of_ble_eq_true rfl) ?_
  intro r2 s2 q3
  obtain ⟨rfl, er, own2, D2, V2, hS2⟩ := q3
  refine x_icmp_eq (tgt := 888) (k := 492) rfl (by decide) (fun _ => ?_) (fun z => absurd rfl z)
  exact kk s2 own2 D2 V2 hS2 (by rw [er]; exact hb)
set_option maxRecDepth 20000 in
theorem la_holderAt (hS : Sys G s own a m c D V) (hc : c ≤ 511) (hi : i + 7 ≤ gLen G) (hL : gLen G ≤ 3584) (kk : LK G s a m c i Q) : xE G ML_law 733 (lsL G a m i) [] s Q := by
  refine x_aload_n (k := 495) rfl rfl ?_
  refine x_aload_n (k := 496) rfl rfl ?_
  refine x_iload_n (k := 497) rfl rfl ?_
  refine x_iconst (v := 1) (k := 498) rfl (by decide) ?_
  refine x_iadd (k := 499) rfl ?_
  refine x_scrAt (k := 500) rfl (scr_in (j := 1) rfl (by omega) hL) ?_
  refine x_aload_n (k := 501) rfl rfl ?_
  refine x_iload_n (k := 502) rfl rfl ?_
  refine x_iconst (v := 2) (k := 503) rfl (by decide) ?_
  refine x_iadd (k := 504) rfl ?_
  refine x_scrAt (k := 505) rfl (scr_in (j := 2) rfl (by omega) hL) ?_
  refine x_cX (ci := 9) (k := 506) rfl (by rfl) (StepQ.e (st_holderAt hS (gScr G (nI i + 1).toNatClampNeg) (gScr G (nI i + 2).toNatClampNeg))) okX9_holderAt viX9_holderAt mlRL_95 ⟨Nat.le_of_ble_eq_true rfl, Nat.le_of_ble_eq_true rfl⟩ (by exact Nat.le_of_ble_eq_true rfl) rfl rfl hS.1.1.1 (by exact Nat.le_of_ble_eq_true rfl) ?_
  intro r s1 q
  obtain ⟨v, rfl, hb, ⟨fs, hfs⟩, q2⟩ := q
  refine x_aload_n (k := 507) rfl rfl ?_
  refine x_aload_n (k := 508) rfl rfl ?_
  refine x_iload_n (k := 509) rfl rfl ?_
  refine x_iconst (v := 1) (k := 510) rfl (by decide) ?_
  refine x_iadd (k := 511) rfl ?_
  refine x_scrAt (k := 512) rfl (scr_in (j := 1) rfl (by omega) hL) ?_
  refine x_aload_n (k := 513) rfl rfl ?_
  refine x_iload_n (k := 514) rfl rfl ?_
  refine x_iconst (v := 2) (k := 515) rfl (by decide) ?_
  refine x_iadd (k := 516) rfl ?_
  refine x_scrAt (k := 517) rfl (scr_in (j := 2) rfl (by omega) hL) ?_
  refine x_cX (ci := 10) (k := 518) rfl (by rfl) q2 okX10_holderAt viX10_holderAt mlRL_98 ⟨Nat.le_of_ble_eq_true rfl, Nat.le_of_ble_eq_true rfl⟩ (by exact Nat.le_of_ble_eq_true rfl) rfl rfl hfs (by exact Nat.le_of_ble_eq_true rfl) ?_
  intro r2 s2 q3
  obtain ⟨rfl, er, own2, D2, V2, hS2⟩ := q3
  refine x_icmp_eq (tgt := 888) (k := 519) rfl (by decide) (fun _ => ?_) (fun z => absurd rfl z)
  exact kk s2 own2 D2 V2 hS2 (by rw [er]; exact hb)
set_option maxRecDepth 20000 in
theorem la_inLocker (hS : Sys G s own a m c D V) (hc : c ≤ 511) (hi : i + 7 ≤ gLen G) (hL : gLen G ≤ 3584) (kk : LK G s a m c i Q) : xE G ML_law 766 (lsL G a m i) [] s Q := by
  refine x_aload_n (k := 522) rfl rfl ?_
  refine x_aload_n (k := 523) rfl rfl ?_
  refine x_iload_n (k := 524) rfl rfl ?_
  refine x_iconst (v := 1) (k := 525) rfl (by decide) ?_
  refine x_iadd (k := 526) rfl ?_
  refine x_scrAt (k := 527) rfl (scr_in (j := 1) rfl (by omega) hL) ?_
  refine x_cX (ci := 9) (k := 528) rfl (by rfl) (StepQ.e (st_inLocker hS (gScr G (nI i + 1).toNatClampNeg))) okX9_inLocker viX9_inLocker mlRL_99 ⟨Nat.le_of_ble_eq_true rfl, Nat.le_of_ble_eq_true rfl⟩ (by exact Nat.le_of_ble_eq_true rfl) rfl rfl hS.1.1.1 (by exact Nat.le_of_ble_eq_true rfl) ?_
  intro r s1 q
  obtain ⟨v, rfl, hb, ⟨fs, hfs⟩, q2⟩ := q
  refine x_aload_n (k := 529) rfl rfl ?_
  refine x_aload_n (k := 530) rfl rfl ?_
  refine x_iload_n (k := 531) rfl rfl ?_
  refine x_iconst (v := 1) (k := 532) rfl (by decide) ?_
  refine x_iadd (k := 533) rfl ?_
  refine x_scrAt (k := 534) rfl (scr_in (j := 1) rfl (by omega) hL) ?_
  refine x_cX (ci := 10) (k := 535) rfl (by rfl) q2 okX10_inLocker viX10_inLocker mlRL_102 ⟨Nat.le_of_ble_eq_true rfl, Nat.le_of_ble_eq_true rfl⟩ (by exact Nat.le_of_ble_eq_true rfl) rfl rfl hfs (by exact Nat.le_of_ble_eq_true rfl) ?_
  intro r2 s2 q3
  obtain ⟨rfl, er, own2, D2, V2, hS2⟩ := q3
  refine x_icmp_eq (tgt := 888) (k := 536) rfl (by decide) (fun _ => ?_) (fun z => absurd rfl z)
  exact kk s2 own2 D2 V2 hS2 (by rw [er]; exact hb)
set_option maxRecDepth 20000 in
theorem la_earliest (hS : Sys G s own a m c D V) (hc : c ≤ 511) (hi : i + 7 ≤ gLen G) (hL : gLen G ≤ 3584) (kk : LK G s a m c i Q) : xE G ML_law 789 (lsL G a m i) [] s Q := by
  refine x_aload_n (k := 539) rfl rfl ?_
  refine x_aload_n (k := 540) rfl rfl ?_
  refine x_iload_n (k := 541) rfl rfl ?_
  refine x_iconst (v := 1) (k := 542) rfl (by decide) ?_
  refine x_iadd (k := 543) rfl ?_
  refine x_scrAt (k := 544) rfl (scr_in (j := 1) rfl (by omega) hL) ?_
  refine x_aload_n (k := 545) rfl rfl ?_
  refine x_iload_n (k := 546) rfl rfl ?_
  refine x_iconst (v := 2) (k := 547) rfl (by decide) ?_
  refine x_iadd (k := 548) rfl ?_
  refine x_scrAt (k := 549) rfl (scr_in (j := 2) rfl (by omega) hL) ?_
  refine x_cX (ci := 9) (k := 550) rfl (by rfl) (StepQ.e (st_earliest hS (gScr G (nI i + 1).toNatClampNeg) (gScr G (nI i + 2).toNatClampNeg))) okX9_earliest viX9_earliest mlRL_103 ⟨Nat.le_of_ble_eq_true rfl, Nat.le_of_ble_eq_true rfl⟩ (by exact Nat.le_of_ble_eq_true rfl) rfl rfl hS.1.1.1 (by exact Nat.le_of_ble_eq_true rfl) ?_
  intro r s1 q
  obtain ⟨v, rfl, hb, ⟨fs, hfs⟩, q2⟩ := q
  refine x_aload_n (k := 551) rfl rfl ?_
  refine x_aload_n (k := 552) rfl rfl ?_
  refine x_iload_n (k := 553) rfl rfl ?_
  refine x_iconst (v := 1) (k := 554) rfl (by decide) ?_
  refine x_iadd (k := 555) rfl ?_
  refine x_scrAt (k := 556) rfl (scr_in (j := 1) rfl (by omega) hL) ?_
  refine x_aload_n (k := 557) rfl rfl ?_
  refine x_iload_n (k := 558) rfl rfl ?_
  refine x_iconst (v := 2) (k := 559) rfl (by decide) ?_
  refine x_iadd (k := 560) rfl ?_
  refine x_scrAt (k := 561) rfl (scr_in (j := 2) rfl (by omega) hL) ?_
  refine x_cX (ci := 10) (k := 562) rfl (by rfl) q2 okX10_earliest viX10_earliest mlRL_106 ⟨Nat.le_of_ble_eq_true rfl, Nat.le_of_ble_eq_true rfl⟩ (by exact Nat.le_of_ble_eq_true rfl) rfl rfl hfs (by exact Nat.le_of_ble_eq_true rfl) ?_
  intro r2 s2 q3
  obtain ⟨rfl, er, own2, D2, V2, hS2⟩ := q3
  refine x_icmp_eq (tgt := 888) (k := 563) rfl (by decide) (fun _ => ?_) (fun z => absurd rfl z)
  exact kk s2 own2 D2 V2 hS2 (by rw [er]; exact hb)
set_option maxRecDepth 20000 in
theorem la_cheapest (hS : Sys G s own a m c D V) (hc : c ≤ 511) (hi : i + 7 ≤ gLen G) (hL : gLen G ≤ 3584) (kk : LK G s a m c i Q) : xE G ML_law 822 (lsL G a m i) [] s Q := by
  refine x_aload_n (k := 566) rfl rfl ?_
  refine x_aload_n (k := 567) rfl rfl ?_
  refine x_iload_n (k := 568) rfl rfl ?_
  refine x_iconst (v := 1) (k := 569) rfl (by decide) ?_
  refine x_iadd (k := 570) rfl ?_
  refine x_scrAt (k := 571) rfl (scr_in (j := 1) rfl (by omega) hL) ?_
  refine x_aload_n (k := 572) rfl rfl ?_
  refine x_iload_n (k := 573) rfl rfl ?_
  refine x_iconst (v := 2) (k := 574) rfl (by decide) ?_
  refine x_iadd (k := 575) rfl ?_
  refine x_scrAt (k := 576) rfl (scr_in (j := 2) rfl (by omega) hL) ?_
  refine x_cX (ci := 9) (k := 577) rfl (by rfl) (StepQ.e (st_cheapest hS (gScr G (nI i + 1).toNatClampNeg) (gScr G (nI i + 2).toNatClampNeg))) okX9_cheapest viX9_cheapest mlRL_107 ⟨Nat.le_of_ble_eq_true rfl, Nat.le_of_ble_eq_true rfl⟩ (by exact Nat.le_of_ble_eq_true rfl) rfl rfl hS.1.1.1 (by exact Nat.le_of_ble_eq_true rfl) ?_
  intro r s1 q
  obtain ⟨v, rfl, hb, ⟨fs, hfs⟩, q2⟩ := q
  refine x_aload_n (k := 578) rfl rfl ?_
  refine x_aload_n (k := 579) rfl rfl ?_
  refine x_iload_n (k := 580) rfl rfl ?_
  refine x_iconst (v := 1) (k := 581) rfl (by decide) ?_
  refine x_iadd (k := 582) rfl ?_
  refine x_scrAt (k := 583) rfl (scr_in (j := 1) rfl (by omega) hL) ?_
  refine x_aload_n (k := 584) rfl rfl ?_
  refine x_iload_n (k := 585) rfl rfl ?_
  refine x_iconst (v := 2) (k := 586) rfl (by decide) ?_
  refine x_iadd (k := 587) rfl ?_
  refine x_scrAt (k := 588) rfl (scr_in (j := 2) rfl (by omega) hL) ?_
  refine x_cX (ci := 10) (k := 589) rfl (by rfl) q2 okX10_cheapest viX10_cheapest mlRL_110 ⟨Nat.le_of_ble_eq_true rfl, Nat.le_of_ble_eq_true rfl⟩ (by exact Nat.le_of_ble_eq_true rfl) rfl rfl hfs (by exact Nat.le_of_ble_eq_true rfl) ?_
  intro r2 s2 q3
  obtain ⟨rfl, er, own2, D2, V2, hS2⟩ := q3
  refine x_icmp_eq (tgt := 888) (k := 590) rfl (by decide) (fun _ => ?_) (fun z => absurd rfl z)
  exact kk s2 own2 D2 V2 hS2 (by rw [er]; exact hb)
set_option maxRecDepth 20000 in
theorem la_wouldClaim (hS : Sys G s own a m c D V) (hc : c ≤ 511) (hi : i + 7 ≤ gLen G) (hL : gLen G ≤ 3584) (kk : LK G s a m c i Q) : xE G ML_law 855 (lsL G a m i) [] s Q := by
  refine x_aload_n (k := 593) rfl rfl ?_
  refine x_aload_n (k := 594) rfl rfl ?_
  refine x_iload_n (k := 595) rfl rfl ?_
  refine x_iconst (v := 1) (k := 596) rfl (by decide) ?_
  refine x_iadd (k := 597) rfl ?_
  refine x_scrAt (k := 598) rfl (scr_in (j := 1) rfl (by omega) hL) ?_
  refine x_aload_n (k := 599) rfl rfl ?_
  refine x_iload_n (k := 600) rfl rfl ?_
  refine x_iconst (v := 2) (k := 601) rfl (by decide) ?_
  refine x_iadd (k := 602) rfl ?_
  refine x_scrAt (k := 603) rfl (scr_in (j := 2) rfl (by omega) hL) ?_
  refine x_cX (ci := 9) (k := 604) rfl (by rfl) (StepQ.e (st_would hS (gScr G (nI i + 1).toNatClampNeg) (gScr G (nI i + 2).toNatClampNeg))) okX9_wouldClaim viX9_wouldClaim mlRL_111 ⟨Nat.le_of_ble_eq_true rfl, Nat.le_of_ble_eq_true rfl⟩ (by exact Nat.le_of_ble_eq_true rfl) rfl rfl hS.1.1.1 (by exact Nat.le_of_ble_eq_true rfl) ?_
  intro r s1 q
  obtain ⟨v, rfl, hb, ⟨fs, hfs⟩, q2⟩ := q
  refine x_aload_n (k := 605) rfl rfl ?_
  refine x_aload_n (k := 606) rfl rfl ?_
  refine x_iload_n (k := 607) rfl rfl ?_
  refine x_iconst (v := 1) (k := 608) rfl (by decide) ?_
  refine x_iadd (k := 609) rfl ?_
  refine x_scrAt (k := 610) rfl (scr_in (j := 1) rfl (by omega) hL) ?_
  refine x_aload_n (k := 611) rfl rfl ?_
  refine x_iload_n (k := 612) rfl rfl ?_
  refine x_iconst (v := 2) (k := 613) rfl (by decide) ?_
  refine x_iadd (k := 614) rfl ?_
  refine x_scrAt (k := 615) rfl (scr_in (j := 2) rfl (by omega) hL) ?_
  refine x_cX (ci := 10) (k := 616) rfl (by rfl) q2 okX10_wouldClaim viX10_wouldClaim mlRL_114 ⟨Nat.le_of_ble_eq_true rfl, Nat.le_of_ble_eq_true rfl⟩ (by exact Nat.le_of_ble_eq_true rfl) rfl rfl hfs (by exact Nat.le_of_ble_eq_true rfl) ?_
  intro r2 s2 q3
  obtain ⟨rfl, er, own2, D2, V2, hS2⟩ := q3
  refine x_icmp_eq (tgt := 888) (k := 617) rfl (by decide) (fun _ => ?_) (fun z => absurd rfl z)
  exact kk s2 own2 D2 V2 hS2 (by rw [er]; exact hb)
set_option maxRecDepth 20000 in
theorem l_law {B1 B2 : Nat} (hL : gLen G ≤ 3584) : ∀ (d c : Nat) (s : xA) (own : Nat → Nat) (D : OD) (V : Vd), 512 - c < d → Sys G s own a m c D V → 7 * c ≤ gLen G → s.2.1 ≤ B1 + 163 * c → s.2.2 ≤ B2 + 3247 * c → xE G ML_law 18 (lsL G a m (7 * c)) [] s (fun r s1 => r = some (.int 1) ∧ s1.2.1 ≤ B1 + 163 * 512 ∧ s1.2.2 ≤ B2 + 3247 * 512) := by
  intro d
  induction d with
  | zero =>
    intro c s own D V hd
    exact absurd hd (Nat.not_lt_zero _)
  | succ d ih =>
    intro c s own D V hd hS h7 h1 h2
    refine x_iload_n (k := 10) rfl rfl ?_
    refine x_aload_n (k := 11) rfl rfl ?_
    refine x_scrLen (k := 12) rfl ?_
    refine x_bipush (v := 7) (k := 13) rfl (by decide) ?_
    refine x_isub (k := 14) rfl ?_
    refine x_icmp_gt (tgt := 894) (k := 15) rfl (by decide) (fun z => ?_) (fun z => ?_)
    · refine x_iconst (v := 1) (k := 622) rfl (by decide) ?_
      exact x_iret (k := 623) rfl rfl rfl ⟨rfl, by omega, by omega⟩
    · have hi := sub7_lt hL (by omega) z
      have hc : c ≤ 511 := by omega
      have kk : LK G s a m c (7 * c) (fun r s1 => r = some (.int 1) ∧ s1.2.1 ≤ B1 + 163 * 512 ∧ s1.2.2 ≤ B2 + 3247 * 512) := fun s2 own2 D2 V2 hS2 hb => by
        refine x_iinc (k := 620) rfl rfl (show nI (7 * c) + Int32.ofInt 7 = nI (7 * (c + 1)) from nI_add (7 * c) 7) (by decide) ?_
        refine x_goto (tgt := 18) (k := 621) rfl (by decide) ?_
        exact ih (c + 1) s2 own2 D2 V2 (by omega) hS2 (by omega) (by omega) (by omega)
      refine x_aload_n (k := 16) rfl rfl ?_
      refine x_iload_n (k := 17) rfl rfl ?_
      refine x_scrAt (k := 18) rfl (vp_inN rfl (by omega) (by omega)) ?_
      refine x_bipush (v := 31) (k := 19) rfl (by decide) ?_
      refine x_iand (k := 20) rfl ?_
      obtain ⟨n, hn, en⟩ := and31 (gScr G (nI (7 * c)).toNatClampNeg)
      rw [en]
      by_cases h24 : 24 ≤ n
      · refine x_tableOut (tgt := 888) (k := 21) rfl (by rw [nI_toInt (by omega)]; omega) (by decide) ?_
        exact kk s own D V ⟨hS.1, hS.2.1, RelO.nx hS.2.2⟩ ⟨Nat.le_refl _, by omega, Nat.le_refl _, by omega⟩
      · match n, h24 with
        | 0, _ => exact x_tableIn (tgt := 144) (k := 21) rfl (by decide) (by decide) rfl (by decide) (la_offer hS hc hi hL kk)
        | 1, _ => exact x_tableIn (tgt := 219) (k := 21) rfl (by decide) (by decide) rfl (by decide) (la_takeBack hS hc hi hL kk)
        | 2, _ => exact x_tableIn (tgt := 242) (k := 21) rfl (by decide) (by decide) rfl (by decide) (la_post hS hc hi hL kk)
        | 3, _ => exact x_tableIn (tgt := 305) (k := 21) rfl (by decide) (by decide) rfl (by decide) (la_pass hS hc hi hL kk)
        | 4, _ => exact x_tableIn (tgt := 328) (k := 21) rfl (by decide) (by decide) rfl (by decide) (la_gave hS hc hi hL kk)
        | 5, _ => exact x_tableIn (tgt := 371) (k := 21) rfl (by decide) (by decide) rfl (by decide) (la_took hS hc hi hL kk)
        | 6, _ => exact x_tableIn (tgt := 414) (k := 21) rfl (by decide) (by decide) rfl (by decide) (la_putIn hS hc hi hL kk)
        | 7, _ => exact x_tableIn (tgt := 447) (k := 21) rfl (by decide) (by decide) rfl (by decide) (la_fetch hS hc hi hL kk)
        | 8, _ => exact x_tableIn (tgt := 480) (k := 21) rfl (by decide) (by decide) rfl (by decide) (la_claim hS hc hi hL kk)
        | 9, _ => exact x_tableIn (tgt := 503) (k := 21) rfl (by decide) (by decide) rfl (by decide) (la_take hS hc hi hL kk)
        | 10, _ => exact x_tableIn (tgt := 526) (k := 21) rfl (by decide) (by decide) rfl (by decide) (la_restore hS hc hi hL kk)
        | 11, _ => exact x_tableIn (tgt := 549) (k := 21) rfl (by decide) (by decide) rfl (by decide) (la_undo hS hc hi hL kk)
        | 12, _ => exact x_tableIn (tgt := 562) (k := 21) rfl (by decide) (by decide) rfl (by decide) (la_append hS hc hi hL kk)
        | 13, _ => exact x_tableIn (tgt := 585) (k := 21) rfl (by decide) (by decide) rfl (by decide) (la_clearText hS hc hi hL kk)
        | 14, _ => exact x_tableIn (tgt := 598) (k := 21) rfl (by decide) (by decide) rfl (by decide) (la_carryOut hS hc hi hL kk)
        | 15, _ => exact x_tableIn (tgt := 611) (k := 21) rfl (by decide) (by decide) rfl (by decide) (la_count hS hc hi hL kk)
        | 16, _ => exact x_tableIn (tgt := 634) (k := 21) rfl (by decide) (by decide) rfl (by decide) (la_trip hS hc hi hL kk)
        | 17, _ => exact x_tableIn (tgt := 667) (k := 21) rfl (by decide) (by decide) rfl (by decide) (la_person hS hc hi hL kk)
        | 18, _ => exact x_tableIn (tgt := 700) (k := 21) rfl (by decide) (by decide) rfl (by decide) (la_parcel hS hc hi hL kk)
        | 19, _ => exact x_tableIn (tgt := 733) (k := 21) rfl (by decide) (by decide) rfl (by decide) (la_holderAt hS hc hi hL kk)
        | 20, _ => exact x_tableIn (tgt := 766) (k := 21) rfl (by decide) (by decide) rfl (by decide) (la_inLocker hS hc hi hL kk)
        | 21, _ => exact x_tableIn (tgt := 789) (k := 21) rfl (by decide) (by decide) rfl (by decide) (la_earliest hS hc hi hL kk)
        | 22, _ => exact x_tableIn (tgt := 822) (k := 21) rfl (by decide) (by decide) rfl (by decide) (la_cheapest hS hc hi hL kk)
        | 23, _ => exact x_tableIn (tgt := 855) (k := 21) rfl (by decide) (by decide) rfl (by decide) (la_wouldClaim hS hc hi hL kk)
        | n + 24, h => exact absurd (by omega) h
end LAW
/-- both, just made -/
def ownM (own : Nat → Nat) (m : Nat) : Nat → Nat := fun q => if q < m then own q else 3
theorem sys_new {G : xG} {s : xA} : Sys G ((setM G (aNew (mkO G s) 9 (eO 10 mZ)) (mkO G s).2.1 (Vz 8)).1, (mkO G s).2.1 + 6, (aNew (mkO G s) 9 (eO 10 mZ)).2.2 + 10695) (ownM (own0 (fun _ => 0) s.2.1) (mkO G s).2.1) s.2.1 (mkO G s).2.1 0 D0s (Vz 8) := by
  have e1 : (mkO G s).2.1 = s.2.1 + 53 := mkO_n.1
  have hO := mkO_Ob (G := G) (t := s) (own := fun _ => 0)
  have hd : Did (mkO G s) ((setM G (aNew (mkO G s) 9 (eO 10 mZ)) (mkO G s).2.1 (Vz 8)).1, (mkO G s).2.1 + 6, (aNew (mkO G s) 9 (eO 10 mZ)).2.2 + 10695) (own0 (fun _ => 0) s.2.1) (ownM (own0 (fun _ => 0) s.2.1) (mkO G s).2.1) (fun _ => False) 6 10704 :=
    ⟨fun q hq _ => (setM_out (by omega)).trans (aNew_ne (by omega)), fun q hq => if_pos hq, Nat.le_add_right _ _, Nat.le_refl _, by show _ ≤ (mkO G s).2.2 + 9 + 10695; omega, by show (mkO G s).2.2 + 9 + 10695 ≤ _; omega⟩
  refine ⟨Ob.kept hO hd (fun q z => absurd z id), ⟨fun k hk => ⟨setM_in hk, if_neg (by omega)⟩, Nat.le_refl _⟩, Nat.le_refl _, ⟨⟨0, 0, 0, 0, 0, W0_RF, W0_Gd, rfl, Nat.le_refl _⟩, fun i hi => Or.inl ⟨rfl, ?_⟩⟩, ⟨⟨rfl, by decide, by decide⟩, fun j hj => absurd hj (Nat.not_lt_zero _)⟩, ⟨Nat.zero_le _, rfl⟩, fun k hk => absurd hk (Nat.not_lt_zero _)⟩
  rcases (by omega : i = 0 ∨ i = 1) with rfl | rfl
  · exact (by decide +kernel : piN 8 588 = 0)
  · exact (by decide +kernel : piN 8 1177 = 0)
/-- the law, whatever its script of at most 3584 ints: true -/
theorem c_law {G : xG} {s : xA} (hL : gLen G ≤ 3584) : xMe G ML_law [.ref (gS3 G)] s (fun r s1 => r = some (.int 1) ∧ s1.2.1 ≤ s.2.1 + 600000 ∧ s1.2.2 ≤ s.2.2 + 7302250) := by
  refine x_new (ci := 9) (fs := oZ) (k := 0) rfl rfl clRL_7 wn9 wi_RX9 tyX9 tyX9_ok (fun j hj => by have hj : j < 5 := hj; rcases (show j = 0 ∨ j = 1 ∨ j = 2 ∨ j = 3 ∨ j = 4 by omega) with rfl | rfl | rfl | rfl | rfl <;> rfl) ?_
  refine x_dup (k := 1) rfl rfl ?_
  refine x_cI (k := 2) rfl (by rfl) (c_newO (t := s)) okX9_init rfl rfl viX9_init mlRL_9 ⟨Nat.le_of_ble_eq_true rfl, Nat.le_of_ble_eq_true rfl⟩ (by exact Nat.le_of_ble_eq_true rfl) rfl (by exact Nat.le_of_ble_eq_true rfl) ?_
  refine x_astore_n (k := 3) rfl (by decide) ?_
  refine x_new (ci := 10) (fs := mZ) (k := 4) rfl rfl clRL_10 wn10 wi_RX10 tyX10 tyX10_ok (fun j hj => by have hj : j < 9 := hj; rcases (show j = 0 ∨ j = 1 ∨ j = 2 ∨ j = 3 ∨ j = 4 ∨ j = 5 ∨ j = 6 ∨ j = 7 ∨ j = 8 by omega) with rfl | rfl | rfl | rfl | rfl | rfl | rfl | rfl | rfl <;> rfl) ?_
  refine x_dup (k := 5) rfl rfl ?_
  refine x_cI (k := 6) rfl (by rfl) (c_newM (p := (mkO G s).2.1) aNew_at rfl) okX10_init rfl rfl viX10_init mlRL_12 ⟨Nat.le_of_ble_eq_true rfl, Nat.le_of_ble_eq_true rfl⟩ (by exact Nat.le_of_ble_eq_true rfl) rfl (by exact Nat.le_of_ble_eq_true rfl) ?_
  refine x_astore_n (k := 7) rfl (by decide) ?_
  refine x_iconst (v := 0) (k := 8) rfl (by decide) ?_
  refine x_istore_n (k := 9) rfl (by decide) ?_
  refine x_sub (ls' := lsL G s.2.1 (mkO G s).2.1 (7 * 0)) (by intro q hq; simp only [List.mem_cons, List.not_mem_nil, or_false] at hq; rcases hq with rfl | rfl | rfl | rfl <;> rfl) ?_
  have k := sys_new (G := G) (s := s)
  refine (l_law (B1 := s.2.1 + 59) (B2 := s.2.2 + 11691) hL 513 0 _ _ _ _ (by omega) k (Nat.zero_le _) ?_ ?_).mono (fun r s1 q => ⟨q.1, by have := q.2.1; omega, by have := q.2.2; omega⟩)
  · show s.2.1 + 53 + 6 ≤ s.2.1 + 59 + 163 * 0
    omega
  · show s.2.2 + 987 + 9 + 10695 ≤ s.2.2 + 11691 + 3247 * 0
    omega
