-- ===== the model: what only looks =====
def Rm (hr f nt nk : Nat) (W : Wd) (V : Vd) : Prop := (rlW nt nk W V.1 ∧ rlE hr f nt nk V.1) ∧ hr ≤ 600 ∧ f < 2 ^ 31 ∧ nt ≤ 16 ∧ nk ≤ 10
theorem bz_iff {p q : Prop} [Decidable p] [Decidable q] (h : p ↔ q) : bz p = bz q := by
  by_cases hp : p
  · rw [bz_1 hp, bz_1 (h.mp hp)]
  · rw [bz_0 hp, bz_0 (fun z => hp (h.mpr z))]
theorem w_lt (a b : Int32) : a.toInt64 < b.toInt64 ↔ a < b := by rw [Int64.lt_iff_toInt_lt, Int32.lt_iff_toInt_lt, Int32.toInt_toInt64, Int32.toInt_toInt64]
theorem w64 {n lo hi : Int32} {L H : Int64} (hL : L = lo.toInt64) (hH : H = hi.toInt64) : (¬ n.toInt64 < L ∧ ¬ H < n.toInt64) ↔ wIn n lo hi := by
  rw [hL, hH, w_lt, w_lt]
theorem w64N {n x : Int32} {N : Int64} {c : Nat} (e : N = lN c) (ex : x = nI c) (hc : c < 2 ^ 30) : (¬ n.toInt64 < 0 ∧ ¬ N - 1 < n.toInt64) ↔ (¬ n < 0 ∧ ¬ x ≤ n) := by
  have e0 : (0 : Int64) = (0 : Int32).toInt64 := by decide
  rw [e0, w_lt, e, ex]
  refine and_congr_right (fun h0 => ?_)
  obtain ⟨j, hj, rfl⟩ := nI_of h0
  cases c with
  | zero =>
    have h1 : lN 0 - 1 < (nI j).toInt64 := by
      rw [show lN 0 - 1 = (-1 : Int32).toInt64 by decide, w_lt]
      exact Int32.not_le.mp (fun z => absurd (show nI j < 0 from Int32.lt_of_le_of_lt z (by decide)) h0)
    exact ⟨fun z => absurd h1 z, fun z => absurd (nI_le (Nat.zero_le j) hj) z⟩
  | succ c =>
    rw [show lN (c + 1) - 1 = lN c by rw [show (1 : Int64) = lN 1 from rfl, lN_sub (by omega)]; rfl, nI_l hj, lN_lt (by omega) hj, nI_leI (by omega) hj]
    omega
theorem lle {N : Int64} {n i : Nat} (e : N = lN n) (hn : n < 2 ^ 31) (hi : i < 2 ^ 31) : N ≤ (nI i).toInt64 ↔ n ≤ i := by rw [e, nI_l hi, lN_le hn hi]
section RM
variable {hr f nt nk : Nat} {W : Wd} {V : Vd}
theorem Rm.P (hM : Rm hr f nt nk W V) {p k : Nat} (hp : p < 8) (hk : k < 5) : (V.1 (6 + 5 * p + k)).toInt32 = W 0 p k := hM.1.1 0 p k (Or.inl ⟨rfl, hp, hk⟩)
theorem Rm.T (hM : Rm hr f nt nk W V) {p k : Nat} (hp : p < nt) (hk : k < 7) : (V.1 (46 + 7 * p + k)).toInt32 = W 1 p k := hM.1.1 1 p k (Or.inr (Or.inl ⟨rfl, hp, hk⟩))
theorem Rm.K (hM : Rm hr f nt nk W V) {p k : Nat} (hp : p < nk) (hk : k < 10) : (V.1 (158 + 11 * p + k)).toInt32 = W 2 p k := hM.1.1 2 p k (Or.inr (Or.inr (Or.inl ⟨rfl, hp, hk⟩)))
theorem Rm.O (hM : Rm hr f nt nk W V) {k : Nat} (hk : k < 6) : (V.1 (adr 3 0 k)).toInt32 = W 3 0 k := hM.1.1 3 0 k (Or.inr (Or.inr (Or.inr ⟨rfl, rfl, hk⟩)))
theorem Rm.eH (hM : Rm hr f nt nk W V) : W 3 0 0 = nI hr := by rw [← hM.O (by decide), ← lN_i, ← hM.1.2.1]; rfl
theorem Rm.eF (hM : Rm hr f nt nk W V) : W 3 0 1 = nI f := by rw [← hM.O (by decide), ← lN_i, ← hM.1.2.2.1]; rfl
theorem Rm.eT (hM : Rm hr f nt nk W V) : W 3 0 4 = nI nt := by rw [← hM.O (by decide), ← lN_i, ← hM.1.2.2.2.1]; rfl
theorem Rm.eK (hM : Rm hr f nt nk W V) : W 3 0 5 = nI nk := by rw [← hM.O (by decide), ← lN_i, ← hM.1.2.2.2.2]; rfl
theorem Rm.cT (hM : Rm hr f nt nk W V) : cT W = nt := by
  have := hM.2.2.2.1
  unfold Jvm.Pilot.CRelayParcelsLaw_law_r4348_17215f.cT
  rw [hM.eT, nI_clamp (by omega)]
theorem Rm.cK (hM : Rm hr f nt nk W V) : cK W = nk := by
  have := hM.2.2.2.2
  unfold Jvm.Pilot.CRelayParcelsLaw_law_r4348_17215f.cK
  rw [hM.eK, nI_clamp (by omega)]
theorem Rm.kP (hM : Rm hr f nt nk W V) {n : Int32} (h : kP W n) : ∃ k : Nat, k < nk ∧ k < 10 ∧ n = nI k := by
  have := kP_is (W := W) ⟨by rw [hM.cK]; exact hM.2.2.2.2, by rw [hM.cK]; exact hM.eK⟩ h
  rw [hM.cK] at this
  exact this
theorem Rm.tP (hM : Rm hr f nt nk W V) {n : Int32} (h : tP W n) : ∃ k : Nat, k < nt ∧ k < 16 ∧ n = nI k := by
  have := tP_is (W := W) ⟨by rw [hM.cT]; exact hM.2.2.2.1, by rw [hM.cT]; exact hM.eT⟩ h
  rw [hM.cT] at this
  exact this
end RM
theorem ixA (c d p k : Nat) : nI c + nI d * nI p + nI k = nI (c + d * p + k) := by rw [pk_mul, nI_add, nI_add]

theorem m_isIn {G : xG} (a b c : Int64) : xI G MX10_isIn [.long a, .long b, .long c] (bz (¬ a < b ∧ ¬ c < a)) := by
  intro s
  refine x_lload_n (k := 0) rfl rfl ?_
  refine x_lload_n (k := 1) rfl rfl ?_
  refine x_lcmp (k := 2) rfl ?_
  refine x_if_lt (tgt := 17) (k := 3) rfl (by decide) (fun c3 => ?_) (fun c3 => ?_)
  · replace c3 := (lg_cmp_lt _ _).mp c3
    have e : bz (¬ a < b ∧ ¬ c < a) = 0 := bz_0 (fun q => q.1 c3)
    refine x_iconst (v := 0) (k := 10) rfl (by decide) ?_
    exact x_irD (k := 11) rfl rfl rfl e.symm
  · replace c3 := mt (lg_cmp_lt _ _).mpr c3
    refine x_lload_n (k := 4) rfl rfl ?_
    refine x_lload (k := 5) rfl rfl ?_
    refine x_lcmp (k := 6) rfl ?_
    refine x_if_gt (tgt := 17) (k := 7) rfl (by decide) (fun c10 => ?_) (fun c10 => ?_)
    · replace c10 := (lg_cmp_gt _ _).mp c10
      have e : bz (¬ a < b ∧ ¬ c < a) = 0 := bz_0 (fun q => q.2 c10)
      refine x_iconst (v := 0) (k := 10) rfl (by decide) ?_
      exact x_irD (k := 11) rfl rfl rfl e.symm
    · replace c10 := mt (lg_cmp_gt _ _).mpr c10
      have e : bz (¬ a < b ∧ ¬ c < a) = 1 := bz_1 ⟨c3, c10⟩
      refine x_iconst (v := 1) (k := 8) rfl (by decide) ?_
      refine x_goto (tgt := 18) (k := 9) rfl (by decide) ?_
      exact x_irD (k := 11) rfl rfl rfl e.symm
theorem m_isPerson {G : xG} (n : Int32) : xI G MX10_isPerson [.int n] (bz (gP n)) := by
  intro s
  refine x_iload_n (k := 0) rfl rfl ?_
  refine x_i2l (k := 1) rfl ?_
  refine x_lconst (v := 0) (k := 2) rfl (by decide) ?_
  refine x_ldc2 (k := 3) rfl klRX10_36 ?_
  refine x_sD (k := 4) rfl (by rfl) (m_isIn _ _ _) okX10_isIn viX10_isIn mlRX10_38 ⟨Nat.le_of_ble_eq_true rfl, Nat.le_of_ble_eq_true rfl⟩ (by exact Nat.le_of_ble_eq_true rfl) rfl (by exact Nat.le_of_ble_eq_true rfl) ?_
  exact x_irD (k := 5) rfl rfl bz_nar (bz_iff (w64 (by decide) (show (7 : Int64) = (7 : Int32).toInt64 by decide)))
theorem m_isTown {G : xG} (n : Int32) : xI G MX10_isTown [.int n] (bz (gTn n)) := by
  intro s
  refine x_iload_n (k := 0) rfl rfl ?_
  refine x_i2l (k := 1) rfl ?_
  refine x_lconst (v := 0) (k := 2) rfl (by decide) ?_
  refine x_ldc2 (k := 3) rfl klRX10_42 ?_
  refine x_sD (k := 4) rfl (by rfl) (m_isIn _ _ _) okX10_isIn viX10_isIn mlRX10_38 ⟨Nat.le_of_ble_eq_true rfl, Nat.le_of_ble_eq_true rfl⟩ (by exact Nat.le_of_ble_eq_true rfl) rfl (by exact Nat.le_of_ble_eq_true rfl) ?_
  exact x_irD (k := 5) rfl rfl bz_nar (bz_iff (w64 (by decide) (show (5 : Int64) = (5 : Int32).toInt64 by decide)))
theorem m_isTrip {G : xG} {s : xA} {m hr f nt nk : Nat} {W : Wd} {V : Vd} (hM : Rm hr f nt nk W V) (n : Int32) : mI G MX10_isTrip [.ref m, .int n] s m V (bz (tP W n)) V := by
  refine x_iload_n (k := 0) rfl rfl ?_
  refine x_i2l (k := 1) rfl ?_
  refine x_lconst (v := 0) (k := 2) rfl (by decide) ?_
  refine x_aload_n (k := 3) rfl rfl ?_
  refine m_getA (a := 1) (k := 4) rfl flRX10_7 rfl ?_
  refine x_iconst (v := 2) (k := 5) rfl (by decide) ?_
  refine m_nat (k := 6) rfl (show (2 : Int32) = nI 2 from rfl) (by first | assumption | omega) ?_
  refine x_lconst (v := 1) (k := 7) rfl (by decide) ?_
  refine x_lsub (k := 8) rfl ?_
  refine x_sD (k := 9) rfl (by rfl) (m_isIn _ _ _) okX10_isIn viX10_isIn mlRX10_38 ⟨Nat.le_of_ble_eq_true rfl, Nat.le_of_ble_eq_true rfl⟩ (by exact Nat.le_of_ble_eq_true rfl) rfl (by exact Nat.le_of_ble_eq_true rfl) ?_
  exact m_irD (k := 10) rfl rfl bz_nar (bz_iff (w64N hM.1.2.2.2.1 hM.eT (by have := hM.2; omega))) rfl
theorem m_isParcel {G : xG} {s : xA} {m hr f nt nk : Nat} {W : Wd} {V : Vd} (hM : Rm hr f nt nk W V) (n : Int32) : mI G MX10_isParcel [.ref m, .int n] s m V (bz (kP W n)) V := by
  refine x_iload_n (k := 0) rfl rfl ?_
  refine x_i2l (k := 1) rfl ?_
  refine x_lconst (v := 0) (k := 2) rfl (by decide) ?_
  refine x_aload_n (k := 3) rfl rfl ?_
  refine m_getA (a := 1) (k := 4) rfl flRX10_7 rfl ?_
  refine x_iconst (v := 3) (k := 5) rfl (by decide) ?_
  refine m_nat (k := 6) rfl (show (3 : Int32) = nI 3 from rfl) (by first | assumption | omega) ?_
  refine x_lconst (v := 1) (k := 7) rfl (by decide) ?_
  refine x_lsub (k := 8) rfl ?_
  refine x_sD (k := 9) rfl (by rfl) (m_isIn _ _ _) okX10_isIn viX10_isIn mlRX10_38 ⟨Nat.le_of_ble_eq_true rfl, Nat.le_of_ble_eq_true rfl⟩ (by exact Nat.le_of_ble_eq_true rfl) rfl (by exact Nat.le_of_ble_eq_true rfl) ?_
  exact m_irD (k := 10) rfl rfl bz_nar (bz_iff (w64N hM.1.2.2.2.2 hM.eK (by have := hM.2; omega))) rfl
theorem m_hour {G : xG} {s : xA} {m hr f nt nk : Nat} {W : Wd} {V : Vd} (hM : Rm hr f nt nk W V) : mI G MX10_hour [.ref m] s m V (nI hr) V := by
  refine x_aload_n (k := 0) rfl rfl ?_
  refine m_getA (a := 1) (k := 1) rfl flRX10_7 rfl ?_
  refine x_iconst (v := 0) (k := 2) rfl (by decide) ?_
  refine m_nat (k := 3) rfl (show (0 : Int32) = nI 0 from rfl) (by first | assumption | omega) ?_
  refine x_l2i (k := 4) rfl ?_
  exact m_irD (k := 5) rfl rfl rfl (by rw [hM.1.2.1, lN_i]) rfl
theorem m_ofP {G : xG} {s : xA} {m hr f nt nk : Nat} {W : Wd} {V : Vd} (hM : Rm hr f nt nk W V) {p k : Nat} (hp : p < 8) (hk : k < 5) : mI G MX10_ofP [.ref m, .int (nI p), .int (nI k)] s m V (W 0 p k) V := by
  refine x_aload_n (k := 0) rfl rfl ?_
  refine m_getA (a := 1) (k := 1) rfl flRX10_7 rfl ?_
  refine x_bipush (v := 6) (k := 2) rfl (by decide) ?_
  refine x_iconst (v := 5) (k := 3) rfl (by decide) ?_
  refine x_iload_n (k := 4) rfl rfl ?_
  refine x_imul (k := 5) rfl ?_
  refine x_iadd (k := 6) rfl ?_
  refine x_iload_n (k := 7) rfl rfl ?_
  refine x_iadd (k := 8) rfl ?_
  refine m_nat (k := 9) rfl (ixA 6 5 p k) (by have := hM.2; omega) ?_
  refine x_l2i (k := 10) rfl ?_
  exact m_irD (k := 11) rfl rfl rfl (hM.P hp hk) rfl
theorem m_ofT {G : xG} {s : xA} {m hr f nt nk : Nat} {W : Wd} {V : Vd} (hM : Rm hr f nt nk W V) {p k : Nat} (hp : p < nt) (hk : k < 7) : mI G MX10_ofT [.ref m, .int (nI p), .int (nI k)] s m V (W 1 p k) V := by
  refine x_aload_n (k := 0) rfl rfl ?_
  refine m_getA (a := 1) (k := 1) rfl flRX10_7 rfl ?_
  refine x_bipush (v := 46) (k := 2) rfl (by decide) ?_
  refine x_bipush (v := 7) (k := 3) rfl (by decide) ?_
  refine x_iload_n (k := 4) rfl rfl ?_
  refine x_imul (k := 5) rfl ?_
  refine x_iadd (k := 6) rfl ?_
  refine x_iload_n (k := 7) rfl rfl ?_
  refine x_iadd (k := 8) rfl ?_
  refine m_nat (k := 9) rfl (ixA 46 7 p k) (by have := hM.2; omega) ?_
  refine x_l2i (k := 10) rfl ?_
  exact m_irD (k := 11) rfl rfl rfl (hM.T hp hk) rfl
theorem m_of {G : xG} {s : xA} {m hr f nt nk : Nat} {W : Wd} {V : Vd} (hM : Rm hr f nt nk W V) {p k : Nat} (hp : p < nk) (hk : k < 10) : mI G MX10_of [.ref m, .int (nI p), .int (nI k)] s m V (W 2 p k) V := by
  refine x_aload_n (k := 0) rfl rfl ?_
  refine m_getA (a := 1) (k := 1) rfl flRX10_7 rfl ?_
  refine x_sipush (v := 158) (k := 2) rfl (by decide) ?_
  refine x_bipush (v := 11) (k := 3) rfl (by decide) ?_
  refine x_iload_n (k := 4) rfl rfl ?_
  refine x_imul (k := 5) rfl ?_
  refine x_iadd (k := 6) rfl ?_
  refine x_iload_n (k := 7) rfl rfl ?_
  refine x_iadd (k := 8) rfl ?_
  refine m_nat (k := 9) rfl (ixA 158 11 p k) (by have := hM.2; omega) ?_
  refine x_l2i (k := 10) rfl ?_
  exact m_irD (k := 11) rfl rfl rfl (hM.K hp hk) rfl
theorem m_of10 {G : xG} {s : xA} {m : Nat} {V : Vd} {p : Nat} (hp : p < 10) : mI G MX10_of [.ref m, .int (nI p), .int (nI 10)] s m V ((V.1 (158 + 11 * p + 10)).toInt32) V := by
  refine x_aload_n (k := 0) rfl rfl ?_
  refine m_getA (a := 1) (k := 1) rfl flRX10_7 rfl ?_
  refine x_sipush (v := 158) (k := 2) rfl (by decide) ?_
  refine x_bipush (v := 11) (k := 3) rfl (by decide) ?_
  refine x_iload_n (k := 4) rfl rfl ?_
  refine x_imul (k := 5) rfl ?_
  refine x_iadd (k := 6) rfl ?_
  refine x_iload_n (k := 7) rfl rfl ?_
  refine x_iadd (k := 8) rfl ?_
  refine m_nat (k := 9) rfl (ixA 158 11 p 10) (by omega) ?_
  refine x_l2i (k := 10) rfl ?_
  exact m_irD (k := 11) rfl rfl rfl rfl rfl
theorem m_setsP {G : xG} {s : xA} {m : Nat} {V : Vd} {p k : Nat} (hp : p < 8) (hk : k < 5) (v : Int64) : mV G MX10_setsP [.ref m, .int (nI p), .int (nI k), .long v] s m V (mNo V (6 + 5 * p + k) v) := by
  refine x_aload_n (k := 0) rfl rfl ?_
  refine m_getA (a := 1) (k := 1) rfl flRX10_7 rfl ?_
  refine x_bipush (v := 6) (k := 2) rfl (by decide) ?_
  refine x_iconst (v := 5) (k := 3) rfl (by decide) ?_
  refine x_iload_n (k := 4) rfl rfl ?_
  refine x_imul (k := 5) rfl ?_
  refine x_iadd (k := 6) rfl ?_
  refine x_iload_n (k := 7) rfl rfl ?_
  refine x_iadd (k := 8) rfl ?_
  refine x_lload_n (k := 9) rfl rfl ?_
  refine m_nput (k := 10) rfl (ixA 6 5 p k) (by omega) ?_
  exact m_rD (k := 11) rfl rfl rfl
theorem m_setsT {G : xG} {s : xA} {m : Nat} {V : Vd} {p k : Nat} (hp : p < 16) (hk : k < 7) (v : Int64) : mV G MX10_setsT [.ref m, .int (nI p), .int (nI k), .long v] s m V (mNo V (46 + 7 * p + k) v) := by
  refine x_aload_n (k := 0) rfl rfl ?_
  refine m_getA (a := 1) (k := 1) rfl flRX10_7 rfl ?_
  refine x_bipush (v := 46) (k := 2) rfl (by decide) ?_
  refine x_bipush (v := 7) (k := 3) rfl (by decide) ?_
  refine x_iload_n (k := 4) rfl rfl ?_
  refine x_imul (k := 5) rfl ?_
  refine x_iadd (k := 6) rfl ?_
  refine x_iload_n (k := 7) rfl rfl ?_
  refine x_iadd (k := 8) rfl ?_
  refine x_lload_n (k := 9) rfl rfl ?_
  refine m_nput (k := 10) rfl (ixA 46 7 p k) (by omega) ?_
  exact m_rD (k := 11) rfl rfl rfl
theorem m_sets {G : xG} {s : xA} {m : Nat} {V : Vd} {p k : Nat} (hp : p < 10) (hk : k < 11) (v : Int64) : mV G MX10_sets [.ref m, .int (nI p), .int (nI k), .long v] s m V (mNo V (158 + 11 * p + k) v) := by
  refine x_aload_n (k := 0) rfl rfl ?_
  refine m_getA (a := 1) (k := 1) rfl flRX10_7 rfl ?_
  refine x_sipush (v := 158) (k := 2) rfl (by decide) ?_
  refine x_bipush (v := 11) (k := 3) rfl (by decide) ?_
  refine x_iload_n (k := 4) rfl rfl ?_
  refine x_imul (k := 5) rfl ?_
  refine x_iadd (k := 6) rfl ?_
  refine x_iload_n (k := 7) rfl rfl ?_
  refine x_iadd (k := 8) rfl ?_
  refine x_lload_n (k := 9) rfl rfl ?_
  refine m_nput (k := 10) rfl (ixA 158 11 p k) (by omega) ?_
  exact m_rD (k := 11) rfl rfl rfl
theorem m_costOf {G : xG} {q : Nat} (hq : q < 4) : xI G MX10_costOf [.int (nI q)] (iCost q) := by
  intro s
  rcases (by omega : q = 0 ∨ q = 1 ∨ q = 2 ∨ q = 3) with rfl | rfl | rfl | rfl
  · refine x_iload_n (k := 0) rfl rfl ?_
    refine x_if_ne (tgt := 8) (k := 1) rfl (by decide) (fun c1 => absurd rfl c1) (fun c1 => ?_)
    refine x_iconst (v := 0) (k := 2) rfl (by decide) ?_
    refine x_goto (tgt := 28) (k := 3) rfl (by decide) ?_
    exact x_irD (k := 15) rfl rfl rfl rfl
  · refine x_iload_n (k := 0) rfl rfl ?_
    refine x_if_ne (tgt := 8) (k := 1) rfl (by decide) (fun c1 => ?_) (fun c1 => absurd c1 (by decide))
    refine x_iload_n (k := 4) rfl rfl ?_
    refine x_iconst (v := 1) (k := 5) rfl (by decide) ?_
    refine x_icmp_ne (tgt := 17) (k := 6) rfl (by decide) (fun c10 => absurd rfl c10) (fun c10 => ?_)
    refine x_iconst (v := 2) (k := 7) rfl (by decide) ?_
    refine x_goto (tgt := 28) (k := 8) rfl (by decide) ?_
    exact x_irD (k := 15) rfl rfl rfl rfl
  · refine x_iload_n (k := 0) rfl rfl ?_
    refine x_if_ne (tgt := 8) (k := 1) rfl (by decide) (fun c1 => ?_) (fun c1 => absurd c1 (by decide))
    refine x_iload_n (k := 4) rfl rfl ?_
    refine x_iconst (v := 1) (k := 5) rfl (by decide) ?_
    refine x_icmp_ne (tgt := 17) (k := 6) rfl (by decide) (fun c10 => ?_) (fun c10 => absurd c10 (by decide))
    refine x_iload_n (k := 9) rfl rfl ?_
    refine x_iconst (v := 2) (k := 10) rfl (by decide) ?_
    refine x_icmp_ne (tgt := 26) (k := 11) rfl (by decide) (fun c19 => absurd rfl c19) (fun c19 => ?_)
    refine x_iconst (v := 5) (k := 12) rfl (by decide) ?_
    refine x_goto (tgt := 28) (k := 13) rfl (by decide) ?_
    exact x_irD (k := 15) rfl rfl rfl rfl
  · refine x_iload_n (k := 0) rfl rfl ?_
    refine x_if_ne (tgt := 8) (k := 1) rfl (by decide) (fun c1 => ?_) (fun c1 => absurd c1 (by decide))
    refine x_iload_n (k := 4) rfl rfl ?_
    refine x_iconst (v := 1) (k := 5) rfl (by decide) ?_
    refine x_icmp_ne (tgt := 17) (k := 6) rfl (by decide) (fun c10 => ?_) (fun c10 => absurd c10 (by decide))
    refine x_iload_n (k := 9) rfl rfl ?_
    refine x_iconst (v := 2) (k := 10) rfl (by decide) ?_
    refine x_icmp_ne (tgt := 26) (k := 11) rfl (by decide) (fun c19 => ?_) (fun c19 => absurd c19 (by decide))
    refine x_bipush (v := 10) (k := 14) rfl (by decide) ?_
    exact x_irD (k := 15) rfl rfl rfl rfl
theorem m_coverOf {G : xG} {q : Nat} (hq : q < 4) : xI G MX10_coverOf [.int (nI q)] (iCover q) := by
  intro s
  rcases (by omega : q = 0 ∨ q = 1 ∨ q = 2 ∨ q = 3) with rfl | rfl | rfl | rfl
  · refine x_iload_n (k := 0) rfl rfl ?_
    refine x_if_ne (tgt := 8) (k := 1) rfl (by decide) (fun c1 => absurd rfl c1) (fun c1 => ?_)
    refine x_iconst (v := 0) (k := 2) rfl (by decide) ?_
    refine x_goto (tgt := 32) (k := 3) rfl (by decide) ?_
    exact x_irD (k := 15) rfl rfl rfl rfl
  · refine x_iload_n (k := 0) rfl rfl ?_
    refine x_if_ne (tgt := 8) (k := 1) rfl (by decide) (fun c1 => ?_) (fun c1 => absurd c1 (by decide))
    refine x_iload_n (k := 4) rfl rfl ?_
    refine x_iconst (v := 1) (k := 5) rfl (by decide) ?_
    refine x_icmp_ne (tgt := 18) (k := 6) rfl (by decide) (fun c10 => absurd rfl c10) (fun c10 => ?_)
    refine x_bipush (v := 50) (k := 7) rfl (by decide) ?_
    refine x_goto (tgt := 32) (k := 8) rfl (by decide) ?_
    exact x_irD (k := 15) rfl rfl rfl rfl
  · refine x_iload_n (k := 0) rfl rfl ?_
    refine x_if_ne (tgt := 8) (k := 1) rfl (by decide) (fun c1 => ?_) (fun c1 => absurd c1 (by decide))
    refine x_iload_n (k := 4) rfl rfl ?_
    refine x_iconst (v := 1) (k := 5) rfl (by decide) ?_
    refine x_icmp_ne (tgt := 18) (k := 6) rfl (by decide) (fun c10 => ?_) (fun c10 => absurd c10 (by decide))
    refine x_iload_n (k := 9) rfl rfl ?_
    refine x_iconst (v := 2) (k := 10) rfl (by decide) ?_
    refine x_icmp_ne (tgt := 29) (k := 11) rfl (by decide) (fun c20 => absurd rfl c20) (fun c20 => ?_)
    refine x_sipush (v := 200) (k := 12) rfl (by decide) ?_
    refine x_goto (tgt := 32) (k := 13) rfl (by decide) ?_
    exact x_irD (k := 15) rfl rfl rfl rfl
  · refine x_iload_n (k := 0) rfl rfl ?_
    refine x_if_ne (tgt := 8) (k := 1) rfl (by decide) (fun c1 => ?_) (fun c1 => absurd c1 (by decide))
    refine x_iload_n (k := 4) rfl rfl ?_
    refine x_iconst (v := 1) (k := 5) rfl (by decide) ?_
    refine x_icmp_ne (tgt := 18) (k := 6) rfl (by decide) (fun c10 => ?_) (fun c10 => absurd c10 (by decide))
    refine x_iload_n (k := 9) rfl rfl ?_
    refine x_iconst (v := 2) (k := 10) rfl (by decide) ?_
    refine x_icmp_ne (tgt := 29) (k := 11) rfl (by decide) (fun c20 => ?_) (fun c20 => absurd c20 (by decide))
    refine x_sipush (v := 999) (k := 14) rfl (by decide) ?_
    exact x_irD (k := 15) rfl rfl rfl rfl
theorem l_mheldBy {G : xG} {s : xA} {m hr f nt nk : Nat} {W : Wd} {V : Vd} (hM : Rm hr f nt nk W V) {h : Int32} : ∀ (d i : Nat) (v : Int32), nk - i < d → i ≤ nk → v = hbTo W h i → mE G MX10_heldBy 4 [(0, .ref m), (1, .int h), (2, .int v), (3, .int (nI i))] [] s m V (fun r W1 => r = some (.int (hbTo W h nk)) ∧ W1 = V) := by
  have hb := hM.2
  intro d
  induction d with
  | zero =>
    intro i v hd hi hv
    exact absurd hd (Nat.not_lt_zero _)
  | succ d ih =>
    intro i v hd hi hv
    refine x_iload_n (k := 4) rfl rfl ?_
    refine x_i2l (k := 5) rfl ?_
    refine x_aload_n (k := 6) rfl rfl ?_
    refine m_getA (a := 1) (k := 7) rfl flRX10_7 rfl ?_
    refine x_iconst (v := 3) (k := 8) rfl (by decide) ?_
    refine m_nat (k := 9) rfl (show (3 : Int32) = nI 3 from rfl) (by first | assumption | omega) ?_
    refine x_lcmp (k := 10) rfl ?_
    refine x_if_ge (tgt := 50) (k := 11) rfl (by decide) (fun c13 => ?_) (fun c13 => ?_)
    · replace c13 := (lg_cmp_ge _ _).mp c13
      have e : i = nk := by
        have := (lle hM.1.2.2.2.2 (by omega) (by omega)).mp c13
        omega
      rw [e] at hv
      refine x_iload_n (k := 31) rfl rfl ?_
      exact m_irD (k := 32) rfl rfl rfl hv rfl
    · replace c13 := mt (lg_cmp_ge _ _).mpr c13
      have hin : i < nk := by
        have := mt (lle hM.1.2.2.2.2 (by omega) (by omega)).mpr c13
        omega
      refine x_iload_n (k := 12) rfl rfl ?_
      refine x_aload_n (k := 13) rfl rfl ?_
      refine x_iload_n (k := 14) rfl rfl ?_
      refine x_iconst (v := 5) (k := 15) rfl (by decide) ?_
      refine m_callI (ci := 10) (k := 16) rfl (by rfl) (m_of hM (k := 5) hin (by decide)) okX10_of viX10_of mlRX10_84 ⟨Nat.le_of_ble_eq_true rfl, Nat.le_of_ble_eq_true rfl⟩ (by exact Nat.le_of_ble_eq_true rfl) rfl rfl mG0 (by exact Nat.le_of_ble_eq_true rfl) ?_
      refine x_if_ne (tgt := 41) (k := 17) rfl (by decide) (fun c23 => ?_) (fun c23 => ?_)
      · refine x_iconst (v := 0) (k := 26) rfl (by decide) ?_
        refine x_iadd (k := 27) rfl ?_
        refine x_istore_n (k := 28) rfl (by decide) ?_
        refine x_iinc (k := 29) rfl rfl (nI_1 i) (by decide) ?_
        refine x_goto (tgt := 4) (k := 30) rfl (by decide) ?_
        exact ih (i + 1) _ (by omega) (by omega) (by simp [hbTo, *])
      · refine x_aload_n (k := 18) rfl rfl ?_
        refine x_iload_n (k := 19) rfl rfl ?_
        refine x_bipush (v := 6) (k := 20) rfl (by decide) ?_
        refine m_callI (ci := 10) (k := 21) rfl (by rfl) (m_of hM (k := 6) hin (by decide)) okX10_of viX10_of mlRX10_84 ⟨Nat.le_of_ble_eq_true rfl, Nat.le_of_ble_eq_true rfl⟩ (by exact Nat.le_of_ble_eq_true rfl) rfl rfl mG0 (by exact Nat.le_of_ble_eq_true rfl) ?_
        refine x_iload_n (k := 22) rfl rfl ?_
        refine x_icmp_ne (tgt := 41) (k := 23) rfl (by decide) (fun c34 => ?_) (fun c34 => ?_)
        · refine x_iconst (v := 0) (k := 26) rfl (by decide) ?_
          refine x_iadd (k := 27) rfl ?_
          refine x_istore_n (k := 28) rfl (by decide) ?_
          refine x_iinc (k := 29) rfl rfl (nI_1 i) (by decide) ?_
          refine x_goto (tgt := 4) (k := 30) rfl (by decide) ?_
          exact ih (i + 1) _ (by omega) (by omega) (by simp [hbTo, *])
        · refine x_iconst (v := 1) (k := 24) rfl (by decide) ?_
          refine x_goto (tgt := 42) (k := 25) rfl (by decide) ?_
          refine x_iadd (k := 27) rfl ?_
          refine x_istore_n (k := 28) rfl (by decide) ?_
          refine x_iinc (k := 29) rfl rfl (nI_1 i) (by decide) ?_
          refine x_goto (tgt := 4) (k := 30) rfl (by decide) ?_
          exact ih (i + 1) _ (by omega) (by omega) (by simp [hbTo, *])
theorem m_heldBy {G : xG} {s : xA} {m hr f nt nk : Nat} {W : Wd} {V : Vd} (hM : Rm hr f nt nk W V) (h : Int32) : mI G MX10_heldBy [.ref m, .int h] s m V (sHeld W h) V := by
  rw [sHeld, hM.cK]
  refine x_iconst (v := 0) (k := 0) rfl (by decide) ?_
  refine x_istore_n (k := 1) rfl (by decide) ?_
  refine x_iconst (v := 0) (k := 2) rfl (by decide) ?_
  refine x_istore_n (k := 3) rfl (by decide) ?_
  exact l_mheldBy hM (nk + 1) 0 0 (by omega) (by omega) rfl
theorem l_mtripsIn {G : xG} {s : xA} {m hr f nt nk : Nat} {W : Wd} {V : Vd} (hM : Rm hr f nt nk W V) {z : Int32} : ∀ (d i : Nat) (v : Int32), nt - i < d → i ≤ nt → v = tcTo W z i → mE G MX10_tripsIn 4 [(0, .ref m), (1, .int z), (2, .int v), (3, .int (nI i))] [] s m V (fun r W1 => r = some (.int (tcTo W z nt)) ∧ W1 = V) := by
  have hb := hM.2
  intro d
  induction d with
  | zero =>
    intro i v hd hi hv
    exact absurd hd (Nat.not_lt_zero _)
  | succ d ih =>
    intro i v hd hi hv
    refine x_iload_n (k := 4) rfl rfl ?_
    refine x_i2l (k := 5) rfl ?_
    refine x_aload_n (k := 6) rfl rfl ?_
    refine m_getA (a := 1) (k := 7) rfl flRX10_7 rfl ?_
    refine x_iconst (v := 2) (k := 8) rfl (by decide) ?_
    refine m_nat (k := 9) rfl (show (2 : Int32) = nI 2 from rfl) (by first | assumption | omega) ?_
    refine x_lcmp (k := 10) rfl ?_
    refine x_if_ge (tgt := 41) (k := 11) rfl (by decide) (fun c13 => ?_) (fun c13 => ?_)
    · replace c13 := (lg_cmp_ge _ _).mp c13
      have e : i = nt := by
        have := (lle hM.1.2.2.2.1 (by omega) (by omega)).mp c13
        omega
      rw [e] at hv
      refine x_iload_n (k := 26) rfl rfl ?_
      exact m_irD (k := 27) rfl rfl rfl hv rfl
    · replace c13 := mt (lg_cmp_ge _ _).mpr c13
      have hin : i < nt := by
        have := mt (lle hM.1.2.2.2.1 (by omega) (by omega)).mpr c13
        omega
      refine x_iload_n (k := 12) rfl rfl ?_
      refine x_aload_n (k := 13) rfl rfl ?_
      refine x_iload_n (k := 14) rfl rfl ?_
      refine x_bipush (v := 6) (k := 15) rfl (by decide) ?_
      refine m_callI (ci := 10) (k := 16) rfl (by rfl) (m_ofT hM (k := 6) hin (by decide)) okX10_ofT viX10_ofT mlRX10_55 ⟨Nat.le_of_ble_eq_true rfl, Nat.le_of_ble_eq_true rfl⟩ (by exact Nat.le_of_ble_eq_true rfl) rfl rfl mG0 (by exact Nat.le_of_ble_eq_true rfl) ?_
      refine x_iload_n (k := 17) rfl rfl ?_
      refine x_icmp_ne (tgt := 32) (k := 18) rfl (by decide) (fun c25 => ?_) (fun c25 => ?_)
      · refine x_iconst (v := 0) (k := 21) rfl (by decide) ?_
        refine x_iadd (k := 22) rfl ?_
        refine x_istore_n (k := 23) rfl (by decide) ?_
        refine x_iinc (k := 24) rfl rfl (nI_1 i) (by decide) ?_
        refine x_goto (tgt := 4) (k := 25) rfl (by decide) ?_
        exact ih (i + 1) _ (by omega) (by omega) (by simp [tcTo, *])
      · refine x_iconst (v := 1) (k := 19) rfl (by decide) ?_
        refine x_goto (tgt := 33) (k := 20) rfl (by decide) ?_
        refine x_iadd (k := 22) rfl ?_
        refine x_istore_n (k := 23) rfl (by decide) ?_
        refine x_iinc (k := 24) rfl rfl (nI_1 i) (by decide) ?_
        refine x_goto (tgt := 4) (k := 25) rfl (by decide) ?_
        exact ih (i + 1) _ (by omega) (by omega) (by simp [tcTo, *])
theorem m_tripsIn {G : xG} {s : xA} {m hr f nt nk : Nat} {W : Wd} {V : Vd} (hM : Rm hr f nt nk W V) (z : Int32) : mI G MX10_tripsIn [.ref m, .int z] s m V (tcTo W z nt) V := by
  refine x_iconst (v := 0) (k := 0) rfl (by decide) ?_
  refine x_istore_n (k := 1) rfl (by decide) ?_
  refine x_iconst (v := 0) (k := 2) rfl (by decide) ?_
  refine x_istore_n (k := 3) rfl (by decide) ?_
  exact l_mtripsIn hM (nt + 1) 0 0 (by omega) (by omega) rfl
theorem l_mparcelsIn {G : xG} {s : xA} {m hr f nt nk : Nat} {W : Wd} {V : Vd} (hM : Rm hr f nt nk W V) {z : Int32} : ∀ (d i : Nat) (v : Int32), nk - i < d → i ≤ nk → v = kcTo W z i → mE G MX10_parcelsIn 4 [(0, .ref m), (1, .int z), (2, .int v), (3, .int (nI i))] [] s m V (fun r W1 => r = some (.int (kcTo W z nk)) ∧ W1 = V) := by
  have hb := hM.2
  intro d
  induction d with
  | zero =>
    intro i v hd hi hv
    exact absurd hd (Nat.not_lt_zero _)
  | succ d ih =>
    intro i v hd hi hv
    refine x_iload_n (k := 4) rfl rfl ?_
    refine x_i2l (k := 5) rfl ?_
    refine x_aload_n (k := 6) rfl rfl ?_
    refine m_getA (a := 1) (k := 7) rfl flRX10_7 rfl ?_
    refine x_iconst (v := 3) (k := 8) rfl (by decide) ?_
    refine m_nat (k := 9) rfl (show (3 : Int32) = nI 3 from rfl) (by first | assumption | omega) ?_
    refine x_lcmp (k := 10) rfl ?_
    refine x_if_ge (tgt := 40) (k := 11) rfl (by decide) (fun c13 => ?_) (fun c13 => ?_)
    · replace c13 := (lg_cmp_ge _ _).mp c13
      have e : i = nk := by
        have := (lle hM.1.2.2.2.2 (by omega) (by omega)).mp c13
        omega
      rw [e] at hv
      refine x_iload_n (k := 26) rfl rfl ?_
      exact m_irD (k := 27) rfl rfl rfl hv rfl
    · replace c13 := mt (lg_cmp_ge _ _).mpr c13
      have hin : i < nk := by
        have := mt (lle hM.1.2.2.2.2 (by omega) (by omega)).mpr c13
        omega
      refine x_iload_n (k := 12) rfl rfl ?_
      refine x_aload_n (k := 13) rfl rfl ?_
      refine x_iload_n (k := 14) rfl rfl ?_
      refine x_iconst (v := 5) (k := 15) rfl (by decide) ?_
      refine m_callI (ci := 10) (k := 16) rfl (by rfl) (m_of hM (k := 5) hin (by decide)) okX10_of viX10_of mlRX10_84 ⟨Nat.le_of_ble_eq_true rfl, Nat.le_of_ble_eq_true rfl⟩ (by exact Nat.le_of_ble_eq_true rfl) rfl rfl mG0 (by exact Nat.le_of_ble_eq_true rfl) ?_
      refine x_iload_n (k := 17) rfl rfl ?_
      refine x_icmp_ne (tgt := 31) (k := 18) rfl (by decide) (fun c24 => ?_) (fun c24 => ?_)
      · refine x_iconst (v := 0) (k := 21) rfl (by decide) ?_
        refine x_iadd (k := 22) rfl ?_
        refine x_istore_n (k := 23) rfl (by decide) ?_
        refine x_iinc (k := 24) rfl rfl (nI_1 i) (by decide) ?_
        refine x_goto (tgt := 4) (k := 25) rfl (by decide) ?_
        exact ih (i + 1) _ (by omega) (by omega) (by simp [kcTo, *])
      · refine x_iconst (v := 1) (k := 19) rfl (by decide) ?_
        refine x_goto (tgt := 32) (k := 20) rfl (by decide) ?_
        refine x_iadd (k := 22) rfl ?_
        refine x_istore_n (k := 23) rfl (by decide) ?_
        refine x_iinc (k := 24) rfl rfl (nI_1 i) (by decide) ?_
        refine x_goto (tgt := 4) (k := 25) rfl (by decide) ?_
        exact ih (i + 1) _ (by omega) (by omega) (by simp [kcTo, *])
theorem m_parcelsIn {G : xG} {s : xA} {m hr f nt nk : Nat} {W : Wd} {V : Vd} (hM : Rm hr f nt nk W V) (z : Int32) : mI G MX10_parcelsIn [.ref m, .int z] s m V (kcTo W z nk) V := by
  refine x_iconst (v := 0) (k := 0) rfl (by decide) ?_
  refine x_istore_n (k := 1) rfl (by decide) ?_
  refine x_iconst (v := 0) (k := 2) rfl (by decide) ?_
  refine x_istore_n (k := 3) rfl (by decide) ?_
  exact l_mparcelsIn hM (nk + 1) 0 0 (by omega) (by omega) rfl
theorem l_mallCoins {G : xG} {s : xA} {m hr f nt nk : Nat} {W : Wd} {V : Vd} (hM : Rm hr f nt nk W V) : ∀ (d i : Nat) (v : Int32), 8 - i < d → i ≤ 8 → v = ccTo W i → mE G MX10_allCoins 4 [(0, .ref m), (1, .int v), (2, .int (nI i))] [] s m V (fun r W1 => r = some (.int (ccTo W 8)) ∧ W1 = V) := by
  have hb := hM.2
  intro d
  induction d with
  | zero =>
    intro i v hd hi hv
    exact absurd hd (Nat.not_lt_zero _)
  | succ d ih =>
    intro i v hd hi hv
    refine x_iload_n (k := 4) rfl rfl ?_
    refine x_bipush (v := 8) (k := 5) rfl (by decide) ?_
    refine x_icmp_ge (tgt := 32) (k := 6) rfl (by decide) (fun c7 => ?_) (fun c7 => ?_)
    · have e : i = 8 := by
        have := (le_nI nI8 (by omega) (by omega)).mp c7
        omega
      rw [e] at hv
      refine x_iload_n (k := 21) rfl rfl ?_
      exact m_irD (k := 22) rfl rfl rfl hv rfl
    · have hin : i < 8 := by
        have := mt (le_nI nI8 (by omega) (by omega)).mpr c7
        omega
      refine x_iload_n (k := 7) rfl rfl ?_
      refine x_aload_n (k := 8) rfl rfl ?_
      refine x_iload_n (k := 9) rfl rfl ?_
      refine x_iconst (v := 0) (k := 10) rfl (by decide) ?_
      refine m_callI (ci := 10) (k := 11) rfl (by rfl) (m_ofP hM (k := 0) hin (by decide)) okX10_ofP viX10_ofP mlRX10_91 ⟨Nat.le_of_ble_eq_true rfl, Nat.le_of_ble_eq_true rfl⟩ (by exact Nat.le_of_ble_eq_true rfl) rfl rfl mG0 (by exact Nat.le_of_ble_eq_true rfl) ?_
      refine x_aload_n (k := 12) rfl rfl ?_
      refine x_iload_n (k := 13) rfl rfl ?_
      refine x_iconst (v := 1) (k := 14) rfl (by decide) ?_
      refine m_callI (ci := 10) (k := 15) rfl (by rfl) (m_ofP hM (k := 1) hin (by decide)) okX10_ofP viX10_ofP mlRX10_91 ⟨Nat.le_of_ble_eq_true rfl, Nat.le_of_ble_eq_true rfl⟩ (by exact Nat.le_of_ble_eq_true rfl) rfl rfl mG0 (by exact Nat.le_of_ble_eq_true rfl) ?_
      refine x_iadd (k := 16) rfl ?_
      refine x_iadd (k := 17) rfl ?_
      refine x_istore_n (k := 18) rfl (by decide) ?_
      refine x_iinc (k := 19) rfl rfl (nI_1 i) (by decide) ?_
      refine x_goto (tgt := 4) (k := 20) rfl (by decide) ?_
      exact ih (i + 1) _ (by omega) (by omega) (by simp [ccTo, *])
theorem m_allCoins {G : xG} {s : xA} {m hr f nt nk : Nat} {W : Wd} {V : Vd} (hM : Rm hr f nt nk W V) : mI G MX10_allCoins [.ref m] s m V (ccTo W 8) V := by
  refine x_iconst (v := 0) (k := 0) rfl (by decide) ?_
  refine x_istore_n (k := 1) rfl (by decide) ?_
  refine x_iconst (v := 0) (k := 2) rfl (by decide) ?_
  refine x_istore_n (k := 3) rfl (by decide) ?_
  exact l_mallCoins hM 9 0 0 (by omega) (by omega) rfl
