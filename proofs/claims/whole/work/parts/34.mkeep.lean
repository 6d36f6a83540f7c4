-- ===== the model: states kept, snapshots =====
def rcA (K : Nat → Int64) (i : Nat) : Nat → Int64 := fun j => if j < i then K (j + 1766) else K j
def rcB (K N : Nat → Int64) (b i : Nat) : Nat → Int64 := fun j => if b ≤ j ∧ j < b + i then N (j - b) else K j
def unA (N K : Nat → Int64) (b i : Nat) : Nat → Int64 := fun j => if j < i then K (b + j) else N j
def tkA (N : Nat → Int64) (b i : Nat) : Nat → Int64 := fun j => if b + 1 ≤ j ∧ j < b + 1 + i then N (j - (b + 1)) else if j = b then 1 else N j
theorem upL_ext {f g : Nat → Int64} {k : Nat} {x : Int64} (h1 : g k = x) (h2 : ∀ j, j ≠ k → g j = f j) : vp_updL f k x = g := by
  funext j
  by_cases h : j = k
  · rw [h, vp_upL_at, h1]
  · rw [vp_upL_ne h, h2 j h]
theorem rcA_0 (K : Nat → Int64) : rcA K 0 = K := funext fun j => if_neg (Nat.not_lt_zero j)
theorem rcA_s (K : Nat → Int64) (i : Nat) : vp_updL (rcA K i) i (rcA K i (i + 1766)) = rcA K (i + 1) := upL_ext (by rw [rcA, rcA, if_pos (by omega), if_neg (by omega)]) (fun j hj => by
  rw [rcA, rcA]
  by_cases h : j < i
  · rw [if_pos h, if_pos (by omega)]
  · rw [if_neg h, if_neg (by omega)])
theorem rcB_0 (K N : Nat → Int64) (b : Nat) : rcB K N b 0 = K := funext fun j => if_neg (by omega)
theorem rcB_s (K N : Nat → Int64) (b i : Nat) : vp_updL (rcB K N b i) (b + i) (N i) = rcB K N b (i + 1) := upL_ext (by rw [rcB, if_pos (by omega), Nat.add_sub_cancel_left]) (fun j hj => by
  rw [rcB, rcB]
  by_cases h : b ≤ j ∧ j < b + i
  · rw [if_pos h, if_pos (by omega)]
  · rw [if_neg h, if_neg (by omega)])
theorem unA_0 (N K : Nat → Int64) (b : Nat) : unA N K b 0 = N := funext fun j => if_neg (Nat.not_lt_zero j)
theorem unA_s (N K : Nat → Int64) (b i : Nat) : vp_updL (unA N K b i) i (K (b + i)) = unA N K b (i + 1) := upL_ext (by rw [unA, if_pos (by omega)]) (fun j hj => by
  rw [unA, unA]
  by_cases h : j < i
  · rw [if_pos h, if_pos (by omega)]
  · rw [if_neg h, if_neg (by omega)])
theorem tkA_0 (N : Nat → Int64) (b : Nat) : vp_updL N b 1 = tkA N b 0 := upL_ext (by rw [tkA, if_neg (by omega), if_pos rfl]) (fun j hj => by rw [tkA, if_neg (by omega), if_neg hj])
theorem tkA_s {N : Nat → Int64} {b i : Nat} (h : i < b) : vp_updL (tkA N b i) (b + 1 + i) (tkA N b i i) = tkA N b (i + 1) := upL_ext (by rw [tkA, tkA, if_pos (by omega), if_neg (by omega), if_neg (by omega), Nat.add_sub_cancel_left]) (fun j hj => by
  rw [tkA, tkA]
  by_cases h : b + 1 ≤ j ∧ j < b + 1 + i
  · rw [if_pos h, if_pos (by omega)]
  · rw [if_neg h, if_neg (show ¬ (b + 1 ≤ j ∧ j < b + 1 + (i + 1)) by omega)])
/-- a state kept: st of them were there -/
def rcK (st : Nat) (K N : Nat → Int64) : Nat → Int64 := if st = 5 then rcB (rcA K 7064) N (4 * 1766) 1766 else rcB K N (st * 1766) 1766
def mRec (V : Vd) (st : Nat) : Vd := (V.1, rcK st V.2.1 V.1, ySet V.2.2 0 2 (nI (min (st + 1) 5)))
theorem mulA (b i : Nat) : nI b * 1766 + nI i = nI (b * 1766 + i) := by rw [show (1766 : Int32) = nI 1766 from rfl, pk_mul, nI_add]
theorem itsA (i : Nat) : (588 : Int32) + 589 * nI i = nI (588 + 589 * i) := by rw [show (588 : Int32) = nI 588 from rfl, show (589 : Int32) = nI 589 from rfl, pk_mul, nI_add]
theorem l_rec2 {G : xG} {s : xA} {m b : Nat} {N K : Nat → Int64} {Y : Yd} (hb : b < 5) (hY : Y 0 2 = nI b) : ∀ (d i : Nat) (ls : List (Nat × Value)), 1766 - i < d → i ≤ 1766 → ls.lookup 0 = some (.ref m) → ls.lookup 1 = some (.int (nI i)) → mE G MX10_records 51 ls [] s m (N, rcB K N (b * 1766) i, Y) (fun r V1 => r = none ∧ V1 = (N, rcB K N (b * 1766) 1766, ySet Y 0 2 (nI (b + 1)))) := by
  intro d
  induction d with
  | zero =>
    intro i ls hd hi g0 g1
    exact absurd hd (Nat.not_lt_zero _)
  | succ d ih =>
    intro i ls hd hi g0 g1
    refine x_sub (ls' := [(0, .ref m), (1, .int (nI i))]) (by simp [*]) ?_
    refine x_iload_n (k := 29) rfl rfl ?_
    refine x_sipush (v := 1766) (k := 30) rfl (by decide) ?_
    refine x_icmp_ge (tgt := 85) (k := 31) rfl (by decide) (fun c55 => ?_) (fun c55 => ?_)
    · have e : i = 1766 := by
        have := (le_nI (show (1766 : Int32) = nI 1766 from rfl) (by omega) (by omega)).mp c55
        omega
      subst e
      refine x_aload_n (k := 47) rfl rfl ?_
      refine x_dup (k := 48) rfl rfl ?_
      refine m_get (k := 49) rfl flRX10_44 rfl ?_
      refine x_iconst (v := 1) (k := 50) rfl (by decide) ?_
      refine x_iadd (k := 51) rfl ?_
      refine m_put (k := 52) rfl flRX10_44 ft10_2 (by decide) rfl ?_
      exact m_rD (k := 53) rfl rfl (by show (N, _, ySet Y 0 2 (Y 0 2 + 1)) = _; rw [hY, nI_1])
    · have hin : i < 1766 := by
        have := mt (le_nI (show (1766 : Int32) = nI 1766 from rfl) (by omega) (by omega)).mpr c55
        omega
      refine x_aload_n (k := 32) rfl rfl ?_
      refine m_getA (a := 2) (k := 33) rfl flRX10_13 rfl ?_
      refine x_aload_n (k := 34) rfl rfl ?_
      refine m_get (k := 35) rfl flRX10_44 rfl ?_
      refine x_sipush (v := 1766) (k := 36) rfl (by decide) ?_
      refine x_imul (k := 37) rfl ?_
      refine x_iload_n (k := 38) rfl rfl ?_
      refine x_iadd (k := 39) rfl ?_
      refine x_aload_n (k := 40) rfl rfl ?_
      refine m_getA (a := 1) (k := 41) rfl flRX10_7 rfl ?_
      refine x_iload_n (k := 42) rfl rfl ?_
      refine m_nat (k := 43) rfl rfl (by omega) ?_
      refine m_kput (k := 44) rfl (show Y 0 2 * 1766 + nI i = nI (b * 1766 + i) by rw [hY, mulA]) (by omega) ?_
      rw [show mKe (N, rcB K N (b * 1766) i, Y) (b * 1766 + i) (N i) = (N, rcB K N (b * 1766) (i + 1), Y) from by rw [← rcB_s]; rfl]
      refine x_iinc (k := 45) rfl rfl (nI_1 i) (by decide) ?_
      refine x_goto (tgt := 51) (k := 46) rfl (by decide) ?_
      exact ih (i + 1) _ (by omega) (by omega) rfl rfl
theorem l_rec1 {G : xG} {s : xA} {m : Nat} {N K : Nat → Int64} {Y : Yd} (hY : Y 0 2 = nI 5) : ∀ (d i : Nat) (ls : List (Nat × Value)), 7064 - i < d → i ≤ 7064 → ls.lookup 0 = some (.ref m) → ls.lookup 1 = some (.int (nI i)) → mE G MX10_records 10 ls [] s m (N, rcA K i, Y) (fun r V1 => r = none ∧ V1 = (N, rcB (rcA K 7064) N (4 * 1766) 1766, ySet Y 0 2 (nI 5))) := by
  intro d
  induction d with
  | zero =>
    intro i ls hd hi g0 g1
    exact absurd hd (Nat.not_lt_zero _)
  | succ d ih =>
    intro i ls hd hi g0 g1
    refine x_sub (ls' := [(0, .ref m), (1, .int (nI i))]) (by simp [*]) ?_
    refine x_iload_n (k := 6) rfl rfl ?_
    refine x_sipush (v := 7064) (k := 7) rfl (by decide) ?_
    refine x_icmp_ge (tgt := 39) (k := 8) rfl (by decide) (fun c14 => ?_) (fun c14 => ?_)
    · have e : i = 7064 := by
        have := (le_nI (show (7064 : Int32) = nI 7064 from rfl) (by omega) (by omega)).mp c14
        omega
      subst e
      refine x_aload_n (k := 21) rfl rfl ?_
      refine x_dup (k := 22) rfl rfl ?_
      refine m_get (k := 23) rfl flRX10_44 rfl ?_
      refine x_iconst (v := 1) (k := 24) rfl (by decide) ?_
      refine x_isub (k := 25) rfl ?_
      refine m_put (k := 26) rfl flRX10_44 ft10_2 (by decide) rfl ?_
      refine x_iconst (v := 0) (k := 27) rfl (by decide) ?_
      refine x_istore_n (k := 28) rfl (by decide) ?_
      have e4 : ySet Y 0 2 (Y 0 2 - 1) 0 2 = nI 4 := by rw [ySet_at, hY]; decide
      have := l_rec2 (G := G) (s := s) (m := m) (N := N) (K := rcA K 7064) (Y := ySet Y 0 2 (Y 0 2 - 1)) (b := 4) (by decide) e4 1767 0 [(0, .ref m), (1, .int 0)] (by omega) (by omega) rfl rfl
      rw [rcB_0, show ySet (ySet Y 0 2 (Y 0 2 - 1)) 0 2 (nI (4 + 1)) = ySet Y 0 2 (nI 5) from by funext a k; simp only [ySet]; split <;> rfl] at this
      exact this
    · have hin : i < 7064 := by
        have := mt (le_nI (show (7064 : Int32) = nI 7064 from rfl) (by omega) (by omega)).mpr c14
        omega
      refine x_aload_n (k := 9) rfl rfl ?_
      refine m_getA (a := 2) (k := 10) rfl flRX10_13 rfl ?_
      refine x_iload_n (k := 11) rfl rfl ?_
      refine x_aload_n (k := 12) rfl rfl ?_
      refine m_getA (a := 2) (k := 13) rfl flRX10_13 rfl ?_
      refine x_iload_n (k := 14) rfl rfl ?_
      refine x_sipush (v := 1766) (k := 15) rfl (by decide) ?_
      refine x_iadd (k := 16) rfl ?_
      refine m_kat (k := 17) rfl (nI_add i 1766) (by omega) ?_
      refine m_kput (k := 18) rfl rfl (by omega) ?_
      rw [show mKe (N, rcA K i, Y) i (rcA K i (i + 1766)) = (N, rcA K (i + 1), Y) from by rw [← rcA_s]; rfl]
      refine x_iinc (k := 19) rfl rfl (nI_1 i) (by decide) ?_
      refine x_goto (tgt := 10) (k := 20) rfl (by decide) ?_
      exact ih (i + 1) _ (by omega) (by omega) rfl rfl
theorem m_records {G : xG} {s : xA} {m : Nat} {V : Vd} {st : Nat} (hs : V.2.2 0 2 = nI st) (h5 : st ≤ 5) : mV G MX10_records [.ref m] s m V (mRec V st) := by
  refine x_aload_n (k := 0) rfl rfl ?_
  refine m_get (k := 1) rfl flRX10_44 rfl ?_
  refine x_iconst (v := 5) (k := 2) rfl (by decide) ?_
  refine x_icmp_ne (tgt := 49) (k := 3) rfl (by decide) (fun c5 => ?_) (fun c5 => ?_)
  · have h4 : st ≠ 5 := fun z => c5 (by rw [hs, z]; rfl)
    have e : mRec V st = (V.1, rcB V.2.1 V.1 (st * 1766) 1766, ySet V.2.2 0 2 (nI (st + 1))) := by rw [mRec, rcK, if_neg h4, show min (st + 1) 5 = st + 1 by omega]
    rw [e]
    refine x_iconst (v := 0) (k := 27) rfl (by decide) ?_
    refine x_istore_n (k := 28) rfl (by decide) ?_
    have := l_rec2 (G := G) (s := s) (m := m) (N := V.1) (K := V.2.1) (Y := V.2.2) (b := st) (by omega) hs 1767 0 [(0, .ref m), (1, .int 0)] (by omega) (by omega) rfl rfl
    rw [rcB_0] at this
    exact this
  · have h4 : st = 5 := (nI_eq (b := 5) (by omega) (by omega)).mp (hs.symm.trans c5)
    subst h4
    have e : mRec V 5 = (V.1, rcB (rcA V.2.1 7064) V.1 (4 * 1766) 1766, ySet V.2.2 0 2 (nI 5)) := by rw [mRec, rcK, if_pos rfl]; rfl
    rw [e]
    refine x_iconst (v := 0) (k := 4) rfl (by decide) ?_
    refine x_istore_n (k := 5) rfl (by decide) ?_
    have := l_rec1 (G := G) (s := s) (m := m) (N := V.1) (K := V.2.1) (Y := V.2.2) hs 7065 0 [(0, .ref m), (1, .int 0)] (by omega) (by omega) rfl rfl
    rw [rcA_0] at this
    exact this
theorem m_hour0 {G : xG} {s : xA} {m : Nat} {V : Vd} : mI G MX10_hour [.ref m] s m V ((V.1 0).toInt32) V := by
  refine x_aload_n (k := 0) rfl rfl ?_
  refine m_getA (a := 1) (k := 1) rfl flRX10_7 rfl ?_
  refine x_iconst (v := 0) (k := 2) rfl (by decide) ?_
  refine m_nat (k := 3) rfl (show (0 : Int32) = nI 0 from rfl) (by first | assumption | omega) ?_
  refine x_l2i (k := 4) rfl ?_
  exact m_irD (k := 5) rfl rfl rfl rfl rfl
theorem m_undoF {G : xG} {s : xA} {m : Nat} {V : Vd} (hs : V.2.2 0 2 = 0) : mI G MX10_undo [.ref m] s m V (-2) V := by
  refine x_aload_n (k := 0) rfl rfl ?_
  refine m_get (k := 1) rfl flRX10_44 rfl ?_
  refine x_if_ne (tgt := 10) (k := 2) rfl (by decide) (fun c4 => absurd hs c4) (fun c4 => ?_)
  refine x_bipush (v := -2) (k := 3) rfl (by decide) ?_
  exact m_irD (k := 4) rfl rfl rfl rfl rfl
theorem l_undo {G : xG} {s : xA} {m b : Nat} {N K : Nat → Int64} {Y : Yd} (hb : b < 5) (hY : Y 0 2 = nI b) : ∀ (d i : Nat) (ls : List (Nat × Value)), 1766 - i < d → i ≤ 1766 → ls.lookup 0 = some (.ref m) → ls.lookup 1 = some (.int (nI i)) → mE G MX10_undo 22 ls [] s m (unA N K (b * 1766) i, K, Y) (fun r V1 => r = some (.int (nI b)) ∧ V1 = (unA N K (b * 1766) 1766, K, Y)) := by
  intro d
  induction d with
  | zero =>
    intro i ls hd hi g0 g1
    exact absurd hd (Nat.not_lt_zero _)
  | succ d ih =>
    intro i ls hd hi g0 g1
    refine x_sub (ls' := [(0, .ref m), (1, .int (nI i))]) (by simp [*]) ?_
    refine x_iload_n (k := 13) rfl rfl ?_
    refine x_sipush (v := 1766) (k := 14) rfl (by decide) ?_
    refine x_icmp_ge (tgt := 56) (k := 15) rfl (by decide) (fun c26 => ?_) (fun c26 => ?_)
    · have e : i = 1766 := by
        have := (le_nI (show (1766 : Int32) = nI 1766 from rfl) (by omega) (by omega)).mp c26
        omega
      subst e
      refine x_aload_n (k := 31) rfl rfl ?_
      refine m_get (k := 32) rfl flRX10_44 rfl ?_
      exact m_irD (k := 33) rfl rfl rfl hY rfl
    · have hin : i < 1766 := by
        have := mt (le_nI (show (1766 : Int32) = nI 1766 from rfl) (by omega) (by omega)).mpr c26
        omega
      refine x_aload_n (k := 16) rfl rfl ?_
      refine m_getA (a := 1) (k := 17) rfl flRX10_7 rfl ?_
      refine x_iload_n (k := 18) rfl rfl ?_
      refine x_aload_n (k := 19) rfl rfl ?_
      refine m_getA (a := 2) (k := 20) rfl flRX10_13 rfl ?_
      refine x_aload_n (k := 21) rfl rfl ?_
      refine m_get (k := 22) rfl flRX10_44 rfl ?_
      refine x_sipush (v := 1766) (k := 23) rfl (by decide) ?_
      refine x_imul (k := 24) rfl ?_
      refine x_iload_n (k := 25) rfl rfl ?_
      refine x_iadd (k := 26) rfl ?_
      refine m_kat (k := 27) rfl (show Y 0 2 * 1766 + nI i = nI (b * 1766 + i) by rw [hY, mulA]) (by omega) ?_
      refine m_nput (k := 28) rfl rfl (by omega) ?_
      rw [show mNo (unA N K (b * 1766) i, K, Y) i (K (b * 1766 + i)) = (unA N K (b * 1766) (i + 1), K, Y) from by rw [← unA_s]; rfl]
      refine x_iinc (k := 29) rfl rfl (nI_1 i) (by decide) ?_
      refine x_goto (tgt := 22) (k := 30) rfl (by decide) ?_
      exact ih (i + 1) _ (by omega) (by omega) rfl rfl
theorem m_undo {G : xG} {s : xA} {m : Nat} {V : Vd} {b : Nat} (hb : b < 5) (hs : V.2.2 0 2 = nI (b + 1)) : mI G MX10_undo [.ref m] s m V (nI b) (unA V.1 V.2.1 (b * 1766) 1766, V.2.1, ySet V.2.2 0 2 (nI b)) := by
  refine x_aload_n (k := 0) rfl rfl ?_
  refine m_get (k := 1) rfl flRX10_44 rfl ?_
  refine x_if_ne (tgt := 10) (k := 2) rfl (by decide) (fun c4 => ?_) (fun c4 => absurd (hs.symm.trans c4) (nI_ne0 (by omega) (by omega)))
  refine x_aload_n (k := 5) rfl rfl ?_
  refine x_dup (k := 6) rfl rfl ?_
  refine m_get (k := 7) rfl flRX10_44 rfl ?_
  refine x_iconst (v := 1) (k := 8) rfl (by decide) ?_
  refine x_isub (k := 9) rfl ?_
  refine x_top (y := nI b) (by rw [hs]; exact nI_pred b) ?_
  refine m_put (k := 10) rfl flRX10_44 ft10_2 (by decide) rfl ?_
  refine x_iconst (v := 0) (k := 11) rfl (by decide) ?_
  refine x_istore_n (k := 12) rfl (by decide) ?_
  have := l_undo (G := G) (s := s) (m := m) (N := V.1) (K := V.2.1) (Y := ySet V.2.2 0 2 (nI b)) hb ySet_at 1767 0 [(0, .ref m), (1, .int 0)] (by omega) (by omega) rfl rfl
  rw [unA_0] at this
  exact this
theorem m_takeF {G : xG} {s : xA} {m : Nat} {V : Vd} {q : Int32} (hq : ¬ wIn q 0 1) : mI G MX10_take [.ref m, .int q] s m V (-1) V := by
  refine x_iload_n (k := 0) rfl rfl ?_
  refine x_i2l (k := 1) rfl ?_
  refine x_lconst (v := 0) (k := 2) rfl (by decide) ?_
  refine x_lconst (v := 1) (k := 3) rfl (by decide) ?_
  refine x_sD (k := 4) rfl (by rfl) (m_isIn _ _ _) okX10_isIn viX10_isIn mlRX10_38 ⟨Nat.le_of_ble_eq_true rfl, Nat.le_of_ble_eq_true rfl⟩ (by exact Nat.le_of_ble_eq_true rfl) rfl (by exact Nat.le_of_ble_eq_true rfl) ?_
  refine x_if_ne (tgt := 12) (k := 5) rfl (by decide) (fun c7 => absurd ((w64 (lo := 0) (hi := 1) (by decide) (by decide)).mp (bz_ne0 c7)) hq) (fun c7 => ?_)
  refine x_iconst (v := -1) (k := 6) rfl (by decide) ?_
  exact m_irD (k := 7) rfl rfl rfl rfl rfl
theorem l_take {G : xG} {s : xA} {m b : Nat} {N : Nat → Int64} {Z : (Nat → Int64) × Yd} (hb : 588 ≤ b) (hb2 : b ≤ 1177) : ∀ (d i : Nat) (ls : List (Nat × Value)), 588 - i < d → i ≤ 588 → ls.lookup 0 = some (.ref m) → ls.lookup 2 = some (.int (nI b)) → ls.lookup 3 = some (.int (nI i)) → mE G MX10_take 35 ls [] s m (tkA N b i, Z) (fun r V1 => r = some (.int ((N 0).toInt32)) ∧ V1 = (tkA N b 588, Z)) := by
  intro d
  induction d with
  | zero =>
    intro i ls hd hi g0 g2 g3
    exact absurd hd (Nat.not_lt_zero _)
  | succ d ih =>
    intro i ls hd hi g0 g2 g3
    refine x_sub (ls' := [(0, .ref m), (2, .int (nI b)), (3, .int (nI i))]) (by simp [*]) ?_
    refine x_iload_n (k := 23) rfl rfl ?_
    refine x_sipush (v := 588) (k := 24) rfl (by decide) ?_
    refine x_icmp_ge (tgt := 64) (k := 25) rfl (by decide) (fun c39 => ?_) (fun c39 => ?_)
    · have e : i = 588 := by
        have := (le_nI (show (588 : Int32) = nI 588 from rfl) (by omega) (by omega)).mp c39
        omega
      subst e
      refine x_aload_n (k := 40) rfl rfl ?_
      refine m_callI (ci := 10) (k := 41) rfl (by rfl) (m_hour0) okX10_hour viX10_hour mlRX10_51 ⟨Nat.le_of_ble_eq_true rfl, Nat.le_of_ble_eq_true rfl⟩ (by exact Nat.le_of_ble_eq_true rfl) rfl rfl mG0 (by exact Nat.le_of_ble_eq_true rfl) ?_
      exact m_irD (k := 42) rfl rfl rfl (by show (tkA N b 588 0).toInt32 = _; rw [tkA, if_neg (by omega), if_neg (by omega)]) rfl
    · have hin : i < 588 := by
        have := mt (le_nI (show (588 : Int32) = nI 588 from rfl) (by omega) (by omega)).mpr c39
        omega
      refine x_aload_n (k := 26) rfl rfl ?_
      refine m_getA (a := 1) (k := 27) rfl flRX10_7 rfl ?_
      refine x_iload_n (k := 28) rfl rfl ?_
      refine x_iconst (v := 1) (k := 29) rfl (by decide) ?_
      refine x_iadd (k := 30) rfl ?_
      refine x_iload_n (k := 31) rfl rfl ?_
      refine x_iadd (k := 32) rfl ?_
      refine x_aload_n (k := 33) rfl rfl ?_
      refine m_getA (a := 1) (k := 34) rfl flRX10_7 rfl ?_
      refine x_iload_n (k := 35) rfl rfl ?_
      refine m_nat (k := 36) rfl rfl (by omega) ?_
      refine m_nput (k := 37) rfl (show nI b + 1 + nI i = nI (b + 1 + i) by rw [nI_1, nI_add]) (by omega) ?_
      rw [show mNo (tkA N b i, Z) (b + 1 + i) (tkA N b i i) = (tkA N b (i + 1), Z) from by rw [← tkA_s (by omega)]; rfl]
      refine x_iinc (k := 38) rfl rfl (nI_1 i) (by decide) ?_
      refine x_goto (tgt := 35) (k := 39) rfl (by decide) ?_
      exact ih (i + 1) _ (by omega) (by omega) rfl rfl rfl
theorem m_take {G : xG} {s : xA} {m : Nat} {V : Vd} {st i : Nat} (hi : i < 2) (hs : V.2.2 0 2 = nI st) (h5 : st ≤ 5) : mI G MX10_take [.ref m, .int (nI i)] s m V ((V.1 0).toInt32) (tkA V.1 (588 + 589 * i) 588, (mRec V st).2) := by
  refine x_iload_n (k := 0) rfl rfl ?_
  refine x_i2l (k := 1) rfl ?_
  refine x_lconst (v := 0) (k := 2) rfl (by decide) ?_
  refine x_lconst (v := 1) (k := 3) rfl (by decide) ?_
  refine x_sD (k := 4) rfl (by rfl) (m_isIn _ _ _) okX10_isIn viX10_isIn mlRX10_38 ⟨Nat.le_of_ble_eq_true rfl, Nat.le_of_ble_eq_true rfl⟩ (by exact Nat.le_of_ble_eq_true rfl) rfl (by exact Nat.le_of_ble_eq_true rfl) ?_
  refine x_if_ne (tgt := 12) (k := 5) rfl (by decide) (fun c7 => ?_) (fun c7 => absurd (show wIn (nI i) 0 1 from ⟨nI_pos (by omega), nI_nlt (b := i) (a := 1) (by omega) (by omega)⟩) (fun z => bz_eq0 c7 ((w64 (lo := 0) (hi := 1) (by decide) (by decide)).mpr z)))
  refine x_aload_n (k := 8) rfl rfl ?_
  refine m_callV (ci := 10) (k := 9) rfl (by rfl) (m_records hs h5) okX10_records viX10_records mlRX10_48 ⟨Nat.le_of_ble_eq_true rfl, Nat.le_of_ble_eq_true rfl⟩ (by exact Nat.le_of_ble_eq_true rfl) rfl rfl mG0 (by exact Nat.le_of_ble_eq_true rfl) ?_
  refine x_sipush (v := 588) (k := 10) rfl (by decide) ?_
  refine x_sipush (v := 589) (k := 11) rfl (by decide) ?_
  refine x_iload_n (k := 12) rfl rfl ?_
  refine x_imul (k := 13) rfl ?_
  refine x_iadd (k := 14) rfl ?_
  refine x_top (itsA i) ?_
  refine x_istore_n (k := 15) rfl (by decide) ?_
  refine x_aload_n (k := 16) rfl rfl ?_
  refine m_getA (a := 1) (k := 17) rfl flRX10_7 rfl ?_
  refine x_iload_n (k := 18) rfl rfl ?_
  refine x_lconst (v := 1) (k := 19) rfl (by decide) ?_
  refine m_nput (k := 20) rfl rfl (by omega) ?_
  rw [show mNo (mRec V st) (588 + 589 * i) 1 = (tkA V.1 (588 + 589 * i) 0, (mRec V st).2) from by rw [← tkA_0]; rfl]
  refine x_iconst (v := 0) (k := 21) rfl (by decide) ?_
  refine x_istore_n (k := 22) rfl (by decide) ?_
  exact l_take (by omega) (by omega) 589 0 _ (by omega) (by omega) rfl rfl rfl
theorem m_restoreF {G : xG} {s : xA} {m : Nat} {V : Vd} {q : Int32} (hq : ¬ wIn q 0 1) : mI G MX10_restore [.ref m, .int q] s m V (-1) V := by
  refine x_iload_n (k := 0) rfl rfl ?_
  refine x_i2l (k := 1) rfl ?_
  refine x_lconst (v := 0) (k := 2) rfl (by decide) ?_
  refine x_lconst (v := 1) (k := 3) rfl (by decide) ?_
  refine x_sD (k := 4) rfl (by rfl) (m_isIn _ _ _) okX10_isIn viX10_isIn mlRX10_38 ⟨Nat.le_of_ble_eq_true rfl, Nat.le_of_ble_eq_true rfl⟩ (by exact Nat.le_of_ble_eq_true rfl) rfl (by exact Nat.le_of_ble_eq_true rfl) ?_
  refine x_if_ne (tgt := 12) (k := 5) rfl (by decide) (fun c7 => absurd ((w64 (lo := 0) (hi := 1) (by decide) (by decide)).mp (bz_ne0 c7)) hq) (fun c7 => ?_)
  refine x_iconst (v := -1) (k := 6) rfl (by decide) ?_
  exact m_irD (k := 7) rfl rfl rfl rfl rfl
theorem m_restoreN {G : xG} {s : xA} {m : Nat} {V : Vd} {i : Nat} (hi : i < 2) (h0 : V.1 (588 + 589 * i) = 0) : mI G MX10_restore [.ref m, .int (nI i)] s m V (-2) V := by
  refine x_iload_n (k := 0) rfl rfl ?_
  refine x_i2l (k := 1) rfl ?_
  refine x_lconst (v := 0) (k := 2) rfl (by decide) ?_
  refine x_lconst (v := 1) (k := 3) rfl (by decide) ?_
  refine x_sD (k := 4) rfl (by rfl) (m_isIn _ _ _) okX10_isIn viX10_isIn mlRX10_38 ⟨Nat.le_of_ble_eq_true rfl, Nat.le_of_ble_eq_true rfl⟩ (by exact Nat.le_of_ble_eq_true rfl) rfl (by exact Nat.le_of_ble_eq_true rfl) ?_
  refine x_if_ne (tgt := 12) (k := 5) rfl (by decide) (fun c7 => ?_) (fun c7 => absurd (show wIn (nI i) 0 1 from ⟨nI_pos (by omega), nI_nlt (b := i) (a := 1) (by omega) (by omega)⟩) (fun z => bz_eq0 c7 ((w64 (lo := 0) (hi := 1) (by decide) (by decide)).mpr z)))
  refine x_sipush (v := 588) (k := 8) rfl (by decide) ?_
  refine x_sipush (v := 589) (k := 9) rfl (by decide) ?_
  refine x_iload_n (k := 10) rfl rfl ?_
  refine x_imul (k := 11) rfl ?_
  refine x_iadd (k := 12) rfl ?_
  refine x_top (itsA i) ?_
  refine x_istore_n (k := 13) rfl (by decide) ?_
  refine x_aload_n (k := 14) rfl rfl ?_
  refine m_getA (a := 1) (k := 15) rfl flRX10_7 rfl ?_
  refine x_iload_n (k := 16) rfl rfl ?_
  refine m_nat (k := 17) rfl rfl (by omega) ?_
  refine x_lconst (v := 0) (k := 18) rfl (by decide) ?_
  refine x_lcmp (k := 19) rfl ?_
  refine x_if_ne (tgt := 36) (k := 20) rfl (by decide) (fun c30 => absurd ((lg_cmp_eq _ _).mpr h0) c30) (fun c30 => ?_)
  refine x_bipush (v := -2) (k := 21) rfl (by decide) ?_
  exact m_irD (k := 22) rfl rfl rfl rfl rfl
theorem l_restore {G : xG} {s : xA} {m b : Nat} {N : Nat → Int64} {Z : (Nat → Int64) × Yd} (hb : 588 ≤ b) (hb2 : b ≤ 1177) : ∀ (d i : Nat) (ls : List (Nat × Value)), 588 - i < d → i ≤ 588 → ls.lookup 0 = some (.ref m) → ls.lookup 2 = some (.int (nI b)) → ls.lookup 3 = some (.int (nI i)) → mE G MX10_restore 42 ls [] s m (unA N N (b + 1) i, Z) (fun r V1 => r = some (.int ((N (b + 1)).toInt32)) ∧ V1 = (unA N N (b + 1) 588, Z)) := by
  intro d
  induction d with
  | zero =>
    intro i ls hd hi g0 g2 g3
    exact absurd hd (Nat.not_lt_zero _)
  | succ d ih =>
    intro i ls hd hi g0 g2 g3
    refine x_sub (ls' := [(0, .ref m), (2, .int (nI b)), (3, .int (nI i))]) (by simp [*]) ?_
    refine x_iload_n (k := 27) rfl rfl ?_
    refine x_sipush (v := 588) (k := 28) rfl (by decide) ?_
    refine x_icmp_ge (tgt := 71) (k := 29) rfl (by decide) (fun c46 => ?_) (fun c46 => ?_)
    · have e : i = 588 := by
        have := (le_nI (show (588 : Int32) = nI 588 from rfl) (by omega) (by omega)).mp c46
        omega
      subst e
      refine x_aload_n (k := 44) rfl rfl ?_
      refine m_callI (ci := 10) (k := 45) rfl (by rfl) (m_hour0) okX10_hour viX10_hour mlRX10_51 ⟨Nat.le_of_ble_eq_true rfl, Nat.le_of_ble_eq_true rfl⟩ (by exact Nat.le_of_ble_eq_true rfl) rfl rfl mG0 (by exact Nat.le_of_ble_eq_true rfl) ?_
      exact m_irD (k := 46) rfl rfl rfl (by show (unA N N (b + 1) 588 0).toInt32 = _; rw [unA, if_pos (by omega)]) rfl
    · have hin : i < 588 := by
        have := mt (le_nI (show (588 : Int32) = nI 588 from rfl) (by omega) (by omega)).mpr c46
        omega
      refine x_aload_n (k := 30) rfl rfl ?_
      refine m_getA (a := 1) (k := 31) rfl flRX10_7 rfl ?_
      refine x_iload_n (k := 32) rfl rfl ?_
      refine x_aload_n (k := 33) rfl rfl ?_
      refine m_getA (a := 1) (k := 34) rfl flRX10_7 rfl ?_
      refine x_iload_n (k := 35) rfl rfl ?_
      refine x_iconst (v := 1) (k := 36) rfl (by decide) ?_
      refine x_iadd (k := 37) rfl ?_
      refine x_iload_n (k := 38) rfl rfl ?_
      refine x_iadd (k := 39) rfl ?_
      refine m_nat (k := 40) rfl (show nI b + 1 + nI i = nI (b + 1 + i) by rw [nI_1, nI_add]) (by omega) ?_
      refine m_nput (k := 41) rfl rfl (by omega) ?_
      rw [show mNo (unA N N (b + 1) i, Z) i (unA N N (b + 1) i (b + 1 + i)) = (unA N N (b + 1) (i + 1), Z) from by rw [← unA_s, show unA N N (b + 1) i (b + 1 + i) = N (b + 1 + i) from if_neg (by omega)]; rfl]
      refine x_iinc (k := 42) rfl rfl (nI_1 i) (by decide) ?_
      refine x_goto (tgt := 42) (k := 43) rfl (by decide) ?_
      exact ih (i + 1) _ (by omega) (by omega) rfl rfl rfl
theorem m_restore {G : xG} {s : xA} {m : Nat} {V : Vd} {st i : Nat} (hi : i < 2) (h0 : ¬ V.1 (588 + 589 * i) = 0) (hs : V.2.2 0 2 = nI st) (h5 : st ≤ 5) : mI G MX10_restore [.ref m, .int (nI i)] s m V ((V.1 (588 + 589 * i + 1)).toInt32) (unA V.1 V.1 (588 + 589 * i + 1) 588, (mRec V st).2) := by
  refine x_iload_n (k := 0) rfl rfl ?_
  refine x_i2l (k := 1) rfl ?_
  refine x_lconst (v := 0) (k := 2) rfl (by decide) ?_
  refine x_lconst (v := 1) (k := 3) rfl (by decide) ?_
  refine x_sD (k := 4) rfl (by rfl) (m_isIn _ _ _) okX10_isIn viX10_isIn mlRX10_38 ⟨Nat.le_of_ble_eq_true rfl, Nat.le_of_ble_eq_true rfl⟩ (by exact Nat.le_of_ble_eq_true rfl) rfl (by exact Nat.le_of_ble_eq_true rfl) ?_
  refine x_if_ne (tgt := 12) (k := 5) rfl (by decide) (fun c7 => ?_) (fun c7 => absurd (show wIn (nI i) 0 1 from ⟨nI_pos (by omega), nI_nlt (b := i) (a := 1) (by omega) (by omega)⟩) (fun z => bz_eq0 c7 ((w64 (lo := 0) (hi := 1) (by decide) (by decide)).mpr z)))
  refine x_sipush (v := 588) (k := 8) rfl (by decide) ?_
  refine x_sipush (v := 589) (k := 9) rfl (by decide) ?_
  refine x_iload_n (k := 10) rfl rfl ?_
  refine x_imul (k := 11) rfl ?_
  refine x_iadd (k := 12) rfl ?_
  refine x_top (itsA i) ?_
  refine x_istore_n (k := 13) rfl (by decide) ?_
  refine x_aload_n (k := 14) rfl rfl ?_
  refine m_getA (a := 1) (k := 15) rfl flRX10_7 rfl ?_
  refine x_iload_n (k := 16) rfl rfl ?_
  refine m_nat (k := 17) rfl rfl (by omega) ?_
  refine x_lconst (v := 0) (k := 18) rfl (by decide) ?_
  refine x_lcmp (k := 19) rfl ?_
  refine x_if_ne (tgt := 36) (k := 20) rfl (by decide) (fun c30 => ?_) (fun c30 => absurd ((lg_cmp_eq _ _).mp c30) h0)
  refine x_aload_n (k := 23) rfl rfl ?_
  refine m_callV (ci := 10) (k := 24) rfl (by rfl) (m_records hs h5) okX10_records viX10_records mlRX10_48 ⟨Nat.le_of_ble_eq_true rfl, Nat.le_of_ble_eq_true rfl⟩ (by exact Nat.le_of_ble_eq_true rfl) rfl rfl mG0 (by exact Nat.le_of_ble_eq_true rfl) ?_
  refine x_iconst (v := 0) (k := 25) rfl (by decide) ?_
  refine x_istore_n (k := 26) rfl (by decide) ?_
  have := l_restore (G := G) (s := s) (m := m) (N := V.1) (Z := (mRec V st).2) (b := 588 + 589 * i) (by omega) (by omega) 589 0 [(0, .ref m), (1, .int (nI i)), (2, .int (nI (588 + 589 * i))), (3, .int 0)] (by omega) (by omega) rfl rfl rfl
  rw [unA_0] at this
  exact this
