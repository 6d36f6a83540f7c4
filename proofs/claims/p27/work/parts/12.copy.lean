-- ===== contracts: one world copied into another =====
def isW (G : xG) (s : xA) (v : Nat) (V : Wd) : Prop := ∀ k, k < 40 → s.1 (v + k) = some (wCell G v V k)
def dj (v w : Nat) : Prop := v + 40 ≤ w ∨ w + 40 ≤ v
def cpRow (W V : Wd) (a i : Nat) : Nat → Wd
  | 0 => W
  | n + 1 => wSet (cpRow W V a i n) a i n (V a i n)
def cpRows (W V : Wd) (a m : Nat) : Nat → Wd
  | 0 => W
  | i + 1 => cpRow (cpRows W V a m i) V a i m
theorem cpRow_a {W V : Wd} {a i a' j k : Nat} (h : a' ≠ a) : ∀ n, cpRow W V a i n a' j k = W a' j k
  | 0 => rfl
  | n + 1 => by rw [cpRow, wSet_a h, cpRow_a h n]
theorem cpRow_i {W V : Wd} {a i a' j k : Nat} (h : j ≠ i) : ∀ n, cpRow W V a i n a' j k = W a' j k
  | 0 => rfl
  | n + 1 => by rw [cpRow, wSet_i h, cpRow_i h n]
theorem cpRow_in {W V : Wd} {a i k : Nat} : ∀ n, k < n → cpRow W V a i n a i k = V a i k
  | 0, h => absurd h (Nat.not_lt_zero _)
  | n + 1, h => by
    rw [cpRow]
    by_cases hk : k = n
    · rw [hk, wSet_same]
    · rw [wSet_k hk, cpRow_in n (by omega)]
theorem cpRows_a {W V : Wd} {a m a' j k : Nat} (h : a' ≠ a) : ∀ n, cpRows W V a m n a' j k = W a' j k
  | 0 => rfl
  | n + 1 => by rw [cpRows, cpRow_a h, cpRows_a h n]
theorem cpRows_in {W V : Wd} {a m j k : Nat} (hk : k < m) : ∀ n, j < n → cpRows W V a m n a j k = V a j k
  | 0, h => absurd h (Nat.not_lt_zero _)
  | n + 1, h => by
    rw [cpRows]
    by_cases hj : j = n
    · rw [hj, cpRow_in m hk]
    · rw [cpRow_i hj, cpRows_in hk n (by omega)]
def cp1 (W V : Wd) : Wd := cpRow W V 3 0 6
def cp2 (W V : Wd) (n : Nat) : Wd := cpRows (cp1 W V) V 0 5 n
def cp3 (W V : Wd) (n : Nat) : Wd := cpRows (cp2 W V 8) V 1 7 n
def cp4 (W V : Wd) (n : Nat) : Wd := cpRows (cp3 W V (cT V)) V 2 10 n
def cpH (W V : Wd) : Wd := wEnt (wSet W 4 0 0 (V 4 0 0)) (va_cpy (fun j => V 5 0 j) (fun j => W 5 0 j) 0 0 (ix (V 4 0 0)))
def sCopy (W V : Wd) : Wd := cpH (cp4 W V (cK V)) V
section CP
variable {G : xG} {s : xA} {w v : Nat} {W V : Wd}
theorem wC_0 : wCell G v V 0 = eO 8 (fW V v) := Option.some.inj ((setW_in (G := G) (s := (fun _ => none, 0, 0)) (by omega)).symm.trans (wG0 (s := (fun _ => none, 0, 0))))
theorem oW (hd : dj v w) (hV : isW G s v V) {k : Nat} (hk : k < 40) : (setW G s w W).1 (v + k) = some (wCell G v V k) := by
  rw [setW_out (by unfold dj at hd; omega)]
  exact hV k hk
theorem isW_in {k : Nat} {e : va_E} (hk : k < 40) (h : (setW G (fun _ => none, 0, 0) v V).1 (v + k) = some e) : wCell G v V k = e := Option.some.inj ((setW_in hk).symm.trans h)
theorem oG0 (hd : dj v w) (hV : isW G s v V) : (setW G s w W).1 v = some (eO 8 (fW V v)) := by
  have := oW (W := W) hd hV (k := 0) (by omega)
  rw [isW_in (by omega) wG0] at this
  exact this
theorem oG1 (hd : dj v w) (hV : isW G s v V) : (setW G s w W).1 (v + 1) = some (eR G 4 8 (rTo 8 (v + 6))) := by rw [oW hd hV (by omega), isW_in (by omega) wG1]
theorem oG2 (hd : dj v w) (hV : isW G s v V) : (setW G s w W).1 (v + 2) = some (eR G 5 16 (rTo 16 (v + 14))) := by rw [oW hd hV (by omega), isW_in (by omega) wG2]
theorem oG3 (hd : dj v w) (hV : isW G s v V) : (setW G s w W).1 (v + 3) = some (eR G 6 10 (rTo 10 (v + 30))) := by rw [oW hd hV (by omega), isW_in (by omega) wG3]
theorem oG4 (hd : dj v w) (hV : isW G s v V) : (setW G s w W).1 (v + 4) = some (eO 1 (fH V v)) := by rw [oW hd hV (by omega), isW_in (by omega) wG4]
theorem oG5 (hd : dj v w) (hV : isW G s v V) : (setW G s w W).1 (v + 5) = some (eI G 512 (fun j => V 5 0 j)) := by rw [oW hd hV (by omega), isW_in (by omega) wG5]
theorem oGP (hd : dj v w) (hV : isW G s v V) {i : Nat} (hi : i < 8) : (setW G s w W).1 (v + 6 + i) = some (eO 3 (fP V i)) := by rw [Nat.add_assoc, oW hd hV (by omega), isW_in (by omega) (by rw [← Nat.add_assoc]; exact wGP hi)]
theorem oGT (hd : dj v w) (hV : isW G s v V) {i : Nat} (hi : i < 16) : (setW G s w W).1 (v + 14 + i) = some (eO 6 (fT V i)) := by rw [Nat.add_assoc, oW hd hV (by omega), isW_in (by omega) (by rw [← Nat.add_assoc]; exact wGT hi)]
theorem oGK (hd : dj v w) (hV : isW G s v V) {i : Nat} (hi : i < 10) : (setW G s w W).1 (v + 30 + i) = some (eO 2 (fK V i)) := by rw [Nat.add_assoc, oW hd hV (by omega), isW_in (by omega) (by rw [← Nat.add_assoc]; exact wGK hi)]
end CP
section CPR
variable {G : xG} {M : xM} {pc : Nat} {ls : List (Nat × Value)} {st : List Value} {s : xA} {w v : Nat} {W V : Wd} {Q : Option Value → Wd → Prop}
theorem o_atP {k p : Nat} {i : Int32} (hk : (mIn M)[k]? = some (pc, .aaload, 1)) (hd : dj v w) (hV : isW G s v V) (hi : i = nI p) (hp : p < 8) (kk : wE G M (pc + 1) ls (.ref (v + 6 + p) :: st) s w W Q) : wE G M pc ls (.int i :: .ref (v + 1) :: st) s w W Q :=
  x_aald (t := 4) hk rfl (oG1 hd hV) (vp_inN hi hp (by decide)) (by rw [clampN hi hp (by decide), rTo_at hp]; exact kk)
theorem o_atT {k p : Nat} {i : Int32} (hk : (mIn M)[k]? = some (pc, .aaload, 1)) (hd : dj v w) (hV : isW G s v V) (hi : i = nI p) (hp : p < 16) (kk : wE G M (pc + 1) ls (.ref (v + 14 + p) :: st) s w W Q) : wE G M pc ls (.int i :: .ref (v + 2) :: st) s w W Q :=
  x_aald (t := 5) hk rfl (oG2 hd hV) (vp_inN hi hp (by decide)) (by rw [clampN hi hp (by decide), rTo_at hp]; exact kk)
theorem o_atK {k p : Nat} {i : Int32} (hk : (mIn M)[k]? = some (pc, .aaload, 1)) (hd : dj v w) (hV : isW G s v V) (hi : i = nI p) (hp : p < 10) (kk : wE G M (pc + 1) ls (.ref (v + 30 + p) :: st) s w W Q) : wE G M pc ls (.int i :: .ref (v + 3) :: st) s w W Q :=
  x_aald (t := 6) hk rfl (oG3 hd hV) (vp_inN hi hp (by decide)) (by rw [clampN hi hp (by decide), rTo_at hp]; exact kk)
end CPR

theorem w_copyH {G : xG} {M : xM} {pc : Nat} {ls : List (Nat × Value)} {st : List Value} {s : xA} {w : Nat} {W : Wd} {Q : Option Value → Wd → Prop} {k idx a n : Nat} {z : Int32} {f : Nat → Int32} (hk : (mIn M)[k]? = some (pc, .invokestatic idx, 3)) (hw : Cond.methodLink (mOwn M) idx arraycopyName ∈ gW) (h0 : (setW G s w W).1 a = some (eI G 512 f)) (hz : z = nI n) (hn : n ≤ 512) (hfr : 1 ≤ mFr M) (hlo : (st.map fun v => v.category).sum + (nativeFrameWords "java/lang/System" "arraycopy" 5 + 11) ≤ mLo M) (kk : wE G M (pc + 3) ls st s w (wEnt W (va_cpy f (fun j => W 5 0 j) 0 0 n)) Q) : wE G M pc ls (.int z :: .int 0 :: .ref (w + 5) :: .int 0 :: .ref a :: st) s w W Q := by
  subst hz
  have hc : (nI n).toNatClampNeg = n := nI_clamp (by omega)
  refine x_copyi hk hw wSys1 wSys2 wSys3 h0 wG5 (by decide) (by decide) (nI_pos (by omega)) (by rw [hc]; show 0 + n ≤ 512; omega) (by rw [hc]; show 0 + n ≤ 512; omega) hfr hlo ?_
  rw [hc, wU5g]
  exact kk
theorem c_copyP {G : xG} {s : xA} {w v : Nat} {W V : Wd} (hj : dj v w) (hV : isW G s v V) {i : Nat} (hi : i < 8) : wV G MX3_copyFrom [.ref (w + 6 + i), .ref (v + 6 + i)] s w W (cpRow W V 0 i 5) := by
  refine x_aload_n (k := 0) rfl rfl ?_
  refine x_aload_n (k := 1) rfl rfl ?_
  refine x_get (k := 2) rfl flRX3_9 (oGP hj hV hi) (fP_at (by decide)) ?_
  refine w_pP (k := 3) rfl flRX3_9 ft3_0 (by first | assumption | omega) (by decide) ?_
  refine x_aload_n (k := 4) rfl rfl ?_
  refine x_aload_n (k := 5) rfl rfl ?_
  refine x_get (k := 6) rfl flRX3_15 (oGP hj hV hi) (fP_at (by decide)) ?_
  refine w_pP (k := 7) rfl flRX3_15 ft3_1 (by first | assumption | omega) (by decide) ?_
  refine x_aload_n (k := 8) rfl rfl ?_
  refine x_aload_n (k := 9) rfl rfl ?_
  refine x_get (k := 10) rfl flRX3_21 (oGP hj hV hi) (fP_at (by decide)) ?_
  refine w_pP (k := 11) rfl flRX3_21 ft3_2 (by first | assumption | omega) (by decide) ?_
  refine x_aload_n (k := 12) rfl rfl ?_
  refine x_aload_n (k := 13) rfl rfl ?_
  refine x_get (k := 14) rfl flRX3_18 (oGP hj hV hi) (fP_at (by decide)) ?_
  refine w_pP (k := 15) rfl flRX3_18 ft3_3 (by first | assumption | omega) (by decide) ?_
  refine x_aload_n (k := 16) rfl rfl ?_
  refine x_aload_n (k := 17) rfl rfl ?_
  refine x_get (k := 18) rfl flRX3_24 (oGP hj hV hi) (fP_at (by decide)) ?_
  refine w_pP (k := 19) rfl flRX3_24 ft3_4 (by first | assumption | omega) (by decide) ?_
  exact w_rD (k := 20) rfl rfl rfl
theorem c_copyT {G : xG} {s : xA} {w v : Nat} {W V : Wd} (hj : dj v w) (hV : isW G s v V) {i : Nat} (hi : i < 16) : wV G MX6_copyFrom [.ref (w + 14 + i), .ref (v + 14 + i)] s w W (cpRow W V 1 i 7) := by
  refine x_aload_n (k := 0) rfl rfl ?_
  refine x_aload_n (k := 1) rfl rfl ?_
  refine x_get (k := 2) rfl flRX6_9 (oGT hj hV hi) (fT_at (by decide)) ?_
  refine w_pT (k := 3) rfl flRX6_9 ft6_0 (by first | assumption | omega) (by decide) ?_
  refine x_aload_n (k := 4) rfl rfl ?_
  refine x_aload_n (k := 5) rfl rfl ?_
  refine x_get (k := 6) rfl flRX6_15 (oGT hj hV hi) (fT_at (by decide)) ?_
  refine w_pT (k := 7) rfl flRX6_15 ft6_1 (by first | assumption | omega) (by decide) ?_
  refine x_aload_n (k := 8) rfl rfl ?_
  refine x_aload_n (k := 9) rfl rfl ?_
  refine x_get (k := 10) rfl flRX6_18 (oGT hj hV hi) (fT_at (by decide)) ?_
  refine w_pT (k := 11) rfl flRX6_18 ft6_2 (by first | assumption | omega) (by decide) ?_
  refine x_aload_n (k := 12) rfl rfl ?_
  refine x_aload_n (k := 13) rfl rfl ?_
  refine x_get (k := 14) rfl flRX6_21 (oGT hj hV hi) (fT_at (by decide)) ?_
  refine w_pT (k := 15) rfl flRX6_21 ft6_3 (by first | assumption | omega) (by decide) ?_
  refine x_aload_n (k := 16) rfl rfl ?_
  refine x_aload_n (k := 17) rfl rfl ?_
  refine x_get (k := 18) rfl flRX6_24 (oGT hj hV hi) (fT_at (by decide)) ?_
  refine w_pT (k := 19) rfl flRX6_24 ft6_4 (by first | assumption | omega) (by decide) ?_
  refine x_aload_n (k := 20) rfl rfl ?_
  refine x_aload_n (k := 21) rfl rfl ?_
  refine x_get (k := 22) rfl flRX6_27 (oGT hj hV hi) (fT_at (by decide)) ?_
  refine w_pT (k := 23) rfl flRX6_27 ft6_5 (by first | assumption | omega) (by decide) ?_
  refine x_aload_n (k := 24) rfl rfl ?_
  refine x_aload_n (k := 25) rfl rfl ?_
  refine x_get (k := 26) rfl flRX6_30 (oGT hj hV hi) (fT_at (by decide)) ?_
  refine w_pT (k := 27) rfl flRX6_30 ft6_6 (by first | assumption | omega) (by decide) ?_
  exact w_rD (k := 28) rfl rfl rfl
theorem c_copyK {G : xG} {s : xA} {w v : Nat} {W V : Wd} (hj : dj v w) (hV : isW G s v V) {i : Nat} (hi : i < 10) : wV G MX2_copyFrom [.ref (w + 30 + i), .ref (v + 30 + i)] s w W (cpRow W V 2 i 10) := by
  refine x_aload_n (k := 0) rfl rfl ?_
  refine x_aload_n (k := 1) rfl rfl ?_
  refine x_get (k := 2) rfl flRX2_9 (oGK hj hV hi) (fK_at (by decide)) ?_
  refine w_pK (k := 3) rfl flRX2_9 ft2_0 (by first | assumption | omega) (by decide) ?_
  refine x_aload_n (k := 4) rfl rfl ?_
  refine x_aload_n (k := 5) rfl rfl ?_
  refine x_get (k := 6) rfl flRX2_15 (oGK hj hV hi) (fK_at (by decide)) ?_
  refine w_pK (k := 7) rfl flRX2_15 ft2_1 (by first | assumption | omega) (by decide) ?_
  refine x_aload_n (k := 8) rfl rfl ?_
  refine x_aload_n (k := 9) rfl rfl ?_
  refine x_get (k := 10) rfl flRX2_18 (oGK hj hV hi) (fK_at (by decide)) ?_
  refine w_pK (k := 11) rfl flRX2_18 ft2_2 (by first | assumption | omega) (by decide) ?_
  refine x_aload_n (k := 12) rfl rfl ?_
  refine x_aload_n (k := 13) rfl rfl ?_
  refine x_get (k := 14) rfl flRX2_21 (oGK hj hV hi) (fK_at (by decide)) ?_
  refine w_pK (k := 15) rfl flRX2_21 ft2_3 (by first | assumption | omega) (by decide) ?_
  refine x_aload_n (k := 16) rfl rfl ?_
  refine x_aload_n (k := 17) rfl rfl ?_
  refine x_get (k := 18) rfl flRX2_24 (oGK hj hV hi) (fK_at (by decide)) ?_
  refine w_pK (k := 19) rfl flRX2_24 ft2_4 (by first | assumption | omega) (by decide) ?_
  refine x_aload_n (k := 20) rfl rfl ?_
  refine x_aload_n (k := 21) rfl rfl ?_
  refine x_get (k := 22) rfl flRX2_27 (oGK hj hV hi) (fK_at (by decide)) ?_
  refine w_pK (k := 23) rfl flRX2_27 ft2_5 (by first | assumption | omega) (by decide) ?_
  refine x_aload_n (k := 24) rfl rfl ?_
  refine x_aload_n (k := 25) rfl rfl ?_
  refine x_get (k := 26) rfl flRX2_30 (oGK hj hV hi) (fK_at (by decide)) ?_
  refine w_pK (k := 27) rfl flRX2_30 ft2_6 (by first | assumption | omega) (by decide) ?_
  refine x_aload_n (k := 28) rfl rfl ?_
  refine x_aload_n (k := 29) rfl rfl ?_
  refine x_get (k := 30) rfl flRX2_33 (oGK hj hV hi) (fK_at (by decide)) ?_
  refine w_pK (k := 31) rfl flRX2_33 ft2_7 (by first | assumption | omega) (by decide) ?_
  refine x_aload_n (k := 32) rfl rfl ?_
  refine x_aload_n (k := 33) rfl rfl ?_
  refine x_get (k := 34) rfl flRX2_36 (oGK hj hV hi) (fK_at (by decide)) ?_
  refine w_pK (k := 35) rfl flRX2_36 ft2_8 (by first | assumption | omega) (by decide) ?_
  refine x_aload_n (k := 36) rfl rfl ?_
  refine x_aload_n (k := 37) rfl rfl ?_
  refine x_get (k := 38) rfl flRX2_39 (oGK hj hV hi) (fK_at (by decide)) ?_
  refine w_pK (k := 39) rfl flRX2_39 ft2_9 (by first | assumption | omega) (by decide) ?_
  exact w_rD (k := 40) rfl rfl rfl
theorem c_copyH {G : xG} {s : xA} {w v : Nat} {W V : Wd} (hj : dj v w) (hV : isW G s v V) (hs : iOk V) : wV G MX1_copyFrom [.ref (w + 4), .ref (v + 4)] s w W (cpH W V) := by
  obtain ⟨n, hn, en⟩ := hs
  have e5 : ix (V 4 0 0) = n := by rw [en]; exact nI_clamp (by omega)
  refine x_aload_n (k := 0) rfl rfl ?_
  refine x_aload_n (k := 1) rfl rfl ?_
  refine x_get (k := 2) rfl flRX1_15 (oG4 hj hV) rfl ?_
  refine w_putHs (k := 3) rfl flRX1_15 ?_
  refine x_aload_n (k := 4) rfl rfl ?_
  refine x_get (k := 5) rfl flRX1_11 (oG4 hj hV) rfl ?_
  refine x_iconst (v := 0) (k := 6) rfl (by decide) ?_
  refine x_aload_n (k := 7) rfl rfl ?_
  refine w_getHe (k := 8) rfl flRX1_11 ?_
  refine x_iconst (v := 0) (k := 9) rfl (by decide) ?_
  refine x_aload_n (k := 10) rfl rfl ?_
  refine w_getHs (k := 11) rfl flRX1_15 ?_
  refine w_copyH (k := 12) rfl mlRX1_19 (oG5 hj hV) (n := n) (by rw [wSet_same]; exact en) hn (by decide) (by decide) ?_
  exact w_rD (k := 13) rfl rfl (by rw [cpH, e5]; rfl)
theorem l_cp4 {G : xG} {s : xA} {w v : Nat} {W V : Wd} (hj : dj v w) (hV : isW G s v V) (hk : hK V) (hs : iOk V) : ∀ (d i : Nat) (X : Wd) (ls : List (Nat × Value)), cK V - i < d → i ≤ cK V → X = cp4 W V i → ls.lookup 0 = some (.ref w) → ls.lookup 1 = some (.ref v) → ls.lookup 2 = some (.int (nI i)) → wE G MX8_copyFrom 110 ls [] s w X (fun r W1 => r = none ∧ W1 = sCopy W V) := by
  intro d
  induction d with
  | zero =>
    intro i X ls hd hi eX g0 g1 g2
    exact absurd hd (Nat.not_lt_zero _)
  | succ d ih =>
    intro i X ls hd hi eX g0 g1 g2
    refine x_sub (ls' := [(0, .ref w), (1, .ref v), (2, .int (nI i))]) (by simp [*]) ?_
    have h10 := hk.1
    have kx : X 3 0 5 = nI (cK V) := by rw [eX, cp4, cpRows_a (by decide), cp3, cpRows_a (by decide), cp2, cpRows_a (by decide), cp1, cpRow_in 6 (by decide)]; exact hk.2
    refine x_iload_n (k := 59) rfl rfl ?_
    refine x_aload_n (k := 60) rfl rfl ?_
    refine w_get (k := 61) rfl flRX8_57 (by decide) ?_
    refine x_icmp_ge (tgt := 139) (k := 62) rfl (by decide) (fun c115 => ?_) (fun c115 => ?_)
    · have e : i = cK V := by
        have := (le_nI kx (by omega) (by omega)).mp c115
        omega
      rw [e] at eX
      refine x_aload_n (k := 74) rfl rfl ?_
      refine w_getH (k := 75) rfl flRX8_32 ?_
      refine x_aload_n (k := 76) rfl rfl ?_
      refine x_get (k := 77) rfl flRX8_32 (oG0 hj hV) rfl ?_
      refine w_callV (ci := 1) (k := 78) rfl (by rfl) (c_copyH hj hV hs) okX1_copyFrom viX1_copyFrom mlRX8_70 ⟨Nat.le_of_ble_eq_true rfl, Nat.le_of_ble_eq_true rfl⟩ (by exact Nat.le_of_ble_eq_true rfl) rfl rfl wG4 (by exact Nat.le_of_ble_eq_true rfl) ?_
      exact w_rD (k := 79) rfl rfl (by rw [eX]; rfl)
    · have hin : i < cK V := by
        have := mt (le_nI kx (by omega) (by omega)).mpr c115
        omega
      refine x_aload_n (k := 63) rfl rfl ?_
      refine w_getK (k := 64) rfl flRX8_25 ?_
      refine x_iload_n (k := 65) rfl rfl ?_
      refine w_atK (k := 66) rfl rfl (by first | assumption | omega) ?_
      refine x_aload_n (k := 67) rfl rfl ?_
      refine x_get (k := 68) rfl flRX8_25 (oG0 hj hV) rfl ?_
      refine x_iload_n (k := 69) rfl rfl ?_
      refine o_atK (k := 70) rfl hj hV rfl (by omega) ?_
      refine w_callV (ci := 2) (k := 71) rfl (by rfl) (c_copyK hj hV (by omega)) okX2_copyFrom viX2_copyFrom mlRX8_67 ⟨Nat.le_of_ble_eq_true rfl, Nat.le_of_ble_eq_true rfl⟩ (by exact Nat.le_of_ble_eq_true rfl) rfl rfl (wGK (by first | assumption | omega)) (by exact Nat.le_of_ble_eq_true rfl) ?_
      refine x_iinc (k := 72) rfl rfl (nI_1 i) (by decide) ?_
      refine x_goto (tgt := 110) (k := 73) rfl (by decide) ?_
      exact ih (i + 1) _ _ (by omega) (by omega) (by rw [eX]; rfl) rfl rfl rfl
theorem l_cp3 {G : xG} {s : xA} {w v : Nat} {W V : Wd} (hj : dj v w) (hV : isW G s v V) (hk : hK V) (ht : hT V) (hs : iOk V) : ∀ (d i : Nat) (X : Wd) (ls : List (Nat × Value)), cT V - i < d → i ≤ cT V → X = cp3 W V i → ls.lookup 0 = some (.ref w) → ls.lookup 1 = some (.ref v) → ls.lookup 2 = some (.int (nI i)) → wE G MX8_copyFrom 79 ls [] s w X (fun r W1 => r = none ∧ W1 = sCopy W V) := by
  intro d
  induction d with
  | zero =>
    intro i X ls hd hi eX g0 g1 g2
    exact absurd hd (Nat.not_lt_zero _)
  | succ d ih =>
    intro i X ls hd hi eX g0 g1 g2
    refine x_sub (ls' := [(0, .ref w), (1, .ref v), (2, .int (nI i))]) (by simp [*]) ?_
    have h16 := ht.1
    have kx : X 3 0 4 = nI (cT V) := by rw [eX, cp3, cpRows_a (by decide), cp2, cpRows_a (by decide), cp1, cpRow_in 6 (by decide)]; exact ht.2
    refine x_iload_n (k := 42) rfl rfl ?_
    refine x_aload_n (k := 43) rfl rfl ?_
    refine w_get (k := 44) rfl flRX8_54 (by decide) ?_
    refine x_icmp_ge (tgt := 108) (k := 45) rfl (by decide) (fun c84 => ?_) (fun c84 => ?_)
    · have e : i = cT V := by
        have := (le_nI kx (by omega) (by omega)).mp c84
        omega
      rw [e] at eX
      refine x_iconst (v := 0) (k := 57) rfl (by decide) ?_
      refine x_istore_n (k := 58) rfl (by decide) ?_
      exact l_cp4 hj hV hk hs (cK V + 1) 0 _ _ (by omega) (by omega) eX rfl rfl rfl
    · have hin : i < cT V := by
        have := mt (le_nI kx (by omega) (by omega)).mpr c84
        omega
      refine x_aload_n (k := 46) rfl rfl ?_
      refine w_getT (k := 47) rfl flRX8_19 ?_
      refine x_iload_n (k := 48) rfl rfl ?_
      refine w_atT (k := 49) rfl rfl (by first | assumption | omega) ?_
      refine x_aload_n (k := 50) rfl rfl ?_
      refine x_get (k := 51) rfl flRX8_19 (oG0 hj hV) rfl ?_
      refine x_iload_n (k := 52) rfl rfl ?_
      refine o_atT (k := 53) rfl hj hV rfl (by omega) ?_
      refine w_callV (ci := 6) (k := 54) rfl (by rfl) (c_copyT hj hV (by omega)) okX6_copyFrom viX6_copyFrom mlRX8_64 ⟨Nat.le_of_ble_eq_true rfl, Nat.le_of_ble_eq_true rfl⟩ (by exact Nat.le_of_ble_eq_true rfl) rfl rfl (wGT (by first | assumption | omega)) (by exact Nat.le_of_ble_eq_true rfl) ?_
      refine x_iinc (k := 55) rfl rfl (nI_1 i) (by decide) ?_
      refine x_goto (tgt := 79) (k := 56) rfl (by decide) ?_
      exact ih (i + 1) _ _ (by omega) (by omega) (by rw [eX]; rfl) rfl rfl rfl
theorem l_cp2 {G : xG} {s : xA} {w v : Nat} {W V : Wd} (hj : dj v w) (hV : isW G s v V) (hk : hK V) (ht : hT V) (hs : iOk V) : ∀ (d i : Nat) (X : Wd) (ls : List (Nat × Value)), 8 - i < d → i ≤ 8 → X = cp2 W V i → ls.lookup 0 = some (.ref w) → ls.lookup 1 = some (.ref v) → ls.lookup 2 = some (.int (nI i)) → wE G MX8_copyFrom 50 ls [] s w X (fun r W1 => r = none ∧ W1 = sCopy W V) := by
  intro d
  induction d with
  | zero =>
    intro i X ls hd hi eX g0 g1 g2
    exact absurd hd (Nat.not_lt_zero _)
  | succ d ih =>
    intro i X ls hd hi eX g0 g1 g2
    refine x_sub (ls' := [(0, .ref w), (1, .ref v), (2, .int (nI i))]) (by simp [*]) ?_
    refine x_iload_n (k := 26) rfl rfl ?_
    refine x_bipush (v := 8) (k := 27) rfl (by decide) ?_
    refine x_icmp_ge (tgt := 77) (k := 28) rfl (by decide) (fun c53 => ?_) (fun c53 => ?_)
    · have e : i = 8 := by
        have := (le_nI nI8 (by omega) (by omega)).mp c53
        omega
      rw [e] at eX
      refine x_iconst (v := 0) (k := 40) rfl (by decide) ?_
      refine x_istore_n (k := 41) rfl (by decide) ?_
      exact l_cp3 hj hV hk ht hs (cT V + 1) 0 _ _ (by omega) (by omega) eX rfl rfl rfl
    · have hin : i < 8 := by
        have := mt (le_nI nI8 (by omega) (by omega)).mpr c53
        omega
      refine x_aload_n (k := 29) rfl rfl ?_
      refine w_getP (k := 30) rfl flRX8_11 ?_
      refine x_iload_n (k := 31) rfl rfl ?_
      refine w_atP (k := 32) rfl rfl (by first | assumption | omega) ?_
      refine x_aload_n (k := 33) rfl rfl ?_
      refine x_get (k := 34) rfl flRX8_11 (oG0 hj hV) rfl ?_
      refine x_iload_n (k := 35) rfl rfl ?_
      refine o_atP (k := 36) rfl hj hV rfl (by omega) ?_
      refine w_callV (ci := 3) (k := 37) rfl (by rfl) (c_copyP hj hV (by omega)) okX3_copyFrom viX3_copyFrom mlRX8_60 ⟨Nat.le_of_ble_eq_true rfl, Nat.le_of_ble_eq_true rfl⟩ (by exact Nat.le_of_ble_eq_true rfl) rfl rfl (wGP (by first | assumption | omega)) (by exact Nat.le_of_ble_eq_true rfl) ?_
      refine x_iinc (k := 38) rfl rfl (nI_1 i) (by decide) ?_
      refine x_goto (tgt := 50) (k := 39) rfl (by decide) ?_
      exact ih (i + 1) _ _ (by omega) (by omega) (by rw [eX]; rfl) rfl rfl rfl
theorem c_copyW {G : xG} {s : xA} {w v : Nat} {W V : Wd} (hj : dj v w) (hV : isW G s v V) (hk : hK V) (ht : hT V) (hs : iOk V) : wV G MX8_copyFrom [.ref w, .ref v] s w W (sCopy W V) := by
  refine x_aload_n (k := 0) rfl rfl ?_
  refine x_aload_n (k := 1) rfl rfl ?_
  refine x_get (k := 2) rfl flRX8_41 (oG0 hj hV) (fW_at (by decide)) ?_
  refine w_put (k := 3) rfl flRX8_41 ft8_0 (by decide) ?_
  refine x_aload_n (k := 4) rfl rfl ?_
  refine x_aload_n (k := 5) rfl rfl ?_
  refine x_get (k := 6) rfl flRX8_45 (oG0 hj hV) (fW_at (by decide)) ?_
  refine w_put (k := 7) rfl flRX8_45 ft8_1 (by decide) ?_
  refine x_aload_n (k := 8) rfl rfl ?_
  refine x_aload_n (k := 9) rfl rfl ?_
  refine x_get (k := 10) rfl flRX8_48 (oG0 hj hV) (fW_at (by decide)) ?_
  refine w_put (k := 11) rfl flRX8_48 ft8_2 (by decide) ?_
  refine x_aload_n (k := 12) rfl rfl ?_
  refine x_aload_n (k := 13) rfl rfl ?_
  refine x_get (k := 14) rfl flRX8_51 (oG0 hj hV) (fW_at (by decide)) ?_
  refine w_put (k := 15) rfl flRX8_51 ft8_3 (by decide) ?_
  refine x_aload_n (k := 16) rfl rfl ?_
  refine x_aload_n (k := 17) rfl rfl ?_
  refine x_get (k := 18) rfl flRX8_54 (oG0 hj hV) (fW_at (by decide)) ?_
  refine w_put (k := 19) rfl flRX8_54 ft8_4 (by decide) ?_
  refine x_aload_n (k := 20) rfl rfl ?_
  refine x_aload_n (k := 21) rfl rfl ?_
  refine x_get (k := 22) rfl flRX8_57 (oG0 hj hV) (fW_at (by decide)) ?_
  refine w_put (k := 23) rfl flRX8_57 ft8_5 (by decide) ?_
  refine x_iconst (v := 0) (k := 24) rfl (by decide) ?_
  refine x_istore_n (k := 25) rfl (by decide) ?_
  exact l_cp2 hj hV hk ht hs 9 0 _ _ (by omega) (by omega) rfl rfl rfl rfl
