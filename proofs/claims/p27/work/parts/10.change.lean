-- ===== contracts: what changes the world =====
theorem wSet_r {W : Wd} {a i k a' i' k' : Nat} {v : Int32} : wSet W a i k v a' i' k' = if a' = a ∧ i' = i ∧ k' = k then v else W a' i' k' := rfl
theorem x_top {G : xG} {M : xM} {pc : Nat} {ls : List (Nat × Value)} {st : List Value} {s : xA} {Q : Option Value → xA → Prop} {x y : Int32} (h : x = y) (kk : xE G M pc ls (.int y :: st) s Q) : xE G M pc ls (.int x :: st) s Q := by rw [h]; exact kk
def iOk (W : Wd) : Prop := ∃ n : Nat, n ≤ 512 ∧ W 4 0 0 = nI n
def sAddT (W : Wd) (p a b i l f : Int32) : Wd := wSet (wSet (wSet (wSet (wSet (wSet (wSet (wSet W 1 (cT W) 0 p) 1 (cT W) 1 a) 1 (cT W) 2 b) 1 (cT W) 3 (W 3 0 0 + i)) 1 (cT W) 4 (W 3 0 0 + i + l)) 1 (cT W) 5 f) 1 (cT W) 6 0) 3 0 4 (W 3 0 4 + 1)
abbrev eCond (V : Wd) (i : Nat) : Prop := V 1 i 6 = 1 ∧ V 1 i 4 = V 3 0 0
def eStep (V : Wd) (i : Nat) : Wd := wSet (wSet (wSet V 1 i 6 2) 0 (ix (V 1 i 0)) 2 (V 1 i 2)) 0 (ix (V 1 i 0)) 3 (-9)
def etTo (W : Wd) : Nat → Wd
  | 0 => W
  | i + 1 => if eCond (etTo W i) i then eStep (etTo W i) i else etTo W i
def ecTo (W : Wd) : Nat → Int32
  | 0 => 0
  | i + 1 => if eCond (etTo W i) i then ecTo W i + 1 else ecTo W i
abbrev gCond (V : Wd) (i : Nat) : Prop := V 1 i 6 = 0 ∧ V 1 i 3 = V 3 0 0
def gStep (V : Wd) (i : Nat) : Wd := if V 0 (ix (V 1 i 0)) 2 = V 1 i 1 then wSet (wSet (wSet V 1 i 6 1) 0 (ix (V 1 i 0)) 2 (-9)) 0 (ix (V 1 i 0)) 3 (nI i) else wSet V 1 i 6 3
def gtTo (W : Wd) : Nat → Wd
  | 0 => W
  | i + 1 => if gCond (gtTo W i) i then gStep (gtTo W i) i else gtTo W i
/-- what a row of hours doesn't touch: the count of trips, whose they are -/
def tKp (W V : Wd) : Prop := V 3 0 4 = W 3 0 4 ∧ ∀ t, V 1 t 0 = W 1 t 0
theorem tKp.rf {W : Wd} : tKp W W := ⟨rfl, fun _ => rfl⟩
theorem tKp.tr {W V U : Wd} (h : tKp W V) (h2 : tKp V U) : tKp W U := ⟨h2.1.trans h.1, fun t => (h2.2 t).trans (h.2 t)⟩
theorem tKp.eT {W V : Wd} (h : tKp W V) : cT V = cT W := by rw [cT, cT, h.1]
theorem tKp.oT {W V : Wd} (h : tKp W V) (hk : hT W) : hT V := by
  refine ⟨by rw [h.eT]; exact hk.1, ?_⟩
  rw [h.1, h.eT]
  exact hk.2
theorem eStep_k {V : Wd} {i : Nat} : tKp V (eStep V i) := ⟨by simp [eStep, wSet], fun t => by simp [eStep, wSet]⟩
theorem gStep_k {V : Wd} {i : Nat} : tKp V (gStep V i) := ⟨by unfold gStep; split <;> simp [wSet], fun t => by unfold gStep; split <;> simp [wSet]⟩
theorem etTo_k (W : Wd) : ∀ i, tKp W (etTo W i)
  | 0 => tKp.rf
  | i + 1 => by
    unfold etTo
    split
    · exact (etTo_k W i).tr eStep_k
    · exact etTo_k W i
theorem gtTo_k (W : Wd) : ∀ i, tKp W (gtTo W i)
  | 0 => tKp.rf
  | i + 1 => by
    unfold gtTo
    split
    · exact (gtTo_k W i).tr gStep_k
    · exact gtTo_k W i
def sHour (W : Wd) : Wd := gtTo (etTo (wSet W 3 0 0 (W 3 0 0 + 1)) (cT W)) (cT W)
def paTo (W : Wd) : Nat → Wd
  | 0 => W
  | j + 1 => sHour (paTo W j)
def pcTo (W : Wd) : Nat → Int32
  | 0 => 0
  | j + 1 => pcTo W j + ecTo (wSet (paTo W j) 3 0 0 (paTo W j 3 0 0 + 1)) (cT W)
theorem hour_k {W : Wd} {v : Int32} : tKp W (wSet W 3 0 0 v) := ⟨by simp [wSet], fun t => by simp [wSet]⟩
theorem sHour_k (W : Wd) : tKp W (sHour W) := (hour_k.tr (etTo_k _ _)).tr (gtTo_k _ _)
theorem paTo_k (W : Wd) : ∀ j, tKp W (paTo W j)
  | 0 => tKp.rf
  | j + 1 => (paTo_k W j).tr (sHour_k _)
def sNote (W : Wd) (hr k h : Int32) : Wd := if 512 ≤ W 4 0 0 then W else wSet (wSet W 5 0 (ix (W 4 0 0)) (hr * 256 + k * 16 + h)) 4 0 0 (W 4 0 0 + 1)
def sSetH (W : Wd) (k : Nat) (h : Int32) : Wd := sNote (wSet (wSet (wSet (wSet W 2 k 6 h) 2 k 7 (W 3 0 0)) 2 k 8 (-9)) 2 k 9 (-9)) (W 3 0 0) (nI k) h
def sAddK (W : Wd) (a b t v c : Int32) : Wd :=
  sSetH (wSet (wSet (wSet (wSet (wSet (wSet (wSet (wSet (wSet W 2 (cK W) 0 a) 2 (cK W) 1 b) 2 (cK W) 2 t) 2 (cK W) 3 v) 2 (cK W) 4 c) 2 (cK W) 5 0) 0 (ix a) 0 (W 0 (ix a) 0 - iCost (ix c))) 3 0 1 (W 3 0 1 + iCost (ix c))) 3 0 5 (W 3 0 5 + 1)) (cK W) a
def sHov (W : Wd) (k : Nat) (h : Int32) : Wd := sSetH (wSet W 3 0 2 (W 3 0 2 + 1)) k h
abbrev ntC (W : Wd) (c x : Int32) (i : Nat) : Prop := (W 1 i 6 = 0 ∧ W 1 i 1 = W 0 (ix c) 2) ∧ W 1 i 0 = c ∧ (x = -9 ∨ W 1 i 3 < W 1 (ix x) 3)
def ntTo (W : Wd) (c : Int32) : Nat → Int32
  | 0 => -9
  | i + 1 => if ntC W c (ntTo W c i) i then nI i else ntTo W c i
theorem ntTo_is {W : Wd} {c : Int32} : ∀ i, ntTo W c i = -9 ∨ ∃ j, j < i ∧ ntTo W c i = nI j
  | 0 => Or.inl rfl
  | i + 1 => by
    unfold ntTo
    split
    · exact Or.inr ⟨i, by omega, rfl⟩
    · rcases ntTo_is (W := W) (c := c) i with h | ⟨j, h1, h2⟩
      · exact Or.inl h
      · exact Or.inr ⟨j, by omega, h2⟩
def sPaid (W : Wd) (a c : Int32) : Int32 := iMin (W 1 (ix (ntTo W c (cT W))) 5) (W 0 (ix a) 0)
def sPay2 (W : Wd) (a c d : Nat) (v : Int32) : Wd := wSet (wSet (wSet (wSet W 0 a 0 (W 0 a 0 - v)) 0 c 0 ((wSet W 0 a 0 (W 0 a 0 - v)) 0 c 0 + v)) 0 d 4 (W 0 d 4 + v)) 3 0 3 (W 3 0 3 + v)
def sPay (W : Wd) (a c : Int32) : Wd := if ntTo W c (cT W) = -9 then W else sPay2 W (ix a) (ix c) (ix c) (sPaid W a c)
def sSet (W : Wd) (k : Nat) (t : Int32) : Wd := if ¬ t = W 2 k 1 then sPay W (W 2 k 0) t else if W 0 (ix t) 2 = W 2 k 2 then wSet W 2 k 5 1 else W
def sHow (W : Wd) (k : Nat) (t : Int32) : Wd := if fit W k then sSet (sHov W k t) k t else W
def sGav (W : Wd) (k : Nat) (t : Int32) : Wd := sHow (wSet W 2 k 8 t) k t
def sTok (W : Wd) (k : Nat) (t : Int32) : Wd := sHow (wSet W 2 k 9 t) k t
def sPut (W : Wd) (p k : Nat) : Wd := sHov W k (10 + W 0 p 2)
def sFet (W : Wd) (p k : Nat) : Wd := sSet (sHov W k (nI p)) k (nI p)
theorem sNote_r {W : Wd} {hr q h : Int32} {a i k : Nat} (h1 : a ≠ 4) (h2 : a ≠ 5) : sNote W hr q h a i k = W a i k := by
  unfold sNote
  split
  · rfl
  · rw [wSet_a h1, wSet_a h2]
theorem sSetH_r {W : Wd} {k0 : Nat} {h : Int32} {a i k : Nat} (h1 : a ≠ 4) (h2 : a ≠ 5) (h3 : a ≠ 2 ∨ i ≠ k0 ∨ k < 6) : sSetH W k0 h a i k = W a i k := by
  unfold sSetH
  rw [sNote_r h1 h2]
  rcases h3 with h3 | h3 | h3
  · rw [wSet_a h3, wSet_a h3, wSet_a h3, wSet_a h3]
  · rw [wSet_i h3, wSet_i h3, wSet_i h3, wSet_i h3]
  · rw [wSet_k (by omega), wSet_k (by omega), wSet_k (by omega), wSet_k (by omega)]
theorem sHov_r {W : Wd} {k0 : Nat} {h : Int32} {a i k : Nat} (h1 : a ≠ 4) (h2 : a ≠ 5) (h3 : a ≠ 2 ∨ i ≠ k0 ∨ k < 6) (h4 : a ≠ 3 ∨ k ≠ 2) : sHov W k0 h a i k = W a i k := by
  unfold sHov
  rw [sSetH_r h1 h2 h3]
  rcases h4 with h4 | h4
  · exact wSet_a h4
  · exact wSet_k h4
theorem sHov_T {W : Wd} {k : Nat} {h : Int32} (hk : hT W) : hT (sHov W k h) := by
  have e : sHov W k h 3 0 4 = W 3 0 4 := sHov_r (by decide) (by decide) (Or.inl (by decide)) (Or.inr (by decide))
  rw [hT, cT, e]
  exact hk
theorem sHov_K {W : Wd} {k : Nat} {h : Int32} (hk : hK W) : hK (sHov W k h) := by
  have e : sHov W k h 3 0 5 = W 3 0 5 := sHov_r (by decide) (by decide) (Or.inl (by decide)) (Or.inr (by decide))
  rw [hK, cK, e]
  exact hk
theorem sPay_K {W : Wd} {a c : Int32} : sPay W a c 3 0 5 = W 3 0 5 := by
  unfold sPay
  split
  · rfl
  · simp [sPay2, wSet]
theorem sSet_K {W : Wd} {k : Nat} {t : Int32} (hk : hK W) : hK (sSet W k t) := by
  have e : sSet W k t 3 0 5 = W 3 0 5 := by
    unfold sSet
    split
    · exact sPay_K
    · split
      · simp [wSet]
      · rfl
  rw [hK, cK, e]
  exact hk
def sLose (W : Wd) (k : Nat) : Wd :=
  let A := wSet W 3 0 1 (W 3 0 1 - sFund W k)
  let B := if 10 ≤ W 2 k 6 then A else wSet A 0 (ix (W 2 k 6)) 1 (W 0 (ix (W 2 k 6)) 1 - sHoP W k)
  let C := if W 2 k 8 = -9 then B else wSet B 0 (ix (W 2 k 8)) 1 (B 0 (ix (W 2 k 8)) 1 - sNaP W k)
  wSet (wSet (wSet (wSet C 0 (ix (W 2 k 0)) 0 (W 0 (ix (W 2 k 0)) 0 + (sFund W k + sHoP W k + sNaP W k))) 2 k 5 2) 2 k 8 (-9)) 2 k 9 (-9)
theorem ge_nI {x : Int32} {n i : Nat} (hx : x = nI n) (h1 : n < 2 ^ 31) (h2 : i < 2 ^ 31) : nI i ≤ x ↔ i ≤ n := by rw [hx, nI_leI h2 h1]

theorem c_addTrip {G : xG} {s : xA} {w : Nat} {W : Wd} (hk : hT W) (h16 : cT W < 16) (p a b i l f : Int32) : wI G MX8_addTrip [.ref w, .int p, .int a, .int b, .int i, .int l, .int f] s w W (W 3 0 4) (sAddT W p a b i l f) := by
  refine x_aload_n (k := 0) rfl rfl ?_
  refine w_getT (k := 1) rfl flRX8_19 ?_
  refine x_aload_n (k := 2) rfl rfl ?_
  refine w_get (k := 3) rfl flRX8_54 (by decide) ?_
  refine w_atT (k := 4) rfl hk.2 h16 ?_
  refine x_astore (k := 5) rfl (by decide) ?_
  refine x_aload (k := 6) rfl rfl ?_
  refine x_iload_n (k := 7) rfl rfl ?_
  refine w_pT (k := 8) rfl flRX8_103 ft6_0 (by first | assumption | omega) (by decide) ?_
  refine x_aload (k := 9) rfl rfl ?_
  refine x_iload_n (k := 10) rfl rfl ?_
  refine w_pT (k := 11) rfl flRX8_114 ft6_1 (by first | assumption | omega) (by decide) ?_
  refine x_aload (k := 12) rfl rfl ?_
  refine x_iload_n (k := 13) rfl rfl ?_
  refine w_pT (k := 14) rfl flRX8_117 ft6_2 (by first | assumption | omega) (by decide) ?_
  refine x_aload (k := 15) rfl rfl ?_
  refine x_aload_n (k := 16) rfl rfl ?_
  refine w_get (k := 17) rfl flRX8_41 (by decide) ?_
  refine x_iload (k := 18) rfl rfl ?_
  refine x_iadd (k := 19) rfl ?_
  refine w_pT (k := 20) rfl flRX8_120 ft6_3 (by first | assumption | omega) (by decide) ?_
  refine x_aload (k := 21) rfl rfl ?_
  refine x_aload_n (k := 22) rfl rfl ?_
  refine w_get (k := 23) rfl flRX8_41 (by decide) ?_
  refine x_iload (k := 24) rfl rfl ?_
  refine x_iadd (k := 25) rfl ?_
  refine x_iload (k := 26) rfl rfl ?_
  refine x_iadd (k := 27) rfl ?_
  refine w_pT (k := 28) rfl flRX8_123 ft6_4 (by first | assumption | omega) (by decide) ?_
  refine x_aload (k := 29) rfl rfl ?_
  refine x_iload (k := 30) rfl rfl ?_
  refine w_pT (k := 31) rfl flRX8_126 ft6_5 (by first | assumption | omega) (by decide) ?_
  refine x_aload (k := 32) rfl rfl ?_
  refine x_iconst (v := 0) (k := 33) rfl (by decide) ?_
  refine w_pT (k := 34) rfl flRX8_129 ft6_6 (by first | assumption | omega) (by decide) ?_
  refine x_aload_n (k := 35) rfl rfl ?_
  refine x_dup (k := 36) rfl rfl ?_
  refine w_get (k := 37) rfl flRX8_54 (by decide) ?_
  refine x_iconst (v := 1) (k := 38) rfl (by decide) ?_
  refine x_iadd (k := 39) rfl ?_
  refine w_put (k := 40) rfl flRX8_54 ft8_4 (by decide) ?_
  refine x_aload_n (k := 41) rfl rfl ?_
  refine w_get (k := 42) rfl flRX8_54 (by decide) ?_
  refine x_iconst (v := 1) (k := 43) rfl (by decide) ?_
  refine x_isub (k := 44) rfl ?_
  exact w_irD (k := 45) rfl rfl rfl (by simp [wSet_r]) (by simp [sAddT, wSet_r])
theorem c_voidTrip {G : xG} {s : xA} {w : Nat} {W : Wd} {t : Nat} (ht : t < 16) : wI G MX8_voidTrip [.ref w, .int (nI t)] s w W (W 1 t 3) (wSet W 1 t 6 3) := by
  refine x_aload_n (k := 0) rfl rfl ?_
  refine w_getT (k := 1) rfl flRX8_19 ?_
  refine x_iload_n (k := 2) rfl rfl ?_
  refine w_atT (k := 3) rfl rfl (by first | assumption | omega) ?_
  refine x_iconst (v := 3) (k := 4) rfl (by decide) ?_
  refine w_pT (k := 5) rfl flRX8_129 ft6_6 (by first | assumption | omega) (by decide) ?_
  refine x_aload_n (k := 6) rfl rfl ?_
  refine w_getT (k := 7) rfl flRX8_19 ?_
  refine x_iload_n (k := 8) rfl rfl ?_
  refine w_atT (k := 9) rfl rfl (by first | assumption | omega) ?_
  refine w_fT (k := 10) rfl flRX8_120 (by first | assumption | omega) (by decide) ?_
  exact w_irD (k := 11) rfl rfl rfl (by simp [wSet_r]) rfl
theorem l_endTrips {G : xG} {s : xA} {w : Nat} {W : Wd} (hk : hT W) (htr : ∀ t, t < cT W → isP (W 1 t 0)) : ∀ (d i : Nat) (v : Int32) (V : Wd) (ls : List (Nat × Value)), cT W - i < d → i ≤ cT W → V = etTo W i → v = ecTo W i → ls.lookup 0 = some (.ref w) → ls.lookup 1 = some (.int v) → ls.lookup 2 = some (.int (nI i)) → wE G MX8_endTrips 4 ls [] s w V (fun r W1 => r = some (.int (ecTo W (cT W))) ∧ W1 = etTo W (cT W)) := by
  intro d
  induction d with
  | zero =>
    intro i v V ls hd hi eV hv g0 g1 g2
    exact absurd hd (Nat.not_lt_zero _)
  | succ d ih =>
    intro i v V ls hd hi eV hv g0 g1 g2
    refine x_sub (ls' := [(0, .ref w), (1, .int v), (2, .int (nI i))]) (by simp [*]) ?_
    have kp : tKp W V := by rw [eV]; exact etTo_k W i
    have kp2 : V 3 0 4 = nI (cT W) := by rw [kp.1]; exact hk.2
    have kp3 := hk.1
    refine x_iload_n (k := 4) rfl rfl ?_
    refine x_aload_n (k := 5) rfl rfl ?_
    refine w_get (k := 6) rfl flRX8_54 (by decide) ?_
    refine x_icmp_ge (tgt := 82) (k := 7) rfl (by decide) (fun c9 => ?_) (fun c9 => ?_)
    · have e : i = cT W := by
        have := (le_nI kp2 (by omega) (by omega)).mp c9
        omega
      rw [e] at eV hv
      refine x_iload_n (k := 43) rfl rfl ?_
      exact w_irD (k := 44) rfl rfl rfl hv eV
    · have hin : i < cT W := by
        have := mt (le_nI kp2 (by omega) (by omega)).mpr c9
        omega
      obtain ⟨p, hp, ep0⟩ := htr i hin
      have ep : V 1 i 0 = nI p := by rw [kp.2 i]; exact ep0
      have ec : ix (V 1 i 0) = p := by rw [ep]; exact clP hp
      have h16 : i < 16 := by omega
      refine x_aload_n (k := 8) rfl rfl ?_
      refine w_getT (k := 9) rfl flRX8_19 ?_
      refine x_iload_n (k := 10) rfl rfl ?_
      refine w_atT (k := 11) rfl rfl (by first | assumption | omega) ?_
      refine x_astore_n (k := 12) rfl (by decide) ?_
      refine x_aload_n (k := 13) rfl rfl ?_
      refine w_fT (k := 14) rfl flRX8_129 (by first | assumption | omega) (by decide) ?_
      refine x_iconst (v := 1) (k := 15) rfl (by decide) ?_
      refine x_icmp_ne (tgt := 76) (k := 16) rfl (by decide) (fun c24 => ?_) (fun c24 => ?_)
      · refine x_iinc (k := 41) rfl rfl (nI_1 i) (by decide) ?_
        refine x_goto (tgt := 4) (k := 42) rfl (by decide) ?_
        exact ih (i + 1) _ _ _ (by omega) (by omega) (by subst eV; first | (rw [etTo, if_pos ⟨c24, c35⟩, eStep, ec, wSet_k (by decide : (2 : Nat) ≠ 6)]; done) | (rw [etTo, if_neg (by simp_all)]; done)) (by subst eV; first | (rw [hv, ecTo, if_pos ⟨c24, c35⟩]; done) | (rw [hv, ecTo, if_neg (by simp_all)]; done)) rfl rfl rfl
      · refine x_aload_n (k := 17) rfl rfl ?_
        refine w_fT (k := 18) rfl flRX8_123 (by first | assumption | omega) (by decide) ?_
        refine x_aload_n (k := 19) rfl rfl ?_
        refine w_get (k := 20) rfl flRX8_41 (by decide) ?_
        refine x_icmp_ne (tgt := 76) (k := 21) rfl (by decide) (fun c35 => ?_) (fun c35 => ?_)
        · refine x_iinc (k := 41) rfl rfl (nI_1 i) (by decide) ?_
          refine x_goto (tgt := 4) (k := 42) rfl (by decide) ?_
          exact ih (i + 1) _ _ _ (by omega) (by omega) (by subst eV; first | (rw [etTo, if_pos ⟨c24, c35⟩, eStep, ec, wSet_k (by decide : (2 : Nat) ≠ 6)]; done) | (rw [etTo, if_neg (by simp_all)]; done)) (by subst eV; first | (rw [hv, ecTo, if_pos ⟨c24, c35⟩]; done) | (rw [hv, ecTo, if_neg (by simp_all)]; done)) rfl rfl rfl
        · refine x_aload_n (k := 22) rfl rfl ?_
          refine x_iconst (v := 2) (k := 23) rfl (by decide) ?_
          refine w_pT (k := 24) rfl flRX8_129 ft6_6 (by first | assumption | omega) (by decide) ?_
          refine x_aload_n (k := 25) rfl rfl ?_
          refine w_getP (k := 26) rfl flRX8_11 ?_
          refine x_aload_n (k := 27) rfl rfl ?_
          refine w_fT (k := 28) rfl flRX8_103 (by first | assumption | omega) (by decide) ?_
          refine w_atP (k := 29) rfl (by simp [wSet, ep]) hp ?_
          refine x_aload_n (k := 30) rfl rfl ?_
          refine w_fT (k := 31) rfl flRX8_117 (by first | assumption | omega) (by decide) ?_
          refine w_pP (k := 32) rfl flRX8_79 ft3_2 (by first | assumption | omega) (by decide) ?_
          refine x_aload_n (k := 33) rfl rfl ?_
          refine w_getP (k := 34) rfl flRX8_11 ?_
          refine x_aload_n (k := 35) rfl rfl ?_
          refine w_fT (k := 36) rfl flRX8_103 (by first | assumption | omega) (by decide) ?_
          refine w_atP (k := 37) rfl (by simp [wSet, ep]) hp ?_
          refine x_bipush (v := -9) (k := 38) rfl (by decide) ?_
          refine w_pP (k := 39) rfl flRX8_82 ft3_3 (by first | assumption | omega) (by decide) ?_
          refine x_iinc (k := 40) rfl rfl (show _ = v + 1 from rfl) (by decide) ?_
          refine x_iinc (k := 41) rfl rfl (nI_1 i) (by decide) ?_
          refine x_goto (tgt := 4) (k := 42) rfl (by decide) ?_
          exact ih (i + 1) _ _ _ (by omega) (by omega) (by subst eV; first | (rw [etTo, if_pos ⟨c24, c35⟩, eStep, ec, wSet_k (by decide : (2 : Nat) ≠ 6)]; done) | (rw [etTo, if_neg (by simp_all)]; done)) (by subst eV; first | (rw [hv, ecTo, if_pos ⟨c24, c35⟩]; done) | (rw [hv, ecTo, if_neg (by simp_all)]; done)) rfl rfl rfl
theorem c_endTrips {G : xG} {s : xA} {w : Nat} {W : Wd} (hk : hT W) (htr : ∀ t, t < cT W → isP (W 1 t 0)) : wI G MX8_endTrips [.ref w] s w W (ecTo W (cT W)) (etTo W (cT W)) := by
  refine x_iconst (v := 0) (k := 0) rfl (by decide) ?_
  refine x_istore_n (k := 1) rfl (by decide) ?_
  refine x_iconst (v := 0) (k := 2) rfl (by decide) ?_
  refine x_istore_n (k := 3) rfl (by decide) ?_
  exact l_endTrips hk htr (cT W + 1) 0 0 W _ (by omega) (by omega) rfl rfl rfl rfl rfl
theorem c_startTrip {G : xG} {s : xA} {w : Nat} {W : Wd} {i p : Nat} (hi : i < 16) (hp : p < 8) (ep : W 1 i 0 = nI p) : wV G MX8_startTrip [.ref w, .int (nI i)] s w W (gStep W i) := by
  refine x_aload_n (k := 0) rfl rfl ?_
  refine w_getT (k := 1) rfl flRX8_19 ?_
  refine x_iload_n (k := 2) rfl rfl ?_
  refine w_atT (k := 3) rfl rfl (by first | assumption | omega) ?_
  refine x_astore_n (k := 4) rfl (by decide) ?_
  refine x_aload_n (k := 5) rfl rfl ?_
  refine w_getP (k := 6) rfl flRX8_11 ?_
  refine x_aload_n (k := 7) rfl rfl ?_
  refine w_fT (k := 8) rfl flRX8_103 (by first | assumption | omega) (by decide) ?_
  refine w_atP (k := 9) rfl ep hp ?_
  refine x_astore_n (k := 10) rfl (by decide) ?_
  refine x_aload_n (k := 11) rfl rfl ?_
  refine w_fP (k := 12) rfl flRX8_79 (by first | assumption | omega) (by decide) ?_
  refine x_aload_n (k := 13) rfl rfl ?_
  refine w_fT (k := 14) rfl flRX8_114 (by first | assumption | omega) (by decide) ?_
  refine x_icmp_ne (tgt := 47) (k := 15) rfl (by decide) (fun c25 => ?_) (fun c25 => ?_)
  · refine x_aload_n (k := 26) rfl rfl ?_
    refine x_iconst (v := 3) (k := 27) rfl (by decide) ?_
    refine w_pT (k := 28) rfl flRX8_129 ft6_6 (by first | assumption | omega) (by decide) ?_
    exact w_rD (k := 29) rfl rfl (by first | (rw [gStep, ep, ix, clP hp, if_pos c25]; done) | (rw [gStep, ep, ix, clP hp, if_neg c25]; done))
  · refine x_aload_n (k := 16) rfl rfl ?_
    refine x_iconst (v := 1) (k := 17) rfl (by decide) ?_
    refine w_pT (k := 18) rfl flRX8_129 ft6_6 (by first | assumption | omega) (by decide) ?_
    refine x_aload_n (k := 19) rfl rfl ?_
    refine x_bipush (v := -9) (k := 20) rfl (by decide) ?_
    refine w_pP (k := 21) rfl flRX8_79 ft3_2 (by first | assumption | omega) (by decide) ?_
    refine x_aload_n (k := 22) rfl rfl ?_
    refine x_iload_n (k := 23) rfl rfl ?_
    refine w_pP (k := 24) rfl flRX8_82 ft3_3 (by first | assumption | omega) (by decide) ?_
    refine x_goto (tgt := 52) (k := 25) rfl (by decide) ?_
    exact w_rD (k := 29) rfl rfl (by first | (rw [gStep, ep, ix, clP hp, if_pos c25]; done) | (rw [gStep, ep, ix, clP hp, if_neg c25]; done))
theorem l_startTrips {G : xG} {s : xA} {w : Nat} {W : Wd} (hk : hT W) (htr : ∀ t, t < cT W → isP (W 1 t 0)) : ∀ (d i : Nat) (V : Wd) (ls : List (Nat × Value)), cT W - i < d → i ≤ cT W → V = gtTo W i → ls.lookup 0 = some (.ref w) → ls.lookup 1 = some (.int (nI i)) → wE G MX8_startTrips 2 ls [] s w V (fun r W1 => r = none ∧ W1 = gtTo W (cT W)) := by
  intro d
  induction d with
  | zero =>
    intro i V ls hd hi eV g0 g1
    exact absurd hd (Nat.not_lt_zero _)
  | succ d ih =>
    intro i V ls hd hi eV g0 g1
    refine x_sub (ls' := [(0, .ref w), (1, .int (nI i))]) (by simp [*]) ?_
    have kp : tKp W V := by rw [eV]; exact gtTo_k W i
    have kp2 : V 3 0 4 = nI (cT W) := by rw [kp.1]; exact hk.2
    have kp3 := hk.1
    refine x_iload_n (k := 2) rfl rfl ?_
    refine x_aload_n (k := 3) rfl rfl ?_
    refine w_get (k := 4) rfl flRX8_54 (by decide) ?_
    refine x_icmp_ge (tgt := 46) (k := 5) rfl (by decide) (fun c7 => ?_) (fun c7 => ?_)
    · have e : i = cT W := by
        have := (le_nI kp2 (by omega) (by omega)).mp c7
        omega
      rw [e] at eV
      exact w_rD (k := 24) rfl rfl eV
    · have hin : i < cT W := by
        have := mt (le_nI kp2 (by omega) (by omega)).mpr c7
        omega
      obtain ⟨p, hp, ep0⟩ := htr i hin
      have ep : V 1 i 0 = nI p := by rw [kp.2 i]; exact ep0
      have ec : ix (V 1 i 0) = p := by rw [ep]; exact clP hp
      have h16 : i < 16 := by omega
      refine x_aload_n (k := 6) rfl rfl ?_
      refine w_getT (k := 7) rfl flRX8_19 ?_
      refine x_iload_n (k := 8) rfl rfl ?_
      refine w_atT (k := 9) rfl rfl (by first | assumption | omega) ?_
      refine x_astore_n (k := 10) rfl (by decide) ?_
      refine x_aload_n (k := 11) rfl rfl ?_
      refine w_fT (k := 12) rfl flRX8_129 (by first | assumption | omega) (by decide) ?_
      refine x_if_ne (tgt := 40) (k := 13) rfl (by decide) (fun c21 => ?_) (fun c21 => ?_)
      · refine x_iinc (k := 22) rfl rfl (nI_1 i) (by decide) ?_
        refine x_goto (tgt := 2) (k := 23) rfl (by decide) ?_
        exact ih (i + 1) _ _ (by omega) (by omega) (by subst eV; first | (rw [gtTo, if_pos ⟨c21, c32⟩]; done) | (rw [gtTo, if_neg (by simp_all)]; done)) rfl rfl
      · refine x_aload_n (k := 14) rfl rfl ?_
        refine w_fT (k := 15) rfl flRX8_120 (by first | assumption | omega) (by decide) ?_
        refine x_aload_n (k := 16) rfl rfl ?_
        refine w_get (k := 17) rfl flRX8_41 (by decide) ?_
        refine x_icmp_ne (tgt := 40) (k := 18) rfl (by decide) (fun c32 => ?_) (fun c32 => ?_)
        · refine x_iinc (k := 22) rfl rfl (nI_1 i) (by decide) ?_
          refine x_goto (tgt := 2) (k := 23) rfl (by decide) ?_
          exact ih (i + 1) _ _ (by omega) (by omega) (by subst eV; first | (rw [gtTo, if_pos ⟨c21, c32⟩]; done) | (rw [gtTo, if_neg (by simp_all)]; done)) rfl rfl
        · refine x_aload_n (k := 19) rfl rfl ?_
          refine x_iload_n (k := 20) rfl rfl ?_
          refine w_callV (ci := 8) (k := 21) rfl (by rfl) (c_startTrip h16 hp ep) okX8_startTrip viX8_startTrip mlRX8_140 ⟨Nat.le_of_ble_eq_true rfl, Nat.le_of_ble_eq_true rfl⟩ (by exact Nat.le_of_ble_eq_true rfl) rfl rfl wG0 (by exact Nat.le_of_ble_eq_true rfl) ?_
          refine x_iinc (k := 22) rfl rfl (nI_1 i) (by decide) ?_
          refine x_goto (tgt := 2) (k := 23) rfl (by decide) ?_
          exact ih (i + 1) _ _ (by omega) (by omega) (by subst eV; first | (rw [gtTo, if_pos ⟨c21, c32⟩]; done) | (rw [gtTo, if_neg (by simp_all)]; done)) rfl rfl
theorem c_startTrips {G : xG} {s : xA} {w : Nat} {W : Wd} (hk : hT W) (htr : ∀ t, t < cT W → isP (W 1 t 0)) : wV G MX8_startTrips [.ref w] s w W (gtTo W (cT W)) := by
  refine x_iconst (v := 0) (k := 0) rfl (by decide) ?_
  refine x_istore_n (k := 1) rfl (by decide) ?_
  exact l_startTrips hk htr (cT W + 1) 0 W _ (by omega) (by omega) rfl rfl rfl
theorem l_passHours {G : xG} {s : xA} {w : Nat} {W : Wd} {n : Nat} (hn : n < 1000) (hk : hT W) (htr : ∀ t, t < cT W → isP (W 1 t 0)) : ∀ (d i : Nat) (v : Int32) (V : Wd) (ls : List (Nat × Value)), n - i < d → i ≤ n → V = paTo W i → v = pcTo W i → ls.lookup 0 = some (.ref w) → ls.lookup 1 = some (.int (nI n)) → ls.lookup 2 = some (.int v) → ls.lookup 3 = some (.int (nI i)) → wE G MX8_passHours 4 ls [] s w V (fun r W1 => r = some (.int (pcTo W n)) ∧ W1 = paTo W n) := by
  intro d
  induction d with
  | zero =>
    intro i v V ls hd hi eV hv g0 g1 g2 g3
    exact absurd hd (Nat.not_lt_zero _)
  | succ d ih =>
    intro i v V ls hd hi eV hv g0 g1 g2 g3
    refine x_sub (ls' := [(0, .ref w), (1, .int (nI n)), (2, .int v), (3, .int (nI i))]) (by simp [*]) ?_
    refine x_iload_n (k := 4) rfl rfl ?_
    refine x_iload_n (k := 5) rfl rfl ?_
    refine x_icmp_ge (tgt := 36) (k := 6) rfl (by decide) (fun c6 => ?_) (fun c6 => ?_)
    · have e : i = n := by
        have := (nI_leI (by omega) (by omega)).mp c6
        omega
      rw [e] at eV hv
      refine x_iload_n (k := 22) rfl rfl ?_
      exact w_irD (k := 23) rfl rfl rfl hv eV
    · have hin : i < n := by
        have := mt (nI_leI (by omega) (by omega)).mpr c6
        omega
      have kp : tKp W (paTo W i) := paTo_k W i
      have kh : tKp W (wSet (paTo W i) 3 0 0 (paTo W i 3 0 0 + 1)) := kp.tr hour_k
      subst eV
      refine x_aload_n (k := 7) rfl rfl ?_
      refine x_dup (k := 8) rfl rfl ?_
      refine w_get (k := 9) rfl flRX8_41 (by decide) ?_
      refine x_iconst (v := 1) (k := 10) rfl (by decide) ?_
      refine x_iadd (k := 11) rfl ?_
      refine w_put (k := 12) rfl flRX8_41 ft8_0 (by decide) ?_
      refine x_iload_n (k := 13) rfl rfl ?_
      refine x_aload_n (k := 14) rfl rfl ?_
      refine w_callI (ci := 8) (k := 15) rfl (by rfl) ((kh.eT ▸ c_endTrips (kh.oT hk) (fun t ht => by rw [kh.2 t]; exact htr t (by rw [← kh.eT]; exact ht)))) okX8_endTrips viX8_endTrips mlRX8_133 ⟨Nat.le_of_ble_eq_true rfl, Nat.le_of_ble_eq_true rfl⟩ (by exact Nat.le_of_ble_eq_true rfl) rfl rfl wG0 (by exact Nat.le_of_ble_eq_true rfl) ?_
      refine x_iadd (k := 16) rfl ?_
      refine x_istore_n (k := 17) rfl (by decide) ?_
      refine x_aload_n (k := 18) rfl rfl ?_
      refine w_callV (ci := 8) (k := 19) rfl (by rfl) ((((kh.tr (etTo_k _ _)).eT) ▸ c_startTrips ((kh.tr (etTo_k _ _)).oT hk) (fun t ht => by rw [(kh.tr (etTo_k _ _)).2 t]; exact htr t (by rw [← (kh.tr (etTo_k _ _)).eT]; exact ht)))) okX8_startTrips viX8_startTrips mlRX8_137 ⟨Nat.le_of_ble_eq_true rfl, Nat.le_of_ble_eq_true rfl⟩ (by exact Nat.le_of_ble_eq_true rfl) rfl rfl wG0 (by exact Nat.le_of_ble_eq_true rfl) ?_
      refine x_iinc (k := 20) rfl rfl (nI_1 i) (by decide) ?_
      refine x_goto (tgt := 4) (k := 21) rfl (by decide) ?_
      exact ih (i + 1) _ _ _ (by omega) (by omega) (by rw [paTo, sHour, (paTo_k W i).eT]) (by rw [hv, pcTo]) rfl rfl rfl rfl
theorem c_passHours {G : xG} {s : xA} {w : Nat} {W : Wd} {n : Nat} (hn : n < 1000) (hk : hT W) (htr : ∀ t, t < cT W → isP (W 1 t 0)) : wI G MX8_passHours [.ref w, .int (nI n)] s w W (pcTo W n) (paTo W n) := by
  refine x_iconst (v := 0) (k := 0) rfl (by decide) ?_
  refine x_istore_n (k := 1) rfl (by decide) ?_
  refine x_iconst (v := 0) (k := 2) rfl (by decide) ?_
  refine x_istore_n (k := 3) rfl (by decide) ?_
  exact l_passHours hn hk htr (n + 1) 0 0 W _ (by omega) (by omega) rfl rfl rfl rfl rfl rfl
theorem c_dropWords {G : xG} {s : xA} {w : Nat} {W : Wd} {k : Nat} (hk : k < 10) : wV G MX2_dropWords [.ref (w + 30 + k)] s w W (wSet (wSet W 2 k 8 (-9)) 2 k 9 (-9)) := by
  refine x_aload_n (k := 0) rfl rfl ?_
  refine x_bipush (v := -9) (k := 1) rfl (by decide) ?_
  refine w_pK (k := 2) rfl flRX2_36 ft2_8 (by first | assumption | omega) (by decide) ?_
  refine x_aload_n (k := 3) rfl rfl ?_
  refine x_bipush (v := -9) (k := 4) rfl (by decide) ?_
  refine w_pK (k := 5) rfl flRX2_39 ft2_9 (by first | assumption | omega) (by decide) ?_
  exact w_rD (k := 6) rfl rfl rfl
theorem c_note {G : xG} {s : xA} {w : Nat} {W : Wd} (hs : iOk W) (a b c : Int32) : wV G MX1_note [.ref (w + 4), .int a, .int b, .int c] s w W (sNote W a b c) := by
  obtain ⟨n, hn, en⟩ := hs
  refine x_aload_n (k := 0) rfl rfl ?_
  refine w_getHs (k := 1) rfl flRX1_15 ?_
  refine x_sipush (v := 512) (k := 2) rfl (by decide) ?_
  refine x_icmp_ge (tgt := 41) (k := 3) rfl (by decide) (fun c7 => ?_) (fun c7 => ?_)
  · exact w_rD (k := 24) rfl rfl (by first | (rw [sNote, if_pos c7]; done) | ((rw [sNote, if_neg c7, show ix (W 4 0 0) = n from by rw [en]; exact nI_clamp (by omega)]) <;> rfl))
  · have h5 : n < 512 := by
      have := mt (ge_nI (i := 512) en (by omega) (by decide)).mpr c7
      omega
    refine x_aload_n (k := 4) rfl rfl ?_
    refine w_getHe (k := 5) rfl flRX1_11 ?_
    refine x_aload_n (k := 6) rfl rfl ?_
    refine w_getHs (k := 7) rfl flRX1_15 ?_
    refine x_iload_n (k := 8) rfl rfl ?_
    refine x_sipush (v := 256) (k := 9) rfl (by decide) ?_
    refine x_imul (k := 10) rfl ?_
    refine x_iload_n (k := 11) rfl rfl ?_
    refine x_bipush (v := 16) (k := 12) rfl (by decide) ?_
    refine x_imul (k := 13) rfl ?_
    refine x_iadd (k := 14) rfl ?_
    refine x_iload_n (k := 15) rfl rfl ?_
    refine x_iadd (k := 16) rfl ?_
    refine w_entPut (k := 17) rfl en h5 ?_
    refine x_aload_n (k := 18) rfl rfl ?_
    refine x_dup (k := 19) rfl rfl ?_
    refine w_getHs (k := 20) rfl flRX1_15 ?_
    refine x_iconst (v := 1) (k := 21) rfl (by decide) ?_
    refine x_iadd (k := 22) rfl ?_
    refine w_putHs (k := 23) rfl flRX1_15 ?_
    exact w_rD (k := 24) rfl rfl (by first | (rw [sNote, if_pos c7]; done) | ((rw [sNote, if_neg c7, show ix (W 4 0 0) = n from by rw [en]; exact nI_clamp (by omega)]) <;> rfl))
theorem c_setHolder {G : xG} {s : xA} {w : Nat} {W : Wd} {k : Nat} (hk : k < 10) (hs : iOk W) (h : Int32) : wV G MX8_setHolder [.ref w, .int (nI k), .int h] s w W (sSetH W k h) := by
  refine x_aload_n (k := 0) rfl rfl ?_
  refine w_getK (k := 1) rfl flRX8_25 ?_
  refine x_iload_n (k := 2) rfl rfl ?_
  refine w_atK (k := 3) rfl rfl (by first | assumption | omega) ?_
  refine x_astore_n (k := 4) rfl (by decide) ?_
  refine x_aload_n (k := 5) rfl rfl ?_
  refine x_iload_n (k := 6) rfl rfl ?_
  refine w_pK (k := 7) rfl flRX8_76 ft2_6 (by first | assumption | omega) (by decide) ?_
  refine x_aload_n (k := 8) rfl rfl ?_
  refine x_aload_n (k := 9) rfl rfl ?_
  refine w_get (k := 10) rfl flRX8_41 (by decide) ?_
  refine w_pK (k := 11) rfl flRX8_172 ft2_7 (by first | assumption | omega) (by decide) ?_
  refine x_aload_n (k := 12) rfl rfl ?_
  refine w_callV (ci := 2) (k := 13) rfl (by rfl) (c_dropWords hk) okX2_dropWords viX2_dropWords mlRX8_175 ⟨Nat.le_of_ble_eq_true rfl, Nat.le_of_ble_eq_true rfl⟩ (by exact Nat.le_of_ble_eq_true rfl) rfl rfl (wGK (by first | assumption | omega)) (by exact Nat.le_of_ble_eq_true rfl) ?_
  refine x_aload_n (k := 14) rfl rfl ?_
  refine w_getH (k := 15) rfl flRX8_32 ?_
  refine x_aload_n (k := 16) rfl rfl ?_
  refine w_get (k := 17) rfl flRX8_41 (by decide) ?_
  refine x_iload_n (k := 18) rfl rfl ?_
  refine x_iload_n (k := 19) rfl rfl ?_
  refine w_callV (ci := 1) (k := 20) rfl (by rfl) (c_note (by obtain ⟨n, h1, h2⟩ := hs; exact ⟨n, h1, h2⟩) _ _ _) okX1_note viX1_note mlRX8_178 ⟨Nat.le_of_ble_eq_true rfl, Nat.le_of_ble_eq_true rfl⟩ (by exact Nat.le_of_ble_eq_true rfl) rfl rfl wG4 (by exact Nat.le_of_ble_eq_true rfl) ?_
  exact w_rD (k := 21) rfl rfl rfl
theorem c_handOver {G : xG} {s : xA} {w : Nat} {W : Wd} {k : Nat} (hk : k < 10) (hs : iOk W) (h : Int32) : wV G MX8_handOver [.ref w, .int (nI k), .int h] s w W (sHov W k h) := by
  refine x_aload_n (k := 0) rfl rfl ?_
  refine x_dup (k := 1) rfl rfl ?_
  refine w_get (k := 2) rfl flRX8_48 (by decide) ?_
  refine x_iconst (v := 1) (k := 3) rfl (by decide) ?_
  refine x_iadd (k := 4) rfl ?_
  refine w_put (k := 5) rfl flRX8_48 ft8_2 (by decide) ?_
  refine x_aload_n (k := 6) rfl rfl ?_
  refine x_iload_n (k := 7) rfl rfl ?_
  refine x_iload_n (k := 8) rfl rfl ?_
  refine w_callV (ci := 8) (k := 9) rfl (by rfl) (c_setHolder hk (by obtain ⟨n, h1, h2⟩ := hs; exact ⟨n, h1, h2⟩) _) okX8_setHolder viX8_setHolder mlRX8_168 ⟨Nat.le_of_ble_eq_true rfl, Nat.le_of_ble_eq_true rfl⟩ (by exact Nat.le_of_ble_eq_true rfl) rfl rfl wG0 (by exact Nat.le_of_ble_eq_true rfl) ?_
  exact w_rD (k := 10) rfl rfl rfl
theorem c_addParcel {G : xG} {s : xA} {w : Nat} {W : Wd} (hk : hK W) (h10 : cK W < 10) (hs : iOk W) {p q : Nat} (hp : p < 8) (hq : q < 4) (b t v : Int32) : wI G MX8_addParcel [.ref w, .int (nI p), .int b, .int t, .int v, .int (nI q)] s w W (W 3 0 5) (sAddK W (nI p) b t v (nI q)) := by
  refine x_aload_n (k := 0) rfl rfl ?_
  refine w_getK (k := 1) rfl flRX8_25 ?_
  refine x_aload_n (k := 2) rfl rfl ?_
  refine w_get (k := 3) rfl flRX8_57 (by decide) ?_
  refine w_atK (k := 4) rfl hk.2 h10 ?_
  refine x_astore (k := 5) rfl (by decide) ?_
  refine x_aload (k := 6) rfl rfl ?_
  refine x_iload_n (k := 7) rfl rfl ?_
  refine w_pK (k := 8) rfl flRX8_153 ft2_0 (by first | assumption | omega) (by decide) ?_
  refine x_aload (k := 9) rfl rfl ?_
  refine x_iload_n (k := 10) rfl rfl ?_
  refine w_pK (k := 11) rfl flRX8_156 ft2_1 (by first | assumption | omega) (by decide) ?_
  refine x_aload (k := 12) rfl rfl ?_
  refine x_iload_n (k := 13) rfl rfl ?_
  refine w_pK (k := 14) rfl flRX8_159 ft2_2 (by first | assumption | omega) (by decide) ?_
  refine x_aload (k := 15) rfl rfl ?_
  refine x_iload (k := 16) rfl rfl ?_
  refine w_pK (k := 17) rfl flRX8_162 ft2_3 (by first | assumption | omega) (by decide) ?_
  refine x_aload (k := 18) rfl rfl ?_
  refine x_iload (k := 19) rfl rfl ?_
  refine w_pK (k := 20) rfl flRX8_165 ft2_4 (by first | assumption | omega) (by decide) ?_
  refine x_aload (k := 21) rfl rfl ?_
  refine x_iconst (v := 0) (k := 22) rfl (by decide) ?_
  refine w_pK (k := 23) rfl flRX8_73 ft2_5 (by first | assumption | omega) (by decide) ?_
  refine x_aload_n (k := 24) rfl rfl ?_
  refine w_getP (k := 25) rfl flRX8_11 ?_
  refine x_iload_n (k := 26) rfl rfl ?_
  refine w_atP (k := 27) rfl rfl (by first | assumption | omega) ?_
  refine x_dup (k := 28) rfl rfl ?_
  refine w_fP (k := 29) rfl flRX8_143 (by first | assumption | omega) (by decide) ?_
  refine x_cost (k := 30) rfl rfl ?_
  refine x_iload (k := 31) rfl rfl ?_
  refine w_cost (k := 32) rfl rfl (by first | assumption | omega) ?_
  refine x_isub (k := 33) rfl ?_
  refine w_pP (k := 34) rfl flRX8_143 ft3_0 (by first | assumption | omega) (by decide) ?_
  refine x_aload_n (k := 35) rfl rfl ?_
  refine x_dup (k := 36) rfl rfl ?_
  refine w_get (k := 37) rfl flRX8_45 (by decide) ?_
  refine x_cost (k := 38) rfl rfl ?_
  refine x_iload (k := 39) rfl rfl ?_
  refine w_cost (k := 40) rfl rfl (by first | assumption | omega) ?_
  refine x_iadd (k := 41) rfl ?_
  refine w_put (k := 42) rfl flRX8_45 ft8_1 (by decide) ?_
  refine x_aload_n (k := 43) rfl rfl ?_
  refine x_dup (k := 44) rfl rfl ?_
  refine w_get (k := 45) rfl flRX8_57 (by decide) ?_
  refine x_iconst (v := 1) (k := 46) rfl (by decide) ?_
  refine x_iadd (k := 47) rfl ?_
  refine w_put (k := 48) rfl flRX8_57 ft8_5 (by decide) ?_
  refine x_aload_n (k := 49) rfl rfl ?_
  refine x_aload_n (k := 50) rfl rfl ?_
  refine w_get (k := 51) rfl flRX8_57 (by decide) ?_
  refine x_iconst (v := 1) (k := 52) rfl (by decide) ?_
  refine x_isub (k := 53) rfl ?_
  refine x_top (y := nI (cK W)) (by simp [wSet_r]; exact hk.2) ?_
  refine x_iload_n (k := 54) rfl rfl ?_
  refine w_callV (ci := 8) (k := 55) rfl (by rfl) (c_setHolder h10 (by obtain ⟨n, h1, h2⟩ := hs; exact ⟨n, h1, h2⟩) _) okX8_setHolder viX8_setHolder mlRX8_168 ⟨Nat.le_of_ble_eq_true rfl, Nat.le_of_ble_eq_true rfl⟩ (by exact Nat.le_of_ble_eq_true rfl) rfl rfl wG0 (by exact Nat.le_of_ble_eq_true rfl) ?_
  refine x_aload_n (k := 56) rfl rfl ?_
  refine w_get (k := 57) rfl flRX8_57 (by decide) ?_
  refine x_iconst (v := 1) (k := 58) rfl (by decide) ?_
  refine x_isub (k := 59) rfl ?_
  exact w_irD (k := 60) rfl rfl rfl (by rw [sSetH_r (by decide) (by decide) (Or.inl (by decide))]; simp [wSet_r]) (by simp [sAddK, wSet_r, clP hp, cl4 hq])
theorem l_nextTripOf {G : xG} {s : xA} {w : Nat} {W : Wd} {p : Nat} (hp : p < 8) (hk : hT W) : ∀ (d i : Nat) (v : Int32) (ls : List (Nat × Value)), cT W - i < d → i ≤ cT W → v = ntTo W (nI p) i → ls.lookup 0 = some (.ref w) → ls.lookup 1 = some (.int (nI p)) → ls.lookup 2 = some (.int v) → ls.lookup 3 = some (.int (nI i)) → wE G MX8_nextTripOf 5 ls [] s w W (fun r W1 => r = some (.int (ntTo W (nI p) (cT W))) ∧ W1 = W) := by
  intro d
  induction d with
  | zero =>
    intro i v ls hd hi hv g0 g1 g2 g3
    exact absurd hd (Nat.not_lt_zero _)
  | succ d ih =>
    intro i v ls hd hi hv g0 g1 g2 g3
    refine x_sub (ls' := [(0, .ref w), (1, .int (nI p)), (2, .int v), (3, .int (nI i))]) (by simp [*]) ?_
    have kp3 := hk.1
    refine x_iload_n (k := 4) rfl rfl ?_
    refine x_aload_n (k := 5) rfl rfl ?_
    refine w_get (k := 6) rfl flRX8_54 (by decide) ?_
    refine x_icmp_ge (tgt := 101) (k := 7) rfl (by decide) (fun c10 => ?_) (fun c10 => ?_)
    · have e : i = cT W := by
        have := (le_nI hk.2 (by omega) (by omega)).mp c10
        omega
      rw [e] at hv
      refine x_iload_n (k := 50) rfl rfl ?_
      exact w_irD (k := 51) rfl rfl rfl hv rfl
    · have hin : i < cT W := by
        have := mt (le_nI hk.2 (by omega) (by omega)).mpr c10
        omega
      have e8 : ix (nI p) = p := clP hp
      refine x_aload_n (k := 8) rfl rfl ?_
      refine w_getT (k := 9) rfl flRX8_19 ?_
      refine x_iload_n (k := 10) rfl rfl ?_
      refine w_atT (k := 11) rfl rfl (by first | assumption | omega) ?_
      refine x_astore (k := 12) rfl (by decide) ?_
      refine x_aload (k := 13) rfl rfl ?_
      refine w_fT (k := 14) rfl flRX8_129 (by first | assumption | omega) (by decide) ?_
      refine x_if_ne (tgt := 50) (k := 15) rfl (by decide) (fun c26 => ?_) (fun c26 => ?_)
      · refine x_iconst (v := 0) (k := 26) rfl (by decide) ?_
        refine x_istore (k := 27) rfl (by decide) ?_
        refine x_aload (k := 28) rfl rfl ?_
        refine w_fT (k := 29) rfl flRX8_103 (by first | assumption | omega) (by decide) ?_
        refine x_iload_n (k := 30) rfl rfl ?_
        refine x_icmp_ne (tgt := 95) (k := 31) rfl (by decide) (fun c59 => ?_) (fun c59 => ?_)
        · refine x_iinc (k := 48) rfl rfl (nI_1 i) (by decide) ?_
          refine x_goto (tgt := 5) (k := 49) rfl (by decide) ?_
          exact ih (i + 1) _ _ (by omega) (by omega) (by rw [ntTo, ← hv]; first | (rw [if_pos ⟨⟨c26, by rw [e8]; exact c43⟩, c59, Or.inl c73⟩]; done) | (rw [if_pos ⟨⟨c26, by rw [e8]; exact c43⟩, c59, Or.inr (by rw [ej, e9]; exact Int32.not_le.mp c90)⟩]; done) | (rw [if_neg (fun q => absurd q.1.1 c26)]; done) | (rw [if_neg (fun q => absurd q.2.1 c59)]; done) | (rw [if_neg (fun q => q.2.2.elim (fun h => c73 h) (fun h => absurd c90 (Int32.not_le.mpr (by rw [ej, e9] at h; exact h))))]; done) | (rw [if_neg (fun q => absurd (e8 ▸ q.1.2) c43)]; done)) rfl rfl rfl rfl
        · refine x_iload (k := 32) rfl rfl ?_
          refine x_if_ne (tgt := 70) (k := 33) rfl (by decide) (fun c64 => absurd c64 (by decide)) (fun c64 => ?_)
          refine x_goto (tgt := 95) (k := 34) rfl (by decide) ?_
          refine x_iinc (k := 48) rfl rfl (nI_1 i) (by decide) ?_
          refine x_goto (tgt := 5) (k := 49) rfl (by decide) ?_
          exact ih (i + 1) _ _ (by omega) (by omega) (by rw [ntTo, ← hv]; first | (rw [if_pos ⟨⟨c26, by rw [e8]; exact c43⟩, c59, Or.inl c73⟩]; done) | (rw [if_pos ⟨⟨c26, by rw [e8]; exact c43⟩, c59, Or.inr (by rw [ej, e9]; exact Int32.not_le.mp c90)⟩]; done) | (rw [if_neg (fun q => absurd q.1.1 c26)]; done) | (rw [if_neg (fun q => absurd q.2.1 c59)]; done) | (rw [if_neg (fun q => q.2.2.elim (fun h => c73 h) (fun h => absurd c90 (Int32.not_le.mpr (by rw [ej, e9] at h; exact h))))]; done) | (rw [if_neg (fun q => absurd (e8 ▸ q.1.2) c43)]; done)) rfl rfl rfl rfl
      · refine x_aload (k := 16) rfl rfl ?_
        refine w_fT (k := 17) rfl flRX8_114 (by first | assumption | omega) (by decide) ?_
        refine x_aload_n (k := 18) rfl rfl ?_
        refine w_getP (k := 19) rfl flRX8_11 ?_
        refine x_iload_n (k := 20) rfl rfl ?_
        refine w_atP (k := 21) rfl rfl (by first | assumption | omega) ?_
        refine w_fP (k := 22) rfl flRX8_79 (by first | assumption | omega) (by decide) ?_
        refine x_icmp_ne (tgt := 50) (k := 23) rfl (by decide) (fun c43 => ?_) (fun c43 => ?_)
        · refine x_iconst (v := 0) (k := 26) rfl (by decide) ?_
          refine x_istore (k := 27) rfl (by decide) ?_
          refine x_aload (k := 28) rfl rfl ?_
          refine w_fT (k := 29) rfl flRX8_103 (by first | assumption | omega) (by decide) ?_
          refine x_iload_n (k := 30) rfl rfl ?_
          refine x_icmp_ne (tgt := 95) (k := 31) rfl (by decide) (fun c59 => ?_) (fun c59 => ?_)
          · refine x_iinc (k := 48) rfl rfl (nI_1 i) (by decide) ?_
            refine x_goto (tgt := 5) (k := 49) rfl (by decide) ?_
            exact ih (i + 1) _ _ (by omega) (by omega) (by rw [ntTo, ← hv]; first | (rw [if_pos ⟨⟨c26, by rw [e8]; exact c43⟩, c59, Or.inl c73⟩]; done) | (rw [if_pos ⟨⟨c26, by rw [e8]; exact c43⟩, c59, Or.inr (by rw [ej, e9]; exact Int32.not_le.mp c90)⟩]; done) | (rw [if_neg (fun q => absurd q.1.1 c26)]; done) | (rw [if_neg (fun q => absurd q.2.1 c59)]; done) | (rw [if_neg (fun q => q.2.2.elim (fun h => c73 h) (fun h => absurd c90 (Int32.not_le.mpr (by rw [ej, e9] at h; exact h))))]; done) | (rw [if_neg (fun q => absurd (e8 ▸ q.1.2) c43)]; done)) rfl rfl rfl rfl
          · refine x_iload (k := 32) rfl rfl ?_
            refine x_if_ne (tgt := 70) (k := 33) rfl (by decide) (fun c64 => absurd c64 (by decide)) (fun c64 => ?_)
            refine x_goto (tgt := 95) (k := 34) rfl (by decide) ?_
            refine x_iinc (k := 48) rfl rfl (nI_1 i) (by decide) ?_
            refine x_goto (tgt := 5) (k := 49) rfl (by decide) ?_
            exact ih (i + 1) _ _ (by omega) (by omega) (by rw [ntTo, ← hv]; first | (rw [if_pos ⟨⟨c26, by rw [e8]; exact c43⟩, c59, Or.inl c73⟩]; done) | (rw [if_pos ⟨⟨c26, by rw [e8]; exact c43⟩, c59, Or.inr (by rw [ej, e9]; exact Int32.not_le.mp c90)⟩]; done) | (rw [if_neg (fun q => absurd q.1.1 c26)]; done) | (rw [if_neg (fun q => absurd q.2.1 c59)]; done) | (rw [if_neg (fun q => q.2.2.elim (fun h => c73 h) (fun h => absurd c90 (Int32.not_le.mpr (by rw [ej, e9] at h; exact h))))]; done) | (rw [if_neg (fun q => absurd (e8 ▸ q.1.2) c43)]; done)) rfl rfl rfl rfl
        · refine x_iconst (v := 1) (k := 24) rfl (by decide) ?_
          refine x_goto (tgt := 51) (k := 25) rfl (by decide) ?_
          refine x_istore (k := 27) rfl (by decide) ?_
          refine x_aload (k := 28) rfl rfl ?_
          refine w_fT (k := 29) rfl flRX8_103 (by first | assumption | omega) (by decide) ?_
          refine x_iload_n (k := 30) rfl rfl ?_
          refine x_icmp_ne (tgt := 95) (k := 31) rfl (by decide) (fun c59 => ?_) (fun c59 => ?_)
          · refine x_iinc (k := 48) rfl rfl (nI_1 i) (by decide) ?_
            refine x_goto (tgt := 5) (k := 49) rfl (by decide) ?_
            exact ih (i + 1) _ _ (by omega) (by omega) (by rw [ntTo, ← hv]; first | (rw [if_pos ⟨⟨c26, by rw [e8]; exact c43⟩, c59, Or.inl c73⟩]; done) | (rw [if_pos ⟨⟨c26, by rw [e8]; exact c43⟩, c59, Or.inr (by rw [ej, e9]; exact Int32.not_le.mp c90)⟩]; done) | (rw [if_neg (fun q => absurd q.1.1 c26)]; done) | (rw [if_neg (fun q => absurd q.2.1 c59)]; done) | (rw [if_neg (fun q => q.2.2.elim (fun h => c73 h) (fun h => absurd c90 (Int32.not_le.mpr (by rw [ej, e9] at h; exact h))))]; done) | (rw [if_neg (fun q => absurd (e8 ▸ q.1.2) c43)]; done)) rfl rfl rfl rfl
          · refine x_iload (k := 32) rfl rfl ?_
            refine x_if_ne (tgt := 70) (k := 33) rfl (by decide) (fun c64 => ?_) (fun c64 => absurd c64 (by decide))
            refine x_iload_n (k := 35) rfl rfl ?_
            refine x_bipush (v := -9) (k := 36) rfl (by decide) ?_
            refine x_icmp_eq (tgt := 93) (k := 37) rfl (by decide) (fun c73 => ?_) (fun c73 => ?_)
            · refine x_iload_n (k := 46) rfl rfl ?_
              refine x_istore_n (k := 47) rfl (by decide) ?_
              refine x_iinc (k := 48) rfl rfl (nI_1 i) (by decide) ?_
              refine x_goto (tgt := 5) (k := 49) rfl (by decide) ?_
              exact ih (i + 1) _ _ (by omega) (by omega) (by rw [ntTo, ← hv]; first | (rw [if_pos ⟨⟨c26, by rw [e8]; exact c43⟩, c59, Or.inl c73⟩]; done) | (rw [if_pos ⟨⟨c26, by rw [e8]; exact c43⟩, c59, Or.inr (by rw [ej, e9]; exact Int32.not_le.mp c90)⟩]; done) | (rw [if_neg (fun q => absurd q.1.1 c26)]; done) | (rw [if_neg (fun q => absurd q.2.1 c59)]; done) | (rw [if_neg (fun q => q.2.2.elim (fun h => c73 h) (fun h => absurd c90 (Int32.not_le.mpr (by rw [ej, e9] at h; exact h))))]; done) | (rw [if_neg (fun q => absurd (e8 ▸ q.1.2) c43)]; done)) rfl rfl rfl rfl
            · obtain ⟨j, hj, ej⟩ : ∃ j, j < i ∧ v = nI j := by
                rcases ntTo_is (W := W) (c := nI p) i with h | h
                · exact absurd (hv.trans h) c73
                · rw [hv]; exact h
              have e9 : ix (nI j) = j := clT (by omega)
              refine x_aload (k := 38) rfl rfl ?_
              refine w_fT (k := 39) rfl flRX8_120 (by first | assumption | omega) (by decide) ?_
              refine x_aload_n (k := 40) rfl rfl ?_
              refine w_getT (k := 41) rfl flRX8_19 ?_
              refine x_iload_n (k := 42) rfl rfl ?_
              refine w_atT (k := 43) rfl ej (by omega) ?_
              refine w_fT (k := 44) rfl flRX8_120 (by first | assumption | omega) (by decide) ?_
              refine x_icmp_ge (tgt := 95) (k := 45) rfl (by decide) (fun c90 => ?_) (fun c90 => ?_)
              · refine x_iinc (k := 48) rfl rfl (nI_1 i) (by decide) ?_
                refine x_goto (tgt := 5) (k := 49) rfl (by decide) ?_
                exact ih (i + 1) _ _ (by omega) (by omega) (by rw [ntTo, ← hv]; first | (rw [if_pos ⟨⟨c26, by rw [e8]; exact c43⟩, c59, Or.inl c73⟩]; done) | (rw [if_pos ⟨⟨c26, by rw [e8]; exact c43⟩, c59, Or.inr (by rw [ej, e9]; exact Int32.not_le.mp c90)⟩]; done) | (rw [if_neg (fun q => absurd q.1.1 c26)]; done) | (rw [if_neg (fun q => absurd q.2.1 c59)]; done) | (rw [if_neg (fun q => q.2.2.elim (fun h => c73 h) (fun h => absurd c90 (Int32.not_le.mpr (by rw [ej, e9] at h; exact h))))]; done) | (rw [if_neg (fun q => absurd (e8 ▸ q.1.2) c43)]; done)) rfl rfl rfl rfl
              · refine x_iload_n (k := 46) rfl rfl ?_
                refine x_istore_n (k := 47) rfl (by decide) ?_
                refine x_iinc (k := 48) rfl rfl (nI_1 i) (by decide) ?_
                refine x_goto (tgt := 5) (k := 49) rfl (by decide) ?_
                exact ih (i + 1) _ _ (by omega) (by omega) (by rw [ntTo, ← hv]; first | (rw [if_pos ⟨⟨c26, by rw [e8]; exact c43⟩, c59, Or.inl c73⟩]; done) | (rw [if_pos ⟨⟨c26, by rw [e8]; exact c43⟩, c59, Or.inr (by rw [ej, e9]; exact Int32.not_le.mp c90)⟩]; done) | (rw [if_neg (fun q => absurd q.1.1 c26)]; done) | (rw [if_neg (fun q => absurd q.2.1 c59)]; done) | (rw [if_neg (fun q => q.2.2.elim (fun h => c73 h) (fun h => absurd c90 (Int32.not_le.mpr (by rw [ej, e9] at h; exact h))))]; done) | (rw [if_neg (fun q => absurd (e8 ▸ q.1.2) c43)]; done)) rfl rfl rfl rfl
theorem c_nextTripOf {G : xG} {s : xA} {w : Nat} {W : Wd} {p : Nat} (hp : p < 8) (hk : hT W) : wI G MX8_nextTripOf [.ref w, .int (nI p)] s w W (ntTo W (nI p) (cT W)) W := by
  refine x_bipush (v := -9) (k := 0) rfl (by decide) ?_
  refine x_istore_n (k := 1) rfl (by decide) ?_
  refine x_iconst (v := 0) (k := 2) rfl (by decide) ?_
  refine x_istore_n (k := 3) rfl (by decide) ?_
  exact l_nextTripOf hp hk (cT W + 1) 0 (-9) _ (by omega) (by omega) rfl rfl rfl rfl rfl
theorem c_payFee {G : xG} {s : xA} {w : Nat} {W : Wd} {a c : Nat} (ha : a < 8) (hc : c < 8) (hk : hT W) : wV G MX8_payFee [.ref w, .int (nI a), .int (nI c)] s w W (sPay W (nI a) (nI c)) := by
  refine x_aload_n (k := 0) rfl rfl ?_
  refine x_iload_n (k := 1) rfl rfl ?_
  refine w_callI (ci := 8) (k := 2) rfl (by rfl) (c_nextTripOf hc hk) okX8_nextTripOf viX8_nextTripOf mlRX8_213 ⟨Nat.le_of_ble_eq_true rfl, Nat.le_of_ble_eq_true rfl⟩ (by exact Nat.le_of_ble_eq_true rfl) rfl rfl wG0 (by exact Nat.le_of_ble_eq_true rfl) ?_
  refine x_istore_n (k := 3) rfl (by decide) ?_
  refine x_iload_n (k := 4) rfl rfl ?_
  refine x_bipush (v := -9) (k := 5) rfl (by decide) ?_
  refine x_icmp_ne (tgt := 13) (k := 6) rfl (by decide) (fun c9 => ?_) (fun c9 => ?_)
  · obtain ⟨j, hj, ej⟩ : ∃ j, j < cT W ∧ ntTo W (nI c) (cT W) = nI j := (ntTo_is _).resolve_left c9
    have e9 : ix (nI j) = j := clT (by have := hk.1; omega)
    have h1 := hk.1
    refine x_aload_n (k := 8) rfl rfl ?_
    refine w_getT (k := 9) rfl flRX8_19 ?_
    refine x_iload_n (k := 10) rfl rfl ?_
    refine w_atT (k := 11) rfl ej (by omega) ?_
    refine w_fT (k := 12) rfl flRX8_126 (by first | assumption | omega) (by decide) ?_
    refine x_aload_n (k := 13) rfl rfl ?_
    refine w_getP (k := 14) rfl flRX8_11 ?_
    refine x_iload_n (k := 15) rfl rfl ?_
    refine w_atP (k := 16) rfl rfl (by first | assumption | omega) ?_
    refine w_fP (k := 17) rfl flRX8_143 (by first | assumption | omega) (by decide) ?_
    refine x_min (k := 18) rfl mlRX8_216 wMin1 wMin2 wMin3 (by exact Nat.le_of_ble_eq_true rfl) (by exact Nat.le_of_ble_eq_true rfl) ?_
    refine x_istore (k := 19) rfl (by decide) ?_
    refine x_aload_n (k := 20) rfl rfl ?_
    refine w_getP (k := 21) rfl flRX8_11 ?_
    refine x_iload_n (k := 22) rfl rfl ?_
    refine w_atP (k := 23) rfl rfl (by first | assumption | omega) ?_
    refine x_dup (k := 24) rfl rfl ?_
    refine w_fP (k := 25) rfl flRX8_143 (by first | assumption | omega) (by decide) ?_
    refine x_iload (k := 26) rfl rfl ?_
    refine x_isub (k := 27) rfl ?_
    refine w_pP (k := 28) rfl flRX8_143 ft3_0 (by first | assumption | omega) (by decide) ?_
    refine x_aload_n (k := 29) rfl rfl ?_
    refine w_getP (k := 30) rfl flRX8_11 ?_
    refine x_iload_n (k := 31) rfl rfl ?_
    refine w_atP (k := 32) rfl rfl (by first | assumption | omega) ?_
    refine x_dup (k := 33) rfl rfl ?_
    refine w_fP (k := 34) rfl flRX8_143 (by first | assumption | omega) (by decide) ?_
    refine x_iload (k := 35) rfl rfl ?_
    refine x_iadd (k := 36) rfl ?_
    refine w_pP (k := 37) rfl flRX8_143 ft3_0 (by first | assumption | omega) (by decide) ?_
    refine x_aload_n (k := 38) rfl rfl ?_
    refine w_getP (k := 39) rfl flRX8_11 ?_
    refine x_iload_n (k := 40) rfl rfl ?_
    refine w_atP (k := 41) rfl rfl (by first | assumption | omega) ?_
    refine x_dup (k := 42) rfl rfl ?_
    refine w_fP (k := 43) rfl flRX8_221 (by first | assumption | omega) (by decide) ?_
    refine x_iload (k := 44) rfl rfl ?_
    refine x_iadd (k := 45) rfl ?_
    refine w_pP (k := 46) rfl flRX8_221 ft3_4 (by first | assumption | omega) (by decide) ?_
    refine x_aload_n (k := 47) rfl rfl ?_
    refine x_dup (k := 48) rfl rfl ?_
    refine w_get (k := 49) rfl flRX8_51 (by decide) ?_
    refine x_iload (k := 50) rfl rfl ?_
    refine x_iadd (k := 51) rfl ?_
    refine w_put (k := 52) rfl flRX8_51 ft8_3 (by decide) ?_
    exact w_rD (k := 53) rfl rfl (by first | (rw [sPay, if_pos c9]; done) | (rw [sPay, if_neg c9, sPaid, ej, e9]; simp [sPay2, clP ha, clP hc, wSet_r, iMin]; done))
  · exact w_rD (k := 7) rfl rfl (by first | (rw [sPay, if_pos c9]; done) | (rw [sPay, if_neg c9, sPaid, ej, e9]; simp [sPay2, clP ha, clP hc, wSet_r, iMin]; done))
theorem c_settleWithTaker {G : xG} {s : xA} {w : Nat} {W : Wd} {k t a : Nat} (hk : k < 10) (ht : t < 8) (ha : a < 8) (ea : W 2 k 0 = nI a) (hT : hT W) : wV G MX8_settleWithTaker [.ref w, .int (nI k), .int (nI t)] s w W (sSet W k (nI t)) := by
  refine x_aload_n (k := 0) rfl rfl ?_
  refine w_getK (k := 1) rfl flRX8_25 ?_
  refine x_iload_n (k := 2) rfl rfl ?_
  refine w_atK (k := 3) rfl rfl (by first | assumption | omega) ?_
  refine x_astore_n (k := 4) rfl (by decide) ?_
  refine x_iload_n (k := 5) rfl rfl ?_
  refine x_aload_n (k := 6) rfl rfl ?_
  refine w_fK (k := 7) rfl flRX8_156 (by first | assumption | omega) (by decide) ?_
  refine x_icmp_eq (tgt := 27) (k := 8) rfl (by decide) (fun c12 => ?_) (fun c12 => ?_)
  · refine x_aload_n (k := 15) rfl rfl ?_
    refine w_getP (k := 16) rfl flRX8_11 ?_
    refine x_iload_n (k := 17) rfl rfl ?_
    refine w_atP (k := 18) rfl rfl (by first | assumption | omega) ?_
    refine w_fP (k := 19) rfl flRX8_79 (by first | assumption | omega) (by decide) ?_
    refine x_aload_n (k := 20) rfl rfl ?_
    refine w_fK (k := 21) rfl flRX8_159 (by first | assumption | omega) (by decide) ?_
    refine x_icmp_ne (tgt := 48) (k := 22) rfl (by decide) (fun c40 => ?_) (fun c40 => ?_)
    · exact w_rD (k := 26) rfl rfl (by first | (rw [sSet, if_pos c12, ea]; done) | (rw [sSet, if_neg (not_not_intro c12), ix, clP ht, if_pos c40]; done) | (rw [sSet, if_neg (not_not_intro c12), ix, clP ht, if_neg c40]; done))
    · refine x_aload_n (k := 23) rfl rfl ?_
      refine x_iconst (v := 1) (k := 24) rfl (by decide) ?_
      refine w_pK (k := 25) rfl flRX8_73 ft2_5 (by first | assumption | omega) (by decide) ?_
      exact w_rD (k := 26) rfl rfl (by first | (rw [sSet, if_pos c12, ea]; done) | (rw [sSet, if_neg (not_not_intro c12), ix, clP ht, if_pos c40]; done) | (rw [sSet, if_neg (not_not_intro c12), ix, clP ht, if_neg c40]; done))
  · refine x_aload_n (k := 9) rfl rfl ?_
    refine x_aload_n (k := 10) rfl rfl ?_
    refine w_fK (k := 11) rfl flRX8_153 (by first | assumption | omega) (by decide) ?_
    refine x_iload_n (k := 12) rfl rfl ?_
    rw [ea]
    refine w_callV (ci := 8) (k := 13) rfl (by rfl) (c_payFee ha ht hT) okX8_payFee viX8_payFee mlRX8_210 ⟨Nat.le_of_ble_eq_true rfl, Nat.le_of_ble_eq_true rfl⟩ (by exact Nat.le_of_ble_eq_true rfl) rfl rfl wG0 (by exact Nat.le_of_ble_eq_true rfl) ?_
    refine x_goto (tgt := 48) (k := 14) rfl (by decide) ?_
    exact w_rD (k := 26) rfl rfl (by first | (rw [sSet, if_pos c12, ea]; done) | (rw [sSet, if_neg (not_not_intro c12), ix, clP ht, if_pos c40]; done) | (rw [sSet, if_neg (not_not_intro c12), ix, clP ht, if_neg c40]; done))
theorem c_handOverIfWordsFit {G : xG} {s : xA} {w : Nat} {W : Wd} {k t a : Nat} (hk : k < 10) (ht : t < 8) (ha : a < 8) (ea : W 2 k 0 = nI a) (hT : hT W) (hs : iOk W) : wI G MX8_handOverIfWordsFit [.ref w, .int (nI k), .int (nI t)] s w W (bz (fit W k)) (sHow W k (nI t)) := by
  refine x_aload_n (k := 0) rfl rfl ?_
  refine w_getK (k := 1) rfl flRX8_25 ?_
  refine x_iload_n (k := 2) rfl rfl ?_
  refine w_atK (k := 3) rfl rfl (by first | assumption | omega) ?_
  refine w_callI (ci := 2) (k := 4) rfl (by rfl) (c_wordsFit hk) okX2_wordsFit viX2_wordsFit mlRX8_201 ⟨Nat.le_of_ble_eq_true rfl, Nat.le_of_ble_eq_true rfl⟩ (by exact Nat.le_of_ble_eq_true rfl) rfl rfl (wGK (by first | assumption | omega)) (by exact Nat.le_of_ble_eq_true rfl) ?_
  refine x_if_ne (tgt := 14) (k := 5) rfl (by decide) (fun c9 => ?_) (fun c9 => ?_)
  · replace c9 := bz_ne0 c9
    refine x_aload_n (k := 8) rfl rfl ?_
    refine x_iload_n (k := 9) rfl rfl ?_
    refine x_iload_n (k := 10) rfl rfl ?_
    refine w_callV (ci := 8) (k := 11) rfl (by rfl) (c_handOver hk hs _) okX8_handOver viX8_handOver mlRX8_204 ⟨Nat.le_of_ble_eq_true rfl, Nat.le_of_ble_eq_true rfl⟩ (by exact Nat.le_of_ble_eq_true rfl) rfl rfl wG0 (by exact Nat.le_of_ble_eq_true rfl) ?_
    refine x_aload_n (k := 12) rfl rfl ?_
    refine x_iload_n (k := 13) rfl rfl ?_
    refine x_iload_n (k := 14) rfl rfl ?_
    refine w_callV (ci := 8) (k := 15) rfl (by rfl) (c_settleWithTaker hk ht ha (by rw [sHov_r (by decide) (by decide) (Or.inr (Or.inr (by decide))) (Or.inl (by decide))]; exact ea) (sHov_T hT)) okX8_settleWithTaker viX8_settleWithTaker mlRX8_207 ⟨Nat.le_of_ble_eq_true rfl, Nat.le_of_ble_eq_true rfl⟩ (by exact Nat.le_of_ble_eq_true rfl) rfl rfl wG0 (by exact Nat.le_of_ble_eq_true rfl) ?_
    refine x_iconst (v := 1) (k := 16) rfl (by decide) ?_
    exact w_irD (k := 17) rfl rfl rfl (by first | (rw [bz_0 c9]; done) | (rw [bz_1 c9]; done)) (by first | (rw [sHow, if_neg c9]; done) | (rw [sHow, if_pos c9]; done))
  · replace c9 := bz_eq0 c9
    refine x_iconst (v := 0) (k := 6) rfl (by decide) ?_
    exact w_irD (k := 7) rfl rfl rfl (by first | (rw [bz_0 c9]; done) | (rw [bz_1 c9]; done)) (by first | (rw [sHow, if_neg c9]; done) | (rw [sHow, if_pos c9]; done))
theorem c_sayGiven {G : xG} {s : xA} {w : Nat} {W : Wd} {k t a : Nat} (hk : k < 10) (ht : t < 8) (ha : a < 8) (ea : W 2 k 0 = nI a) (hT : hT W) (hs : iOk W) : wI G MX8_sayGiven [.ref w, .int (nI k), .int (nI t)] s w W (bz (fit (wSet W 2 k 8 (nI t)) k)) (sGav W k (nI t)) := by
  refine x_aload_n (k := 0) rfl rfl ?_
  refine w_getK (k := 1) rfl flRX8_25 ?_
  refine x_iload_n (k := 2) rfl rfl ?_
  refine w_atK (k := 3) rfl rfl (by first | assumption | omega) ?_
  refine x_iload_n (k := 4) rfl rfl ?_
  refine w_pK (k := 5) rfl flRX8_191 ft2_8 (by first | assumption | omega) (by decide) ?_
  refine x_aload_n (k := 6) rfl rfl ?_
  refine x_iload_n (k := 7) rfl rfl ?_
  refine x_iload_n (k := 8) rfl rfl ?_
  refine w_callI (ci := 8) (k := 9) rfl (by rfl) (c_handOverIfWordsFit hk ht ha (by rw [wSet_k (by decide)]; exact ea) (by exact hT) (by exact hs)) okX8_handOverIfWordsFit viX8_handOverIfWordsFit mlRX8_194 ⟨Nat.le_of_ble_eq_true rfl, Nat.le_of_ble_eq_true rfl⟩ (by exact Nat.le_of_ble_eq_true rfl) rfl rfl wG0 (by exact Nat.le_of_ble_eq_true rfl) ?_
  exact w_irD (k := 10) rfl rfl rfl rfl rfl
theorem c_sayTaken {G : xG} {s : xA} {w : Nat} {W : Wd} {k t a : Nat} (hk : k < 10) (ht : t < 8) (ha : a < 8) (ea : W 2 k 0 = nI a) (hT : hT W) (hs : iOk W) : wI G MX8_sayTaken [.ref w, .int (nI k), .int (nI t)] s w W (bz (fit (wSet W 2 k 9 (nI t)) k)) (sTok W k (nI t)) := by
  refine x_aload_n (k := 0) rfl rfl ?_
  refine w_getK (k := 1) rfl flRX8_25 ?_
  refine x_iload_n (k := 2) rfl rfl ?_
  refine w_atK (k := 3) rfl rfl (by first | assumption | omega) ?_
  refine x_iload_n (k := 4) rfl rfl ?_
  refine w_pK (k := 5) rfl flRX8_198 ft2_9 (by first | assumption | omega) (by decide) ?_
  refine x_aload_n (k := 6) rfl rfl ?_
  refine x_iload_n (k := 7) rfl rfl ?_
  refine x_iload_n (k := 8) rfl rfl ?_
  refine w_callI (ci := 8) (k := 9) rfl (by rfl) (c_handOverIfWordsFit hk ht ha (by rw [wSet_k (by decide)]; exact ea) (by exact hT) (by exact hs)) okX8_handOverIfWordsFit viX8_handOverIfWordsFit mlRX8_194 ⟨Nat.le_of_ble_eq_true rfl, Nat.le_of_ble_eq_true rfl⟩ (by exact Nat.le_of_ble_eq_true rfl) rfl rfl wG0 (by exact Nat.le_of_ble_eq_true rfl) ?_
  exact w_irD (k := 10) rfl rfl rfl rfl rfl
theorem c_putIntoLocker {G : xG} {s : xA} {w : Nat} {W : Wd} {k p : Nat} (hk : k < 10) (hp : p < 8) (hs : iOk W) (hK1 : hK W) : wI G MX8_putIntoLocker [.ref w, .int (nI p), .int (nI k)] s w W (sHeld (sPut W p k) (10 + W 0 p 2)) (sPut W p k) := by
  refine x_bipush (v := 10) (k := 0) rfl (by decide) ?_
  refine x_aload_n (k := 1) rfl rfl ?_
  refine w_getP (k := 2) rfl flRX8_11 ?_
  refine x_iload_n (k := 3) rfl rfl ?_
  refine w_atP (k := 4) rfl rfl (by first | assumption | omega) ?_
  refine w_fP (k := 5) rfl flRX8_79 (by first | assumption | omega) (by decide) ?_
  refine x_iadd (k := 6) rfl ?_
  refine x_istore_n (k := 7) rfl (by decide) ?_
  refine x_aload_n (k := 8) rfl rfl ?_
  refine x_iload_n (k := 9) rfl rfl ?_
  refine x_iload_n (k := 10) rfl rfl ?_
  refine w_callV (ci := 8) (k := 11) rfl (by rfl) (c_handOver hk hs _) okX8_handOver viX8_handOver mlRX8_204 ⟨Nat.le_of_ble_eq_true rfl, Nat.le_of_ble_eq_true rfl⟩ (by exact Nat.le_of_ble_eq_true rfl) rfl rfl wG0 (by exact Nat.le_of_ble_eq_true rfl) ?_
  refine x_aload_n (k := 12) rfl rfl ?_
  refine x_iload_n (k := 13) rfl rfl ?_
  refine w_callI (ci := 8) (k := 14) rfl (by rfl) (c_heldBy _ (sHov_K hK1)) okX8_heldBy viX8_heldBy mlRX8_150 ⟨Nat.le_of_ble_eq_true rfl, Nat.le_of_ble_eq_true rfl⟩ (by exact Nat.le_of_ble_eq_true rfl) rfl rfl wG0 (by exact Nat.le_of_ble_eq_true rfl) ?_
  exact w_irD (k := 15) rfl rfl rfl rfl rfl
theorem c_fetchFromLocker {G : xG} {s : xA} {w : Nat} {W : Wd} {k p a : Nat} (hk : k < 10) (hp : p < 8) (ha : a < 8) (ea : W 2 k 0 = nI a) (hT : hT W) (hs : iOk W) (hK1 : hK W) : wI G MX8_fetchFromLocker [.ref w, .int (nI p), .int (nI k)] s w W (sHeld (sFet W p k) (10 + sFet W p k 0 p 2)) (sFet W p k) := by
  refine x_aload_n (k := 0) rfl rfl ?_
  refine x_iload_n (k := 1) rfl rfl ?_
  refine x_iload_n (k := 2) rfl rfl ?_
  refine w_callV (ci := 8) (k := 3) rfl (by rfl) (c_handOver hk hs _) okX8_handOver viX8_handOver mlRX8_204 ⟨Nat.le_of_ble_eq_true rfl, Nat.le_of_ble_eq_true rfl⟩ (by exact Nat.le_of_ble_eq_true rfl) rfl rfl wG0 (by exact Nat.le_of_ble_eq_true rfl) ?_
  refine x_aload_n (k := 4) rfl rfl ?_
  refine x_iload_n (k := 5) rfl rfl ?_
  refine x_iload_n (k := 6) rfl rfl ?_
  refine w_callV (ci := 8) (k := 7) rfl (by rfl) (c_settleWithTaker hk hp ha (by rw [sHov_r (by decide) (by decide) (Or.inr (Or.inr (by decide))) (Or.inl (by decide))]; exact ea) (sHov_T hT)) okX8_settleWithTaker viX8_settleWithTaker mlRX8_207 ⟨Nat.le_of_ble_eq_true rfl, Nat.le_of_ble_eq_true rfl⟩ (by exact Nat.le_of_ble_eq_true rfl) rfl rfl wG0 (by exact Nat.le_of_ble_eq_true rfl) ?_
  refine x_aload_n (k := 8) rfl rfl ?_
  refine x_bipush (v := 10) (k := 9) rfl (by decide) ?_
  refine x_aload_n (k := 10) rfl rfl ?_
  refine w_getP (k := 11) rfl flRX8_11 ?_
  refine x_iload_n (k := 12) rfl rfl ?_
  refine w_atP (k := 13) rfl rfl (by first | assumption | omega) ?_
  refine w_fP (k := 14) rfl flRX8_79 (by first | assumption | omega) (by decide) ?_
  refine x_iadd (k := 15) rfl ?_
  refine w_callI (ci := 8) (k := 16) rfl (by rfl) (c_heldBy _ (sSet_K (sHov_K hK1))) okX8_heldBy viX8_heldBy mlRX8_150 ⟨Nat.le_of_ble_eq_true rfl, Nat.le_of_ble_eq_true rfl⟩ (by exact Nat.le_of_ble_eq_true rfl) rfl rfl wG0 (by exact Nat.le_of_ble_eq_true rfl) ?_
  exact w_irD (k := 17) rfl rfl rfl rfl rfl
