-- ===== contracts: what is only looked at =====
/-- an answer true or false -/
def bz (p : Prop) [Decidable p] : Int32 := if p then 1 else 0
theorem bz_1 {p : Prop} [Decidable p] (h : p) : bz p = 1 := if_pos h
theorem bz_0 {p : Prop} [Decidable p] (h : ¬ p) : bz p = 0 := if_neg h
theorem bz_nar {p : Prop} [Decidable p] : narrow .boolean (.int (bz p)) = .int (bz p) := by
  unfold bz
  split <;> rfl
theorem bz_eq0 {p : Prop} [Decidable p] (h : bz p = 0) : ¬ p := by
  intro q
  rw [bz_1 q] at h
  exact absurd h (by decide)
theorem bz_ne0 {p : Prop} [Decidable p] (h : ¬ bz p = 0) : p := by
  by_cases q : p
  · exact q
  · exact absurd (bz_0 q) h
abbrev wI (G : xG) (M : xM) (As : List Value) (s : xA) (w : Nat) (W : Wd) (v : Int32) (W' : Wd) : Prop := wMe G M As s w W (fun r W1 => r = some (.int v) ∧ W1 = W')
abbrev wV (G : xG) (M : xM) (As : List Value) (s : xA) (w : Nat) (W W' : Wd) : Prop := wMe G M As s w W (fun r W1 => r = none ∧ W1 = W')
abbrev xI (G : xG) (M : xM) (As : List Value) (v : Int32) : Prop := ∀ s : xA, xMe G M As s (fun r s1 => r = some (.int v) ∧ s1 = s)
section WC
variable {G : xG} {M M' : xM} {pc : Nat} {ls : List (Nat × Value)} {st stk As : List Value} {s : xA} {w : Nat} {W : Wd}
theorem x_sD {Q : Option Value → xA → Prop} {k idx n : Nat} {v : Int32} (hk : (mIn M)[k]? = some (pc, .invokestatic idx, 3)) (hs : stk = As.reverse ++ st) (hb : xI G M' As v) (ho : xOk M' n) (hv : Cond.static (mY M') ∈ gW) (hw : Cond.methodLink (mOwn M) idx (mY M') ∈ gW) (hR : xRm M M') (hlen : (lg_sl As).length ≤ mNL M') (hn : As.length = n) (hst : (st.map fun v => v.category).sum ≤ 8)
    (kk : xE G M (pc + 3) ls (.int v :: st) s Q) : xE G M pc ls stk s Q := x_callS hk ho hv hw hR hlen hn hst hs (hb s) (fun r s1 h => by rw [h.1, h.2]; exact kk)
theorem x_sDN {Q : Option Value → xA → Prop} {k idx n : Nat} {v : Int32} (hk : (mIn M)[k]? = some (pc, .invokestatic idx, 3)) (hs : stk = As.reverse ++ st) (hb : xI G M' As v) (ho : xOk M' n) (hv : Cond.static (mY M') ∈ gW) (hw : (mOwn M, idx, mY M') ∈ nestM) (hR : xRm M M') (hlen : (lg_sl As).length ≤ mNL M') (hn : As.length = n) (hst : (st.map fun v => v.category).sum ≤ 8)
    (kk : xE G M (pc + 3) ls (.int v :: st) s Q) : xE G M pc ls stk s Q := x_callSN hk ho hv hw hR hlen hn hst hs (hb s) (fun r s1 h => by rw [h.1, h.2]; exact kk)
theorem w_callI {Q : Option Value → Wd → Prop} {Ar : List Value} {k idx n a ci : Nat} {fs : List Value} {v : Int32} {W' : Wd} (hk : (mIn M)[k]? = some (pc, .invokevirtual idx, 3)) (hs : stk = Ar.reverse ++ .ref a :: st) (hb : wI G M' (.ref a :: Ar) s w W v W') (ho : xOk M' n) (hv : xVi (mY M')) (hw : Cond.methodLink (mOwn M) idx (mY M') ∈ gW) (hR : xRm M M') (hlen : (lg_sl (.ref a :: Ar)).length ≤ mNL M') (hn : Ar.length = n) (hc : (vwCl[ci]?).map (fun q => q.1) = some (mY M').cls) (hh : (setW G s w W).1 a = some (eO ci fs)) (hst : (st.map fun v => v.category).sum ≤ 8)
    (kk : wE G M (pc + 3) ls (.int v :: st) s w W' Q) : wE G M pc ls stk s w W Q := w_call hk ho hv hw hR hlen hn hc hh hst hs hb (fun r W1 h => by rw [h.1, h.2]; exact kk)
theorem w_callV {Q : Option Value → Wd → Prop} {Ar : List Value} {k idx n a ci : Nat} {fs : List Value} {W' : Wd} (hk : (mIn M)[k]? = some (pc, .invokevirtual idx, 3)) (hs : stk = Ar.reverse ++ .ref a :: st) (hb : wV G M' (.ref a :: Ar) s w W W') (ho : xOk M' n) (hv : xVi (mY M')) (hw : Cond.methodLink (mOwn M) idx (mY M') ∈ gW) (hR : xRm M M') (hlen : (lg_sl (.ref a :: Ar)).length ≤ mNL M') (hn : Ar.length = n) (hc : (vwCl[ci]?).map (fun q => q.1) = some (mY M').cls) (hh : (setW G s w W).1 a = some (eO ci fs)) (hst : (st.map fun v => v.category).sum ≤ 8)
    (kk : wE G M (pc + 3) ls st s w W' Q) : wE G M pc ls stk s w W Q := w_call hk ho hv hw hR hlen hn hc hh hst hs hb (fun r W1 h => by rw [h.1, h.2]; exact kk)
theorem w_irD {k : Nat} {v v' : Int32} {W' : Wd} {ty : FieldType} (hk : (mIn M)[k]? = some (pc, .ireturn, 1)) (hr : mRt M = some ty) (hn : narrow ty (.int v) = .int v) (hv : v = v') (hW : W = W') : wE G M pc ls [.int v] s w W (fun r W1 => r = some (.int v') ∧ W1 = W') := w_iret hk hr hn ⟨by rw [hv], hW⟩
theorem w_rD {k : Nat} {W' : Wd} (hk : (mIn M)[k]? = some (pc, .return_, 1)) (hr : mRt M = none) (hW : W = W') : wE G M pc ls [] s w W (fun r W1 => r = none ∧ W1 = W') := w_ret hk hr ⟨rfl, hW⟩
theorem x_irD {k : Nat} {v v' : Int32} {ty : FieldType} (hk : (mIn M)[k]? = some (pc, .ireturn, 1)) (hr : mRt M = some ty) (hn : narrow ty (.int v) = .int v) (hv : v = v') : xE G M pc ls [.int v] s (fun r s1 => r = some (.int v') ∧ s1 = s) := x_iret hk hr hn ⟨by rw [hv], rfl⟩
end WC
/-- a person's number; a holder's; a town's -/
def isP (h : Int32) : Prop := ∃ p : Nat, p < 8 ∧ h = nI p
def isTn (h : Int32) : Prop := ∃ t : Nat, t < 6 ∧ h = nI t
def isHo (h : Int32) : Prop := isP h ∨ ∃ t : Nat, t < 6 ∧ h = nI (10 + t)
/-- how many trips, how many parcels -/
def cT (W : Wd) : Nat := (W 3 0 4).toNatClampNeg
def cK (W : Wd) : Nat := (W 3 0 5).toNatClampNeg
def hT (W : Wd) : Prop := cT W ≤ 16 ∧ W 3 0 4 = nI (cT W)
def hK (W : Wd) : Prop := cK W ≤ 10 ∧ W 3 0 5 = nI (cK W)
/-- the tests of arguments -/
abbrev wIn (n lo hi : Int32) : Prop := ¬ n < lo ∧ ¬ hi < n
abbrev gP (n : Int32) : Prop := wIn n 0 7
abbrev gTn (n : Int32) : Prop := wIn n 0 5
abbrev tP (W : Wd) (n : Int32) : Prop := ¬ n < 0 ∧ ¬ W 3 0 4 ≤ n
abbrev kP (W : Wd) (n : Int32) : Prop := ¬ n < 0 ∧ ¬ W 3 0 5 ≤ n
abbrev ix (n : Int32) : Nat := n.toNatClampNeg
theorem clP {p : Nat} (h : p < 8) : (nI p).toNatClampNeg = p := nI_clamp (by omega)
theorem clK {p : Nat} (h : p < 10) : (nI p).toNatClampNeg = p := nI_clamp (by omega)
theorem clT {p : Nat} (h : p < 16) : (nI p).toNatClampNeg = p := nI_clamp (by omega)
theorem le_nI {x : Int32} {n i : Nat} (hx : x = nI n) (h1 : n < 2 ^ 31) (h2 : i < 2 ^ 31) : x ≤ nI i ↔ n ≤ i := by rw [hx, nI_leI h1 h2]
theorem wIn_nI {n : Int32} {hi : Nat} (h : hi < 2 ^ 31) (hn : wIn n 0 (nI hi)) : ∃ p : Nat, p < hi + 1 ∧ n = nI p := by
  obtain ⟨j, hj, rfl⟩ := nI_of hn.1
  refine ⟨j, ?_, rfl⟩
  have := mt (nI_ltI h hj).mpr hn.2
  omega
theorem gP_is {n : Int32} (h : gP n) : ∃ p : Nat, p < 8 ∧ n = nI p := wIn_nI (hi := 7) (by decide) h
theorem gTn_is {n : Int32} (h : gTn n) : ∃ p : Nat, p < 6 ∧ n = nI p := wIn_nI (hi := 5) (by decide) h
theorem kP_is {W : Wd} {n : Int32} (hW : hK W) (h : kP W n) : ∃ k : Nat, k < cK W ∧ k < 10 ∧ n = nI k := by
  obtain ⟨j, hj, rfl⟩ := nI_of h.1
  have h2 := hW.1
  have := mt (le_nI hW.2 (by omega) hj).mpr h.2
  exact ⟨j, by omega, by omega, rfl⟩
theorem tP_is {W : Wd} {n : Int32} (hW : hT W) (h : tP W n) : ∃ k : Nat, k < cT W ∧ k < 16 ∧ n = nI k := by
  obtain ⟨j, hj, rfl⟩ := nI_of h.1
  have h2 := hW.1
  have := mt (le_nI hW.2 (by omega) hj).mpr h.2
  exact ⟨j, by omega, by omega, rfl⟩
def hbTo (W : Wd) (h : Int32) : Nat → Int32
  | 0 => 0
  | n + 1 => if W 2 n 5 = 0 ∧ W 2 n 6 = h then hbTo W h n + 1 else hbTo W h n
def sHeld (W : Wd) (h : Int32) : Int32 := hbTo W h (cK W)
def sTown (W : Wd) (h : Int32) : Int32 := if h < 10 then W 0 (ix h) 2 else h - 10
def sOn (W : Wd) (h : Int32) : Int32 := if h < 10 then W 0 (ix h) 3 else -9
abbrev tog (W : Wd) (a b : Int32) : Prop := ¬ sTown W a = -9 ∧ sTown W a = sTown W b
abbrev huw (W : Wd) (k : Nat) (h : Int32) : Prop := W 2 k 5 = 0 ∧ W 2 k 6 = h
abbrev cvd (W : Wd) (k : Nat) : Prop := W 2 k 5 = 0 ∧ ¬ W 2 k 6 = W 2 k 0
abbrev opn (W : Wd) (t : Nat) : Prop := W 1 t 6 = 0 ∨ W 1 t 6 = 1
abbrev ovl (W : Wd) (t : Nat) (lv ar : Int32) : Prop := W 1 t 3 < ar ∧ lv < W 1 t 4
abbrev cau (W : Wd) (t : Nat) (tn hr : Int32) : Prop := W 1 t 6 = 0 ∧ W 1 t 1 = tn ∧ ¬ W 1 t 3 < hr
abbrev fit (W : Wd) (k : Nat) : Prop := ¬ W 2 k 8 = -9 ∧ W 2 k 8 = W 2 k 9
def ovTo (W : Wd) (p lv ar : Int32) : Nat → Bool
  | 0 => false
  | n + 1 => ovTo W p lv ar n || decide (W 1 n 0 = p ∧ opn W n ∧ ovl W n lv ar)
theorem ovTo_mono {W : Wd} {p lv ar : Int32} {i : Nat} (h : ovTo W p lv ar i = true) : ∀ d : Nat, ovTo W p lv ar (i + d) = true
  | 0 => h
  | d + 1 => by
    show (ovTo W p lv ar (i + d) || _) = true
    rw [ovTo_mono h d]
    rfl
theorem ovTo_ex {W : Wd} {p lv ar : Int32} {i n : Nat} (hi : i < n) (h : W 1 i 0 = p ∧ opn W i ∧ ovl W i lv ar) : ovTo W p lv ar n = true := by
  have h1 : ovTo W p lv ar (i + 1) = true := by simp [ovTo, h.1, h.2.1, h.2.2.1, h.2.2.2]
  have h2 := ovTo_mono h1 (n - (i + 1))
  rwa [show i + 1 + (n - (i + 1)) = n by omega] at h2
abbrev sOvl (W : Wd) (p lv ar : Int32) : Prop := ovTo W p lv ar (cT W) = true
def iCost : Nat → Int32 := fun j => match j with | 0 => 0 | 1 => 2 | 2 => 5 | _ => 10
def iCover : Nat → Int32 := fun j => match j with | 0 => 0 | 1 => 50 | 2 => 200 | _ => 999
theorem iCost_v (j : Nat) : cCost j = .int (iCost j) := match j with | 0 => rfl | 1 => rfl | 2 => rfl | _ + 3 => rfl
theorem iCover_v (j : Nat) : cCover j = .int (iCover j) := match j with | 0 => rfl | 1 => rfl | 2 => rfl | _ + 3 => rfl
theorem nI8 : (8 : Int32) = nI 8 := rfl
section WC2
variable {G : xG} {M : xM} {pc : Nat} {ls : List (Nat × Value)} {st : List Value} {s : xA} {Q : Option Value → xA → Prop}
theorem w_cost {k p : Nat} {i : Int32} (hk : (mIn M)[k]? = some (pc, .iaload, 1)) (hi : i = nI p) (hp : p < 4) (kk : xE G M (pc + 1) ls (.int (iCost p) :: st) s Q) : xE G M pc ls (.int i :: .ref (gS1 G) :: st) s Q := x_costAt hk (vp_inN hi hp (by decide)) (by rw [clampN hi hp (by decide), iCost_v]; exact kk)
theorem w_cover {k p : Nat} {i : Int32} (hk : (mIn M)[k]? = some (pc, .iaload, 1)) (hi : i = nI p) (hp : p < 4) (kk : xE G M (pc + 1) ls (.int (iCover p) :: st) s Q) : xE G M pc ls (.int i :: .ref (gS2 G) :: st) s Q := x_coverAt hk (vp_inN hi hp (by decide)) (by rw [clampN hi hp (by decide), iCover_v]; exact kk)
end WC2
def iMin (x y : Int32) : Int32 := if y < x then y else x
def sFund (W : Wd) (k : Nat) : Int32 := iMin (iMin (W 2 k 3) (iCover (ix (W 2 k 4)))) (W 3 0 1)
def sMiss (W : Wd) (k : Nat) : Int32 := W 2 k 3 - sFund W k
def sHoP (W : Wd) (k : Nat) : Int32 := if 10 ≤ W 2 k 6 then 0 else iMin (if W 2 k 8 = -9 then sMiss W k else sMiss W k - sMiss W k / 2) (W 0 (ix (W 2 k 6)) 1)
def sNaP (W : Wd) (k : Nat) : Int32 := if W 2 k 8 = -9 then 0 else iMin (sMiss W k / 2) (W 0 (ix (W 2 k 8)) 1)
def sOfF (W : Wd) (p a b i l f : Int32) : Int32 := if ¬ gP p ∨ ¬ gTn a ∨ ¬ gTn b ∨ a = b then -1 else if ¬ wIn i 1 50 ∨ ¬ wIn l 1 50 ∨ ¬ wIn f 0 99 then -1 else if sOvl W p (W 3 0 0 + i) (W 3 0 0 + i + l) then -2 else if 16 ≤ W 3 0 4 then -3 else 0
def sTbF (W : Wd) (n : Int32) : Int32 := if ¬ tP W n then -1 else if W 1 (ix n) 6 = 0 then 0 else -2
def sPaF (W : Wd) (h : Int32) : Int32 := if ¬ wIn h 1 24 then -1 else if 500 < W 3 0 0 + h then -3 else 0
def sPoF (W : Wd) (s r t v c : Int32) : Int32 := if ¬ gP s ∨ ¬ gP r ∨ s = r ∨ ¬ gTn t then -1 else if ¬ wIn v 1 999 ∨ ¬ wIn c 0 3 then -1 else if W 0 (ix s) 2 = -9 ∨ W 0 (ix s) 0 < iCost (ix c) ∨ ¬ sHeld W s < 3 then -2 else if 10 ≤ W 3 0 5 then -3 else 0
def sHoF (W : Wd) (g n t : Int32) : Int32 := if ¬ gP g ∨ ¬ kP W n ∨ ¬ gP t ∨ g = t then -1 else if huw W (ix n) g ∧ tog W g t ∧ ¬ 3 ≤ sHeld W t then 0 else -2
def sPuF (W : Wd) (p n : Int32) : Int32 := if ¬ gP p ∨ ¬ kP W n then -1 else if ¬ huw W (ix n) p ∨ W 0 (ix p) 2 = -9 then -2 else if 3 ≤ sHeld W (10 + W 0 (ix p) 2) then -3 else 0
def sFeF (W : Wd) (p n : Int32) : Int32 := if ¬ gP p ∨ ¬ kP W n then -1 else if ¬ W 0 (ix p) 2 = -9 ∧ huw W (ix n) (10 + W 0 (ix p) 2) ∧ ¬ 3 ≤ sHeld W p then 0 else -2
def sClF (W : Wd) (n : Int32) : Int32 := if ¬ kP W n then -1 else if cvd W (ix n) ∧ ¬ W 3 0 0 - W 2 (ix n) 7 < 10 then 0 else -2
def tcTo (W : Wd) (z : Int32) : Nat → Int32
  | 0 => 0
  | n + 1 => if W 1 n 6 = z then tcTo W z n + 1 else tcTo W z n
def kcTo (W : Wd) (z : Int32) : Nat → Int32
  | 0 => 0
  | n + 1 => if W 2 n 5 = z then kcTo W z n + 1 else kcTo W z n
def ccTo (W : Wd) : Nat → Int32
  | 0 => 0
  | n + 1 => ccTo W n + (W 0 n 0 + W 0 n 1)

theorem c_isWithin {G : xG} (n lo hi : Int32) : xI G MX9_isWithin [.int n, .int lo, .int hi] (bz (wIn n lo hi)) := by
  intro s
  refine x_iload_n (k := 0) rfl rfl ?_
  refine x_iload_n (k := 1) rfl rfl ?_
  refine x_icmp_lt (tgt := 14) (k := 2) rfl (by decide) (fun c2 => ?_) (fun c2 => ?_)
  · refine x_iconst (v := 0) (k := 8) rfl (by decide) ?_
    exact x_irD (k := 9) rfl rfl rfl (by simp [bz, wIn, *])
  · refine x_iload_n (k := 3) rfl rfl ?_
    refine x_iload_n (k := 4) rfl rfl ?_
    refine x_icmp_gt (tgt := 14) (k := 5) rfl (by decide) (fun c7 => ?_) (fun c7 => ?_)
    · refine x_iconst (v := 0) (k := 8) rfl (by decide) ?_
      exact x_irD (k := 9) rfl rfl rfl (by simp [bz, wIn, *])
    · refine x_iconst (v := 1) (k := 6) rfl (by decide) ?_
      refine x_goto (tgt := 15) (k := 7) rfl (by decide) ?_
      exact x_irD (k := 9) rfl rfl rfl (by simp [bz, wIn, *])
theorem c_isPerson {G : xG} (n : Int32) : xI G MX9_isPerson [.int n] (bz (wIn n 0 7)) := by
  intro s
  refine x_iload_n (k := 0) rfl rfl ?_
  refine x_iconst (v := 0) (k := 1) rfl (by decide) ?_
  refine x_bipush (v := 7) (k := 2) rfl (by decide) ?_
  refine x_sD (k := 3) rfl (by rfl) (c_isWithin _ _ _) okX9_isWithin viX9_isWithin mlRX9_106 ⟨Nat.le_of_ble_eq_true rfl, Nat.le_of_ble_eq_true rfl⟩ (by exact Nat.le_of_ble_eq_true rfl) rfl (by exact Nat.le_of_ble_eq_true rfl) ?_
  exact x_irD (k := 4) rfl rfl bz_nar rfl
theorem c_isTown {G : xG} (n : Int32) : xI G MX9_isTown [.int n] (bz (wIn n 0 5)) := by
  intro s
  refine x_iload_n (k := 0) rfl rfl ?_
  refine x_iconst (v := 0) (k := 1) rfl (by decide) ?_
  refine x_iconst (v := 5) (k := 2) rfl (by decide) ?_
  refine x_sD (k := 3) rfl (by rfl) (c_isWithin _ _ _) okX9_isWithin viX9_isWithin mlRX9_106 ⟨Nat.le_of_ble_eq_true rfl, Nat.le_of_ble_eq_true rfl⟩ (by exact Nat.le_of_ble_eq_true rfl) rfl (by exact Nat.le_of_ble_eq_true rfl) ?_
  exact x_irD (k := 4) rfl rfl bz_nar rfl
theorem c_isTrip {G : xG} {s : xA} {w : Nat} {W : Wd} (n : Int32) : wI G MX8_isTrip [.ref w, .int n] s w W (bz (tP W n)) W := by
  refine x_iload_n (k := 0) rfl rfl ?_
  refine x_if_lt (tgt := 16) (k := 1) rfl (by decide) (fun c1 => ?_) (fun c1 => ?_)
  · refine x_iconst (v := 0) (k := 8) rfl (by decide) ?_
    exact w_irD (k := 9) rfl rfl rfl (by first | (simp [bz, *]; done) | simp_all [bz]) rfl
  · refine x_iload_n (k := 2) rfl rfl ?_
    refine x_aload_n (k := 3) rfl rfl ?_
    refine w_get (k := 4) rfl flRX8_54 (by decide) ?_
    refine x_icmp_ge (tgt := 16) (k := 5) rfl (by decide) (fun c9 => ?_) (fun c9 => ?_)
    · refine x_iconst (v := 0) (k := 8) rfl (by decide) ?_
      exact w_irD (k := 9) rfl rfl rfl (by first | (simp [bz, *]; done) | simp_all [bz]) rfl
    · refine x_iconst (v := 1) (k := 6) rfl (by decide) ?_
      refine x_goto (tgt := 17) (k := 7) rfl (by decide) ?_
      exact w_irD (k := 9) rfl rfl rfl (by first | (simp [bz, *]; done) | simp_all [bz]) rfl
theorem c_isParcel {G : xG} {s : xA} {w : Nat} {W : Wd} (n : Int32) : wI G MX8_isParcel [.ref w, .int n] s w W (bz (kP W n)) W := by
  refine x_iload_n (k := 0) rfl rfl ?_
  refine x_if_lt (tgt := 16) (k := 1) rfl (by decide) (fun c1 => ?_) (fun c1 => ?_)
  · refine x_iconst (v := 0) (k := 8) rfl (by decide) ?_
    exact w_irD (k := 9) rfl rfl rfl (by first | (simp [bz, *]; done) | simp_all [bz]) rfl
  · refine x_iload_n (k := 2) rfl rfl ?_
    refine x_aload_n (k := 3) rfl rfl ?_
    refine w_get (k := 4) rfl flRX8_57 (by decide) ?_
    refine x_icmp_ge (tgt := 16) (k := 5) rfl (by decide) (fun c9 => ?_) (fun c9 => ?_)
    · refine x_iconst (v := 0) (k := 8) rfl (by decide) ?_
      exact w_irD (k := 9) rfl rfl rfl (by first | (simp [bz, *]; done) | simp_all [bz]) rfl
    · refine x_iconst (v := 1) (k := 6) rfl (by decide) ?_
      refine x_goto (tgt := 17) (k := 7) rfl (by decide) ?_
      exact w_irD (k := 9) rfl rfl rfl (by first | (simp [bz, *]; done) | simp_all [bz]) rfl
theorem c_townOf {G : xG} {s : xA} {w : Nat} {W : Wd} {h : Int32} (hh : h < 10 → isP h) : wI G MX8_townOf [.ref w, .int h] s w W (sTown W h) W := by
  refine x_iload_n (k := 0) rfl rfl ?_
  refine x_bipush (v := 10) (k := 1) rfl (by decide) ?_
  refine x_icmp_lt (tgt := 13) (k := 2) rfl (by decide) (fun c3 => ?_) (fun c3 => ?_)
  · obtain ⟨p, hp, rfl⟩ := hh c3
    refine x_aload_n (k := 7) rfl rfl ?_
    refine w_getP (k := 8) rfl flRX8_11 ?_
    refine x_iload_n (k := 9) rfl rfl ?_
    refine w_atP (k := 10) rfl rfl (by first | assumption | omega) ?_
    refine w_fP (k := 11) rfl flRX8_79 (by first | assumption | omega) (by decide) ?_
    exact w_irD (k := 12) rfl rfl rfl (by simp [sTown, clP, *]) rfl
  · refine x_iload_n (k := 3) rfl rfl ?_
    refine x_bipush (v := 10) (k := 4) rfl (by decide) ?_
    refine x_isub (k := 5) rfl ?_
    refine x_goto (tgt := 22) (k := 6) rfl (by decide) ?_
    exact w_irD (k := 12) rfl rfl rfl (by simp [sTown, clP, *]) rfl
theorem l_heldBy {G : xG} {s : xA} {w : Nat} {W : Wd} {h : Int32} (hk1 : cK W ≤ 10) (hk2 : W 3 0 5 = nI (cK W)) : ∀ (d i : Nat) (v : Int32), cK W - i < d → i ≤ cK W → v = hbTo W h i → wE G MX8_heldBy 4 [(0, .ref w), (1, .int h), (2, .int v), (3, .int (nI i))] [] s w W (fun r W1 => r = some (.int (hbTo W h (cK W))) ∧ W1 = W) := by
  intro d
  induction d with
  | zero =>
    intro i v hd hi hv
    exact absurd hd (Nat.not_lt_zero _)
  | succ d ih =>
    intro i v hd hi hv
    refine x_iload_n (k := 4) rfl rfl ?_
    refine x_aload_n (k := 5) rfl rfl ?_
    refine w_get (k := 6) rfl flRX8_57 (by decide) ?_
    refine x_icmp_ge (tgt := 46) (k := 7) rfl (by decide) (fun c9 => ?_) (fun c9 => ?_)
    · have e : i = cK W := by
        have := (le_nI hk2 (by omega) (by omega)).mp c9
        omega
      rw [e] at hv
      refine x_iload_n (k := 24) rfl rfl ?_
      exact w_irD (k := 25) rfl rfl rfl hv rfl
    · have hin : i < cK W := by
        have := mt (le_nI hk2 (by omega) (by omega)).mpr c9
        omega
      refine x_aload_n (k := 8) rfl rfl ?_
      refine w_getK (k := 9) rfl flRX8_25 ?_
      refine x_iload_n (k := 10) rfl rfl ?_
      refine w_atK (k := 11) rfl rfl (by first | assumption | omega) ?_
      refine w_fK (k := 12) rfl flRX8_73 (by first | assumption | omega) (by decide) ?_
      refine x_if_ne (tgt := 40) (k := 13) rfl (by decide) (fun c21 => ?_) (fun c21 => ?_)
      · refine x_iinc (k := 22) rfl rfl (nI_1 i) (by decide) ?_
        refine x_goto (tgt := 4) (k := 23) rfl (by decide) ?_
        exact ih (i + 1) _ (by omega) (by omega) (by simp [hbTo, *])
      · refine x_aload_n (k := 14) rfl rfl ?_
        refine w_getK (k := 15) rfl flRX8_25 ?_
        refine x_iload_n (k := 16) rfl rfl ?_
        refine w_atK (k := 17) rfl rfl (by first | assumption | omega) ?_
        refine w_fK (k := 18) rfl flRX8_76 (by first | assumption | omega) (by decide) ?_
        refine x_iload_n (k := 19) rfl rfl ?_
        refine x_icmp_ne (tgt := 40) (k := 20) rfl (by decide) (fun c34 => ?_) (fun c34 => ?_)
        · refine x_iinc (k := 22) rfl rfl (nI_1 i) (by decide) ?_
          refine x_goto (tgt := 4) (k := 23) rfl (by decide) ?_
          exact ih (i + 1) _ (by omega) (by omega) (by simp [hbTo, *])
        · refine x_iinc (k := 21) rfl rfl rfl (by decide) ?_
          refine x_iinc (k := 22) rfl rfl (nI_1 i) (by decide) ?_
          refine x_goto (tgt := 4) (k := 23) rfl (by decide) ?_
          exact ih (i + 1) _ (by omega) (by omega) (by simp [hbTo, *])
theorem c_heldBy {G : xG} {s : xA} {w : Nat} {W : Wd} (h : Int32) (hk : hK W) : wI G MX8_heldBy [.ref w, .int h] s w W (sHeld W h) W := by
  refine x_iconst (v := 0) (k := 0) rfl (by decide) ?_
  refine x_istore_n (k := 1) rfl (by decide) ?_
  refine x_iconst (v := 0) (k := 2) rfl (by decide) ?_
  refine x_istore_n (k := 3) rfl (by decide) ?_
  exact l_heldBy hk.1 hk.2 (cK W + 1) 0 0 (by omega) (by omega) rfl
theorem l_tripsThatAre {G : xG} {s : xA} {w : Nat} {W : Wd} {z : Int32} (hk1 : cT W ≤ 16) (hk2 : W 3 0 4 = nI (cT W)) : ∀ (d i : Nat) (v : Int32), cT W - i < d → i ≤ cT W → v = tcTo W z i → wE G MX8_tripsThatAre 4 [(0, .ref w), (1, .int z), (2, .int v), (3, .int (nI i))] [] s w W (fun r W1 => r = some (.int (tcTo W z (cT W))) ∧ W1 = W) := by
  intro d
  induction d with
  | zero =>
    intro i v hd hi hv
    exact absurd hd (Nat.not_lt_zero _)
  | succ d ih =>
    intro i v hd hi hv
    refine x_iload_n (k := 4) rfl rfl ?_
    refine x_aload_n (k := 5) rfl rfl ?_
    refine w_get (k := 6) rfl flRX8_54 (by decide) ?_
    refine x_icmp_ge (tgt := 34) (k := 7) rfl (by decide) (fun c9 => ?_) (fun c9 => ?_)
    · have e : i = cT W := by
        have := (le_nI hk2 (by omega) (by omega)).mp c9
        omega
      rw [e] at hv
      refine x_iload_n (k := 18) rfl rfl ?_
      exact w_irD (k := 19) rfl rfl rfl hv rfl
    · have hin : i < cT W := by
        have := mt (le_nI hk2 (by omega) (by omega)).mpr c9
        omega
      refine x_aload_n (k := 8) rfl rfl ?_
      refine w_getT (k := 9) rfl flRX8_19 ?_
      refine x_iload_n (k := 10) rfl rfl ?_
      refine w_atT (k := 11) rfl rfl (by first | assumption | omega) ?_
      refine w_fT (k := 12) rfl flRX8_129 (by first | assumption | omega) (by decide) ?_
      refine x_iload_n (k := 13) rfl rfl ?_
      refine x_icmp_ne (tgt := 28) (k := 14) rfl (by decide) (fun c22 => ?_) (fun c22 => ?_)
      · refine x_iinc (k := 16) rfl rfl (nI_1 i) (by decide) ?_
        refine x_goto (tgt := 4) (k := 17) rfl (by decide) ?_
        exact ih (i + 1) _ (by omega) (by omega) (by simp [tcTo, *])
      · refine x_iinc (k := 15) rfl rfl rfl (by decide) ?_
        refine x_iinc (k := 16) rfl rfl (nI_1 i) (by decide) ?_
        refine x_goto (tgt := 4) (k := 17) rfl (by decide) ?_
        exact ih (i + 1) _ (by omega) (by omega) (by simp [tcTo, *])
theorem c_tripsThatAre {G : xG} {s : xA} {w : Nat} {W : Wd} (z : Int32) (hk : hT W) : wI G MX8_tripsThatAre [.ref w, .int z] s w W (tcTo W z (cT W)) W := by
  refine x_iconst (v := 0) (k := 0) rfl (by decide) ?_
  refine x_istore_n (k := 1) rfl (by decide) ?_
  refine x_iconst (v := 0) (k := 2) rfl (by decide) ?_
  refine x_istore_n (k := 3) rfl (by decide) ?_
  exact l_tripsThatAre hk.1 hk.2 (cT W + 1) 0 0 (by omega) (by omega) rfl
theorem l_parcelsThatAre {G : xG} {s : xA} {w : Nat} {W : Wd} {z : Int32} (hk1 : cK W ≤ 10) (hk2 : W 3 0 5 = nI (cK W)) : ∀ (d i : Nat) (v : Int32), cK W - i < d → i ≤ cK W → v = kcTo W z i → wE G MX8_parcelsThatAre 4 [(0, .ref w), (1, .int z), (2, .int v), (3, .int (nI i))] [] s w W (fun r W1 => r = some (.int (kcTo W z (cK W))) ∧ W1 = W) := by
  intro d
  induction d with
  | zero =>
    intro i v hd hi hv
    exact absurd hd (Nat.not_lt_zero _)
  | succ d ih =>
    intro i v hd hi hv
    refine x_iload_n (k := 4) rfl rfl ?_
    refine x_aload_n (k := 5) rfl rfl ?_
    refine w_get (k := 6) rfl flRX8_57 (by decide) ?_
    refine x_icmp_ge (tgt := 34) (k := 7) rfl (by decide) (fun c9 => ?_) (fun c9 => ?_)
    · have e : i = cK W := by
        have := (le_nI hk2 (by omega) (by omega)).mp c9
        omega
      rw [e] at hv
      refine x_iload_n (k := 18) rfl rfl ?_
      exact w_irD (k := 19) rfl rfl rfl hv rfl
    · have hin : i < cK W := by
        have := mt (le_nI hk2 (by omega) (by omega)).mpr c9
        omega
      refine x_aload_n (k := 8) rfl rfl ?_
      refine w_getK (k := 9) rfl flRX8_25 ?_
      refine x_iload_n (k := 10) rfl rfl ?_
      refine w_atK (k := 11) rfl rfl (by first | assumption | omega) ?_
      refine w_fK (k := 12) rfl flRX8_73 (by first | assumption | omega) (by decide) ?_
      refine x_iload_n (k := 13) rfl rfl ?_
      refine x_icmp_ne (tgt := 28) (k := 14) rfl (by decide) (fun c22 => ?_) (fun c22 => ?_)
      · refine x_iinc (k := 16) rfl rfl (nI_1 i) (by decide) ?_
        refine x_goto (tgt := 4) (k := 17) rfl (by decide) ?_
        exact ih (i + 1) _ (by omega) (by omega) (by simp [kcTo, *])
      · refine x_iinc (k := 15) rfl rfl rfl (by decide) ?_
        refine x_iinc (k := 16) rfl rfl (nI_1 i) (by decide) ?_
        refine x_goto (tgt := 4) (k := 17) rfl (by decide) ?_
        exact ih (i + 1) _ (by omega) (by omega) (by simp [kcTo, *])
theorem c_parcelsThatAre {G : xG} {s : xA} {w : Nat} {W : Wd} (z : Int32) (hk : hK W) : wI G MX8_parcelsThatAre [.ref w, .int z] s w W (kcTo W z (cK W)) W := by
  refine x_iconst (v := 0) (k := 0) rfl (by decide) ?_
  refine x_istore_n (k := 1) rfl (by decide) ?_
  refine x_iconst (v := 0) (k := 2) rfl (by decide) ?_
  refine x_istore_n (k := 3) rfl (by decide) ?_
  exact l_parcelsThatAre hk.1 hk.2 (cK W + 1) 0 0 (by omega) (by omega) rfl
theorem l_coinsOfAll {G : xG} {s : xA} {w : Nat} {W : Wd} : ∀ (d i : Nat) (v : Int32), 8 - i < d → i ≤ 8 → v = ccTo W i → wE G MX8_coinsOfAll 4 [(0, .ref w), (1, .int v), (2, .int (nI i))] [] s w W (fun r W1 => r = some (.int (ccTo W (8))) ∧ W1 = W) := by
  intro d
  induction d with
  | zero =>
    intro i v hd hi hv
    exact absurd hd (Nat.not_lt_zero _)
  | succ d ih =>
    intro i v hd hi hv
    refine x_iload_n (k := 4) rfl rfl ?_
    refine x_bipush (v := 8) (k := 5) rfl (by decide) ?_
    refine x_icmp_ge (tgt := 38) (k := 6) rfl (by decide) (fun c7 => ?_) (fun c7 => ?_)
    · have e : i = 8 := by
        have := (le_nI nI8 (by omega) (by omega)).mp c7
        omega
      rw [e] at hv
      refine x_iload_n (k := 23) rfl rfl ?_
      exact w_irD (k := 24) rfl rfl rfl hv rfl
    · have hin : i < 8 := by
        have := mt (le_nI nI8 (by omega) (by omega)).mpr c7
        omega
      refine x_iload_n (k := 7) rfl rfl ?_
      refine x_aload_n (k := 8) rfl rfl ?_
      refine w_getP (k := 9) rfl flRX8_11 ?_
      refine x_iload_n (k := 10) rfl rfl ?_
      refine w_atP (k := 11) rfl rfl (by first | assumption | omega) ?_
      refine w_fP (k := 12) rfl flRX8_143 (by first | assumption | omega) (by decide) ?_
      refine x_aload_n (k := 13) rfl rfl ?_
      refine w_getP (k := 14) rfl flRX8_11 ?_
      refine x_iload_n (k := 15) rfl rfl ?_
      refine w_atP (k := 16) rfl rfl (by first | assumption | omega) ?_
      refine w_fP (k := 17) rfl flRX8_236 (by first | assumption | omega) (by decide) ?_
      refine x_iadd (k := 18) rfl ?_
      refine x_iadd (k := 19) rfl ?_
      refine x_istore_n (k := 20) rfl (by decide) ?_
      refine x_iinc (k := 21) rfl rfl (nI_1 i) (by decide) ?_
      refine x_goto (tgt := 4) (k := 22) rfl (by decide) ?_
      exact ih (i + 1) _ (by omega) (by omega) (by simp [ccTo, *])
theorem c_coinsOfAll {G : xG} {s : xA} {w : Nat} {W : Wd} : wI G MX8_coinsOfAll [.ref w] s w W (ccTo W 8) W := by
  refine x_iconst (v := 0) (k := 0) rfl (by decide) ?_
  refine x_istore_n (k := 1) rfl (by decide) ?_
  refine x_iconst (v := 0) (k := 2) rfl (by decide) ?_
  refine x_istore_n (k := 3) rfl (by decide) ?_
  exact l_coinsOfAll 9 0 0 (by omega) (by omega) rfl
theorem c_areTogether {G : xG} {s : xA} {w : Nat} {W : Wd} {a b : Int32} (ha : isP a) (hb : isP b) : wI G MX8_areTogether [.ref w, .int a, .int b] s w W (bz (tog W a b)) W := by
  refine x_aload_n (k := 0) rfl rfl ?_
  refine x_iload_n (k := 1) rfl rfl ?_
  refine w_callI (ci := 8) (k := 2) rfl (by rfl) (c_townOf (fun _ => ha)) okX8_townOf viX8_townOf mlRX8_85 ⟨Nat.le_of_ble_eq_true rfl, Nat.le_of_ble_eq_true rfl⟩ (by exact Nat.le_of_ble_eq_true rfl) rfl rfl wG0 (by exact Nat.le_of_ble_eq_true rfl) ?_
  refine x_bipush (v := -9) (k := 3) rfl (by decide) ?_
  refine x_icmp_eq (tgt := 27) (k := 4) rfl (by decide) (fun c7 => ?_) (fun c7 => ?_)
  · refine x_iconst (v := 0) (k := 14) rfl (by decide) ?_
    exact w_irD (k := 15) rfl rfl rfl (by first | (simp [bz, *]; done) | simp_all [bz]) rfl
  · refine x_aload_n (k := 5) rfl rfl ?_
    refine x_iload_n (k := 6) rfl rfl ?_
    refine w_callI (ci := 8) (k := 7) rfl (by rfl) (c_townOf (fun _ => ha)) okX8_townOf viX8_townOf mlRX8_85 ⟨Nat.le_of_ble_eq_true rfl, Nat.le_of_ble_eq_true rfl⟩ (by exact Nat.le_of_ble_eq_true rfl) rfl rfl wG0 (by exact Nat.le_of_ble_eq_true rfl) ?_
    refine x_aload_n (k := 8) rfl rfl ?_
    refine x_iload_n (k := 9) rfl rfl ?_
    refine w_callI (ci := 8) (k := 10) rfl (by rfl) (c_townOf (fun _ => hb)) okX8_townOf viX8_townOf mlRX8_85 ⟨Nat.le_of_ble_eq_true rfl, Nat.le_of_ble_eq_true rfl⟩ (by exact Nat.le_of_ble_eq_true rfl) rfl rfl wG0 (by exact Nat.le_of_ble_eq_true rfl) ?_
    refine x_icmp_ne (tgt := 27) (k := 11) rfl (by decide) (fun c20 => ?_) (fun c20 => ?_)
    · refine x_iconst (v := 0) (k := 14) rfl (by decide) ?_
      exact w_irD (k := 15) rfl rfl rfl (by first | (simp [bz, *]; done) | simp_all [bz]) rfl
    · refine x_iconst (v := 1) (k := 12) rfl (by decide) ?_
      refine x_goto (tgt := 28) (k := 13) rfl (by decide) ?_
      exact w_irD (k := 15) rfl rfl rfl (by first | (simp [bz, *]; done) | simp_all [bz]) rfl
theorem c_isHeldUnderWay {G : xG} {s : xA} {w : Nat} {W : Wd} {k : Nat} (hk : k < 10) (h : Int32) : wI G MX8_isHeldUnderWay [.ref w, .int (nI k), .int h] s w W (bz (huw W k h)) W := by
  refine x_aload_n (k := 0) rfl rfl ?_
  refine w_getK (k := 1) rfl flRX8_25 ?_
  refine x_iload_n (k := 2) rfl rfl ?_
  refine w_atK (k := 3) rfl rfl (by first | assumption | omega) ?_
  refine w_fK (k := 4) rfl flRX8_73 (by first | assumption | omega) (by decide) ?_
  refine x_if_ne (tgt := 29) (k := 5) rfl (by decide) (fun c9 => ?_) (fun c9 => ?_)
  · refine x_iconst (v := 0) (k := 15) rfl (by decide) ?_
    exact w_irD (k := 16) rfl rfl rfl (by first | (simp [bz, *]; done) | simp_all [bz]) rfl
  · refine x_aload_n (k := 6) rfl rfl ?_
    refine w_getK (k := 7) rfl flRX8_25 ?_
    refine x_iload_n (k := 8) rfl rfl ?_
    refine w_atK (k := 9) rfl rfl (by first | assumption | omega) ?_
    refine w_fK (k := 10) rfl flRX8_76 (by first | assumption | omega) (by decide) ?_
    refine x_iload_n (k := 11) rfl rfl ?_
    refine x_icmp_ne (tgt := 29) (k := 12) rfl (by decide) (fun c22 => ?_) (fun c22 => ?_)
    · refine x_iconst (v := 0) (k := 15) rfl (by decide) ?_
      exact w_irD (k := 16) rfl rfl rfl (by first | (simp [bz, *]; done) | simp_all [bz]) rfl
    · refine x_iconst (v := 1) (k := 13) rfl (by decide) ?_
      refine x_goto (tgt := 30) (k := 14) rfl (by decide) ?_
      exact w_irD (k := 16) rfl rfl rfl (by first | (simp [bz, *]; done) | simp_all [bz]) rfl
theorem c_isCoveredNow {G : xG} {s : xA} {w : Nat} {W : Wd} {k : Nat} (hk : k < 10) : wI G MX8_isCoveredNow [.ref w, .int (nI k)] s w W (bz (cvd W k)) W := by
  refine x_aload_n (k := 0) rfl rfl ?_
  refine w_getK (k := 1) rfl flRX8_25 ?_
  refine x_iload_n (k := 2) rfl rfl ?_
  refine w_atK (k := 3) rfl rfl (by first | assumption | omega) ?_
  refine x_astore_n (k := 4) rfl (by decide) ?_
  refine x_aload_n (k := 5) rfl rfl ?_
  refine w_fK (k := 6) rfl flRX8_73 (by first | assumption | omega) (by decide) ?_
  refine x_if_ne (tgt := 29) (k := 7) rfl (by decide) (fun c11 => ?_) (fun c11 => ?_)
  · refine x_iconst (v := 0) (k := 15) rfl (by decide) ?_
    exact w_irD (k := 16) rfl rfl rfl (by first | (simp [bz, *]; done) | simp_all [bz]) rfl
  · refine x_aload_n (k := 8) rfl rfl ?_
    refine w_fK (k := 9) rfl flRX8_76 (by first | assumption | omega) (by decide) ?_
    refine x_aload_n (k := 10) rfl rfl ?_
    refine w_fK (k := 11) rfl flRX8_153 (by first | assumption | omega) (by decide) ?_
    refine x_icmp_eq (tgt := 29) (k := 12) rfl (by decide) (fun c22 => ?_) (fun c22 => ?_)
    · refine x_iconst (v := 0) (k := 15) rfl (by decide) ?_
      exact w_irD (k := 16) rfl rfl rfl (by first | (simp [bz, *]; done) | simp_all [bz]) rfl
    · refine x_iconst (v := 1) (k := 13) rfl (by decide) ?_
      refine x_goto (tgt := 30) (k := 14) rfl (by decide) ?_
      exact w_irD (k := 16) rfl rfl rfl (by first | (simp [bz, *]; done) | simp_all [bz]) rfl
theorem c_isOpen {G : xG} {s : xA} {w : Nat} {W : Wd} {t : Nat} (ht : t < 16) : wI G MX6_isOpen [.ref (w + 14 + t)] s w W (bz (opn W t)) W := by
  refine x_aload_n (k := 0) rfl rfl ?_
  refine w_fT (k := 1) rfl flRX6_30 (by first | assumption | omega) (by decide) ?_
  refine x_if_eq (tgt := 15) (k := 2) rfl (by decide) (fun c4 => ?_) (fun c4 => ?_)
  · refine x_iconst (v := 1) (k := 7) rfl (by decide) ?_
    refine x_goto (tgt := 20) (k := 8) rfl (by decide) ?_
    exact w_irD (k := 10) rfl rfl rfl (by first | (simp [bz, *]; done) | simp_all [bz]) rfl
  · refine x_aload_n (k := 3) rfl rfl ?_
    refine w_fT (k := 4) rfl flRX6_30 (by first | assumption | omega) (by decide) ?_
    refine x_iconst (v := 1) (k := 5) rfl (by decide) ?_
    refine x_icmp_ne (tgt := 19) (k := 6) rfl (by decide) (fun c12 => ?_) (fun c12 => ?_)
    · refine x_iconst (v := 0) (k := 9) rfl (by decide) ?_
      exact w_irD (k := 10) rfl rfl rfl (by first | (simp [bz, *]; done) | simp_all [bz]) rfl
    · refine x_iconst (v := 1) (k := 7) rfl (by decide) ?_
      refine x_goto (tgt := 20) (k := 8) rfl (by decide) ?_
      exact w_irD (k := 10) rfl rfl rfl (by first | (simp [bz, *]; done) | simp_all [bz]) rfl
theorem c_overlaps {G : xG} {s : xA} {w : Nat} {W : Wd} {t : Nat} (ht : t < 16) (lv ar : Int32) : wI G MX6_overlaps [.ref (w + 14 + t), .int lv, .int ar] s w W (bz (ovl W t lv ar)) W := by
  refine x_aload_n (k := 0) rfl rfl ?_
  refine w_fT (k := 1) rfl flRX6_21 (by first | assumption | omega) (by decide) ?_
  refine x_iload_n (k := 2) rfl rfl ?_
  refine x_icmp_ge (tgt := 20) (k := 3) rfl (by decide) (fun c5 => ?_) (fun c5 => ?_)
  · rw [← Int32.not_lt] at c5
    refine x_iconst (v := 0) (k := 10) rfl (by decide) ?_
    exact w_irD (k := 11) rfl rfl rfl (by simp [bz, Int32.not_le, Int32.not_lt, *]) rfl
  · rw [Int32.not_le] at c5
    refine x_iload_n (k := 4) rfl rfl ?_
    refine x_aload_n (k := 5) rfl rfl ?_
    refine w_fT (k := 6) rfl flRX6_24 (by first | assumption | omega) (by decide) ?_
    refine x_icmp_ge (tgt := 20) (k := 7) rfl (by decide) (fun c13 => ?_) (fun c13 => ?_)
    · rw [← Int32.not_lt] at c13
      refine x_iconst (v := 0) (k := 10) rfl (by decide) ?_
      exact w_irD (k := 11) rfl rfl rfl (by simp [bz, Int32.not_le, Int32.not_lt, *]) rfl
    · rw [Int32.not_le] at c13
      refine x_iconst (v := 1) (k := 8) rfl (by decide) ?_
      refine x_goto (tgt := 21) (k := 9) rfl (by decide) ?_
      exact w_irD (k := 11) rfl rfl rfl (by simp [bz, Int32.not_le, Int32.not_lt, *]) rfl
theorem c_wordsFit {G : xG} {s : xA} {w : Nat} {W : Wd} {k : Nat} (hk : k < 10) : wI G MX2_wordsFit [.ref (w + 30 + k)] s w W (bz (fit W k)) W := by
  refine x_aload_n (k := 0) rfl rfl ?_
  refine w_fK (k := 1) rfl flRX2_36 (by first | assumption | omega) (by decide) ?_
  refine x_bipush (v := -9) (k := 2) rfl (by decide) ?_
  refine x_icmp_eq (tgt := 24) (k := 3) rfl (by decide) (fun c6 => ?_) (fun c6 => ?_)
  · refine x_iconst (v := 0) (k := 11) rfl (by decide) ?_
    exact w_irD (k := 12) rfl rfl rfl (by first | (simp [bz, *]; done) | simp_all [bz]) rfl
  · refine x_aload_n (k := 4) rfl rfl ?_
    refine w_fK (k := 5) rfl flRX2_36 (by first | assumption | omega) (by decide) ?_
    refine x_aload_n (k := 6) rfl rfl ?_
    refine w_fK (k := 7) rfl flRX2_39 (by first | assumption | omega) (by decide) ?_
    refine x_icmp_ne (tgt := 24) (k := 8) rfl (by decide) (fun c17 => ?_) (fun c17 => ?_)
    · refine x_iconst (v := 0) (k := 11) rfl (by decide) ?_
      exact w_irD (k := 12) rfl rfl rfl (by first | (simp [bz, *]; done) | simp_all [bz]) rfl
    · refine x_iconst (v := 1) (k := 9) rfl (by decide) ?_
      refine x_goto (tgt := 25) (k := 10) rfl (by decide) ?_
      exact w_irD (k := 12) rfl rfl rfl (by first | (simp [bz, *]; done) | simp_all [bz]) rfl
theorem l_overlapsATrip {G : xG} {s : xA} {w : Nat} {W : Wd} {p lv ar : Int32} (hk1 : cT W ≤ 16) (hk2 : W 3 0 4 = nI (cT W)) : ∀ (d i : Nat) (ls : List (Nat × Value)), cT W - i < d → i ≤ cT W → ovTo W p lv ar i = false → ls.lookup 0 = some (.ref w) → ls.lookup 1 = some (.int p) → ls.lookup 2 = some (.int lv) → ls.lookup 3 = some (.int ar) → ls.lookup 4 = some (.int (nI i)) → wE G MX8_overlapsATrip 3 ls [] s w W (fun r W1 => r = some (.int (bz (sOvl W p lv ar))) ∧ W1 = W) := by
  intro d
  induction d with
  | zero =>
    intro i ls hd hi hv g0 g1 g2 g3 g4
    exact absurd hd (Nat.not_lt_zero _)
  | succ d ih =>
    intro i ls hd hi hv g0 g1 g2 g3 g4
    refine x_sub (ls' := [(0, .ref w), (1, .int p), (2, .int lv), (3, .int ar), (4, .int (nI i))]) (by simp [*]) ?_
    refine x_iload (k := 2) rfl rfl ?_
    refine x_aload_n (k := 3) rfl rfl ?_
    refine w_get (k := 4) rfl flRX8_54 (by decide) ?_
    refine x_icmp_ge (tgt := 56) (k := 5) rfl (by decide) (fun c9 => ?_) (fun c9 => ?_)
    · have e : i = cT W := by
        have := (le_nI hk2 (by omega) (by omega)).mp c9
        omega
      rw [e] at hv
      refine x_iconst (v := 0) (k := 27) rfl (by decide) ?_
      exact w_irD (k := 28) rfl rfl rfl (by rw [bz_0 (by rw [sOvl, hv]; decide)]) rfl
    · have hin : i < cT W := by
        have := mt (le_nI hk2 (by omega) (by omega)).mpr c9
        omega
      refine x_aload_n (k := 6) rfl rfl ?_
      refine w_getT (k := 7) rfl flRX8_19 ?_
      refine x_iload (k := 8) rfl rfl ?_
      refine w_atT (k := 9) rfl rfl (by first | assumption | omega) ?_
      refine x_astore (k := 10) rfl (by decide) ?_
      refine x_aload (k := 11) rfl rfl ?_
      refine w_fT (k := 12) rfl flRX8_103 (by first | assumption | omega) (by decide) ?_
      refine x_iload_n (k := 13) rfl rfl ?_
      refine x_icmp_ne (tgt := 50) (k := 14) rfl (by decide) (fun c27 => ?_) (fun c27 => ?_)
      · refine x_iinc (k := 25) rfl rfl (nI_1 i) (by decide) ?_
        refine x_goto (tgt := 3) (k := 26) rfl (by decide) ?_
        exact ih (i + 1) _ (by omega) (by omega) (by simp [ovTo, *]) rfl rfl rfl rfl rfl
      · refine x_aload (k := 15) rfl rfl ?_
        refine w_callI (ci := 6) (k := 16) rfl (by rfl) (c_isOpen (by omega)) okX6_isOpen viX6_isOpen mlRX8_106 ⟨Nat.le_of_ble_eq_true rfl, Nat.le_of_ble_eq_true rfl⟩ (by exact Nat.le_of_ble_eq_true rfl) rfl rfl (wGT (by first | assumption | omega)) (by exact Nat.le_of_ble_eq_true rfl) ?_
        refine x_if_eq (tgt := 50) (k := 17) rfl (by decide) (fun c35 => ?_) (fun c35 => ?_)
        · replace c35 := bz_eq0 c35
          refine x_iinc (k := 25) rfl rfl (nI_1 i) (by decide) ?_
          refine x_goto (tgt := 3) (k := 26) rfl (by decide) ?_
          exact ih (i + 1) _ (by omega) (by omega) (by simp [ovTo, *]) rfl rfl rfl rfl rfl
        · replace c35 := bz_ne0 c35
          refine x_aload (k := 18) rfl rfl ?_
          refine x_iload_n (k := 19) rfl rfl ?_
          refine x_iload_n (k := 20) rfl rfl ?_
          refine w_callI (ci := 6) (k := 21) rfl (by rfl) (c_overlaps (by omega) _ _) okX6_overlaps viX6_overlaps mlRX8_110 ⟨Nat.le_of_ble_eq_true rfl, Nat.le_of_ble_eq_true rfl⟩ (by exact Nat.le_of_ble_eq_true rfl) rfl rfl (wGT (by first | assumption | omega)) (by exact Nat.le_of_ble_eq_true rfl) ?_
          refine x_if_eq (tgt := 50) (k := 22) rfl (by decide) (fun c45 => ?_) (fun c45 => ?_)
          · replace c45 := bz_eq0 c45
            refine x_iinc (k := 25) rfl rfl (nI_1 i) (by decide) ?_
            refine x_goto (tgt := 3) (k := 26) rfl (by decide) ?_
            exact ih (i + 1) _ (by omega) (by omega) (by simp [ovTo, *]) rfl rfl rfl rfl rfl
          · replace c45 := bz_ne0 c45
            refine x_iconst (v := 1) (k := 23) rfl (by decide) ?_
            exact w_irD (k := 24) rfl rfl rfl (by rw [bz_1 (ovTo_ex hin ⟨c27, c35, c45⟩)]) rfl
theorem c_overlapsATrip {G : xG} {s : xA} {w : Nat} {W : Wd} (p lv ar : Int32) (hk : hT W) : wI G MX8_overlapsATrip [.ref w, .int p, .int lv, .int ar] s w W (bz (sOvl W p lv ar)) W := by
  refine x_iconst (v := 0) (k := 0) rfl (by decide) ?_
  refine x_istore (k := 1) rfl (by decide) ?_
  exact l_overlapsATrip hk.1 hk.2 (cT W + 1) 0 _ (by omega) (by omega) rfl rfl rfl rfl rfl rfl
