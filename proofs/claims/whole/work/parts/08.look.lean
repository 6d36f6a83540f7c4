-- ===== contracts: what is only looked at =====
/-- an answer true or false -/
def bz (p : Prop) [Decidable p] : Int32 := if p then 1 else 0
theorem bz_1 {p : Prop} [Decidable p] (h : p) : bz p = 1 := if_pos h
theorem bz_0 {p : Prop} [Decidable p] (h : ¬ p) : bz p = 0 := if_neg h
theorem bz_nar {p : Prop} [Decidable p] : narrow .boolean (.int (bz p)) = .int (bz p) := by
  unfold bz
  split <;> rfl
theorem bz_eq0 {p : Prop} [Decidable p] (h : bz p = 0) : ¬ p := by
  intro q
  rw [bz_1 q] at h
  exact absurd h (by decide)
theorem bz_ne0 {p : Prop} [Decidable p] (h : ¬ bz p = 0) : p := by
  by_cases q : p
  · exact q
  · exact absurd (bz_0 q) h
abbrev wI (G : xG) (M : xM) (As : List Value) (s : xA) (w : Nat) (W : Wd) (v : Int32) (W' : Wd) : Prop := wMe G M As s w W (fun r W1 => r = some (.int v) ∧ W1 = W')
abbrev wV (G : xG) (M : xM) (As : List Value) (s : xA) (w : Nat) (W W' : Wd) : Prop := wMe G M As s w W (fun r W1 => r = none ∧ W1 = W')
abbrev xI (G : xG) (M : xM) (As : List Value) (v : Int32) : Prop := ∀ s : xA, xMe G M As s (fun r s1 => r = some (.int v) ∧ s1 = s)
section WC
variable {G : xG} {M M' : xM} {pc : Nat} {ls : List (Nat × Value)} {st stk As : List Value} {s : xA} {w : Nat} {W : Wd}
theorem x_sD {Q : Option Value → xA → Prop} {k idx n : Nat} {v : Int32} (hk : (mIn M)[k]? = some (pc, .invokestatic idx, 3)) (hb : xI G M' As v) (hs : stk = As.reverse ++ st) (ho : xOk M' n) (hv : Cond.static (mY M') ∈ gW) (hw : Cond.methodLink (mOwn M) idx (mY M') ∈ gW) (hR : xRm M M') (hlen : (lg_sl As).length ≤ mNL M') (hn : As.length = n) (hst : (st.map fun v => v.category).sum ≤ 8)
    (kk : xE G M (pc + 3) ls (.int v :: st) s Q) : xE G M pc ls stk s Q := x_callS hk ho hv hw hR hlen hn hst hs (hb s) (fun r s1 h => by rw [h.1, h.2]; exact kk)
theorem x_sDN {Q : Option Value → xA → Prop} {k idx n : Nat} {v : Int32} (hk : (mIn M)[k]? = some (pc, .invokestatic idx, 3)) (hb : xI G M' As v) (hs : stk = As.reverse ++ st) (ho : xOk M' n) (hv : Cond.static (mY M') ∈ gW) (hw : (mOwn M, idx, mY M') ∈ nestM) (hR : xRm M M') (hlen : (lg_sl As).length ≤ mNL M') (hn : As.length = n) (hst : (st.map fun v => v.category).sum ≤ 8)
    (kk : xE G M (pc + 3) ls (.int v :: st) s Q) : xE G M pc ls stk s Q := x_callSN hk ho hv hw hR hlen hn hst hs (hb s) (fun r s1 h => by rw [h.1, h.2]; exact kk)
theorem w_callI {Q : Option Value → Wd → Prop} {Ar : List Value} {k idx n a ci : Nat} {fs : List Value} {v : Int32} {W' : Wd} (hk : (mIn M)[k]? = some (pc, .invokevirtual idx, 3)) (hb : wI G M' (.ref a :: Ar) s w W v W') (hs : stk = Ar.reverse ++ .ref a :: st) (ho : xOk M' n) (hv : xVi (mY M')) (hw : Cond.methodLink (mOwn M) idx (mY M') ∈ gW) (hR : xRm M M') (hlen : (lg_sl (.ref a :: Ar)).length ≤ mNL M') (hn : Ar.length = n) (hc : (vwCl[ci]?).map (fun q => q.1) = some (mY M').cls) (hh : (setW G s w W).1 a = some (eO ci fs)) (hst : (st.map fun v => v.category).sum ≤ 8)
    (kk : wE G M (pc + 3) ls (.int v :: st) s w W' Q) : wE G M pc ls stk s w W Q := w_call hk ho hv hw hR hlen hn hc hh hst hs hb (fun r W1 h => by rw [h.1, h.2]; exact kk)
theorem w_callV {Q : Option Value → Wd → Prop} {Ar : List Value} {k idx n a ci : Nat} {fs : List Value} {W' : Wd} (hk : (mIn M)[k]? = some (pc, .invokevirtual idx, 3)) (hb : wV G M' (.ref a :: Ar) s w W W') (hs : stk = Ar.reverse ++ .ref a :: st) (ho : xOk M' n) (hv : xVi (mY M')) (hw : Cond.methodLink (mOwn M) idx (mY M') ∈ gW) (hR : xRm M M') (hlen : (lg_sl (.ref a :: Ar)).length ≤ mNL M') (hn : Ar.length = n) (hc : (vwCl[ci]?).map (fun q => q.1) = some (mY M').cls) (hh : (setW G s w W).1 a = some (eO ci fs)) (hst : (st.map fun v => v.category).sum ≤ 8)
    (kk : wE G M (pc + 3) ls st s w W' Q) : wE G M pc ls stk s w W Q := w_call hk ho hv hw hR hlen hn hc hh hst hs hb (fun r W1 h => by rw [h.1, h.2]; exact kk)
theorem w_irD {k : Nat} {v v' : Int32} {W' : Wd} {ty : FieldType} (hk : (mIn M)[k]? = some (pc, .ireturn, 1)) (hr : mRt M = some ty) (hn : narrow ty (.int v) = .int v) (hv : v = v') (hW : W = W') : wE G M pc ls [.int v] s w W (fun r W1 => r = some (.int v') ∧ W1 = W') := w_iret hk hr hn ⟨by rw [hv], hW⟩
theorem w_rD {k : Nat} {W' : Wd} (hk : (mIn M)[k]? = some (pc, .return_, 1)) (hr : mRt M = none) (hW : W = W') : wE G M pc ls [] s w W (fun r W1 => r = none ∧ W1 = W') := w_ret hk hr ⟨rfl, hW⟩
theorem x_irD {k : Nat} {v v' : Int32} {ty : FieldType} (hk : (mIn M)[k]? = some (pc, .ireturn, 1)) (hr : mRt M = some ty) (hn : narrow ty (.int v) = .int v) (hv : v = v') : xE G M pc ls [.int v] s (fun r s1 => r = some (.int v') ∧ s1 = s) := x_iret hk hr hn ⟨by rw [hv], rfl⟩
end WC
/-- a person's number; a holder's; a town's -/
def isP (h : Int32) : Prop := ∃ p : Nat, p < 8 ∧ h = nI p
def isTn (h : Int32) : Prop := ∃ t : Nat, t < 6 ∧ h = nI t
def isHo (h : Int32) : Prop := isP h ∨ ∃ t : Nat, t < 6 ∧ h = nI (10 + t)
/-- how many trips, how many parcels -/
def nT (W : Wd) (n : Nat) : Prop := n ≤ 16 ∧ W 3 0 4 = nI n
def nK (W : Wd) (n : Nat) : Prop := n ≤ 10 ∧ W 3 0 5 = nI n
def hbTo (W : Wd) (h : Int32) : Nat → Int32
  | 0 => 0
  | n + 1 => if W 2 n 5 = 0 ∧ W 2 n 6 = h then hbTo W h n + 1 else hbTo W h n
def sTown (W : Wd) (h : Int32) : Int32 := if h < 10 then W 0 h.toNatClampNeg 2 else h - 10
def sOn (W : Wd) (h : Int32) : Int32 := if h < 10 then W 0 h.toNatClampNeg 3 else -9
theorem clP {p : Nat} (h : p < 8) : (nI p).toNatClampNeg = p := nI_clamp (by omega)
set_option maxRecDepth 100000

theorem c_isWithin {G : xG} (n lo hi : Int32) : xI G MX9_isWithin [.int n, .int lo, .int hi] (bz (¬ n < lo ∧ ¬ hi < n)) := by
  intro s
  refine x_iload_n (k := 0) rfl rfl ?_
  refine x_iload_n (k := 1) rfl rfl ?_
  refine x_icmp_lt (tgt := 14) (k := 2) rfl (by decide) (fun c2 => ?_) (fun c2 => ?_)
  · refine x_iconst (v := 0) (k := 8) rfl (by decide) ?_
    exact x_irD (k := 9) rfl rfl rfl (by simp [bz, *])
  · refine x_iload_n (k := 3) rfl rfl ?_
    refine x_iload_n (k := 4) rfl rfl ?_
    refine x_icmp_gt (tgt := 14) (k := 5) rfl (by decide) (fun c7 => ?_) (fun c7 => ?_)
    · refine x_iconst (v := 0) (k := 8) rfl (by decide) ?_
      exact x_irD (k := 9) rfl rfl rfl (by simp [bz, *])
    · refine x_iconst (v := 1) (k := 6) rfl (by decide) ?_
      refine x_goto (tgt := 15) (k := 7) rfl (by decide) ?_
      exact x_irD (k := 9) rfl rfl rfl (by simp [bz, *])
theorem c_isPerson {G : xG} (n : Int32) : xI G MX9_isPerson [.int n] (bz (¬ n < 0 ∧ ¬ 7 < n)) := by
  intro s
  refine x_iload_n (k := 0) rfl rfl ?_
  refine x_iconst (v := 0) (k := 1) rfl (by decide) ?_
  refine x_bipush (v := 7) (k := 2) rfl (by decide) ?_
  refine x_sD (k := 3) rfl (c_isWithin _ _ _) (by rfl) okX9_isWithin viX9_isWithin mlRX9_106 ⟨Nat.le_of_ble_eq_true rfl, Nat.le_of_ble_eq_true rfl⟩ (by exact Nat.le_of_ble_eq_true rfl) rfl (by exact Nat.le_of_ble_eq_true rfl) ?_
  exact x_irD (k := 4) rfl rfl bz_nar rfl
theorem c_isTown {G : xG} (n : Int32) : xI G MX9_isTown [.int n] (bz (¬ n < 0 ∧ ¬ 5 < n)) := by
  intro s
  refine x_iload_n (k := 0) rfl rfl ?_
  refine x_iconst (v := 0) (k := 1) rfl (by decide) ?_
  refine x_iconst (v := 5) (k := 2) rfl (by decide) ?_
  refine x_sD (k := 3) rfl (c_isWithin _ _ _) (by rfl) okX9_isWithin viX9_isWithin mlRX9_106 ⟨Nat.le_of_ble_eq_true rfl, Nat.le_of_ble_eq_true rfl⟩ (by exact Nat.le_of_ble_eq_true rfl) rfl (by exact Nat.le_of_ble_eq_true rfl) ?_
  exact x_irD (k := 4) rfl rfl bz_nar rfl
theorem c_isTrip {G : xG} {s : xA} {w : Nat} {W : Wd} (n : Int32) : wI G MX8_isTrip [.ref w, .int n] s w W (bz (¬ n < 0 ∧ ¬ W 3 0 4 ≤ n)) W := by
  refine x_iload_n (k := 0) rfl rfl ?_
  refine x_if_lt (tgt := 16) (k := 1) rfl (by decide) (fun c1 => ?_) (fun c1 => ?_)
  · refine x_iconst (v := 0) (k := 8) rfl (by decide) ?_
    exact w_irD (k := 9) rfl rfl rfl (by simp [bz, *]) rfl
  · refine x_iload_n (k := 2) rfl rfl ?_
    refine x_aload_n (k := 3) rfl rfl ?_
    refine w_get (k := 4) rfl flRX8_54 (by decide) ?_
    refine x_icmp_ge (tgt := 16) (k := 5) rfl (by decide) (fun c9 => ?_) (fun c9 => ?_)
    · refine x_iconst (v := 0) (k := 8) rfl (by decide) ?_
      exact w_irD (k := 9) rfl rfl rfl (by simp [bz, *]) rfl
    · refine x_iconst (v := 1) (k := 6) rfl (by decide) ?_
      refine x_goto (tgt := 17) (k := 7) rfl (by decide) ?_
      exact w_irD (k := 9) rfl rfl rfl (by simp [bz, *]) rfl
theorem c_isParcel {G : xG} {s : xA} {w : Nat} {W : Wd} (n : Int32) : wI G MX8_isParcel [.ref w, .int n] s w W (bz (¬ n < 0 ∧ ¬ W 3 0 5 ≤ n)) W := by
  refine x_iload_n (k := 0) rfl rfl ?_
  refine x_if_lt (tgt := 16) (k := 1) rfl (by decide) (fun c1 => ?_) (fun c1 => ?_)
  · refine x_iconst (v := 0) (k := 8) rfl (by decide) ?_
    exact w_irD (k := 9) rfl rfl rfl (by simp [bz, *]) rfl
  · refine x_iload_n (k := 2) rfl rfl ?_
    refine x_aload_n (k := 3) rfl rfl ?_
    refine w_get (k := 4) rfl flRX8_57 (by decide) ?_
    refine x_icmp_ge (tgt := 16) (k := 5) rfl (by decide) (fun c9 => ?_) (fun c9 => ?_)
    · refine x_iconst (v := 0) (k := 8) rfl (by decide) ?_
      exact w_irD (k := 9) rfl rfl rfl (by simp [bz, *]) rfl
    · refine x_iconst (v := 1) (k := 6) rfl (by decide) ?_
      refine x_goto (tgt := 17) (k := 7) rfl (by decide) ?_
      exact w_irD (k := 9) rfl rfl rfl (by simp [bz, *]) rfl
theorem c_townOf {G : xG} {s : xA} {w : Nat} {W : Wd} {h : Int32} (hh : h < 10 → isP h) : wI G MX8_townOf [.ref w, .int h] s w W (sTown W h) W := by
  refine x_iload_n (k := 0) rfl rfl ?_
  refine x_bipush (v := 10) (k := 1) rfl (by decide) ?_
  refine x_icmp_lt (tgt := 13) (k := 2) rfl (by decide) (fun c3 => ?_) (fun c3 => ?_)
  · obtain ⟨p, hp, rfl⟩ := hh c3
    refine x_aload_n (k := 7) rfl rfl ?_
    refine w_getP (k := 8) rfl flRX8_11 ?_
    refine x_iload_n (k := 9) rfl rfl ?_
    refine w_atP (k := 10) rfl rfl (by first | assumption | omega) ?_
    refine w_fP (k := 11) rfl flRX8_79 (by first | assumption | omega) (by decide) ?_
    exact w_irD (k := 12) rfl rfl rfl (by simp [sTown, clP, *]) rfl
  · refine x_iload_n (k := 3) rfl rfl ?_
    refine x_bipush (v := 10) (k := 4) rfl (by decide) ?_
    refine x_isub (k := 5) rfl ?_
    refine x_goto (tgt := 22) (k := 6) rfl (by decide) ?_
    exact w_irD (k := 12) rfl rfl rfl (by simp [sTown, clP, *]) rfl
theorem c_tripOf {G : xG} {s : xA} {w : Nat} {W : Wd} {h : Int32} (hh : h < 10 → isP h) : wI G MX8_tripOf [.ref w, .int h] s w W (sOn W h) W := by
  refine x_iload_n (k := 0) rfl rfl ?_
  refine x_bipush (v := 10) (k := 1) rfl (by decide) ?_
  refine x_icmp_lt (tgt := 11) (k := 2) rfl (by decide) (fun c3 => ?_) (fun c3 => ?_)
  · obtain ⟨p, hp, rfl⟩ := hh c3
    refine x_aload_n (k := 5) rfl rfl ?_
    obtain ⟨p, hp, rfl⟩ := hh c3
    refine w_getP (k := 6) rfl flRX8_11 ?_
    refine x_iload_n (k := 7) rfl rfl ?_
    refine w_atP (k := 8) rfl rfl (by first | assumption | omega) ?_
    refine w_fP (k := 9) rfl flRX8_82 (by first | assumption | omega) (by decide) ?_
    exact w_irD (k := 10) rfl rfl rfl (by simp [sOn, clP, *]) rfl
  · refine x_bipush (v := -9) (k := 3) rfl (by decide) ?_
    refine x_goto (tgt := 20) (k := 4) rfl (by decide) ?_
    exact w_irD (k := 10) rfl rfl rfl (by simp [sOn, clP, *]) rfl
