-- ===== the model: six cells from an address on, as one value =====
/-- the array now, the array kept, and numbers: row 0 the object's own by their fields, 1 the text, 2 the digits, 3 the best -/
abbrev Vd : Type := (Nat → Int64) × (Nat → Int64) × Yd
def mF (m : Nat) (V : Vd) : List Value := [.ref (m + 1), .ref (m + 2), .int (V.2.2 0 2), .ref (m + 3), .int (V.2.2 0 4), .int (V.2.2 0 5), .int (V.2.2 0 6), .ref (m + 4), .ref (m + 5)]
def mCell (G : xG) (m : Nat) (V : Vd) (k : Nat) : va_E := if k = 0 then eO 10 (mF m V) else if k = 1 then eJ G 1766 V.1 else if k = 2 then eJ G 8830 V.2.1 else if k = 3 then eI G 80 (V.2.2 1) else if k = 4 then eI G 3 (V.2.2 2) else eI G 16 (V.2.2 3)
def setM (G : xG) (s : xA) (m : Nat) (V : Vd) : xA := (fun q => if m ≤ q ∧ q < m + 6 then some (mCell G m V (q - m)) else s.1 q, s.2.1, s.2.2)
def mSc (V : Vd) (j : Nat) (v : Int32) : Vd := (V.1, V.2.1, ySet V.2.2 0 j v)
def mAr (V : Vd) (a k : Nat) (v : Int32) : Vd := (V.1, V.2.1, ySet V.2.2 a k v)
def mNo (V : Vd) (k : Nat) (v : Int64) : Vd := (vp_updL V.1 k v, V.2)
def mKe (V : Vd) (k : Nat) (v : Int64) : Vd := (V.1, vp_updL V.2.1 k v, V.2.2)
section MD
variable {G : xG} {s : xA} {m : Nat} {V : Vd}
theorem setM_in {k : Nat} (hk : k < 6) : (setM G s m V).1 (m + k) = some (mCell G m V k) := by
  show (if m ≤ m + k ∧ m + k < m + 6 then some (mCell G m V (m + k - m)) else s.1 (m + k)) = _
  rw [if_pos ⟨by omega, by omega⟩, Nat.add_sub_cancel_left]
theorem setM_out {q : Nat} (h : q < m ∨ m + 6 ≤ q) : (setM G s m V).1 q = s.1 q := by
  show (if m ≤ q ∧ q < m + 6 then some (mCell G m V (q - m)) else s.1 q) = _
  rw [if_neg (by omega)]
theorem mG0 : (setM G s m V).1 m = some (eO 10 (mF m V)) := setM_in (k := 0) (by omega)
theorem mG1 : (setM G s m V).1 (m + 1) = some (eJ G 1766 V.1) := setM_in (k := 1) (by omega)
theorem mG2 : (setM G s m V).1 (m + 2) = some (eJ G 8830 V.2.1) := setM_in (k := 2) (by omega)
theorem mG3 : (setM G s m V).1 (m + 3) = some (eI G 80 (V.2.2 1)) := setM_in (k := 3) (by omega)
theorem mG4 : (setM G s m V).1 (m + 4) = some (eI G 3 (V.2.2 2)) := setM_in (k := 4) (by omega)
theorem mG5 : (setM G s m V).1 (m + 5) = some (eI G 16 (V.2.2 3)) := setM_in (k := 5) (by omega)
theorem setM_up {V' : Vd} {k : Nat} {e : va_E} (hk : k < 6) (he : mCell G m V' k = e) (ho : ∀ j, j < 6 → j ≠ k → mCell G m V' j = mCell G m V j) : aUp (setM G s m V) (m + k) e = setM G s m V' := by
  refine Prod.ext (funext fun q => ?_) rfl
  show (if q = m + k then some e else if m ≤ q ∧ q < m + 6 then some (mCell G m V (q - m)) else s.1 q) = if m ≤ q ∧ q < m + 6 then some (mCell G m V' (q - m)) else s.1 q
  by_cases h1 : q = m + k
  · rw [if_pos h1, if_pos (by omega), h1, Nat.add_sub_cancel_left, he]
  · rw [if_neg h1]
    by_cases h2 : m ≤ q ∧ q < m + 6
    · rw [if_pos h2, if_pos h2, ho (q - m) (by omega) (by omega)]
    · rw [if_neg h2, if_neg h2]
def mOk (j : Nat) : Bool := decide (j = 2) || decide (j = 4) || decide (j = 5) || decide (j = 6)
theorem mF_at {j : Nat} (h : mOk j = true) : (mF m V)[j]? = some (.int (V.2.2 0 j)) := by
  have : j = 2 ∨ j = 4 ∨ j = 5 ∨ j = 6 := by simp only [mOk, Bool.or_eq_true, decide_eq_true_eq] at h; omega
  rcases this with rfl | rfl | rfl | rfl <;> rfl
theorem mF_put {j : Nat} {v : Int32} (h : mOk j = true) : mF m (mSc V j v) = (mF m V).set j (.int v) := by
  have : j = 2 ∨ j = 4 ∨ j = 5 ∨ j = 6 := by simp only [mOk, Bool.or_eq_true, decide_eq_true_eq] at h; omega
  rcases this with rfl | rfl | rfl | rfl <;> simp [mF, mSc, ySet]
theorem mU0 {j : Nat} {v : Int32} (h : mOk j = true) : aUp (setM G s m V) m (eO 10 ((mF m V).set j (.int v))) = setM G s m (mSc V j v) :=
  setM_up (k := 0) (by omega) (by rw [mCell, if_pos rfl, mF_put h]) (fun i hi hne => by
    unfold mCell mSc
    rw [if_neg hne, if_neg hne]
    show (if i = 1 then _ else if i = 2 then _ else if i = 3 then eI G 80 (ySet V.2.2 0 j v 1) else if i = 4 then eI G 3 (ySet V.2.2 0 j v 2) else eI G 16 (ySet V.2.2 0 j v 3)) = _
    rw [yR_set (by decide), yR_set (by decide), yR_set (by decide)])
theorem mU1 {k : Nat} {v : Int64} : aUp (setM G s m V) (m + 1) (eJ G 1766 (vp_updL V.1 k v)) = setM G s m (mNo V k v) :=
  setM_up (k := 1) (by omega) rfl (fun i hi hne => by unfold mCell; rw [if_neg hne, if_neg hne]; rfl)
theorem mU2 {k : Nat} {v : Int64} : aUp (setM G s m V) (m + 2) (eJ G 8830 (vp_updL V.2.1 k v)) = setM G s m (mKe V k v) :=
  setM_up (k := 2) (by omega) rfl (fun i hi hne => by
    unfold mCell
    rw [if_neg hne, if_neg hne]
    rfl)
theorem mU {a k n : Nat} {v : Int32} (ha : a = 1 ∨ a = 2 ∨ a = 3) (hc : ∀ V : Vd, mCell G m V (a + 2) = eI G n (V.2.2 a)) : aUp (setM G s m V) (m + (a + 2)) (eI G n (upd (V.2.2 a) k v)) = setM G s m (mAr V a k v) :=
  setM_up (by omega) (by
    rw [hc, ← yR_put]
    rfl) (fun i hi hne => by
    unfold mCell mAr
    show (if i = 0 then eO 10 (mF m (V.1, V.2.1, ySet V.2.2 a k v)) else if i = 1 then eJ G 1766 V.1 else if i = 2 then eJ G 8830 V.2.1 else if i = 3 then eI G 80 (ySet V.2.2 a k v 1) else if i = 4 then eI G 3 (ySet V.2.2 a k v 2) else eI G 16 (ySet V.2.2 a k v 3)) = _
    have e0 : mF m (V.1, V.2.1, ySet V.2.2 a k v) = mF m V := by
      unfold mF
      show [_, _, Value.int (ySet V.2.2 a k v 0 2), _, .int (ySet V.2.2 a k v 0 4), .int (ySet V.2.2 a k v 0 5), .int (ySet V.2.2 a k v 0 6), _, _] = _
      rw [ySet_a (by omega), ySet_a (by omega), ySet_a (by omega), ySet_a (by omega)]
    rw [e0]
    rcases (by omega : i = 0 ∨ i = 1 ∨ i = 2 ∨ (i = 3 ∧ a ≠ 1) ∨ (i = 4 ∧ a ≠ 2) ∨ (i = 5 ∧ a ≠ 3)) with rfl | rfl | rfl | ⟨rfl, h⟩ | ⟨rfl, h⟩ | ⟨rfl, h⟩
    · rfl
    · rfl
    · rfl
    · show eI G 80 (ySet V.2.2 a k v 1) = eI G 80 (V.2.2 1)
      rw [yR_set (Ne.symm h)]
    · show eI G 3 (ySet V.2.2 a k v 2) = eI G 3 (V.2.2 2)
      rw [yR_set (Ne.symm h)]
    · show eI G 16 (ySet V.2.2 a k v 3) = eI G 16 (V.2.2 3)
      rw [yR_set (Ne.symm h)])
end MD
abbrev mE (G : xG) (M : xM) (pc : Nat) (ls : List (Nat × Value)) (st : List Value) (s : xA) (m : Nat) (V : Vd) (Q : Option Value → Vd → Prop) : Prop := xE G M pc ls st (setM G s m V) (fun r s' => ∃ V', s' = setM G s m V' ∧ Q r V')
abbrev mMe (G : xG) (M : xM) (As : List Value) (s : xA) (m : Nat) (V : Vd) (Q : Option Value → Vd → Prop) : Prop := xMe G M As (setM G s m V) (fun r s' => ∃ V', s' = setM G s m V' ∧ Q r V')
abbrev mI (G : xG) (M : xM) (As : List Value) (s : xA) (m : Nat) (V : Vd) (v : Int32) (V' : Vd) : Prop := mMe G M As s m V (fun r Y1 => r = some (.int v) ∧ Y1 = V')
abbrev mV (G : xG) (M : xM) (As : List Value) (s : xA) (m : Nat) (V V' : Vd) : Prop := mMe G M As s m V (fun r Y1 => r = none ∧ Y1 = V')
section MR
variable {G : xG} {M M' : xM} {pc : Nat} {ls : List (Nat × Value)} {st stk Ar : List Value} {s : xA} {m : Nat} {V : Vd} {Q : Option Value → Vd → Prop}
theorem m_get {k idx j : Nat} (hk : (mIn M)[k]? = some (pc, .getfield idx, 3)) (hf : xFl (mOwn M) idx 10 j) (hj : mOk j = true) (kk : mE G M (pc + 3) ls (.int (V.2.2 0 j) :: st) s m V Q) : mE G M pc ls (.ref m :: st) s m V Q := x_get hk hf mG0 (mF_at hj) kk
theorem m_getA {k idx j a : Nat} (hk : (mIn M)[k]? = some (pc, .getfield idx, 3)) (hf : xFl (mOwn M) idx 10 j) (hj : (mF m V)[j]? = some (.ref (m + a))) (kk : mE G M (pc + 3) ls (.ref (m + a) :: st) s m V Q) : mE G M pc ls (.ref m :: st) s m V Q := x_get hk hf mG0 hj kk
theorem m_put {k idx j : Nat} {v : Int32} (hk : (mIn M)[k]? = some (pc, .putfield idx, 3)) (hf : xFl (mOwn M) idx 10 j) (ht : xFt 10 j false .int) (hj : j < 9) (ho : mOk j = true) (kk : mE G M (pc + 3) ls st s m (mSc V j v) Q) : mE G M pc ls (.int v :: .ref m :: st) s m V Q :=
  x_put hk hf ht mG0 hj rfl rfl (by rw [mU0 ho]; exact kk)
theorem m_nat {k p : Nat} {i : Int32} (hk : (mIn M)[k]? = some (pc, .laload, 1)) (hi : i = nI p) (hp : p < 1766) (kk : mE G M (pc + 1) ls (.long (V.1 p) :: st) s m V Q) : mE G M pc ls (.int i :: .ref (m + 1) :: st) s m V Q :=
  x_lald hk mG1 (vp_inN hi hp (by decide)) (by rw [clampN hi hp (by decide)]; exact kk)
theorem m_kat {k p : Nat} {i : Int32} (hk : (mIn M)[k]? = some (pc, .laload, 1)) (hi : i = nI p) (hp : p < 8830) (kk : mE G M (pc + 1) ls (.long (V.2.1 p) :: st) s m V Q) : mE G M pc ls (.int i :: .ref (m + 2) :: st) s m V Q :=
  x_lald hk mG2 (vp_inN hi hp (by decide)) (by rw [clampN hi hp (by decide)]; exact kk)
theorem m_nput {k p : Nat} {i : Int32} {x : Int64} (hk : (mIn M)[k]? = some (pc, .lastore, 1)) (hi : i = nI p) (hp : p < 1766) (kk : mE G M (pc + 1) ls st s m (mNo V p x) Q) : mE G M pc ls (.long x :: .int i :: .ref (m + 1) :: st) s m V Q :=
  x_last hk mG1 (vp_inN hi hp (by decide)) (by rw [clampN hi hp (by decide), mU1]; exact kk)
theorem m_kput {k p : Nat} {i : Int32} {x : Int64} (hk : (mIn M)[k]? = some (pc, .lastore, 1)) (hi : i = nI p) (hp : p < 8830) (kk : mE G M (pc + 1) ls st s m (mKe V p x) Q) : mE G M pc ls (.long x :: .int i :: .ref (m + 2) :: st) s m V Q :=
  x_last hk mG2 (vp_inN hi hp (by decide)) (by rw [clampN hi hp (by decide), mU2]; exact kk)
theorem m_tat {k p : Nat} {i : Int32} (hk : (mIn M)[k]? = some (pc, .iaload, 1)) (hi : i = nI p) (hp : p < 80) (kk : mE G M (pc + 1) ls (.int (V.2.2 1 p) :: st) s m V Q) : mE G M pc ls (.int i :: .ref (m + 3) :: st) s m V Q :=
  x_iald hk mG3 (vp_inN hi hp (by decide)) (by rw [clampN hi hp (by decide)]; exact kk)
theorem m_tput {k p : Nat} {i x : Int32} (hk : (mIn M)[k]? = some (pc, .iastore, 1)) (hi : i = nI p) (hp : p < 80) (kk : mE G M (pc + 1) ls st s m (mAr V 1 p x) Q) : mE G M pc ls (.int x :: .int i :: .ref (m + 3) :: st) s m V Q :=
  x_iast hk mG3 (vp_inN hi hp (by decide)) (by rw [clampN hi hp (by decide), mU (a := 1) (n := 80) (by omega) (fun _ => rfl)]; exact kk)
theorem m_dat {k p : Nat} {i : Int32} (hk : (mIn M)[k]? = some (pc, .iaload, 1)) (hi : i = nI p) (hp : p < 3) (kk : mE G M (pc + 1) ls (.int (V.2.2 2 p) :: st) s m V Q) : mE G M pc ls (.int i :: .ref (m + 4) :: st) s m V Q :=
  x_iald hk mG4 (vp_inN hi hp (by decide)) (by rw [clampN hi hp (by decide)]; exact kk)
theorem m_dput {k p : Nat} {i x : Int32} (hk : (mIn M)[k]? = some (pc, .iastore, 1)) (hi : i = nI p) (hp : p < 3) (kk : mE G M (pc + 1) ls st s m (mAr V 2 p x) Q) : mE G M pc ls (.int x :: .int i :: .ref (m + 4) :: st) s m V Q :=
  x_iast hk mG4 (vp_inN hi hp (by decide)) (by rw [clampN hi hp (by decide), mU (a := 2) (n := 3) (by omega) (fun _ => rfl)]; exact kk)
theorem m_bat {k p : Nat} {i : Int32} (hk : (mIn M)[k]? = some (pc, .iaload, 1)) (hi : i = nI p) (hp : p < 16) (kk : mE G M (pc + 1) ls (.int (V.2.2 3 p) :: st) s m V Q) : mE G M pc ls (.int i :: .ref (m + 5) :: st) s m V Q :=
  x_iald hk mG5 (vp_inN hi hp (by decide)) (by rw [clampN hi hp (by decide)]; exact kk)
theorem m_bput {k p : Nat} {i x : Int32} (hk : (mIn M)[k]? = some (pc, .iastore, 1)) (hi : i = nI p) (hp : p < 16) (kk : mE G M (pc + 1) ls st s m (mAr V 3 p x) Q) : mE G M pc ls (.int x :: .int i :: .ref (m + 5) :: st) s m V Q :=
  x_iast hk mG5 (vp_inN hi hp (by decide)) (by rw [clampN hi hp (by decide), mU (a := 3) (n := 16) (by omega) (fun _ => rfl)]; exact kk)
theorem m_irD {k : Nat} {v v' : Int32} {V' : Vd} {ty : FieldType} (hk : (mIn M)[k]? = some (pc, .ireturn, 1)) (hr : mRt M = some ty) (hn : narrow ty (.int v) = .int v) (hv : v = v') (hW : V = V') : mE G M pc ls [.int v] s m V (fun r W1 => r = some (.int v') ∧ W1 = V') := x_iret hk hr hn ⟨V, rfl, by rw [hv], hW⟩
theorem m_rD {k : Nat} {V' : Vd} (hk : (mIn M)[k]? = some (pc, .return_, 1)) (hr : mRt M = none) (hW : V = V') : mE G M pc ls [] s m V (fun r W1 => r = none ∧ W1 = V') := x_ret hk hr ⟨V, rfl, rfl, hW⟩
theorem m_iret {k : Nat} {v : Int32} {ty : FieldType} (hk : (mIn M)[k]? = some (pc, .ireturn, 1)) (hr : mRt M = some ty) (hn : narrow ty (.int v) = .int v) (hq : Q (some (.int v)) V) : mE G M pc ls [.int v] s m V Q := x_iret hk hr hn ⟨V, rfl, hq⟩
theorem m_ret {k : Nat} (hk : (mIn M)[k]? = some (pc, .return_, 1)) (hr : mRt M = none) (hq : Q none V) : mE G M pc ls [] s m V Q := x_ret hk hr ⟨V, rfl, hq⟩
theorem m_callI {k idx n a ci : Nat} {fs : List Value} {v : Int32} {V' : Vd} (hk : (mIn M)[k]? = some (pc, .invokevirtual idx, 3)) (hs : stk = Ar.reverse ++ .ref a :: st) (hb : mI G M' (.ref a :: Ar) s m V v V') (ho : xOk M' n) (hv : xVi (mY M')) (hw : Cond.methodLink (mOwn M) idx (mY M') ∈ gW) (hR : xRm M M') (hlen : (lg_sl (.ref a :: Ar)).length ≤ mNL M') (hn : Ar.length = n) (hc : (vwCl[ci]?).map (fun q => q.1) = some (mY M').cls) (hh : (setM G s m V).1 a = some (eO ci fs)) (hst : (st.map fun v => v.category).sum ≤ 8) (kk : mE G M (pc + 3) ls (.int v :: st) s m V' Q) : mE G M pc ls stk s m V Q :=
  x_callV hk ho hv hw hR hlen hn hc hh hst hs hb (fun r s1 h => by
    obtain ⟨Y1, rfl, q1, q2⟩ := h
    rw [q1, q2]
    exact kk)
theorem m_callV {k idx n a ci : Nat} {fs : List Value} {V' : Vd} (hk : (mIn M)[k]? = some (pc, .invokevirtual idx, 3)) (hs : stk = Ar.reverse ++ .ref a :: st) (hb : mV G M' (.ref a :: Ar) s m V V') (ho : xOk M' n) (hv : xVi (mY M')) (hw : Cond.methodLink (mOwn M) idx (mY M') ∈ gW) (hR : xRm M M') (hlen : (lg_sl (.ref a :: Ar)).length ≤ mNL M') (hn : Ar.length = n) (hc : (vwCl[ci]?).map (fun q => q.1) = some (mY M').cls) (hh : (setM G s m V).1 a = some (eO ci fs)) (hst : (st.map fun v => v.category).sum ≤ 8) (kk : mE G M (pc + 3) ls st s m V' Q) : mE G M pc ls stk s m V Q :=
  x_callV hk ho hv hw hR hlen hn hc hh hst hs hb (fun r s1 h => by
    obtain ⟨Y1, rfl, q1, q2⟩ := h
    rw [q1, q2]
    exact kk)
/-- a call of any end -/
theorem m_callX {Q' : Option Value → Vd → Prop} {k idx n a ci : Nat} {fs : List Value} (hk : (mIn M)[k]? = some (pc, .invokevirtual idx, 3)) (hs : stk = Ar.reverse ++ .ref a :: st) (hb : mMe G M' (.ref a :: Ar) s m V Q') (ho : xOk M' n) (hv : xVi (mY M')) (hw : Cond.methodLink (mOwn M) idx (mY M') ∈ gW) (hR : xRm M M') (hlen : (lg_sl (.ref a :: Ar)).length ≤ mNL M') (hn : Ar.length = n) (hc : (vwCl[ci]?).map (fun q => q.1) = some (mY M').cls) (hh : (setM G s m V).1 a = some (eO ci fs)) (hst : (st.map fun v => v.category).sum ≤ 8) (kk : ∀ (r : Option Value) (V' : Vd), Q' r V' → mE G M (pc + 3) ls (r.toList ++ st) s m V' Q) : mE G M pc ls stk s m V Q :=
  x_callV hk ho hv hw hR hlen hn hc hh hst hs hb (fun r s1 h => by
    obtain ⟨Y1, rfl, q1⟩ := h
    exact kk r Y1 q1)
end MR
-- how the world stands in the array
def adr (a i k : Nat) : Nat := match a with | 0 => 6 + 5 * i + k | 1 => 46 + 7 * i + k | 2 => 158 + 11 * i + k | _ => (match k with | 2 => 4 | 3 => 5 | 4 => 2 | 5 => 3 | j => j)
def dmn (nt nk a i k : Nat) : Prop := (a = 0 ∧ i < 8 ∧ k < 5) ∨ (a = 1 ∧ i < nt ∧ k < 7) ∨ (a = 2 ∧ i < nk ∧ k < 10) ∨ (a = 3 ∧ i = 0 ∧ k < 6)
def rlW (nt nk : Nat) (W : Wd) (N : Nat → Int64) : Prop := ∀ a i k, dmn nt nk a i k → (N (adr a i k)).toInt32 = W a i k
def rlE (hr f nt nk : Nat) (N : Nat → Int64) : Prop := N 0 = lN hr ∧ N 1 = lN f ∧ N 2 = lN nt ∧ N 3 = lN nk
theorem adr_inj {a i k a' i' k' : Nat} (h : dmn 16 10 a i k) (h' : dmn 16 10 a' i' k') (e : adr a i k = adr a' i' k') : a = a' ∧ i = i' ∧ k = k' := by
  rcases h with ⟨rfl, h1, h2⟩ | ⟨rfl, h1, h2⟩ | ⟨rfl, h1, h2⟩ | ⟨rfl, rfl, h2⟩ <;> rcases h' with ⟨rfl, g1, g2⟩ | ⟨rfl, g1, g2⟩ | ⟨rfl, g1, g2⟩ | ⟨rfl, rfl, g2⟩ <;> simp only [adr] at e
  all_goals first
    | omega
    | (rcases (by omega : k' = 0 ∨ k' = 1 ∨ k' = 2 ∨ k' = 3 ∨ k' = 4 ∨ k' = 5) with rfl | rfl | rfl | rfl | rfl | rfl <;> simp at e <;> omega)
    | (rcases (by omega : k = 0 ∨ k = 1 ∨ k = 2 ∨ k = 3 ∨ k = 4 ∨ k = 5) with rfl | rfl | rfl | rfl | rfl | rfl <;> simp at e <;> omega)
    | (rcases (by omega : k = 0 ∨ k = 1 ∨ k = 2 ∨ k = 3 ∨ k = 4 ∨ k = 5) with rfl | rfl | rfl | rfl | rfl | rfl <;> rcases (by omega : k' = 0 ∨ k' = 1 ∨ k' = 2 ∨ k' = 3 ∨ k' = 4 ∨ k' = 5) with rfl | rfl | rfl | rfl | rfl | rfl <;> simp at e <;> omega)
theorem dmn_le {nt nk nt' nk' a i k : Nat} (h : dmn nt nk a i k) (h1 : nt ≤ nt') (h2 : nk ≤ nk') : dmn nt' nk' a i k := by
  unfold dmn at h ⊢
  omega
theorem vp_upL_at {f : Nat → Int64} {k : Nat} {x : Int64} : vp_updL f k x k = x := if_pos rfl
theorem vp_upL_ne {f : Nat → Int64} {k j : Nat} {x : Int64} (h : j ≠ k) : vp_updL f k x j = f j := if_neg h
theorem rlW.set {nt nk a i k : Nat} {W : Wd} {N : Nat → Int64} {x : Int32} {v : Int64} (h : rlW nt nk W N) (ht : nt ≤ 16) (hk : nk ≤ 10) (hd : dmn nt nk a i k) (hv : v.toInt32 = x) : rlW nt nk (wSet W a i k x) (vp_updL N (adr a i k) v) := by
  intro a' i' k' hd'
  by_cases e : adr a' i' k' = adr a i k
  · obtain ⟨rfl, rfl, rfl⟩ := adr_inj (dmn_le hd' ht hk) (dmn_le hd ht hk) e
    rw [vp_upL_at, wSet_same, hv]
  · rw [vp_upL_ne e, h a' i' k' hd', wSet_r, if_neg]
    rintro ⟨rfl, rfl, rfl⟩
    exact e rfl
/-- another cell is changed, none of the world's -/
theorem rlW.els {nt nk j : Nat} {W : Wd} {N : Nat → Int64} {v : Int64} (h : rlW nt nk W N) (hj : ∀ a i k, dmn nt nk a i k → adr a i k ≠ j) : rlW nt nk W (vp_updL N j v) := fun a i k hd => (congrArg Int64.toInt32 (vp_upL_ne (hj a i k hd))).trans (h a i k hd)

