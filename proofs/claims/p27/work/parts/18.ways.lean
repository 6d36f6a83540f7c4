-- ===== the ways: five cells from an address on, as one value; the world is only looked at =====
/-- rows: 0 the object's own numbers by their fields, 1 looked, 2 leads, 3 leastBy, 4 thenLeastBy -/
abbrev Yd : Type := Nat → Nat → Int32
def ySet (Y : Yd) (a k : Nat) (v : Int32) : Yd := fun a' k' => if a' = a ∧ k' = k then v else Y a' k'
theorem ySet_at {Y : Yd} {a k : Nat} {v : Int32} : ySet Y a k v a k = v := by simp [ySet]
theorem ySet_a {Y : Yd} {a k a' k' : Nat} {v : Int32} (h : a' ≠ a) : ySet Y a k v a' k' = Y a' k' := by simp [ySet, h]
theorem ySet_k {Y : Yd} {a k a' k' : Nat} {v : Int32} (h : k' ≠ k) : ySet Y a k v a' k' = Y a' k' := by simp [ySet, h]
theorem ySet_r {Y : Yd} {a k a' k' : Nat} {v : Int32} : ySet Y a k v a' k' = if a' = a ∧ k' = k then v else Y a' k' := rfl
def yF (w y : Nat) (Y : Yd) : List Value := [.int (Y 0 0), .int (Y 0 1), .int (Y 0 2), .int (Y 0 3), .ref w, .int (Y 0 5), .int (Y 0 6), .ref (y + 1), .ref (y + 2), .ref (y + 3), .ref (y + 4)]
def yCell (G : xG) (w y : Nat) (Y : Yd) (k : Nat) : va_E := if k = 0 then eO 7 (yF w y Y) else if k = 1 then eZ G 16 (Y 1) else if k = 2 then eZ G 16 (Y 2) else if k = 3 then eI G 16 (Y 3) else eI G 16 (Y 4)
def setY (G : xG) (s : xA) (w y : Nat) (Y : Yd) : xA := (fun q => if y ≤ q ∧ q < y + 5 then some (yCell G w y Y (q - y)) else s.1 q, s.2.1, s.2.2)
def yH (G : xG) (s : xA) (w y : Nat) (W : Wd) : Prop := isW G s w W ∧ (w + 40 ≤ y ∨ y + 5 ≤ w)
section YD
variable {G : xG} {s : xA} {w y : Nat} {Y : Yd}
theorem setY_in {k : Nat} (hk : k < 5) : (setY G s w y Y).1 (y + k) = some (yCell G w y Y k) := by
  show (if y ≤ y + k ∧ y + k < y + 5 then some (yCell G w y Y (y + k - y)) else s.1 (y + k)) = _
  rw [if_pos ⟨by omega, by omega⟩, Nat.add_sub_cancel_left]
theorem setY_out {q : Nat} (h : q < y ∨ y + 5 ≤ q) : (setY G s w y Y).1 q = s.1 q := by
  show (if y ≤ q ∧ q < y + 5 then some (yCell G w y Y (q - y)) else s.1 q) = _
  rw [if_neg (by omega)]
theorem yG0 : (setY G s w y Y).1 y = some (eO 7 (yF w y Y)) := setY_in (k := 0) (by omega)
theorem yG1 : (setY G s w y Y).1 (y + 1) = some (eZ G 16 (Y 1)) := setY_in (k := 1) (by omega)
theorem yG2 : (setY G s w y Y).1 (y + 2) = some (eZ G 16 (Y 2)) := setY_in (k := 2) (by omega)
theorem yG3 : (setY G s w y Y).1 (y + 3) = some (eI G 16 (Y 3)) := setY_in (k := 3) (by omega)
theorem yG4 : (setY G s w y Y).1 (y + 4) = some (eI G 16 (Y 4)) := setY_in (k := 4) (by omega)
theorem setY_up {Y' : Yd} {k : Nat} {e : va_E} (hk : k < 5) (he : yCell G w y Y' k = e) (ho : ∀ j, j < 5 → j ≠ k → yCell G w y Y' j = yCell G w y Y j) : aUp (setY G s w y Y) (y + k) e = setY G s w y Y' := by
  refine Prod.ext (funext fun q => ?_) rfl
  show (if q = y + k then some e else if y ≤ q ∧ q < y + 5 then some (yCell G w y Y (q - y)) else s.1 q) = if y ≤ q ∧ q < y + 5 then some (yCell G w y Y' (q - y)) else s.1 q
  by_cases h1 : q = y + k
  · rw [if_pos h1, if_pos (by omega), h1, Nat.add_sub_cancel_left, he]
  · rw [if_neg h1]
    by_cases h2 : y ≤ q ∧ q < y + 5
    · rw [if_pos h2, if_pos h2, ho (q - y) (by omega) (by omega)]
    · rw [if_neg h2, if_neg h2]
/-- which field holds which number -/
def yOk (j : Nat) : Bool := decide (j < 4) || decide (j = 5) || decide (j = 6)
theorem yF_at {j : Nat} (h : yOk j = true) : (yF w y Y)[j]? = some (.int (Y 0 j)) := by
  have : j < 4 ∨ j = 5 ∨ j = 6 := by simp only [yOk, Bool.or_eq_true, decide_eq_true_eq] at h; omega
  rcases (by omega : j = 0 ∨ j = 1 ∨ j = 2 ∨ j = 3 ∨ j = 5 ∨ j = 6) with rfl | rfl | rfl | rfl | rfl | rfl <;> rfl
theorem yF_put {j : Nat} {v : Int32} (h : yOk j = true) : yF w y (ySet Y 0 j v) = (yF w y Y).set j (.int v) := by
  have : j < 4 ∨ j = 5 ∨ j = 6 := by simp only [yOk, Bool.or_eq_true, decide_eq_true_eq] at h; omega
  rcases (by omega : j = 0 ∨ j = 1 ∨ j = 2 ∨ j = 3 ∨ j = 5 ∨ j = 6) with rfl | rfl | rfl | rfl | rfl | rfl <;> simp [yF, ySet]
theorem yF_set {a k : Nat} {v : Int32} (h : a ≠ 0) : yF w y (ySet Y a k v) = yF w y Y := by simp only [yF, ySet_a (Ne.symm h)]
theorem yR_set {a b k : Nat} {v : Int32} (h : b ≠ a) : ySet Y a k v b = Y b := funext fun _ => ySet_a h
theorem yR_put {a k : Nat} {v : Int32} : ySet Y a k v a = upd (Y a) k v := by
  funext q
  unfold ySet upd
  by_cases e : q = k
  · rw [if_pos ⟨rfl, e⟩, if_pos e]
  · rw [if_neg (fun h => e h.2), if_neg e]
theorem yU0 {j : Nat} {v : Int32} (h : yOk j = true) : aUp (setY G s w y Y) y (eO 7 ((yF w y Y).set j (.int v))) = setY G s w y (ySet Y 0 j v) :=
  setY_up (k := 0) (by omega) (by rw [yCell, if_pos rfl, yF_put h]) (fun i hi hne => by
    unfold yCell
    rw [yR_set (by decide), yR_set (by decide), yR_set (by decide), yR_set (by decide), if_neg hne, if_neg hne])
theorem yU {a k : Nat} {v : Int32} (h0 : 0 < a) (h5 : a < 5) : ∀ e : va_E, yCell G w y (ySet Y a k v) a = e → aUp (setY G s w y Y) (y + a) e = setY G s w y (ySet Y a k v) := fun e he =>
  setY_up h5 he (fun i hi hne => by
    unfold yCell
    rw [yF_set (by omega)]
    rcases (by omega : i = 0 ∨ i = 1 ∨ i = 2 ∨ i = 3 ∨ i = 4) with rfl | rfl | rfl | rfl | rfl
    · rfl
    all_goals rw [yR_set hne]
    all_goals simp)
end YD
abbrev yE (G : xG) (M : xM) (pc : Nat) (ls : List (Nat × Value)) (st : List Value) (s : xA) (w y : Nat) (Y : Yd) (Q : Option Value → Yd → Prop) : Prop := xE G M pc ls st (setY G s w y Y) (fun r s' => ∃ Y', s' = setY G s w y Y' ∧ Q r Y')
abbrev yMe (G : xG) (M : xM) (As : List Value) (s : xA) (w y : Nat) (Y : Yd) (Q : Option Value → Yd → Prop) : Prop := xMe G M As (setY G s w y Y) (fun r s' => ∃ Y', s' = setY G s w y Y' ∧ Q r Y')
abbrev yI (G : xG) (M : xM) (As : List Value) (s : xA) (w y : Nat) (Y : Yd) (v : Int32) (Y' : Yd) : Prop := yMe G M As s w y Y (fun r Y1 => r = some (.int v) ∧ Y1 = Y')
abbrev yV (G : xG) (M : xM) (As : List Value) (s : xA) (w y : Nat) (Y Y' : Yd) : Prop := yMe G M As s w y Y (fun r Y1 => r = none ∧ Y1 = Y')
section YR
variable {G : xG} {M M' : xM} {pc : Nat} {ls : List (Nat × Value)} {st stk Ar : List Value} {s : xA} {w y : Nat} {Y : Yd} {W : Wd} {Q : Option Value → Yd → Prop}
theorem y_get {k idx j : Nat} (hk : (mIn M)[k]? = some (pc, .getfield idx, 3)) (hf : xFl (mOwn M) idx 7 j) (hj : yOk j = true) (kk : yE G M (pc + 3) ls (.int (Y 0 j) :: st) s w y Y Q) : yE G M pc ls (.ref y :: st) s w y Y Q := x_get hk hf yG0 (yF_at hj) kk
theorem y_getW {k idx : Nat} (hk : (mIn M)[k]? = some (pc, .getfield idx, 3)) (hf : xFl (mOwn M) idx 7 4) (kk : yE G M (pc + 3) ls (.ref w :: st) s w y Y Q) : yE G M pc ls (.ref y :: st) s w y Y Q := x_get hk hf yG0 rfl kk
theorem y_getA {k idx j a : Nat} (hk : (mIn M)[k]? = some (pc, .getfield idx, 3)) (hf : xFl (mOwn M) idx 7 j) (ha : a = j - 6) (hj : (yF w y Y)[j]? = some (.ref (y + a))) (kk : yE G M (pc + 3) ls (.ref (y + a) :: st) s w y Y Q) : yE G M pc ls (.ref y :: st) s w y Y Q := x_get hk hf yG0 hj kk
theorem y_put {k idx j : Nat} {v : Int32} {ty : FieldType} (hk : (mIn M)[k]? = some (pc, .putfield idx, 3)) (hf : xFl (mOwn M) idx 7 j) (ht : xFt 7 j false ty) (hj : j < 11) (ho : yOk j = true) (hfit : fits ty (.int v) = true) (hn : narrow ty (.int v) = .int v) (kk : yE G M (pc + 3) ls st s w y (ySet Y 0 j v) Q) : yE G M pc ls (.int v :: .ref y :: st) s w y Y Q :=
  x_put hk hf ht yG0 hj hn hfit (by rw [yU0 ho]; exact kk)
theorem y_zat {k p a : Nat} {i : Int32} (hk : (mIn M)[k]? = some (pc, .baload, 1)) (hi : i = nI p) (hp : p < 16) (ha : (setY G s w y Y).1 (y + a) = some (eZ G 16 (Y a))) (kk : yE G M (pc + 1) ls (.int (Y a p) :: st) s w y Y Q) : yE G M pc ls (.int i :: .ref (y + a) :: st) s w y Y Q :=
  x_zald hk ha (vp_inN hi hp (by decide)) (by rw [clampN hi hp (by decide)]; exact kk)
theorem y_iat {k p a : Nat} {i : Int32} (hk : (mIn M)[k]? = some (pc, .iaload, 1)) (hi : i = nI p) (hp : p < 16) (ha : (setY G s w y Y).1 (y + a) = some (eI G 16 (Y a))) (kk : yE G M (pc + 1) ls (.int (Y a p) :: st) s w y Y Q) : yE G M pc ls (.int i :: .ref (y + a) :: st) s w y Y Q :=
  x_iald hk ha (vp_inN hi hp (by decide)) (by rw [clampN hi hp (by decide)]; exact kk)
theorem y_zput {k p a : Nat} {i x : Int32} (hk : (mIn M)[k]? = some (pc, .bastore, 1)) (hi : i = nI p) (hp : p < 16) (hx : vp_nar .boolean x = x) (ha : a = 1 ∨ a = 2) (kk : yE G M (pc + 1) ls st s w y (ySet Y a p x) Q) : yE G M pc ls (.int x :: .int i :: .ref (y + a) :: st) s w y Y Q := by
  have h1 : (setY G s w y Y).1 (y + a) = some (eZ G 16 (Y a)) := by
    rcases ha with rfl | rfl
    · exact yG1
    · exact yG2
  refine x_zast hk h1 (vp_inN hi hp (by decide)) ?_
  rw [clampN hi hp (by decide), hx, yU (a := a) (k := p) (v := x) (by omega) (by omega) _ (by rcases ha with rfl | rfl <;> · rw [yCell, yR_put]; rfl)]
  exact kk
theorem y_iput {k p a : Nat} {i x : Int32} (hk : (mIn M)[k]? = some (pc, .iastore, 1)) (hi : i = nI p) (hp : p < 16) (ha : a = 3 ∨ a = 4) (kk : yE G M (pc + 1) ls st s w y (ySet Y a p x) Q) : yE G M pc ls (.int x :: .int i :: .ref (y + a) :: st) s w y Y Q := by
  have h1 : (setY G s w y Y).1 (y + a) = some (eI G 16 (Y a)) := by
    rcases ha with rfl | rfl
    · exact yG3
    · exact yG4
  refine x_iast hk h1 (vp_inN hi hp (by decide)) ?_
  rw [clampN hi hp (by decide), yU (a := a) (k := p) (v := x) (by omega) (by omega) _ (by rcases ha with rfl | rfl <;> · rw [yCell, yR_put]; rfl)]
  exact kk
-- the world
theorem yH.is (hY : yH G s w y W) : isW G (setY G s w y Y) w W := isW_kept hY.1 (fun k hk => setY_out (by have := hY.2; omega))
theorem y_W0 (hY : yH G s w y W) : (setY G s w y Y).1 w = some (eO 8 (fW W w)) := isW_0 hY.is
theorem y_cell (hY : yH G s w y W) {q : Nat} (h1 : w ≤ q) (h2 : q < w + 40) : (setY G s w y Y).1 q = (setW G s w W).1 q := by
  have := hY.is (Y := Y) (q - w) (by omega)
  have e := setW_in (G := G) (s := s) (w := w) (W := W) (k := q - w) (by omega)
  rw [show w + (q - w) = q by omega] at this e
  exact this.trans e.symm
theorem y_WT (hY : yH G s w y W) {p : Nat} (hp : p < 16) : (setY G s w y Y).1 (w + 14 + p) = some (eO 6 (fT W p)) := (y_cell hY (by omega) (by omega)).trans (wGT hp)
theorem y_WK (hY : yH G s w y W) {p : Nat} (hp : p < 10) : (setY G s w y Y).1 (w + 30 + p) = some (eO 2 (fK W p)) := (y_cell hY (by omega) (by omega)).trans (wGK hp)
theorem y_wget (hY : yH G s w y W) {k idx j : Nat} (hk : (mIn M)[k]? = some (pc, .getfield idx, 3)) (hf : xFl (mOwn M) idx 8 j) (hj : j < 6) (kk : yE G M (pc + 3) ls (.int (W 3 0 j) :: st) s w y Y Q) : yE G M pc ls (.ref w :: st) s w y Y Q := x_get hk hf (y_W0 hY) (fW_at hj) kk
theorem y_wT (hY : yH G s w y W) {k idx : Nat} (hk : (mIn M)[k]? = some (pc, .getfield idx, 3)) (hf : xFl (mOwn M) idx 8 7) (kk : yE G M (pc + 3) ls (.ref (w + 2) :: st) s w y Y Q) : yE G M pc ls (.ref w :: st) s w y Y Q := x_get hk hf (y_W0 hY) rfl kk
theorem y_wK (hY : yH G s w y W) {k idx : Nat} (hk : (mIn M)[k]? = some (pc, .getfield idx, 3)) (hf : xFl (mOwn M) idx 8 8) (kk : yE G M (pc + 3) ls (.ref (w + 3) :: st) s w y Y Q) : yE G M pc ls (.ref w :: st) s w y Y Q := x_get hk hf (y_W0 hY) rfl kk
theorem y_atT (hY : yH G s w y W) {k p : Nat} {i : Int32} (hk : (mIn M)[k]? = some (pc, .aaload, 1)) (hi : i = nI p) (hp : p < 16) (kk : yE G M (pc + 1) ls (.ref (w + 14 + p) :: st) s w y Y Q) : yE G M pc ls (.int i :: .ref (w + 2) :: st) s w y Y Q :=
  x_aald (t := 5) hk rfl ((y_cell hY (by omega) (by omega)).trans wG2) (vp_inN hi hp (by decide)) (by rw [clampN hi hp (by decide), rTo_at hp]; exact kk)
theorem y_atK (hY : yH G s w y W) {k p : Nat} {i : Int32} (hk : (mIn M)[k]? = some (pc, .aaload, 1)) (hi : i = nI p) (hp : p < 10) (kk : yE G M (pc + 1) ls (.ref (w + 30 + p) :: st) s w y Y Q) : yE G M pc ls (.int i :: .ref (w + 3) :: st) s w y Y Q :=
  x_aald (t := 6) hk rfl ((y_cell hY (by omega) (by omega)).trans wG3) (vp_inN hi hp (by decide)) (by rw [clampN hi hp (by decide), rTo_at hp]; exact kk)
theorem y_fT (hY : yH G s w y W) {k idx p j : Nat} (hk : (mIn M)[k]? = some (pc, .getfield idx, 3)) (hf : xFl (mOwn M) idx 6 j) (hp : p < 16) (hj : j < 7) (kk : yE G M (pc + 3) ls (.int (W 1 p j) :: st) s w y Y Q) : yE G M pc ls (.ref (w + 14 + p) :: st) s w y Y Q := x_get hk hf (y_WT hY hp) (fT_at hj) kk
theorem y_fK (hY : yH G s w y W) {k idx p j : Nat} (hk : (mIn M)[k]? = some (pc, .getfield idx, 3)) (hf : xFl (mOwn M) idx 2 j) (hp : p < 10) (hj : j < 10) (kk : yE G M (pc + 3) ls (.int (W 2 p j) :: st) s w y Y Q) : yE G M pc ls (.ref (w + 30 + p) :: st) s w y Y Q := x_get hk hf (y_WK hY hp) (fK_at hj) kk
theorem y_irD {k : Nat} {v v' : Int32} {Y' : Yd} {ty : FieldType} (hk : (mIn M)[k]? = some (pc, .ireturn, 1)) (hr : mRt M = some ty) (hn : narrow ty (.int v) = .int v) (hv : v = v') (hW : Y = Y') : yE G M pc ls [.int v] s w y Y (fun r W1 => r = some (.int v') ∧ W1 = Y') := x_iret hk hr hn ⟨Y, rfl, by rw [hv], hW⟩
theorem y_rD {k : Nat} {Y' : Yd} (hk : (mIn M)[k]? = some (pc, .return_, 1)) (hr : mRt M = none) (hW : Y = Y') : yE G M pc ls [] s w y Y (fun r W1 => r = none ∧ W1 = Y') := x_ret hk hr ⟨Y, rfl, rfl, hW⟩
theorem y_callI {k idx n a ci : Nat} {fs : List Value} {v : Int32} {Y' : Yd} (hk : (mIn M)[k]? = some (pc, .invokevirtual idx, 3)) (hs : stk = Ar.reverse ++ .ref a :: st) (hb : yI G M' (.ref a :: Ar) s w y Y v Y') (ho : xOk M' n) (hv : xVi (mY M')) (hw : Cond.methodLink (mOwn M) idx (mY M') ∈ gW) (hR : xRm M M') (hlen : (lg_sl (.ref a :: Ar)).length ≤ mNL M') (hn : Ar.length = n) (hc : (vwCl[ci]?).map (fun q => q.1) = some (mY M').cls) (hh : (setY G s w y Y).1 a = some (eO ci fs)) (hst : (st.map fun v => v.category).sum ≤ 8) (kk : yE G M (pc + 3) ls (.int v :: st) s w y Y' Q) : yE G M pc ls stk s w y Y Q :=
  x_callV hk ho hv hw hR hlen hn hc hh hst hs hb (fun r s1 h => by
    obtain ⟨Y1, rfl, q1, q2⟩ := h
    rw [q1, q2]
    exact kk)
theorem y_callV {k idx n a ci : Nat} {fs : List Value} {Y' : Yd} (hk : (mIn M)[k]? = some (pc, .invokevirtual idx, 3)) (hs : stk = Ar.reverse ++ .ref a :: st) (hb : yV G M' (.ref a :: Ar) s w y Y Y') (ho : xOk M' n) (hv : xVi (mY M')) (hw : Cond.methodLink (mOwn M) idx (mY M') ∈ gW) (hR : xRm M M') (hlen : (lg_sl (.ref a :: Ar)).length ≤ mNL M') (hn : Ar.length = n) (hc : (vwCl[ci]?).map (fun q => q.1) = some (mY M').cls) (hh : (setY G s w y Y).1 a = some (eO ci fs)) (hst : (st.map fun v => v.category).sum ≤ 8) (kk : yE G M (pc + 3) ls st s w y Y' Q) : yE G M pc ls stk s w y Y Q :=
  x_callV hk ho hv hw hR hlen hn hc hh hst hs hb (fun r s1 h => by
    obtain ⟨Y1, rfl, q1, q2⟩ := h
    rw [q1, q2]
    exact kk)
theorem y_callW {k idx n a ci : Nat} {fs : List Value} {v : Int32} (hk : (mIn M)[k]? = some (pc, .invokevirtual idx, 3)) (hs : stk = Ar.reverse ++ .ref a :: st) (hb : xMe G M' (.ref a :: Ar) (setY G s w y Y) (fun r s1 => r = some (.int v) ∧ s1 = setY G s w y Y)) (ho : xOk M' n) (hv : xVi (mY M')) (hw : Cond.methodLink (mOwn M) idx (mY M') ∈ gW) (hR : xRm M M') (hlen : (lg_sl (.ref a :: Ar)).length ≤ mNL M') (hn : Ar.length = n) (hc : (vwCl[ci]?).map (fun q => q.1) = some (mY M').cls) (hh : (setY G s w y Y).1 a = some (eO ci fs)) (hst : (st.map fun v => v.category).sum ≤ 8) (kk : yE G M (pc + 3) ls (.int v :: st) s w y Y Q) : yE G M pc ls stk s w y Y Q :=
  x_cVI hk hs hb ho hv hw hR hlen hn hc hh hst kk
end YR
-- what the ways' methods answer
abbrev bet (Y : Yd) (i j : Nat) : Prop := if Y 3 i = Y 3 j then Y 4 i < Y 4 j else Y 3 i < Y 3 j
abbrev bfC (W : Wd) (Y : Yd) (tn hr x : Int32) (i : Nat) : Prop := (¬ Y 2 i = 0 ∧ cau W i tn hr) ∧ (x = -9 ∨ bet Y i (ix x))
def bfTo (W : Wd) (Y : Yd) (tn hr : Int32) : Nat → Int32
  | 0 => -9
  | n + 1 => if bfC W Y tn hr (bfTo W Y tn hr n) n then nI n else bfTo W Y tn hr n
theorem bfTo_is {W : Wd} {Y : Yd} {tn hr : Int32} : ∀ i, bfTo W Y tn hr i = -9 ∨ ∃ j, j < i ∧ bfTo W Y tn hr i = nI j
  | 0 => Or.inl rfl
  | i + 1 => by
    rw [bfTo]
    split
    · exact Or.inr ⟨i, by omega, rfl⟩
    · rcases bfTo_is i with h | ⟨j, hj, h⟩
      · exact Or.inl h
      · exact Or.inr ⟨j, by omega, h⟩
abbrev llC (W : Wd) (Y : Yd) (x i : Nat) : Prop := Y 1 i = 0 ∧ (¬ Y 1 x = 0 ∨ W 1 x 3 < W 1 i 3)
def llTo (W : Wd) (Y : Yd) : Nat → Nat
  | 0 => 0
  | n + 1 => if llC W Y (llTo W Y n) (n + 1) then n + 1 else llTo W Y n
theorem llTo_lt {W : Wd} {Y : Yd} : ∀ i, llTo W Y i ≤ i
  | 0 => Nat.le_refl _
  | i + 1 => by
    rw [llTo]
    split
    · exact Nat.le_refl _
    · exact Nat.le_trans (llTo_lt i) (Nat.le_succ i)
def yLk (W : Wd) (Y : Yd) (i : Nat) : Yd := ySet Y 1 i 1
def yLoA (W : Wd) (Y : Yd) (i : Nat) : Yd := ySet (ySet (ySet (yLk W Y i) 2 i 1) 3 i (if Y 0 6 = 0 then W 1 i 4 else W 1 i 5)) 4 i (if Y 0 6 = 0 then 1 else W 1 i 4)
def yLoB (W : Wd) (Y : Yd) (i b : Nat) : Yd := ySet (ySet (ySet (yLk W Y i) 2 i 1) 3 i (Y 3 b + if Y 0 6 = 0 then 0 else W 1 i 5)) 4 i (Y 4 b + if Y 0 6 = 0 then 1 else 0)
def yLook (W : Wd) (Y : Yd) (i : Nat) : Yd := if W 1 i 2 = Y 0 5 then yLoA W Y i else if bfTo W (yLk W Y i) (W 1 i 2) (W 1 i 4) (cT W) = -9 then yLk W Y i else yLoB W Y i (ix (bfTo W (yLk W Y i) (W 1 i 2) (W 1 i 4) (cT W)))
def yClr (Y : Yd) : Nat → Yd
  | 0 => Y
  | n + 1 => ySet (ySet (yClr Y n) 1 n 0) 2 n 0
def yAll (W : Wd) (Y : Yd) : Nat → Yd
  | 0 => Y
  | n + 1 => yLook W (yAll W Y n) (llTo W (yAll W Y n) (cT W - 1))
abbrev ybC (W : Wd) (Y : Yd) (tn hr : Int32) (i : Nat) : Prop := (¬ Y 2 i = 0 ∧ cau W i tn hr) ∧ Y 3 i = Y 0 1
def ybTo (W : Wd) (Y : Yd) (tn hr : Int32) : Nat → Yd
  | 0 => Y
  | n + 1 => ybTo W (if ybC W Y tn hr n then ySet Y 0 3 (nI n) else Y) tn hr n
def yBeF (Y : Yd) (b : Int32) : Yd := ySet Y 0 0 (bz (¬ b = -9))
def yBeG (Y : Yd) (b : Int32) : Yd := ySet (ySet (ySet (yBeF Y b) 0 1 (Y 3 (ix b))) 0 2 (Y 4 (ix b))) 0 3 b
def yBeg (W : Wd) (Y : Yd) (tn hr : Int32) : Yd := if bfTo W Y tn hr (cT W) = -9 then yBeF Y (-9) else ybTo W (yBeG Y (bfTo W Y tn hr (cT W))) tn hr (ix (bfTo W Y tn hr (cT W)))
def yTn (W : Wd) (k : Nat) : Int32 := if sOn W (W 2 k 6) = -9 then sTown W (W 2 k 6) else W 1 (ix (sOn W (W 2 k 6))) 2
def yHr (W : Wd) (k : Nat) : Int32 := if sOn W (W 2 k 6) = -9 then W 3 0 0 else W 1 (ix (sOn W (W 2 k 6))) 4
def yIn (W : Wd) (Y : Yd) (k : Nat) (c : Int32) : Yd := ySet (ySet Y 0 6 c) 0 5 (W 2 k 2)
def yThe (Y : Yd) (hr : Int32) : Yd := ySet (ySet (ySet (ySet Y 0 0 1) 0 1 (if Y 0 6 = 0 then hr else 0)) 0 2 (if Y 0 6 = 0 then 0 else hr)) 0 3 (-9)
def ySea (W : Wd) (Y : Yd) (k : Nat) (c : Int32) : Yd := if yTn W k = W 2 k 2 then yThe (yIn W Y k c) (yHr W k) else yBeg W (yAll W (yClr (yIn W Y k c) (cT W)) (cT W)) (yTn W k) (yHr W k)
