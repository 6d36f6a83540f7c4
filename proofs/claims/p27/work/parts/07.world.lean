-- ===== the world: forty cells from an address on, as one value =====
/-- rows of numbers: 0 persons, 1 trips, 2 parcels, 3 the world's own (row 0), 4 the holders' size, 5 the holders' entries (row 0) -/
abbrev Wd : Type := Nat → Nat → Nat → Int32
def wSet (W : Wd) (a i k : Nat) (v : Int32) : Wd := fun a' i' k' => if a' = a ∧ i' = i ∧ k' = k then v else W a' i' k'
def wEnt (W : Wd) (g : Nat → Int32) : Wd := fun a i k => if a = 5 ∧ i = 0 then g k else W a i k
theorem wSet_same (W : Wd) (a i k : Nat) (v : Int32) : wSet W a i k v a i k = v := by simp [wSet]
theorem wSet_a {W : Wd} {a i k a' i' k' : Nat} {v : Int32} (h : a' ≠ a) : wSet W a i k v a' i' k' = W a' i' k' := by simp [wSet, h]
theorem wSet_i {W : Wd} {a i k a' i' k' : Nat} {v : Int32} (h : i' ≠ i) : wSet W a i k v a' i' k' = W a' i' k' := by simp [wSet, h]
theorem wSet_k {W : Wd} {a i k a' i' k' : Nat} {v : Int32} (h : k' ≠ k) : wSet W a i k v a' i' k' = W a' i' k' := by simp [wSet, h]
def fW (W : Wd) (w : Nat) : List Value := [.int (W 3 0 0), .int (W 3 0 1), .int (W 3 0 2), .int (W 3 0 3), .int (W 3 0 4), .int (W 3 0 5), .ref (w + 1), .ref (w + 2), .ref (w + 3), .ref (w + 4)]
def fP (W : Wd) (i : Nat) : List Value := [.int (W 0 i 0), .int (W 0 i 1), .int (W 0 i 2), .int (W 0 i 3), .int (W 0 i 4)]
def fT (W : Wd) (i : Nat) : List Value := [.int (W 1 i 0), .int (W 1 i 1), .int (W 1 i 2), .int (W 1 i 3), .int (W 1 i 4), .int (W 1 i 5), .int (W 1 i 6)]
def fK (W : Wd) (i : Nat) : List Value := [.int (W 2 i 0), .int (W 2 i 1), .int (W 2 i 2), .int (W 2 i 3), .int (W 2 i 4), .int (W 2 i 5), .int (W 2 i 6), .int (W 2 i 7), .int (W 2 i 8), .int (W 2 i 9)]
def fH (W : Wd) (w : Nat) : List Value := [.ref (w + 5), .int (W 4 0 0)]
def rTo (n b : Nat) : Nat → Option Nat := fun i => if i < n then some (b + i) else none
def wCell (G : xG) (w : Nat) (W : Wd) (k : Nat) : va_E :=
  if k = 0 then eO 8 (fW W w) else if k = 1 then eR G 4 8 (rTo 8 (w + 6)) else if k = 2 then eR G 5 16 (rTo 16 (w + 14)) else if k = 3 then eR G 6 10 (rTo 10 (w + 30))
  else if k = 4 then eO 1 (fH W w) else if k = 5 then eI G 512 (fun j => W 5 0 j) else if k < 14 then eO 3 (fP W (k - 6)) else if k < 30 then eO 6 (fT W (k - 14)) else eO 2 (fK W (k - 30))
def setW (G : xG) (s : xA) (w : Nat) (W : Wd) : xA := (fun q => if w ≤ q ∧ q < w + 40 then some (wCell G w W (q - w)) else s.1 q, s.2.1, s.2.2)
section WD
variable {G : xG} {s : xA} {w : Nat} {W : Wd}
theorem setW_in {k : Nat} (hk : k < 40) : (setW G s w W).1 (w + k) = some (wCell G w W k) := by
  show (if w ≤ w + k ∧ w + k < w + 40 then some (wCell G w W (w + k - w)) else s.1 (w + k)) = _
  rw [if_pos ⟨by omega, by omega⟩, Nat.add_sub_cancel_left]
theorem setW_out {q : Nat} (h : q < w ∨ w + 40 ≤ q) : (setW G s w W).1 q = s.1 q := by
  show (if w ≤ q ∧ q < w + 40 then some (wCell G w W (q - w)) else s.1 q) = _
  rw [if_neg (by omega)]
theorem wG0 : (setW G s w W).1 w = some (eO 8 (fW W w)) := setW_in (k := 0) (by omega)
theorem wG1 : (setW G s w W).1 (w + 1) = some (eR G 4 8 (rTo 8 (w + 6))) := setW_in (k := 1) (by omega)
theorem wG2 : (setW G s w W).1 (w + 2) = some (eR G 5 16 (rTo 16 (w + 14))) := setW_in (k := 2) (by omega)
theorem wG3 : (setW G s w W).1 (w + 3) = some (eR G 6 10 (rTo 10 (w + 30))) := setW_in (k := 3) (by omega)
theorem wG4 : (setW G s w W).1 (w + 4) = some (eO 1 (fH W w)) := setW_in (k := 4) (by omega)
theorem wG5 : (setW G s w W).1 (w + 5) = some (eI G 512 (fun j => W 5 0 j)) := setW_in (k := 5) (by omega)
theorem wGP {i : Nat} (h : i < 8) : (setW G s w W).1 (w + 6 + i) = some (eO 3 (fP W i)) := by
  rw [Nat.add_assoc, setW_in (by omega), wCell, if_neg (by omega), if_neg (by omega), if_neg (by omega), if_neg (by omega), if_neg (by omega), if_neg (by omega), if_pos (by omega), Nat.add_sub_cancel_left]
theorem wGT {i : Nat} (h : i < 16) : (setW G s w W).1 (w + 14 + i) = some (eO 6 (fT W i)) := by
  rw [Nat.add_assoc, setW_in (by omega), wCell, if_neg (by omega), if_neg (by omega), if_neg (by omega), if_neg (by omega), if_neg (by omega), if_neg (by omega), if_neg (by omega), if_pos (by omega), Nat.add_sub_cancel_left]
theorem wGK {i : Nat} (h : i < 10) : (setW G s w W).1 (w + 30 + i) = some (eO 2 (fK W i)) := by
  rw [Nat.add_assoc, setW_in (by omega), wCell, if_neg (by omega), if_neg (by omega), if_neg (by omega), if_neg (by omega), if_neg (by omega), if_neg (by omega), if_neg (by omega), if_neg (by omega), Nat.add_sub_cancel_left]
/-- one cell changed: the value changed, if all other cells stay -/
theorem setW_up {W' : Wd} {k : Nat} {e : va_E} (hk : k < 40) (he : wCell G w W' k = e) (ho : ∀ j, j < 40 → j ≠ k → wCell G w W' j = wCell G w W j) : aUp (setW G s w W) (w + k) e = setW G s w W' := by
  refine Prod.ext (funext fun q => ?_) rfl
  show (if q = w + k then some e else if w ≤ q ∧ q < w + 40 then some (wCell G w W (q - w)) else s.1 q) = if w ≤ q ∧ q < w + 40 then some (wCell G w W' (q - w)) else s.1 q
  by_cases h1 : q = w + k
  · rw [if_pos h1, if_pos (by omega), h1, Nat.add_sub_cancel_left, he]
  · rw [if_neg h1]
    by_cases h2 : w ≤ q ∧ q < w + 40
    · rw [if_pos h2, if_pos h2, ho (q - w) (by omega) (by omega)]
    · rw [if_neg h2, if_neg h2]

theorem fW_set {a i k : Nat} {v : Int32} (h : a ≠ 3) : fW (wSet W a i k v) w = fW W w := by
  simp only [fW, wSet_a (Ne.symm h)]
theorem fH_set {a i k : Nat} {v : Int32} (h : a ≠ 4) : fH (wSet W a i k v) w = fH W w := by
  simp only [fH, wSet_a (Ne.symm h)]
theorem fE_set {a i k : Nat} {v : Int32} (h : a ≠ 5) : (fun j => wSet W a i k v 5 0 j) = fun j => W 5 0 j := by
  funext j
  exact wSet_a (Ne.symm h)
theorem fP_set {a i k j : Nat} {v : Int32} (h : a ≠ 0 ∨ j ≠ i) : fP (wSet W a i k v) j = fP W j := by
  have e : ∀ k', wSet W a i k v 0 j k' = W 0 j k' := fun k' => by
    rcases h with h | h
    · exact wSet_a (Ne.symm h)
    · exact wSet_i h
  simp only [fP, e]
theorem fP_put {i k : Nat} {v : Int32} (hk : k < 5) : fP (wSet W 0 i k v) i = (fP W i).set k (.int v) := by
  rcases (by omega : k = 0 ∨ k = 1 ∨ k = 2 ∨ k = 3 ∨ k = 4) with rfl | rfl | rfl | rfl | rfl <;> simp [fP, wSet]
theorem fT_set {a i k j : Nat} {v : Int32} (h : a ≠ 1 ∨ j ≠ i) : fT (wSet W a i k v) j = fT W j := by
  have e : ∀ k', wSet W a i k v 1 j k' = W 1 j k' := fun k' => by
    rcases h with h | h
    · exact wSet_a (Ne.symm h)
    · exact wSet_i h
  simp only [fT, e]
theorem fT_put {i k : Nat} {v : Int32} (hk : k < 7) : fT (wSet W 1 i k v) i = (fT W i).set k (.int v) := by
  rcases (by omega : k = 0 ∨ k = 1 ∨ k = 2 ∨ k = 3 ∨ k = 4 ∨ k = 5 ∨ k = 6) with rfl | rfl | rfl | rfl | rfl | rfl | rfl <;> simp [fT, wSet]
theorem fK_set {a i k j : Nat} {v : Int32} (h : a ≠ 2 ∨ j ≠ i) : fK (wSet W a i k v) j = fK W j := by
  have e : ∀ k', wSet W a i k v 2 j k' = W 2 j k' := fun k' => by
    rcases h with h | h
    · exact wSet_a (Ne.symm h)
    · exact wSet_i h
  simp only [fK, e]
theorem fK_put {i k : Nat} {v : Int32} (hk : k < 10) : fK (wSet W 2 i k v) i = (fK W i).set k (.int v) := by
  rcases (by omega : k = 0 ∨ k = 1 ∨ k = 2 ∨ k = 3 ∨ k = 4 ∨ k = 5 ∨ k = 6 ∨ k = 7 ∨ k = 8 ∨ k = 9) with rfl | rfl | rfl | rfl | rfl | rfl | rfl | rfl | rfl | rfl <;> simp [fK, wSet]
theorem fW_put {k : Nat} {v : Int32} (hk : k < 6) : fW (wSet W 3 0 k v) w = (fW W w).set k (.int v) := by
  rcases (by omega : k = 0 ∨ k = 1 ∨ k = 2 ∨ k = 3 ∨ k = 4 ∨ k = 5) with rfl | rfl | rfl | rfl | rfl | rfl <;> simp [fW, wSet]
theorem fH_put {v : Int32} : fH (wSet W 4 0 0 v) w = (fH W w).set 1 (.int v) := by simp [fH, wSet]
theorem wU0 {k : Nat} {v : Int32} (hk : k < 6) : aUp (setW G s w W) w (eO 8 ((fW W w).set k (.int v))) = setW G s w (wSet W 3 0 k v) := by
  refine setW_up (k := 0) (by omega) ?_ (fun j h1 h2 => ?_)
  · rw [wCell, if_pos rfl, fW_put hk]
  · unfold wCell
    rw [if_neg h2, if_neg h2, fH_set (by decide), fE_set (by decide), fP_set (Or.inl (by decide)), fT_set (Or.inl (by decide)), fK_set (Or.inl (by decide))]
theorem wU4 {v : Int32} : aUp (setW G s w W) (w + 4) (eO 1 ((fH W w).set 1 (.int v))) = setW G s w (wSet W 4 0 0 v) := by
  refine setW_up (k := 4) (by omega) ?_ (fun j h1 h2 => ?_)
  · rw [wCell, if_neg (by decide), if_neg (by decide), if_neg (by decide), if_neg (by decide), if_pos rfl, fH_put]
  · unfold wCell
    rw [if_neg h2, if_neg h2, fW_set (by decide), fE_set (by decide), fP_set (Or.inl (by decide)), fT_set (Or.inl (by decide)), fK_set (Or.inl (by decide))]
theorem wU5 {j : Nat} {v : Int32} : aUp (setW G s w W) (w + 5) (eI G 512 (upd (fun j => W 5 0 j) j v)) = setW G s w (wSet W 5 0 j v) := by
  refine setW_up (k := 5) (by omega) ?_ (fun j' h1 h2 => ?_)
  · rw [wCell, if_neg (by decide), if_neg (by decide), if_neg (by decide), if_neg (by decide), if_neg (by decide), if_pos rfl]
    congr 4
    funext x
    simp [wSet, upd]
  · unfold wCell
    rw [if_neg h2, if_neg h2, fW_set (by decide), fH_set (by decide), fP_set (Or.inl (by decide)), fT_set (Or.inl (by decide)), fK_set (Or.inl (by decide))]
theorem wU5g {g : Nat → Int32} : aUp (setW G s w W) (w + 5) (eI G 512 g) = setW G s w (wEnt W g) := by
  refine setW_up (k := 5) (by omega) ?_ (fun j' h1 h2 => ?_)
  · rw [wCell, if_neg (by decide), if_neg (by decide), if_neg (by decide), if_neg (by decide), if_neg (by decide), if_pos rfl]
    congr 4
  · unfold wCell
    rw [if_neg h2, if_neg h2]
    simp only [fW, fH, fP, fT, fK, wEnt]
    simp
theorem wUP {i k : Nat} {v : Int32} (hi : i < 8) (hk : k < 5) : aUp (setW G s w W) (w + 6 + i) (eO 3 ((fP W i).set k (.int v))) = setW G s w (wSet W 0 i k v) := by
  rw [Nat.add_assoc]
  refine setW_up (k := 6 + i) (by omega) ?_ (fun j h1 h2 => ?_)
  · rw [wCell, if_neg (by omega), if_neg (by omega), if_neg (by omega), if_neg (by omega), if_neg (by omega), if_neg (by omega), if_pos (by omega), Nat.add_sub_cancel_left, fP_put hk]
  · have e : ∀ b, wCell G w (wSet W 0 i k v) j = b → wCell G w (wSet W 0 i k v) j = b := fun _ h => h
    unfold wCell
    rw [fW_set (by decide), fH_set (by decide), fE_set (by decide), fT_set (Or.inl (by decide)), fK_set (Or.inl (by decide))]
    by_cases hj : 6 ≤ j ∧ j < 14
    · rw [fP_set (Or.inr (by omega : j - 6 ≠ i))]
    · skip
      repeat' split
      all_goals first | rfl | omega
theorem wUT {i k : Nat} {v : Int32} (hi : i < 16) (hk : k < 7) : aUp (setW G s w W) (w + 14 + i) (eO 6 ((fT W i).set k (.int v))) = setW G s w (wSet W 1 i k v) := by
  rw [Nat.add_assoc]
  refine setW_up (k := 14 + i) (by omega) ?_ (fun j h1 h2 => ?_)
  · rw [wCell, if_neg (by omega), if_neg (by omega), if_neg (by omega), if_neg (by omega), if_neg (by omega), if_neg (by omega), if_neg (by omega), if_pos (by omega), Nat.add_sub_cancel_left, fT_put hk]
  · have e : ∀ b, wCell G w (wSet W 1 i k v) j = b → wCell G w (wSet W 1 i k v) j = b := fun _ h => h
    unfold wCell
    rw [fW_set (by decide), fH_set (by decide), fE_set (by decide), fP_set (Or.inl (by decide)), fK_set (Or.inl (by decide))]
    by_cases hj : 14 ≤ j ∧ j < 30
    · rw [fT_set (Or.inr (by omega : j - 14 ≠ i))]
    · skip
      repeat' split
      all_goals first | rfl | omega
theorem wUK {i k : Nat} {v : Int32} (hi : i < 10) (hk : k < 10) : aUp (setW G s w W) (w + 30 + i) (eO 2 ((fK W i).set k (.int v))) = setW G s w (wSet W 2 i k v) := by
  rw [Nat.add_assoc]
  refine setW_up (k := 30 + i) (by omega) ?_ (fun j h1 h2 => ?_)
  · rw [wCell, if_neg (by omega), if_neg (by omega), if_neg (by omega), if_neg (by omega), if_neg (by omega), if_neg (by omega), if_neg (by omega), if_neg (by omega), Nat.add_sub_cancel_left, fK_put hk]
  · have e : ∀ b, wCell G w (wSet W 2 i k v) j = b → wCell G w (wSet W 2 i k v) j = b := fun _ h => h
    unfold wCell
    rw [fW_set (by decide), fH_set (by decide), fE_set (by decide), fP_set (Or.inl (by decide)), fT_set (Or.inl (by decide))]
    by_cases hj : 30 ≤ j ∧ j < 40
    · rw [fK_set (Or.inr (by omega : j - 30 ≠ i))]
    · skip
      repeat' split
      all_goals first | rfl | omega
end WD
-- ===== the judgement over a world =====
abbrev wE (G : xG) (M : xM) (pc : Nat) (ls : List (Nat × Value)) (st : List Value) (s : xA) (w : Nat) (W : Wd) (Q : Option Value → Wd → Prop) : Prop := xE G M pc ls st (setW G s w W) (fun r s' => ∃ W', s' = setW G s w W' ∧ Q r W')
abbrev wMe (G : xG) (M : xM) (As : List Value) (s : xA) (w : Nat) (W : Wd) (Q : Option Value → Wd → Prop) : Prop := xMe G M As (setW G s w W) (fun r s' => ∃ W', s' = setW G s w W' ∧ Q r W')
theorem rTo_at {n b p : Nat} (h : p < n) : va_rf (rTo n b p) = .ref (b + p) := by
  rw [rTo, if_pos h]
  rfl
theorem vp_inN {i : Int32} {p n : Nat} (hi : i = nI p) (hp : p < n) (hn : n < 2 ^ 31) : vp_in i n := by rw [hi]; exact vp_in_nI hp hn
theorem clampN {i : Int32} {p n : Nat} (hi : i = nI p) (hp : p < n) (hn : n < 2 ^ 31) : i.toNatClampNeg = p := by rw [hi]; exact nI_clamp (by omega)
section WR
variable {G : xG} {M : xM} {pc : Nat} {ls : List (Nat × Value)} {st : List Value} {s : xA} {w : Nat} {W : Wd} {Q : Option Value → Wd → Prop}
theorem fW_at {k : Nat} (h : k < 6) : (fW W w)[k]? = some (.int (W 3 0 k)) := by
  rcases (by omega : k = 0 ∨ k = 1 ∨ k = 2 ∨ k = 3 ∨ k = 4 ∨ k = 5) with rfl | rfl | rfl | rfl | rfl | rfl <;> rfl
theorem fP_at {i k : Nat} (h : k < 5) : (fP W i)[k]? = some (.int (W 0 i k)) := by
  rcases (by omega : k = 0 ∨ k = 1 ∨ k = 2 ∨ k = 3 ∨ k = 4) with rfl | rfl | rfl | rfl | rfl <;> rfl
theorem fT_at {i k : Nat} (h : k < 7) : (fT W i)[k]? = some (.int (W 1 i k)) := by
  rcases (by omega : k = 0 ∨ k = 1 ∨ k = 2 ∨ k = 3 ∨ k = 4 ∨ k = 5 ∨ k = 6) with rfl | rfl | rfl | rfl | rfl | rfl | rfl <;> rfl
theorem fK_at {i k : Nat} (h : k < 10) : (fK W i)[k]? = some (.int (W 2 i k)) := by
  rcases (by omega : k = 0 ∨ k = 1 ∨ k = 2 ∨ k = 3 ∨ k = 4 ∨ k = 5 ∨ k = 6 ∨ k = 7 ∨ k = 8 ∨ k = 9) with rfl | rfl | rfl | rfl | rfl | rfl | rfl | rfl | rfl | rfl <;> rfl
theorem w_get {k idx j : Nat} (hk : (mIn M)[k]? = some (pc, .getfield idx, 3)) (hf : xFl (mOwn M) idx 8 j) (hj : j < 6) (kk : wE G M (pc + 3) ls (.int (W 3 0 j) :: st) s w W Q) : wE G M pc ls (.ref w :: st) s w W Q := x_get hk hf wG0 (fW_at hj) kk
theorem w_put {k idx j : Nat} {v : Int32} (hk : (mIn M)[k]? = some (pc, .putfield idx, 3)) (hf : xFl (mOwn M) idx 8 j) (ht : xFt 8 j false .int) (hj : j < 6) (kk : wE G M (pc + 3) ls st s w (wSet W 3 0 j v) Q) : wE G M pc ls (.int v :: .ref w :: st) s w W Q :=
  x_put hk hf ht wG0 (by show j < 10; omega) rfl rfl (by rw [wU0 hj]; exact kk)
theorem w_getP {k idx : Nat} (hk : (mIn M)[k]? = some (pc, .getfield idx, 3)) (hf : xFl (mOwn M) idx 8 6) (kk : wE G M (pc + 3) ls (.ref (w + 1) :: st) s w W Q) : wE G M pc ls (.ref w :: st) s w W Q := x_get hk hf wG0 rfl kk
theorem w_getT {k idx : Nat} (hk : (mIn M)[k]? = some (pc, .getfield idx, 3)) (hf : xFl (mOwn M) idx 8 7) (kk : wE G M (pc + 3) ls (.ref (w + 2) :: st) s w W Q) : wE G M pc ls (.ref w :: st) s w W Q := x_get hk hf wG0 rfl kk
theorem w_getK {k idx : Nat} (hk : (mIn M)[k]? = some (pc, .getfield idx, 3)) (hf : xFl (mOwn M) idx 8 8) (kk : wE G M (pc + 3) ls (.ref (w + 3) :: st) s w W Q) : wE G M pc ls (.ref w :: st) s w W Q := x_get hk hf wG0 rfl kk
theorem w_getH {k idx : Nat} (hk : (mIn M)[k]? = some (pc, .getfield idx, 3)) (hf : xFl (mOwn M) idx 8 9) (kk : wE G M (pc + 3) ls (.ref (w + 4) :: st) s w W Q) : wE G M pc ls (.ref w :: st) s w W Q := x_get hk hf wG0 rfl kk
theorem w_getHe {k idx : Nat} (hk : (mIn M)[k]? = some (pc, .getfield idx, 3)) (hf : xFl (mOwn M) idx 1 0) (kk : wE G M (pc + 3) ls (.ref (w + 5) :: st) s w W Q) : wE G M pc ls (.ref (w + 4) :: st) s w W Q := x_get hk hf wG4 rfl kk
theorem w_getHs {k idx : Nat} (hk : (mIn M)[k]? = some (pc, .getfield idx, 3)) (hf : xFl (mOwn M) idx 1 1) (kk : wE G M (pc + 3) ls (.int (W 4 0 0) :: st) s w W Q) : wE G M pc ls (.ref (w + 4) :: st) s w W Q := x_get hk hf wG4 rfl kk
theorem w_putHs {k idx : Nat} {v : Int32} (hk : (mIn M)[k]? = some (pc, .putfield idx, 3)) (hf : xFl (mOwn M) idx 1 1) (kk : wE G M (pc + 3) ls st s w (wSet W 4 0 0 v) Q) : wE G M pc ls (.int v :: .ref (w + 4) :: st) s w W Q :=
  x_put hk hf ft1_1 wG4 (by show 1 < 2; omega) rfl rfl (by rw [wU4]; exact kk)
theorem w_entAt {k p : Nat} {i : Int32} (hk : (mIn M)[k]? = some (pc, .iaload, 1)) (hi : i = nI p) (hp : p < 512) (kk : wE G M (pc + 1) ls (.int (W 5 0 p) :: st) s w W Q) : wE G M pc ls (.int i :: .ref (w + 5) :: st) s w W Q :=
  x_iald hk wG5 (vp_inN hi hp (by decide)) (by rw [clampN hi hp (by decide)]; exact kk)
theorem w_entPut {k p : Nat} {i v : Int32} (hk : (mIn M)[k]? = some (pc, .iastore, 1)) (hi : i = nI p) (hp : p < 512) (kk : wE G M (pc + 1) ls st s w (wSet W 5 0 p v) Q) : wE G M pc ls (.int v :: .int i :: .ref (w + 5) :: st) s w W Q :=
  x_iast hk wG5 (vp_inN hi hp (by decide)) (by rw [clampN hi hp (by decide), wU5]; exact kk)
theorem w_atP {k p : Nat} {i : Int32} (hk : (mIn M)[k]? = some (pc, .aaload, 1)) (hi : i = nI p) (hp : p < 8) (kk : wE G M (pc + 1) ls (.ref (w + 6 + p) :: st) s w W Q) : wE G M pc ls (.int i :: .ref (w + 1) :: st) s w W Q :=
  x_aald (t := 4) hk rfl wG1 (vp_inN hi hp (by decide)) (by rw [clampN hi hp (by decide), rTo_at hp]; exact kk)
theorem w_fP {k idx p j : Nat} (hk : (mIn M)[k]? = some (pc, .getfield idx, 3)) (hf : xFl (mOwn M) idx 3 j) (hp : p < 8) (hj : j < 5) (kk : wE G M (pc + 3) ls (.int (W 0 p j) :: st) s w W Q) : wE G M pc ls (.ref (w + 6 + p) :: st) s w W Q := x_get hk hf (wGP hp) (fP_at hj) kk
theorem w_pP {k idx p j : Nat} {v : Int32} (hk : (mIn M)[k]? = some (pc, .putfield idx, 3)) (hf : xFl (mOwn M) idx 3 j) (ht : xFt 3 j false .int) (hp : p < 8) (hj : j < 5) (kk : wE G M (pc + 3) ls st s w (wSet W 0 p j v) Q) : wE G M pc ls (.int v :: .ref (w + 6 + p) :: st) s w W Q :=
  x_put hk hf ht (wGP hp) (by show j < 5; exact hj) rfl rfl (by rw [wUP hp hj]; exact kk)
theorem w_atT {k p : Nat} {i : Int32} (hk : (mIn M)[k]? = some (pc, .aaload, 1)) (hi : i = nI p) (hp : p < 16) (kk : wE G M (pc + 1) ls (.ref (w + 14 + p) :: st) s w W Q) : wE G M pc ls (.int i :: .ref (w + 2) :: st) s w W Q :=
  x_aald (t := 5) hk rfl wG2 (vp_inN hi hp (by decide)) (by rw [clampN hi hp (by decide), rTo_at hp]; exact kk)
theorem w_fT {k idx p j : Nat} (hk : (mIn M)[k]? = some (pc, .getfield idx, 3)) (hf : xFl (mOwn M) idx 6 j) (hp : p < 16) (hj : j < 7) (kk : wE G M (pc + 3) ls (.int (W 1 p j) :: st) s w W Q) : wE G M pc ls (.ref (w + 14 + p) :: st) s w W Q := x_get hk hf (wGT hp) (fT_at hj) kk
theorem w_pT {k idx p j : Nat} {v : Int32} (hk : (mIn M)[k]? = some (pc, .putfield idx, 3)) (hf : xFl (mOwn M) idx 6 j) (ht : xFt 6 j false .int) (hp : p < 16) (hj : j < 7) (kk : wE G M (pc + 3) ls st s w (wSet W 1 p j v) Q) : wE G M pc ls (.int v :: .ref (w + 14 + p) :: st) s w W Q :=
  x_put hk hf ht (wGT hp) (by show j < 7; exact hj) rfl rfl (by rw [wUT hp hj]; exact kk)
theorem w_atK {k p : Nat} {i : Int32} (hk : (mIn M)[k]? = some (pc, .aaload, 1)) (hi : i = nI p) (hp : p < 10) (kk : wE G M (pc + 1) ls (.ref (w + 30 + p) :: st) s w W Q) : wE G M pc ls (.int i :: .ref (w + 3) :: st) s w W Q :=
  x_aald (t := 6) hk rfl wG3 (vp_inN hi hp (by decide)) (by rw [clampN hi hp (by decide), rTo_at hp]; exact kk)
theorem w_fK {k idx p j : Nat} (hk : (mIn M)[k]? = some (pc, .getfield idx, 3)) (hf : xFl (mOwn M) idx 2 j) (hp : p < 10) (hj : j < 10) (kk : wE G M (pc + 3) ls (.int (W 2 p j) :: st) s w W Q) : wE G M pc ls (.ref (w + 30 + p) :: st) s w W Q := x_get hk hf (wGK hp) (fK_at hj) kk
theorem w_pK {k idx p j : Nat} {v : Int32} (hk : (mIn M)[k]? = some (pc, .putfield idx, 3)) (hf : xFl (mOwn M) idx 2 j) (ht : xFt 2 j false .int) (hp : p < 10) (hj : j < 10) (kk : wE G M (pc + 3) ls st s w (wSet W 2 p j v) Q) : wE G M pc ls (.int v :: .ref (w + 30 + p) :: st) s w W Q :=
  x_put hk hf ht (wGK hp) (by show j < 10; exact hj) rfl rfl (by rw [wUK hp hj]; exact kk)
theorem w_iret {k : Nat} {v : Int32} {ty : FieldType} (hk : (mIn M)[k]? = some (pc, .ireturn, 1)) (hr : mRt M = some ty) (hn : narrow ty (.int v) = .int v) (hq : Q (some (.int v)) W) : wE G M pc ls [.int v] s w W Q := x_iret hk hr hn ⟨W, rfl, hq⟩
theorem w_ret {k : Nat} (hk : (mIn M)[k]? = some (pc, .return_, 1)) (hr : mRt M = none) (hq : Q none W) : wE G M pc ls [] s w W Q := x_ret hk hr ⟨W, rfl, hq⟩
variable {M' : xM} {stk Ar : List Value} {Q' : Option Value → Wd → Prop}
/-- a call within the world; o: the receiver's class -/
theorem w_call {k idx n a ci : Nat} {fs : List Value} (hk : (mIn M)[k]? = some (pc, .invokevirtual idx, 3)) (ho : xOk M' n) (hv : xVi (mY M')) (hw : Cond.methodLink (mOwn M) idx (mY M') ∈ gW) (hR : xRm M M') (hlen : (lg_sl (.ref a :: Ar)).length ≤ mNL M') (hn : Ar.length = n) (hc : (vwCl[ci]?).map (fun q => q.1) = some (mY M').cls) (hh : (setW G s w W).1 a = some (eO ci fs)) (hst : (st.map fun v => v.category).sum ≤ 8) (hs : stk = Ar.reverse ++ .ref a :: st)
    (hb : wMe G M' (.ref a :: Ar) s w W Q') (kk : ∀ (r : Option Value) (W' : Wd), Q' r W' → wE G M (pc + 3) ls (r.toList ++ st) s w W' Q) : wE G M pc ls stk s w W Q :=
  x_callV hk ho hv hw hR hlen hn hc hh hst hs hb (fun r s1 h => by
    obtain ⟨W', rfl, hq⟩ := h
    exact kk r W' hq)
end WR
