-- ===== constructors: a row of new cells as a list =====
def lst (s : xA) (b : Nat) (L : List va_E) (m : Nat) : xA := (fun q => if b ≤ q ∧ q < b + L.length then L[q - b]? else s.1 q, b + L.length, s.2.2 + m)
theorem lst_g {s : xA} {b k0 a m : Nat} {L : List va_E} {e : va_E} (ha : a = b + k0) (hL : L[k0]? = some e) : (lst s b L m).1 a = some e := by
  have h := (List.getElem?_eq_some_iff.mp hL).1
  subst ha
  show (if b ≤ b + k0 ∧ b + k0 < b + L.length then L[b + k0 - b]? else s.1 (b + k0)) = some e
  rw [if_pos ⟨by omega, by omega⟩, Nat.add_sub_cancel_left]
  exact hL
theorem lst_new {s : xA} {b m n : Nat} {L : List va_E} {e : va_E} : aNew (lst s b L m) n e = lst s b (L ++ [e]) (m + n) := by
  refine Prod.ext (funext fun q => ?_) (Prod.ext ?_ ?_)
  · show (if q = b + L.length then some e else if b ≤ q ∧ q < b + L.length then L[q - b]? else s.1 q) = if b ≤ q ∧ q < b + (L ++ [e]).length then (L ++ [e])[q - b]? else s.1 q
    rw [List.length_append, List.length_singleton]
    by_cases h1 : q = b + L.length
    · rw [if_pos h1, if_pos (by omega), h1, Nat.add_sub_cancel_left]
      simp
    · rw [if_neg h1]
      by_cases h2 : b ≤ q ∧ q < b + L.length
      · rw [if_pos h2, if_pos (by omega), List.getElem?_append_left (by omega)]
      · rw [if_neg h2, if_neg (by omega)]
  · show b + L.length + 1 = b + (L ++ [e]).length
    rw [List.length_append, List.length_singleton]
    omega
  · show s.2.2 + m + n = s.2.2 + (m + n)
    omega
theorem lst_up {s : xA} {b m k0 a : Nat} {L : List va_E} {e : va_E} (ha : a = b + k0) (hk : k0 < L.length) : aUp (lst s b L m) a e = lst s b (L.set k0 e) m := by
  subst ha
  refine Prod.ext (funext fun q => ?_) (Prod.ext ?_ rfl)
  · show (if q = b + k0 then some e else if b ≤ q ∧ q < b + L.length then L[q - b]? else s.1 q) = if b ≤ q ∧ q < b + (L.set k0 e).length then (L.set k0 e)[q - b]? else s.1 q
    rw [List.length_set]
    by_cases h1 : q = b + k0
    · rw [if_pos h1, if_pos (by omega), h1, Nat.add_sub_cancel_left, List.getElem?_set_self hk]
    · rw [if_neg h1]
      by_cases h2 : b ≤ q ∧ q < b + L.length
      · rw [if_pos h2, if_pos h2, List.getElem?_set_ne (by omega)]
      · rw [if_neg h2, if_neg h2]
  · show b + L.length = b + (L.set k0 e).length
    rw [List.length_set]
theorem lst_of {s : xA} {b : Nat} {e : va_E} (h : s.1 b = some e) (hn : s.2.1 = b + 1) : s = lst s b [e] 0 := by
  refine Prod.ext (funext fun q => ?_) (Prod.ext hn rfl)
  show s.1 q = if b ≤ q ∧ q < b + 1 then [e][q - b]? else s.1 q
  by_cases h1 : b ≤ q ∧ q < b + 1
  · rw [if_pos h1]
    have h2 : q = b := by omega
    subst h2
    rw [Nat.sub_self, h]
    rfl
  · rw [if_neg h1]
abbrev xV (G : xG) (M : xM) (As : List Value) (s s1 : xA) : Prop := xMe G M As s (fun r s2 => r = none ∧ s2 = s1)
theorem aUp_up {s : xA} {a : Nat} {e e' : va_E} : aUp (aUp s a e) a e' = aUp s a e' := by
  refine Prod.ext (funext fun q => ?_) rfl
  show (if q = a then some e' else if q = a then some e else s.1 q) = if q = a then some e' else s.1 q
  split <;> rfl
theorem aUp_at {s : xA} {a : Nat} {e : va_E} : (aUp s a e).1 a = some e := if_pos rfl
theorem aUp_ne {s : xA} {a q : Nat} {e : va_E} (h : q ≠ a) : (aUp s a e).1 q = s.1 q := if_neg h
theorem aNew_at {s : xA} {n : Nat} {e : va_E} : (aNew s n e).1 s.2.1 = some e := if_pos rfl
theorem aNew_ne {s : xA} {n q : Nat} {e : va_E} (h : q ≠ s.2.1) : (aNew s n e).1 q = s.1 q := if_neg h
section YR
variable {G : xG} {M M' : xM} {pc : Nat} {ls : List (Nat × Value)} {st stk : List Value} {s s1 : xA} {b m : Nat} {L : List va_E} {Q : Option Value → xA → Prop}
theorem x_st {s2 : xA} (h : s1 = s2) (kk : xE G M pc ls st s2 Q) : xE G M pc ls st s1 Q := h ▸ kk
theorem y_putF {idx ci j k0 a k : Nat} {fs : List Value} {v : Value} {ty : FieldType} (hk : (mIn M)[k]? = some (pc, .putfield idx, 3)) (hf : xFl (mOwn M) idx ci j) (ht : xFt ci j true ty) (hin : (mY M).name = "<init>") (hown : (vwCl[ci]?).map (fun q => q.1) = some (mOwn M)) (ha : a = b + k0) (hL : L[k0]? = some (eO ci fs)) (hl0 : j < fs.length) (hn : narrow ty v = v) (hfit : fits ty v = true) (kk : xE G M (pc + 3) ls st (lst s b (L.set k0 (eO ci (fs.set j v))) m) Q) : xE G M pc ls (v :: .ref a :: st) (lst s b L m) Q :=
  x_putF hk hf ht hin hown (lst_g ha hL) hl0 hn hfit (by rw [lst_up ha (List.getElem?_eq_some_iff.mp hL).1]; exact kk)
theorem y_anew {k t N idx a : Nat} {n : Int32} {C0 : String} (hk : (mIn M)[k]? = some (pc, .anewarray idx, 3)) (hC : C0 ∈ nestC) (hw : Cond.classLink (mOwn M) idx C0 ∈ gW) (ht : (gT G)[t]? = some (gc G t, .object C0)) (hn : ¬ n < 0) (hN : n.toNatClampNeg = N) (hb : N * 4 ≤ 536870912) (ha : b + L.length = a) (kk : xE G M (pc + 3) ls (.ref a :: st) (lst s b (L ++ [eR G t N (fun _ => none)]) (m + N)) Q) : xE G M pc ls (.int n :: st) (lst s b L m) Q :=
  x_anew hk hC hw ht hn hN hb (by rw [lst_new]; show xE G M (pc + 3) ls (.ref (b + L.length) :: st) _ Q; rw [ha]; exact kk)
theorem y_newa {k t N a : Nat} {n : Int32} {at0 : ArrayType} {ty : FieldType} {a0 : vp_A} (hk : (mIn M)[k]? = some (pc, .newarray at0, 2)) (hty : newarray.typeOf at0 = ty) (hw : Cond.arrayClass (newarray.typeOf at0) ∈ gW) (ht : (gT G)[t]? = some (gc G t, ty)) (hA : ∀ cA : ClassId, vp_cell cA a0 = arrV cA N (fun _ => defaultValue ty)) (hn : ¬ n < 0) (hN : n.toNatClampNeg = N) (hb : N * componentBytes ty ≤ 536870912) (ha : b + L.length = a) (kk : xE G M (pc + 2) ls (.ref a :: st) (lst s b (L ++ [.inl (gc G t, a0)]) (m + N)) Q) : xE G M pc ls (.int n :: st) (lst s b L m) Q :=
  x_newa hk hty hw ht hA hn hN hb (by rw [lst_new]; show xE G M (pc + 2) ls (.ref (b + L.length) :: st) _ Q; rw [ha]; exact kk)
theorem y_new {idx ci k a : Nat} {q : vw_C} {fs : List Value} (hk : (mIn M)[k]? = some (pc, .new idx, 3)) (hc : vwCl[ci]? = some q) (w1 : Cond.classLink (mOwn M) idx q.1 ∈ gW) (w2 : Cond.instantiable q.1 q.2.2 ∈ gW) (w3 : Cond.initialized q.1 ∈ gW) (ty : Nat → FieldType) (hty : ∀ k, k < q.2.2 → parseFieldDescriptor (q.2.1 k).2.2.1 = some (ty k)) (hfs : ∀ j, j < q.2.2 → defaultValue (ty j) = vp_V fs j) (ha : b + L.length = a) (kk : xE G M (pc + 3) ls (.ref a :: st) (lst s b (L ++ [eO ci fs]) (m + q.2.2)) Q) : xE G M pc ls st (lst s b L m) Q :=
  x_new hk hc w1 w2 w3 ty hty hfs (by rw [lst_new]; show xE G M (pc + 3) ls (.ref (b + L.length) :: st) _ Q; rw [ha]; exact kk)
theorem x_cI {k idx n a : Nat} {Ar : List Value} (hk : (mIn M)[k]? = some (pc, .invokespecial idx, 3)) (hs : stk = Ar.reverse ++ .ref a :: st) (hb : xV G M' (.ref a :: Ar) s s1) (ho : xOk M' n) (h1 : (mY M').name = "<init>") (h2 : mRt M' = none) (hv : Cond.instanceMethod (mY M') ∈ gW) (hw : Cond.methodLink (mOwn M) idx (mY M') ∈ gW) (hR : xRm M M') (hlen : (lg_sl (.ref a :: Ar)).length ≤ mNL M') (hn : Ar.length = n) (hst : (st.map fun v => v.category).sum ≤ 8) (kk : xE G M (pc + 3) ls st s1 Q) : xE G M pc ls stk s Q :=
  x_callI hk ho h1 h2 hv hw hR hlen hn hst hs hb (fun r s2 h => by rw [h.1, h.2]; exact kk)
theorem x_cIN {k idx n a : Nat} {Ar : List Value} (hk : (mIn M)[k]? = some (pc, .invokespecial idx, 3)) (hs : stk = Ar.reverse ++ .ref a :: st) (hb : xV G M' (.ref a :: Ar) s s1) (ho : xOk M' n) (h1 : (mY M').name = "<init>") (h2 : mRt M' = none) (hv : Cond.instanceMethod (mY M') ∈ gW) (hw : (mOwn M, idx, mY M') ∈ nestM) (hR : xRm M M') (hlen : (lg_sl (.ref a :: Ar)).length ≤ mNL M') (hn : Ar.length = n) (hst : (st.map fun v => v.category).sum ≤ 8) (kk : xE G M (pc + 3) ls st s1 Q) : xE G M pc ls stk s Q :=
  x_callIN hk ho h1 h2 hv hw hR hlen hn hst hs hb (fun r s2 h => by rw [h.1, h.2]; exact kk)
theorem x_rD {k : Nat} {s1 : xA} (hk : (mIn M)[k]? = some (pc, .return_, 1)) (hr : mRt M = none) (h : s = s1) : xE G M pc ls [] s (fun r s2 => r = none ∧ s2 = s1) := x_ret hk hr ⟨rfl, h⟩
end YR
/-- a new world -/
def W0 : Wd := fun a i k => if a = 0 then (match k with | 0 => 100 | 1 => 40 | 2 => nI (i % 6) | 3 => -9 | _ => 0) else 0
def pZ : List Value := [.int 0, .int 0, .int 0, .int 0, .int 0]
def tZ : List Value := [.int 0, .int 0, .int 0, .int 0, .int 0, .int 0, .int 0]
def kZ : List Value := [.int 0, .int 0, .int 0, .int 0, .int 0, .int 0, .int 0, .int 0, .int 0, .int 0]
def wZ : List Value := [.int 0, .int 0, .int 0, .int 0, .int 0, .int 0, .null, .null, .null, .null]
def iniC (G : xG) (w b c d k : Nat) : va_E := if k = 1 then eR G 4 8 (rTo b (w + 6)) else if k = 2 then eR G 5 16 (rTo c (w + 14)) else if k = 3 then eR G 6 10 (rTo d (w + 30)) else wCell G w W0 k
def iniS (G : xG) (s : xA) (w b c d : Nat) : xA := (fun q => if w ≤ q ∧ q < w + 6 + b + c + d then some (iniC G w b c d (q - w)) else s.1 q, w + 6 + b + c + d, s.2.2 + 548 + 5 * b + 7 * c + 10 * d)
section INI
variable {G : xG} {s : xA} {w b c d : Nat}
theorem iniS_at {k a : Nat} {e : va_E} (ha : a = w + k) (hk : k < 6 + b + c + d) (he : iniC G w b c d k = e) : (iniS G s w b c d).1 a = some e := by
  subst ha
  show (if w ≤ w + k ∧ w + k < w + 6 + b + c + d then some (iniC G w b c d (w + k - w)) else s.1 (w + k)) = some e
  rw [if_pos ⟨by omega, by omega⟩, Nat.add_sub_cancel_left, he]
theorem rTo_up {i n : Nat} : va_up (rTo i n) i (some (n + i)) = rTo (i + 1) n := by
  funext q
  unfold va_up rTo
  by_cases h : q = i
  · subst h
    simp
  · rw [if_neg h]
    by_cases h2 : q < i
    · rw [if_pos h2, if_pos (by omega)]
    · rw [if_neg h2, if_neg (by omega)]
theorem rTo_0 {n : Nat} : rTo 0 n = fun _ => none := by
  funext q
  simp [rTo]
/-- one more row: its cell made, written, put into the array -/
theorem iniS_step {n a1 k1 : Nat} {eZ0 e1 ea : va_E} {b' c' d' : Nat} (hk1 : k1 < 6) (ha : a1 = w + k1) (hn : b' + c' + d' = b + c + d + 1) (hsl : 5 * b' + 7 * c' + 10 * d' = 5 * b + 7 * c + 10 * d + n)
    (he : iniC G w b' c' d' (6 + b + c + d) = e1) (hea : iniC G w b' c' d' k1 = ea) (ho : ∀ k, k < 6 + b + c + d → k ≠ k1 → iniC G w b' c' d' k = iniC G w b c d k) :
    aUp (aUp (aNew (iniS G s w b c d) n eZ0) (w + 6 + b + c + d) e1) a1 ea = iniS G s w b' c' d' := by
  subst ha
  refine Prod.ext (funext fun q => ?_) (Prod.ext ?_ ?_)
  · show (if q = w + k1 then some ea else if q = w + 6 + b + c + d then some e1 else if q = w + 6 + b + c + d then some eZ0 else if w ≤ q ∧ q < w + 6 + b + c + d then some (iniC G w b c d (q - w)) else s.1 q) = if w ≤ q ∧ q < w + 6 + b' + c' + d' then some (iniC G w b' c' d' (q - w)) else s.1 q
    by_cases h1 : q = w + k1
    · rw [if_pos h1, if_pos (by omega), h1, Nat.add_sub_cancel_left, hea]
    · rw [if_neg h1]
      by_cases h2 : q = w + 6 + b + c + d
      · rw [if_pos h2, if_pos (by omega), h2, show w + 6 + b + c + d - w = 6 + b + c + d by omega, he]
      · rw [if_neg h2, if_neg h2]
        by_cases h3 : w ≤ q ∧ q < w + 6 + b + c + d
        · rw [if_pos h3, if_pos (by omega), ho (q - w) (by omega) (by omega)]
        · rw [if_neg h3, if_neg (by omega)]
  · show w + 6 + b + c + d + 1 = w + 6 + b' + c' + d'
    omega
  · show s.2.2 + 548 + 5 * b + 7 * c + 10 * d + n = s.2.2 + 548 + 5 * b' + 7 * c' + 10 * d'
    omega
theorem iniC_o {b' c' d' k : Nat} (h1 : k = 1 → b' = b) (h2 : k = 2 → c' = c) (h3 : k = 3 → d' = d) : iniC G w b' c' d' k = iniC G w b c d k := by
  unfold iniC
  by_cases e1 : k = 1
  · rw [if_pos e1, if_pos e1, h1 e1]
  · rw [if_neg e1, if_neg e1]
    by_cases e2 : k = 2
    · rw [if_pos e2, if_pos e2, h2 e2]
    · rw [if_neg e2, if_neg e2]
      by_cases e3 : k = 3
      · rw [if_pos e3, if_pos e3, h3 e3]
      · rw [if_neg e3, if_neg e3]
theorem iniC_c {k : Nat} (h : 3 < k ∨ k = 0) : iniC G w b c d k = wCell G w W0 k := by
  unfold iniC
  rw [if_neg (by omega), if_neg (by omega), if_neg (by omega)]
theorem wC_P {V : Wd} {i : Nat} (h : i < 8) : wCell G w V (6 + i) = eO 3 (fP V i) := isW_in (by omega) (by rw [← Nat.add_assoc]; exact wGP h)
theorem wC_T {V : Wd} {i : Nat} (h : i < 16) : wCell G w V (14 + i) = eO 6 (fT V i) := isW_in (by omega) (by rw [← Nat.add_assoc]; exact wGT h)
theorem wC_K {V : Wd} {i : Nat} (h : i < 10) : wCell G w V (30 + i) = eO 2 (fK V i) := isW_in (by omega) (by rw [← Nat.add_assoc]; exact wGK h)
theorem iniS_P {i : Nat} (hi : i < 8) : aUp (aUp (aNew (iniS G s w i 0 0) 5 (eO 3 pZ)) (w + 6 + i) (eO 3 [.int 100, .int 40, .int (nI (i % 6)), .int (-9), .int 0])) (w + 1) (eR G 4 8 (va_up (rTo i (w + 6)) i (some (w + 6 + i)))) = iniS G s w (i + 1) 0 0 :=
  iniS_step (by decide) rfl (by omega) (by omega) (by rw [iniC_c (Or.inl (by omega))]; exact wC_P hi) (by rw [iniC, if_pos rfl, rTo_up]) (fun k h1 h2 => iniC_o (fun e => absurd e h2) (fun _ => rfl) (fun _ => rfl))
theorem iniS_T {i : Nat} (hi : i < 16) : aUp (aNew (iniS G s w 8 i 0) 7 (eO 6 tZ)) (w + 2) (eR G 5 16 (va_up (rTo i (w + 14)) i (some (w + 14 + i)))) = iniS G s w 8 (i + 1) 0 := by
  rw [← iniS_step (G := G) (s := s) (w := w) (b := 8) (c := i) (d := 0) (n := 7) (a1 := w + 2) (k1 := 2) (eZ0 := eO 6 tZ) (e1 := eO 6 tZ) (ea := eR G 5 16 (va_up (rTo i (w + 14)) i (some (w + 14 + i)))) (b' := 8) (c' := i + 1) (d' := 0) (by decide) rfl (by omega) (by omega) (by rw [iniC_c (Or.inl (by omega)), show 6 + 8 + i + 0 = 14 + i by omega, wC_T hi]; rfl) (by rw [iniC, if_neg (by decide), if_pos rfl, rTo_up]) (fun k h1 h2 => iniC_o (fun _ => rfl) (fun e => absurd e h2) (fun _ => rfl))]
  congr 1
  refine Prod.ext (funext fun q => ?_) rfl
  show _ = if q = w + 6 + 8 + i + 0 then some (eO 6 tZ) else _
  by_cases h : q = w + 6 + 8 + i + 0
  · rw [if_pos h]
    exact if_pos h
  · rw [if_neg h]
theorem iniS_K {i : Nat} (hi : i < 10) : aUp (aNew (iniS G s w 8 16 i) 10 (eO 2 kZ)) (w + 3) (eR G 6 10 (va_up (rTo i (w + 30)) i (some (w + 30 + i)))) = iniS G s w 8 16 (i + 1) := by
  rw [← iniS_step (G := G) (s := s) (w := w) (b := 8) (c := 16) (d := i) (n := 10) (a1 := w + 3) (k1 := 3) (eZ0 := eO 2 kZ) (e1 := eO 2 kZ) (ea := eR G 6 10 (va_up (rTo i (w + 30)) i (some (w + 30 + i)))) (b' := 8) (c' := 16) (d' := i + 1) (by decide) rfl (by omega) (by omega) (by rw [iniC_c (Or.inl (by omega)), show 6 + 8 + 16 + i = 30 + i by omega, wC_K hi]; rfl) (by rw [iniC, if_neg (by decide), if_neg (by decide), if_pos rfl, rTo_up]) (fun k h1 h2 => iniC_o (fun _ => rfl) (fun _ => rfl) (fun e => absurd e h2))]
  congr 1
  refine Prod.ext (funext fun q => ?_) rfl
  show _ = if q = w + 6 + 8 + 16 + i then some (eO 2 kZ) else _
  by_cases h : q = w + 6 + 8 + 16 + i
  · rw [if_pos h]
    exact if_pos h
  · rw [if_neg h]
theorem iniS_end : iniS G s w 8 16 10 = ((setW G s w W0).1, w + 40, s.2.2 + 800) := by
  refine Prod.ext (funext fun q => ?_) rfl
  show (if w ≤ q ∧ q < w + 6 + 8 + 16 + 10 then some (iniC G w 8 16 10 (q - w)) else s.1 q) = if w ≤ q ∧ q < w + 40 then some (wCell G w W0 (q - w)) else s.1 q
  by_cases h : w ≤ q ∧ q < w + 40
  · rw [if_pos h, if_pos (by omega)]
    congr 1
    unfold iniC wCell
    by_cases e1 : q - w = 1
    · rw [if_pos e1, if_neg (by omega), if_pos e1]
    · rw [if_neg e1]
      by_cases e2 : q - w = 2
      · rw [if_pos e2, if_neg (by omega), if_neg (by omega), if_pos e2]
      · rw [if_neg e2]
        by_cases e3 : q - w = 3
        · rw [if_pos e3, if_neg (by omega), if_neg (by omega), if_neg (by omega), if_pos e3]
        · rw [if_neg e3]
  · rw [if_neg h, if_neg (by omega)]
theorem iniS_0 : lst s w [eO 8 (fW W0 w), eR G 4 8 (fun _ => none), eR G 5 16 (fun _ => none), eR G 6 10 (fun _ => none), eO 1 (fH W0 w), eI G 512 (fun _ => 0)] 548 = iniS G s w 0 0 0 := by
  refine Prod.ext (funext fun q => ?_) rfl
  show (if w ≤ q ∧ q < w + 6 then [eO 8 (fW W0 w), eR G 4 8 (fun _ => none), eR G 5 16 (fun _ => none), eR G 6 10 (fun _ => none), eO 1 (fH W0 w), eI G 512 (fun _ => 0)][q - w]? else s.1 q) = if w ≤ q ∧ q < w + 6 + 0 + 0 + 0 then some (iniC G w 0 0 0 (q - w)) else s.1 q
  by_cases h : w ≤ q ∧ q < w + 6
  · rw [if_pos h, if_pos (by omega)]
    obtain ⟨j, hj, rfl⟩ : ∃ j, j < 6 ∧ q = w + j := ⟨q - w, by omega, by omega⟩
    rw [Nat.add_sub_cancel_left]
    rcases (by omega : j = 0 ∨ j = 1 ∨ j = 2 ∨ j = 3 ∨ j = 4 ∨ j = 5) with rfl | rfl | rfl | rfl | rfl | rfl
    · rfl
    · simp [iniC, rTo_0]
    · simp [iniC, rTo_0]
    · simp [iniC, rTo_0]
    · rfl
    · rfl
  · rw [if_neg h, if_neg (by omega)]
end INI

theorem c_initP {G : xG} {s : xA} {p : Nat} (h : s.1 p = some (eO 3 pZ)) (t : Int32) : xV G MX3_init [.ref p, .int t] s (aUp s p (eO 3 [.int 100, .int 40, .int t, .int (-9), .int 0])) := by
  refine x_aload_n (k := 0) rfl rfl ?_
  refine x_obj (k := 1) rfl mlRX3_3 wObj1 wObj2 (by exact Nat.le_of_ble_eq_true rfl) (by exact Nat.le_of_ble_eq_true rfl) ?_
  refine x_aload_n (k := 2) rfl rfl ?_
  refine x_bipush (v := 100) (k := 3) rfl (by decide) ?_
  refine x_put (k := 4) rfl flRX3_9 ft3_0 h (by decide) rfl rfl ?_
  refine x_aload_n (k := 5) rfl rfl ?_
  refine x_bipush (v := 40) (k := 6) rfl (by decide) ?_
  refine x_put (k := 7) rfl flRX3_15 ft3_1 aUp_at (by exact Nat.le_of_ble_eq_true rfl) rfl rfl ?_
  refine x_aload_n (k := 8) rfl rfl ?_
  refine x_bipush (v := -9) (k := 9) rfl (by decide) ?_
  refine x_put (k := 10) rfl flRX3_18 ft3_3 aUp_at (by exact Nat.le_of_ble_eq_true rfl) rfl rfl ?_
  refine x_aload_n (k := 11) rfl rfl ?_
  refine x_iload_n (k := 12) rfl rfl ?_
  refine x_put (k := 13) rfl flRX3_21 ft3_2 aUp_at (by exact Nat.le_of_ble_eq_true rfl) rfl rfl ?_
  exact x_rD (k := 14) rfl rfl (by rw [aUp_up, aUp_up, aUp_up]; rfl)
theorem c_initT {G : xG} {s : xA} (p : Nat) : xV G MX6_init [.ref p] s s := by
  refine x_aload_n (k := 0) rfl rfl ?_
  refine x_obj (k := 1) rfl mlRX6_3 wObj1 wObj2 (by exact Nat.le_of_ble_eq_true rfl) (by exact Nat.le_of_ble_eq_true rfl) ?_
  exact x_rD (k := 2) rfl rfl rfl
theorem c_initK {G : xG} {s : xA} (p : Nat) : xV G MX2_init [.ref p] s s := by
  refine x_aload_n (k := 0) rfl rfl ?_
  refine x_obj (k := 1) rfl mlRX2_3 wObj1 wObj2 (by exact Nat.le_of_ble_eq_true rfl) (by exact Nat.le_of_ble_eq_true rfl) ?_
  exact x_rD (k := 2) rfl rfl rfl
theorem c_initH {G : xG} {s : xA} {p : Nat} (h : s.1 p = some (eO 1 [.null, .int 0])) (hn : s.2.1 = p + 1) : xV G MX1_init [.ref p] s (lst s p [eO 1 [.ref (p + 1), .int 0], eI G 512 (fun _ => 0)] 512) := by
  refine x_st (lst_of h hn) ?_
  refine x_aload_n (k := 0) rfl rfl ?_
  refine x_obj (k := 1) rfl mlRX1_3 wObj1 wObj2 (by exact Nat.le_of_ble_eq_true rfl) (by exact Nat.le_of_ble_eq_true rfl) ?_
  refine x_aload_n (k := 2) rfl rfl ?_
  refine x_sipush (v := 512) (k := 3) rfl (by decide) ?_
  refine y_newa (a := p + 1) (t := 0) (a0 := (512, .inl (fun _ => 0))) (k := 4) rfl rfl wa_int rfl (fun _ => rfl) (by decide) (by decide) (by decide) rfl ?_
  refine y_putF (k0 := 0) (k := 5) rfl flRX1_11 ft1_0 rfl rfl rfl rfl (by exact Nat.le_of_ble_eq_true rfl) rfl rfl ?_
  exact x_rD (k := 6) rfl rfl rfl
theorem lst_lst {s : xA} {b m m' k0 p : Nat} {L L' R : List va_E} {e : va_E} (hp : p = b + k0) (hL : L = L' ++ [e]) (hk : L'.length = k0) (hR : 0 < R.length) : lst (lst s b L m) p R m' = lst s b (L' ++ R) (m + m') := by
  subst hp hL hk
  refine Prod.ext (funext fun q => ?_) (Prod.ext ?_ ?_)
  · show (if b + L'.length ≤ q ∧ q < b + L'.length + R.length then R[q - (b + L'.length)]? else if b ≤ q ∧ q < b + (L' ++ [e]).length then (L' ++ [e])[q - b]? else s.1 q) = if b ≤ q ∧ q < b + (L' ++ R).length then (L' ++ R)[q - b]? else s.1 q
    rw [List.length_append, List.length_append, List.length_singleton]
    by_cases h1 : b + L'.length ≤ q ∧ q < b + L'.length + R.length
    · rw [if_pos h1, if_pos (by omega), List.getElem?_append_right (by omega)]
      congr 1
      omega
    · rw [if_neg h1]
      by_cases h2 : b ≤ q ∧ q < b + L'.length
      · rw [if_pos (by omega), if_pos (by omega), List.getElem?_append_left (by omega), List.getElem?_append_left (by omega)]
      · rw [if_neg (by omega), if_neg (by omega)]
  · show b + L'.length + R.length = b + (L' ++ R).length
    rw [List.length_append]
    omega
  · show s.2.2 + m + m' = s.2.2 + (m + m')
    omega
theorem nI16 : (16 : Int32) = nI 16 := rfl
theorem nI10 : (10 : Int32) = nI 10 := rfl
theorem mod6 {i : Nat} (h : i < 8) : (nI i - nI i / 6 * 6 : Int32) = nI (i % 6) := pk_rem (a := i) (d := 6) (by omega) (by decide) (by decide)
theorem iniC_1 {G : xG} {w b c d : Nat} : iniC G w b c d 1 = eR G 4 8 (rTo b (w + 6)) := rfl
theorem iniC_2 {G : xG} {w b c d : Nat} : iniC G w b c d 2 = eR G 5 16 (rTo c (w + 14)) := rfl
theorem iniC_3 {G : xG} {w b c d : Nat} : iniC G w b c d 3 = eR G 6 10 (rTo d (w + 30)) := rfl
theorem iniC_0 {G : xG} {w b c d : Nat} : iniC G w b c d 0 = eO 8 (fW W0 w) := (iniC_c (Or.inr rfl)).trans wC_0
theorem l_init3 {G : xG} {s : xA} {w : Nat} : ∀ (d i : Nat) (ls : List (Nat × Value)), 10 - i < d → i ≤ 10 → ls.lookup 0 = some (.ref w) → ls.lookup 1 = some (.int (nI i)) → xE G MX8_init 102 ls [] (iniS G s w 8 16 i) (fun r s2 => r = none ∧ s2 = ((setW G s w W0).1, w + 40, s.2.2 + 800)) := by
  intro d
  induction d with
  | zero =>
    intro i ls hd hi g0 g1
    exact absurd hd (Nat.not_lt_zero _)
  | succ d ih =>
    intro i ls hd hi g0 g1
    refine x_sub (ls' := [(0, .ref w), (1, .int (nI i))]) (by simp [*]) ?_
    refine x_iload_n (k := 52) rfl rfl ?_
    refine x_bipush (v := 10) (k := 53) rfl (by decide) ?_
    refine x_icmp_ge (tgt := 127) (k := 54) rfl (by decide) (fun c105 => ?_) (fun c105 => ?_)
    · have e : i = 10 := by
        have := (le_nI nI10 (by omega) (by omega)).mp c105
        omega
      subst e
      exact x_rD (k := 64) rfl rfl iniS_end
    · have hin : i < 10 := by
        have := mt (le_nI nI10 (by omega) (by omega)).mpr c105
        omega
      refine x_aload_n (k := 55) rfl rfl ?_
      refine x_get (k := 56) rfl flRX8_25 (iniS_at (k := 0) rfl (by omega) iniC_0) rfl ?_
      refine x_iload_n (k := 57) rfl rfl ?_
      refine x_new (ci := 2) (fs := kZ) (k := 58) rfl rfl clRX8_23 wn2 wi_RX2 tyX2 tyX2_ok (fun j hj => by have hj : j < 10 := hj; rcases (show j = 0 ∨ j = 1 ∨ j = 2 ∨ j = 3 ∨ j = 4 ∨ j = 5 ∨ j = 6 ∨ j = 7 ∨ j = 8 ∨ j = 9 by omega) with rfl | rfl | rfl | rfl | rfl | rfl | rfl | rfl | rfl | rfl <;> rfl) ?_
      refine x_dup (k := 59) rfl rfl ?_
      refine x_cIN (k := 60) rfl (by rfl) (c_initK _) okX2_init rfl rfl viX2_init nlRX8_40 ⟨Nat.le_of_ble_eq_true rfl, Nat.le_of_ble_eq_true rfl⟩ (by exact Nat.le_of_ble_eq_true rfl) rfl (by exact Nat.le_of_ble_eq_true rfl) ?_
      refine x_aast (t := 6) (ci := 2) (k := 61) rfl rfl rfl (by rw [aNew_ne (by show w + 3 ≠ w + 6 + 8 + 16 + i; omega)]; exact iniS_at (k := 3) rfl (by omega) iniC_3) aNew_at (vp_inN rfl hin (by decide)) ?_
      refine x_st (show aUp (aNew (iniS G s w 8 16 i) 10 (eO 2 kZ)) (w + 3) (eR G 6 10 (va_up (rTo i (w + 30)) (nI i).toNatClampNeg (some (w + 6 + 8 + 16 + i)))) = iniS G s w 8 16 (i + 1) from by rw [clK hin, show w + 6 + 8 + 16 + i = w + 30 + i by omega]; exact iniS_K hin) ?_
      refine x_iinc (k := 62) rfl rfl (nI_1 i) (by decide) ?_
      refine x_goto (tgt := 102) (k := 63) rfl (by decide) ?_
      exact ih (i + 1) _ (by omega) (by omega) rfl rfl
theorem l_init2 {G : xG} {s : xA} {w : Nat} : ∀ (d i : Nat) (ls : List (Nat × Value)), 16 - i < d → i ≤ 16 → ls.lookup 0 = some (.ref w) → ls.lookup 1 = some (.int (nI i)) → xE G MX8_init 75 ls [] (iniS G s w 8 i 0) (fun r s2 => r = none ∧ s2 = ((setW G s w W0).1, w + 40, s.2.2 + 800)) := by
  intro d
  induction d with
  | zero =>
    intro i ls hd hi g0 g1
    exact absurd hd (Nat.not_lt_zero _)
  | succ d ih =>
    intro i ls hd hi g0 g1
    refine x_sub (ls' := [(0, .ref w), (1, .int (nI i))]) (by simp [*]) ?_
    refine x_iload_n (k := 38) rfl rfl ?_
    refine x_bipush (v := 16) (k := 39) rfl (by decide) ?_
    refine x_icmp_ge (tgt := 100) (k := 40) rfl (by decide) (fun c78 => ?_) (fun c78 => ?_)
    · have e : i = 16 := by
        have := (le_nI nI16 (by omega) (by omega)).mp c78
        omega
      subst e
      refine x_iconst (v := 0) (k := 50) rfl (by decide) ?_
      refine x_istore_n (k := 51) rfl (by decide) ?_
      exact l_init3 11 0 _ (by omega) (by omega) rfl rfl
    · have hin : i < 16 := by
        have := mt (le_nI nI16 (by omega) (by omega)).mpr c78
        omega
      refine x_aload_n (k := 41) rfl rfl ?_
      refine x_get (k := 42) rfl flRX8_19 (iniS_at (k := 0) rfl (by omega) iniC_0) rfl ?_
      refine x_iload_n (k := 43) rfl rfl ?_
      refine x_new (ci := 6) (fs := tZ) (k := 44) rfl rfl clRX8_17 wn6 wi_RX6 tyX6 tyX6_ok (fun j hj => by have hj : j < 7 := hj; rcases (show j = 0 ∨ j = 1 ∨ j = 2 ∨ j = 3 ∨ j = 4 ∨ j = 5 ∨ j = 6 by omega) with rfl | rfl | rfl | rfl | rfl | rfl | rfl <;> rfl) ?_
      refine x_dup (k := 45) rfl rfl ?_
      refine x_cIN (k := 46) rfl (by rfl) (c_initT _) okX6_init rfl rfl viX6_init nlRX8_39 ⟨Nat.le_of_ble_eq_true rfl, Nat.le_of_ble_eq_true rfl⟩ (by exact Nat.le_of_ble_eq_true rfl) rfl (by exact Nat.le_of_ble_eq_true rfl) ?_
      refine x_aast (t := 5) (ci := 6) (k := 47) rfl rfl rfl (by rw [aNew_ne (by show w + 2 ≠ w + 6 + 8 + i + 0; omega)]; exact iniS_at (k := 2) rfl (by omega) iniC_2) aNew_at (vp_inN rfl hin (by decide)) ?_
      refine x_st (show aUp (aNew (iniS G s w 8 i 0) 7 (eO 6 tZ)) (w + 2) (eR G 5 16 (va_up (rTo i (w + 14)) (nI i).toNatClampNeg (some (w + 6 + 8 + i + 0)))) = iniS G s w 8 (i + 1) 0 from by rw [clT hin, show w + 6 + 8 + i + 0 = w + 14 + i by omega]; exact iniS_T hin) ?_
      refine x_iinc (k := 48) rfl rfl (nI_1 i) (by decide) ?_
      refine x_goto (tgt := 75) (k := 49) rfl (by decide) ?_
      exact ih (i + 1) _ (by omega) (by omega) rfl rfl
theorem l_init1 {G : xG} {s : xA} {w : Nat} : ∀ (d i : Nat) (ls : List (Nat × Value)), 8 - i < d → i ≤ 8 → ls.lookup 0 = some (.ref w) → ls.lookup 1 = some (.int (nI i)) → xE G MX8_init 44 ls [] (iniS G s w i 0 0) (fun r s2 => r = none ∧ s2 = ((setW G s w W0).1, w + 40, s.2.2 + 800)) := by
  intro d
  induction d with
  | zero =>
    intro i ls hd hi g0 g1
    exact absurd hd (Nat.not_lt_zero _)
  | succ d ih =>
    intro i ls hd hi g0 g1
    refine x_sub (ls' := [(0, .ref w), (1, .int (nI i))]) (by simp [*]) ?_
    refine x_iload_n (k := 21) rfl rfl ?_
    refine x_bipush (v := 8) (k := 22) rfl (by decide) ?_
    refine x_icmp_ge (tgt := 73) (k := 23) rfl (by decide) (fun c47 => ?_) (fun c47 => ?_)
    · have e : i = 8 := by
        have := (le_nI nI8 (by omega) (by omega)).mp c47
        omega
      subst e
      refine x_iconst (v := 0) (k := 36) rfl (by decide) ?_
      refine x_istore_n (k := 37) rfl (by decide) ?_
      exact l_init2 17 0 _ (by omega) (by omega) rfl rfl
    · have hin : i < 8 := by
        have := mt (le_nI nI8 (by omega) (by omega)).mpr c47
        omega
      refine x_aload_n (k := 24) rfl rfl ?_
      refine x_get (k := 25) rfl flRX8_11 (iniS_at (k := 0) rfl (by omega) iniC_0) rfl ?_
      refine x_iload_n (k := 26) rfl rfl ?_
      refine x_new (ci := 3) (fs := pZ) (k := 27) rfl rfl clRX8_9 wn3 wi_RX3 tyX3 tyX3_ok (fun j hj => by have hj : j < 5 := hj; rcases (show j = 0 ∨ j = 1 ∨ j = 2 ∨ j = 3 ∨ j = 4 by omega) with rfl | rfl | rfl | rfl | rfl <;> rfl) ?_
      refine x_dup (k := 28) rfl rfl ?_
      refine x_iload_n (k := 29) rfl rfl ?_
      refine x_bipush (v := 6) (k := 30) rfl (by decide) ?_
      refine x_irem (k := 31) rfl (by decide) ?_
      refine x_top (mod6 hin) ?_
      refine x_cI (k := 32) rfl (by rfl) (c_initP aNew_at _) okX3_init rfl rfl viX3_init mlRX8_36 ⟨Nat.le_of_ble_eq_true rfl, Nat.le_of_ble_eq_true rfl⟩ (by exact Nat.le_of_ble_eq_true rfl) rfl (by exact Nat.le_of_ble_eq_true rfl) ?_
      refine x_aast (t := 4) (ci := 3) (k := 33) rfl rfl rfl (by rw [aUp_ne (by show w + 1 ≠ w + 6 + i + 0 + 0; omega), aNew_ne (by show w + 1 ≠ w + 6 + i + 0 + 0; omega)]; exact iniS_at (k := 1) rfl (by omega) iniC_1) aUp_at (vp_inN rfl hin (by decide)) ?_
      refine x_st (show aUp (aUp (aNew (iniS G s w i 0 0) 5 (eO 3 pZ)) (w + 6 + i) (eO 3 [.int 100, .int 40, .int (nI (i % 6)), .int (-9), .int 0])) (w + 1) (eR G 4 8 (va_up (rTo i (w + 6)) (nI i).toNatClampNeg (some (w + 6 + i)))) = iniS G s w (i + 1) 0 0 from by rw [clP hin]; exact iniS_P hin) ?_
      refine x_iinc (k := 34) rfl rfl (nI_1 i) (by decide) ?_
      refine x_goto (tgt := 44) (k := 35) rfl (by decide) ?_
      exact ih (i + 1) _ (by omega) (by omega) rfl rfl
theorem c_initW {G : xG} {s : xA} {w : Nat} (h : s.1 w = some (eO 8 wZ)) (hn : s.2.1 = w + 1) : xV G MX8_init [.ref w] s ((setW G s w W0).1, w + 40, s.2.2 + 800) := by
  refine x_st (lst_of h hn) ?_
  refine x_aload_n (k := 0) rfl rfl ?_
  refine x_obj (k := 1) rfl mlRX8_3 wObj1 wObj2 (by exact Nat.le_of_ble_eq_true rfl) (by exact Nat.le_of_ble_eq_true rfl) ?_
  refine x_aload_n (k := 2) rfl rfl ?_
  refine x_bipush (v := 8) (k := 3) rfl (by decide) ?_
  refine y_anew (a := w + 1) (C0 := RX3) (t := 4) (N := 8) (k := 4) rfl (by simp [nestC]) clRX8_9 rfl (by decide) (by decide) (by decide) rfl ?_
  refine y_putF (k0 := 0) (k := 5) rfl flRX8_11 ft8_6 rfl rfl rfl rfl (by exact Nat.le_of_ble_eq_true rfl) rfl rfl ?_
  refine x_aload_n (k := 6) rfl rfl ?_
  refine x_bipush (v := 16) (k := 7) rfl (by decide) ?_
  refine y_anew (a := w + 2) (C0 := RX6) (t := 5) (N := 16) (k := 8) rfl (by simp [nestC]) clRX8_17 rfl (by decide) (by decide) (by decide) rfl ?_
  refine y_putF (k0 := 0) (k := 9) rfl flRX8_19 ft8_7 rfl rfl rfl rfl (by exact Nat.le_of_ble_eq_true rfl) rfl rfl ?_
  refine x_aload_n (k := 10) rfl rfl ?_
  refine x_bipush (v := 10) (k := 11) rfl (by decide) ?_
  refine y_anew (a := w + 3) (C0 := RX2) (t := 6) (N := 10) (k := 12) rfl (by simp [nestC]) clRX8_23 rfl (by decide) (by decide) (by decide) rfl ?_
  refine y_putF (k0 := 0) (k := 13) rfl flRX8_25 ft8_8 rfl rfl rfl rfl (by exact Nat.le_of_ble_eq_true rfl) rfl rfl ?_
  refine x_aload_n (k := 14) rfl rfl ?_
  refine y_new (a := w + 4) (ci := 1) (fs := [.null, .int 0]) (k := 15) rfl rfl clRX8_29 wn1 wi_RX1 tyX1 tyX1_ok (fun j hj => by have hj : j < 2 := hj; rcases (show j = 0 ∨ j = 1 by omega) with rfl | rfl <;> rfl) rfl ?_
  refine x_dup (k := 16) rfl rfl ?_
  refine x_cIN (k := 17) rfl (by rfl) (c_initH (lst_g (k0 := 4) rfl rfl) rfl) okX1_init rfl rfl viX1_init nlRX8_31 ⟨Nat.le_of_ble_eq_true rfl, Nat.le_of_ble_eq_true rfl⟩ (by exact Nat.le_of_ble_eq_true rfl) rfl (by exact Nat.le_of_ble_eq_true rfl) ?_
  refine x_st (lst_lst (k0 := 4) rfl rfl rfl (Nat.succ_pos _)) ?_
  refine y_putF (k0 := 0) (k := 18) rfl flRX8_32 ft8_9 rfl rfl rfl rfl (by exact Nat.le_of_ble_eq_true rfl) rfl rfl ?_
  refine x_iconst (v := 0) (k := 19) rfl (by decide) ?_
  refine x_istore_n (k := 20) rfl (by decide) ?_
  refine x_st iniS_0 ?_
  exact l_init1 9 0 _ (by omega) (by omega) rfl rfl
