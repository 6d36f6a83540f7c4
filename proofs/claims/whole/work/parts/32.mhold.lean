-- ===== the model: the world behind the array, with the hours; a holder's change =====
theorem t32 (x : Int32) : x.toInt64.toInt32 = x := by simp
theorem adr_lt {a i k : Nat} (h : dmn 16 10 a i k) : adr a i k < 268 ∧ ∀ p, adr a i k ≠ 158 + 11 * p + 10 := by
  rcases h with ⟨rfl, h1, h2⟩ | ⟨rfl, h1, h2⟩ | ⟨rfl, h1, h2⟩ | ⟨rfl, rfl, h2⟩
  · exact ⟨by simp only [adr]; omega, fun p => by simp only [adr]; omega⟩
  · exact ⟨by simp only [adr]; omega, fun p => by simp only [adr]; omega⟩
  · exact ⟨by simp only [adr]; omega, fun p => by simp only [adr]; omega⟩
  · rcases (by omega : k = 0 ∨ k = 1 ∨ k = 2 ∨ k = 3 ∨ k = 4 ∨ k = 5) with rfl | rfl | rfl | rfl | rfl | rfl <;> exact ⟨by decide, fun p => by simp only [adr]; omega⟩
theorem adr_ge {a i k : Nat} (h : dmn 16 10 a i k) (h0 : a ≠ 3 ∨ k = 2 ∨ k = 3) : 4 ≤ adr a i k := by
  rcases h with ⟨rfl, h1, h2⟩ | ⟨rfl, h1, h2⟩ | ⟨rfl, h1, h2⟩ | ⟨rfl, rfl, h2⟩
  · simp only [adr]; omega
  · simp only [adr]; omega
  · simp only [adr]; omega
  · rcases h0 with h0 | rfl | rfl
    · exact absurd rfl h0
    · decide
    · decide
theorem dmn_a {nt nk a i k : Nat} (h : dmn nt nk a i k) : a ≠ 4 ∧ a ≠ 5 := by unfold dmn at h; omega
theorem rlE.up {hr f nt nk j : Nat} {N : Nat → Int64} {v : Int64} (h : rlE hr f nt nk N) (hj : 4 ≤ j) : rlE hr f nt nk (vp_updL N j v) :=
  ⟨(vp_upL_ne (by omega)).trans h.1, (vp_upL_ne (by omega)).trans h.2.1, (vp_upL_ne (by omega)).trans h.2.2.1, (vp_upL_ne (by omega)).trans h.2.2.2⟩
section RMS
variable {hr f nt nk : Nat} {W : Wd} {V : Vd} {N : Nat → Int64}
theorem Rm.set {a i k : Nat} {x : Int32} {v : Int64} (hM : Rm hr f nt nk W V) (hd : dmn nt nk a i k) (h0 : a ≠ 3 ∨ k = 2 ∨ k = 3) (hv : v.toInt32 = x) : Rm hr f nt nk (wSet W a i k x) (mNo V (adr a i k) v) :=
  ⟨⟨hM.1.1.set hM.2.2.2.1 hM.2.2.2.2 hd hv, hM.1.2.up (adr_ge (dmn_le hd hM.2.2.2.1 hM.2.2.2.2) h0)⟩, hM.2⟩
/-- the same world in all that the array shows -/
theorem Rm.eq {W' : Wd} (hM : Rm hr f nt nk W V) (h : ∀ a i k, a ≠ 4 → a ≠ 5 → W' a i k = W a i k) : Rm hr f nt nk W' V :=
  ⟨⟨fun a i k hd => by rw [h a i k (dmn_a hd).1 (dmn_a hd).2]; exact hM.1.1 a i k hd, hM.1.2⟩, hM.2⟩
theorem Rm.note (hM : Rm hr f nt nk W V) (a b c : Int32) : Rm hr f nt nk (sNote W a b c) V := hM.eq (fun _ _ _ h1 h2 => sNote_r h1 h2)
theorem Rm.els {j : Nat} {v : Int64} (hM : Rm hr f nt nk W V) (hj : 268 ≤ j) : Rm hr f nt nk W (mNo V j v) :=
  ⟨⟨hM.1.1.els (fun a i k hd => by have := (adr_lt (dmn_le hd hM.2.2.2.1 hM.2.2.2.2)).1; omega), hM.1.2.up (by omega)⟩, hM.2⟩
/-- the world, and the hours of its parcels; h0: up to which hour they stand -/
def RH (h0 hr f nt nk : Nat) (W : Wd) (N : Nat → Int64) : Prop := Rm hr f nt nk W (N, fun _ => 0, fun _ _ => 0) ∧ enOk h0 nk W ∧ ∀ k, k < nk → hNo h0 W N k
abbrev RF (hr f nt nk : Nat) (W : Wd) (N : Nat → Int64) : Prop := RH hr hr f nt nk W N
variable {h0 : Nat}
theorem RH.m (h : RH h0 hr f nt nk W V.1) : Rm hr f nt nk W V := h.1
theorem RH.set {a i k : Nat} {x : Int32} {v : Int64} (h : RH h0 hr f nt nk W N) (hd : dmn nt nk a i k) (hh : a ≠ 3 ∨ k = 2 ∨ k = 3) (h6 : a ≠ 2 ∨ k ≠ 6) (hv : v.toInt32 = x) : RH h0 hr f nt nk (wSet W a i k x) (vp_updL N (adr a i k) v) := by
  obtain ⟨h1, h2, h3⟩ := h
  have hd' := dmn_le hd h1.2.2.2.1 h1.2.2.2.2
  have e4 : wSet W a i k x 4 0 0 = W 4 0 0 := wSet_a (Ne.symm (dmn_a hd).1)
  have e5 : ∀ j, wSet W a i k x 5 0 j = W 5 0 j := fun j => wSet_a (Ne.symm (dmn_a hd).2)
  refine ⟨h1.set hd hh hv, h2.eq e4 (fun j _ => e5 j), fun q hq => (h3 q hq).eq (fun h _ => LU_eq e4 (fun j _ => e5 j) q h) ?_ (vp_upL_ne (Ne.symm ((adr_lt hd').2 q))) (fun h _ => vp_upL_ne (by have := (adr_lt hd').1; unfold nbA; omega))⟩
  rw [wSet_r, if_neg]
  rintro ⟨rfl, -, rfl⟩
  exact h6.elim (fun z => z rfl) (fun z => z rfl)
/-- another world that looks the same -/
theorem RH.eq {W' : Wd} (h : RH h0 hr f nt nk W N) (h1 : ∀ a i k, a ≠ 4 → a ≠ 5 → W' a i k = W a i k) (h4 : W' 4 0 0 = W 4 0 0) (h5 : ∀ j, j < ix (W 4 0 0) → W' 5 0 j = W 5 0 j) : RH h0 hr f nt nk W' N :=
  ⟨h.1.eq h1, h.2.1.eq h4 h5, fun q hq => (h.2.2 q hq).eq (fun h _ => LU_eq h4 h5 q h) (h1 2 q 6 (by decide) (by decide)) rfl (fun _ _ => rfl)⟩
end RMS
/-- what a call of the model left: only the world's cells are changed -/
def Chh (V : Vd) (h0 hr f nt nk : Nat) (W' : Wd) (V' : Vd) : Prop := V'.2 = V.2 ∧ (∀ j, 588 ≤ j → V'.1 j = V.1 j) ∧ RH h0 hr f nt nk W' V'.1
abbrev Ch (V : Vd) (hr f nt nk : Nat) (W' : Wd) (V' : Vd) : Prop := Chh V hr hr f nt nk W' V'
theorem ge_no {V0 V : Vd} {p : Nat} {v : Int64} (h : ∀ j, 588 ≤ j → V.1 j = V0.1 j) (hp : p < 588) : ∀ j, 588 ≤ j → (mNo V p v).1 j = V0.1 j := fun j hj => (vp_upL_ne (by omega)).trans (h j hj)
section CHS
variable {V V1 V2 : Vd} {h0 hr f nt nk h0' hr' f' nt' nk' : Nat} {W W1 W2 : Wd}
theorem Chh.rf (h : RH h0 hr f nt nk W V.1) : Chh V h0 hr f nt nk W V := ⟨rfl, fun _ _ => rfl, h⟩
theorem Chh.tr (h : Chh V h0 hr f nt nk W1 V1) (h' : Chh V1 h0' hr' f' nt' nk' W2 V2) : Chh V h0' hr' f' nt' nk' W2 V2 := ⟨h'.1.trans h.1, fun j hj => (h'.2.1 j hj).trans (h.2.1 j hj), h'.2.2⟩
theorem Chh.w (h : Chh V h0 hr f nt nk W1 V1) (e : W1 = W2) : Chh V h0 hr f nt nk W2 V1 := e ▸ h
theorem Chh.m (h : Chh V h0 hr f nt nk W1 V1) : Rm hr f nt nk W1 V1 := RH.m h.2.2
theorem Chh.set {a i k : Nat} {x : Int32} {v : Int64} (h : Chh V h0 hr f nt nk W1 V1) (hd : dmn nt nk a i k) (hh : a ≠ 3 ∨ k = 2 ∨ k = 3) (h6 : a ≠ 2 ∨ k ≠ 6) (hv : v.toInt32 = x) : Chh V h0 hr f nt nk (wSet W1 a i k x) (mNo V1 (adr a i k) v) :=
  ⟨h.1, ge_no h.2.1 (by have := (adr_lt (dmn_le hd h.m.2.2.2.1 h.m.2.2.2.2)).1; omega), h.2.2.set hd hh h6 hv⟩
theorem Chh.setP {p k : Nat} {x : Int32} {v : Int64} (h : Chh V h0 hr f nt nk W1 V1) (hp : p < 8) (hk : k < 5) (hv : v.toInt32 = x) : Chh V h0 hr f nt nk (wSet W1 0 p k x) (mNo V1 (6 + 5 * p + k) v) := h.set (a := 0) (Or.inl ⟨rfl, hp, hk⟩) (Or.inl (by decide)) (Or.inl (by decide)) hv
theorem Chh.setT {p k : Nat} {x : Int32} {v : Int64} (h : Chh V h0 hr f nt nk W1 V1) (hp : p < nt) (hk : k < 7) (hv : v.toInt32 = x) : Chh V h0 hr f nt nk (wSet W1 1 p k x) (mNo V1 (46 + 7 * p + k) v) := h.set (a := 1) (Or.inr (Or.inl ⟨rfl, hp, hk⟩)) (Or.inl (by decide)) (Or.inl (by decide)) hv
theorem Chh.setK {p k : Nat} {x : Int32} {v : Int64} (h : Chh V h0 hr f nt nk W1 V1) (hp : p < nk) (hk : k < 10) (h6 : k ≠ 6) (hv : v.toInt32 = x) : Chh V h0 hr f nt nk (wSet W1 2 p k x) (mNo V1 (158 + 11 * p + k) v) := h.set (a := 2) (Or.inr (Or.inr (Or.inl ⟨rfl, hp, hk⟩))) (Or.inl (by decide)) (Or.inr h6) hv
/-- a number of the world's own grows: handovers (2), fees (3) -/
theorem Chh.add {q : Nat} {x : Int32} {v : Int64} (h : Chh V h0 hr f nt nk W1 V1) (hq : q = 2 ∨ q = 3) (hv : v.toInt32 = x) : Chh V h0 hr f nt nk (wSet W1 3 0 q (W1 3 0 q + x)) (mNo V1 (q + 2) (V1.1 (q + 2) + v)) := by
  have e := h.m.O (k := q) (by omega)
  have hx : adr 3 0 q = q + 2 := by rcases hq with rfl | rfl <;> rfl
  rw [hx] at e
  have := h.set (a := 3) (i := 0) (k := q) (x := W1 3 0 q + x) (v := V1.1 (q + 2) + v) (Or.inr (Or.inr (Or.inr ⟨rfl, rfl, by omega⟩))) (Or.inr hq) (Or.inl (by decide)) (by rw [Int64.toInt32_add, e, hv])
  rw [hx] at this
  exact this
end CHS
abbrev mIQ (G : xG) (M : xM) (As : List Value) (s : xA) (m : Nat) (V : Vd) (v : Int32) (P : Vd → Prop) : Prop := mMe G M As s m V (fun r V' => r = some (.int v) ∧ P V')
abbrev mVQ (G : xG) (M : xM) (As : List Value) (s : xA) (m : Nat) (V : Vd) (P : Vd → Prop) : Prop := mMe G M As s m V (fun r V' => r = none ∧ P V')
section MRQ
variable {G : xG} {M M' : xM} {pc : Nat} {ls : List (Nat × Value)} {st stk Ar : List Value} {s : xA} {m : Nat} {V : Vd} {Q : Option Value → Vd → Prop} {P : Vd → Prop}
theorem m_irQ {k : Nat} {v v' : Int32} {ty : FieldType} (hk : (mIn M)[k]? = some (pc, .ireturn, 1)) (hr : mRt M = some ty) (hn : narrow ty (.int v) = .int v) (hv : v = v') (hP : P V) : mE G M pc ls [.int v] s m V (fun r W1 => r = some (.int v') ∧ P W1) := x_iret hk hr hn ⟨V, rfl, by rw [hv], hP⟩
theorem m_rQ {k : Nat} (hk : (mIn M)[k]? = some (pc, .return_, 1)) (hr : mRt M = none) (hP : P V) : mE G M pc ls [] s m V (fun r W1 => r = none ∧ P W1) := x_ret hk hr ⟨V, rfl, rfl, hP⟩
theorem m_callIQ {k idx n a ci : Nat} {fs : List Value} {v : Int32} (hk : (mIn M)[k]? = some (pc, .invokevirtual idx, 3)) (hs : stk = Ar.reverse ++ .ref a :: st) (hb : mIQ G M' (.ref a :: Ar) s m V v P) (ho : xOk M' n) (hv : xVi (mY M')) (hw : Cond.methodLink (mOwn M) idx (mY M') ∈ gW) (hR : xRm M M') (hlen : (lg_sl (.ref a :: Ar)).length ≤ mNL M') (hn : Ar.length = n) (hc : (vwCl[ci]?).map (fun q => q.1) = some (mY M').cls) (hh : (setM G s m V).1 a = some (eO ci fs)) (hst : (st.map fun v => v.category).sum ≤ 8) (kk : ∀ V', P V' → mE G M (pc + 3) ls (.int v :: st) s m V' Q) : mE G M pc ls stk s m V Q :=
  x_callV hk ho hv hw hR hlen hn hc hh hst hs hb (fun r s1 h => by
    obtain ⟨Y1, rfl, q1, q2⟩ := h
    rw [q1]
    exact kk Y1 q2)
theorem m_callVQ {k idx n a ci : Nat} {fs : List Value} (hk : (mIn M)[k]? = some (pc, .invokevirtual idx, 3)) (hs : stk = Ar.reverse ++ .ref a :: st) (hb : mVQ G M' (.ref a :: Ar) s m V P) (ho : xOk M' n) (hv : xVi (mY M')) (hw : Cond.methodLink (mOwn M) idx (mY M') ∈ gW) (hR : xRm M M') (hlen : (lg_sl (.ref a :: Ar)).length ≤ mNL M') (hn : Ar.length = n) (hc : (vwCl[ci]?).map (fun q => q.1) = some (mY M').cls) (hh : (setM G s m V).1 a = some (eO ci fs)) (hst : (st.map fun v => v.category).sum ≤ 8) (kk : ∀ V', P V' → mE G M (pc + 3) ls st s m V' Q) : mE G M pc ls stk s m V Q :=
  x_callV hk ho hv hw hR hlen hn hc hh hst hs hb (fun r s1 h => by
    obtain ⟨Y1, rfl, q1, q2⟩ := h
    rw [q1]
    exact kk Y1 q2)
end MRQ
-- a holder's change, in the world and in the array
def cmW (W : Wd) (hr k : Nat) (h : Int32) : Wd := wSet (wSet (wSet (wSet W 2 k 6 h) 2 k 7 (nI hr)) 2 k 8 (-9)) 2 k 9 (-9)
def cmN (N : Nat → Int64) (hr k : Nat) (h : Int32) : Nat → Int64 := vp_updL (vp_updL (vp_updL (vp_updL N (158 + 11 * k + 6) h.toInt64) (158 + 11 * k + 7) (nI hr).toInt64) (158 + 11 * k + 8) (-9)) (158 + 11 * k + 9) (-9)
def mCm (N : Nat → Int64) (hr k : Nat) (h : Int32) : Nat → Int64 := mStd (cmN N hr k h) k hr h
theorem cmW_r {W : Wd} {hr k : Nat} {h : Int32} {a i j : Nat} (h1 : a ≠ 2 ∨ i ≠ k ∨ j < 6) : cmW W hr k h a i j = W a i j := by
  rcases h1 with h1 | h1 | h1
  · rw [cmW, wSet_a h1, wSet_a h1, wSet_a h1, wSet_a h1]
  · rw [cmW, wSet_i h1, wSet_i h1, wSet_i h1, wSet_i h1]
  · rw [cmW, wSet_k (by omega), wSet_k (by omega), wSet_k (by omega), wSet_k (by omega)]
theorem cmW_6 {W : Wd} {hr k : Nat} {h : Int32} : cmW W hr k h 2 k 6 = h := by
  rw [cmW, wSet_k (by decide), wSet_k (by decide), wSet_k (by decide), wSet_same]
theorem cmN_ne {N : Nat → Int64} {hr k j : Nat} {h : Int32} (h1 : j < 158 + 11 * k + 6 ∨ 158 + 11 * k + 9 < j) : cmN N hr k h j = N j := by
  rw [cmN, vp_upL_ne (by omega), vp_upL_ne (by omega), vp_upL_ne (by omega), vp_upL_ne (by omega)]
theorem Rm.cm {hr f nt nk k : Nat} {W : Wd} {V : Vd} {h : Int32} (hM : Rm hr f nt nk W V) (hk : k < nk) : Rm hr f nt nk (cmW W hr k h) (cmN V.1 hr k h, V.2) := by
  have h1 := hM.set (a := 2) (i := k) (k := 6) (x := h) (v := h.toInt64) (Or.inr (Or.inr (Or.inl ⟨rfl, hk, by decide⟩))) (Or.inl (by decide)) (t32 h)
  have h2 := h1.set (a := 2) (i := k) (k := 7) (x := nI hr) (v := (nI hr).toInt64) (Or.inr (Or.inr (Or.inl ⟨rfl, hk, by decide⟩))) (Or.inl (by decide)) (t32 _)
  have h3 := h2.set (a := 2) (i := k) (k := 8) (x := -9) (v := -9) (Or.inr (Or.inr (Or.inl ⟨rfl, hk, by decide⟩))) (Or.inl (by decide)) (by decide)
  have h4 := h3.set (a := 2) (i := k) (k := 9) (x := -9) (v := -9) (Or.inr (Or.inr (Or.inl ⟨rfl, hk, by decide⟩))) (Or.inl (by decide)) (by decide)
  exact h4
theorem comes_RF {hr f nt nk k sz : Nat} {W : Wd} {N : Nat → Int64} {h : Int32} (hM : Rm hr f nt nk W (N, fun _ => 0, fun _ _ => 0)) (he : enOk hr nk W) (ho : ∀ j, j < nk → j ≠ k → hNo hr W N j) (hp : hPa hr W N k) (hk : k < nk) (h5 : hr ≤ 500) (hz : W 4 0 0 = nI sz) (hz5 : sz < 512) (hh : isHo h) : RF hr f nt nk (sSetH W k h) (mCm N hr k h) := by
  have hk10 := hM.2.2.2.2
  obtain ⟨c, hc, rfl⟩ := isHo_c hh
  have eS : sSetH W k (nI c) = sNote (cmW W hr k (nI c)) (nI hr) (nI k) (nI c) := by rw [sSetH, hM.eH]; rfl
  have e4 : cmW W hr k (nI c) 4 0 0 = nI sz := (cmW_r (Or.inl (by decide))).trans hz
  have e4' : cmW W hr k (nI c) 4 0 0 = W 4 0 0 := cmW_r (Or.inl (by decide))
  have e5 : ∀ j, cmW W hr k (nI c) 5 0 j = W 5 0 j := fun j => cmW_r (Or.inl (by decide))
  have eL : ∀ k' h', k' < 10 → h' ≤ 500 → ¬ (k = k' ∧ hr ≤ h') → LU (sNote (cmW W hr k (nI c)) (nI hr) (nI k) (nI c)) k' h' = LU W k' h' := fun k' h' a b q => by
    rw [LU_note e4 hz5 (by omega) (by omega) hc (by omega) (by omega), if_neg q, LU_eq e4' (fun j _ => e5 j)]
  have e6 : sNote (cmW W hr k (nI c)) (nI hr) (nI k) (nI c) 2 k 6 = nI c := (sNote_r (by decide) (by decide)).trans cmW_6
  rw [eS]
  refine ⟨((hM.cm hk).note _ _ _).els (by unfold nbA; omega), enOk_note (he.eq e4' (fun j _ => e5 j)) e4 hz5 hk hc, fun j hj => ?_⟩
  by_cases hjk : j = k
  · subst hjk
    have hq : hPa hr (sNote (cmW W hr j (nI c)) (nI hr) (nI j) (nI c)) (cmN N hr j (nI c)) j := hp.eq (fun h hh => eL j h (by omega) (by omega) (fun q => by omega)) (cmN_ne (by omega)) (fun h hh => by rw [cmN_ne (by unfold nbA; omega)])
    have := hq.stand (by omega) (by omega) (by rw [LU_note e4 hz5 (by omega) (by omega) hc (by omega) (by omega), if_pos ⟨rfl, Nat.le_refl _⟩, e6]) (by rw [e6]; exact hh)
    rw [e6] at this
    exact this
  · refine (ho j hj hjk).eq (fun h hh => eL j h (by omega) (by omega) (fun q => hjk q.1.symm)) ((sNote_r (by decide) (by decide)).trans (cmW_r (Or.inr (Or.inl hjk)))) ?_ (fun h hh => ?_)
    · rw [mCm, mStd_ne (by unfold nbA; omega), cmN_ne (by omega)]
    · rw [mCm, mStd_ne (by unfold nbA; omega), cmN_ne (by unfold nbA; omega)]
theorem x_topL {G : xG} {M : xM} {pc : Nat} {ls : List (Nat × Value)} {st : List Value} {s : xA} {Q : Option Value → xA → Prop} {x y : Int64} (h : x = y) (kk : xE G M pc ls (.long y :: st) s Q) : xE G M pc ls (.long x :: st) s Q := by
  rw [h]
  exact kk
theorem stA {k hr : Nat} (h : hr ≤ 600) : (268 : Int32) + 32 * nI k + nI hr / 16 = nI (nbA k hr) := by
  rw [show (268 : Int32) = nI 268 from rfl, show (32 : Int32) = nI 32 from rfl, show (16 : Int32) = nI 16 from rfl, pk_mul, pk_div (by omega) (by decide) (by decide), nI_add, nI_add]
theorem stB {hr : Nat} (h : hr ≤ 600) : (4 : Int32) * (nI hr - nI hr / 16 * 16) = nI (4 * (hr % 16)) := by
  rw [show (4 : Int32) = nI 4 from rfl, show (16 : Int32) = nI 16 from rfl, pk_rem (by omega) (by decide) (by decide), pk_mul]
theorem l_stands {G : xG} {s : xA} {m hr f nt nk : Nat} {W : Wd} {V : Vd} (hM : Rm hr f nt nk W V) {k : Nat} (hk : k < nk) {x : Int32} {c : Int64} (hc : c = cdH x) : mE G MX10_stands 23 [(0, .ref m), (1, .int (nI k)), (2, .int x)] [.long c] s m V (fun r W1 => r = none ∧ W1 = (mStd V.1 k hr x, V.2)) := by
  have hb := hM.2
  subst hc
  refine x_lstore_n (k := 15) rfl (by decide) ?_
  refine x_sipush (v := 268) (k := 16) rfl (by decide) ?_
  refine x_bipush (v := 32) (k := 17) rfl (by decide) ?_
  refine x_iload_n (k := 18) rfl rfl ?_
  refine x_imul (k := 19) rfl ?_
  refine x_iadd (k := 20) rfl ?_
  refine x_aload_n (k := 21) rfl rfl ?_
  refine m_callI (ci := 10) (k := 22) rfl (by rfl) (m_hour hM) okX10_hour viX10_hour mlRX10_51 ⟨Nat.le_of_ble_eq_true rfl, Nat.le_of_ble_eq_true rfl⟩ (by exact Nat.le_of_ble_eq_true rfl) rfl rfl mG0 (by exact Nat.le_of_ble_eq_true rfl) ?_
  refine x_bipush (v := 16) (k := 23) rfl (by decide) ?_
  refine x_idiv (k := 24) rfl (by decide) ?_
  refine x_iadd (k := 25) rfl ?_
  refine x_top (stA (by omega)) ?_
  refine x_istore (k := 26) rfl (by decide) ?_
  refine x_iconst (v := 4) (k := 27) rfl (by decide) ?_
  refine x_aload_n (k := 28) rfl rfl ?_
  refine m_callI (ci := 10) (k := 29) rfl (by rfl) (m_hour hM) okX10_hour viX10_hour mlRX10_51 ⟨Nat.le_of_ble_eq_true rfl, Nat.le_of_ble_eq_true rfl⟩ (by exact Nat.le_of_ble_eq_true rfl) rfl rfl mG0 (by exact Nat.le_of_ble_eq_true rfl) ?_
  refine x_bipush (v := 16) (k := 30) rfl (by decide) ?_
  refine x_irem (k := 31) rfl (by decide) ?_
  refine x_imul (k := 32) rfl ?_
  refine x_top (stB (by omega)) ?_
  refine x_istore (k := 33) rfl (by decide) ?_
  refine x_aload_n (k := 34) rfl rfl ?_
  refine m_getA (a := 1) (k := 35) rfl flRX10_7 rfl ?_
  refine x_iload (k := 36) rfl rfl ?_
  refine x_aload_n (k := 37) rfl rfl ?_
  refine m_getA (a := 1) (k := 38) rfl flRX10_7 rfl ?_
  refine x_iload (k := 39) rfl rfl ?_
  refine m_nat (k := 40) rfl rfl (by unfold nbA; omega) ?_
  refine x_ldc2 (k := 41) rfl klRX10_87 ?_
  refine x_iload (k := 42) rfl rfl ?_
  refine x_lshl (k := 43) rfl ?_
  refine x_ldc2 (k := 44) rfl klRX10_89 ?_
  refine x_lxor (k := 45) rfl ?_
  refine x_land (k := 46) rfl ?_
  refine x_lload_n (k := 47) rfl rfl ?_
  refine x_iload (k := 48) rfl rfl ?_
  refine x_lshl (k := 49) rfl ?_
  refine x_lor (k := 50) rfl ?_
  refine m_nput (k := 51) rfl rfl (by unfold nbA; omega) ?_
  exact m_rD (k := 52) rfl rfl rfl
theorem m_stands {G : xG} {s : xA} {m hr f nt nk : Nat} {W : Wd} {V : Vd} (hM : Rm hr f nt nk W V) {k : Nat} (hk : k < nk) : mV G MX10_stands [.ref m, .int (nI k)] s m V (mStd V.1 k hr (W 2 k 6), V.2) := by
  refine x_aload_n (k := 0) rfl rfl ?_
  refine x_iload_n (k := 1) rfl rfl ?_
  refine x_bipush (v := 6) (k := 2) rfl (by decide) ?_
  refine m_callI (ci := 10) (k := 3) rfl (by rfl) (m_of hM (k := 6) hk (by decide)) okX10_of viX10_of mlRX10_84 ⟨Nat.le_of_ble_eq_true rfl, Nat.le_of_ble_eq_true rfl⟩ (by exact Nat.le_of_ble_eq_true rfl) rfl rfl mG0 (by exact Nat.le_of_ble_eq_true rfl) ?_
  refine x_istore_n (k := 4) rfl (by decide) ?_
  refine x_iload_n (k := 5) rfl rfl ?_
  refine x_bipush (v := 10) (k := 6) rfl (by decide) ?_
  refine x_icmp_ge (tgt := 19) (k := 7) rfl (by decide) (fun c11 => ?_) (fun c11 => ?_)
  · have e : (W 2 k 6 - 2).toInt64 = cdH (W 2 k 6) := (if_neg (Int32.not_lt.mpr c11)).symm
    refine x_iload_n (k := 11) rfl rfl ?_
    refine x_iconst (v := 2) (k := 12) rfl (by decide) ?_
    refine x_isub (k := 13) rfl ?_
    refine x_i2l (k := 14) rfl ?_
    exact l_stands hM hk e
  · have e : (W 2 k 6).toInt64 = cdH (W 2 k 6) := (if_pos (Int32.not_le.mp c11)).symm
    refine x_iload_n (k := 8) rfl rfl ?_
    refine x_i2l (k := 9) rfl ?_
    refine x_goto (tgt := 23) (k := 10) rfl (by decide) ?_
    exact l_stands hM hk e
theorem m_stood {G : xG} {s : xA} {m : Nat} {V : Vd} {k h : Nat} (hk : k < 10) (hh : h ≤ 500) {x : Int32} (hx : isHo x) (e : nbG (V.1 (nbA k h)) (h % 16) = cdH x) : mI G MX10_stood [.ref m, .int (nI k), .int (nI h)] s m V x V := by
  obtain ⟨c, hc1, hc2, hc3⟩ := cdH_n hx
  rw [hc2] at e
  refine x_aload_n (k := 0) rfl rfl ?_
  refine m_getA (a := 1) (k := 1) rfl flRX10_7 rfl ?_
  refine x_sipush (v := 268) (k := 2) rfl (by decide) ?_
  refine x_bipush (v := 32) (k := 3) rfl (by decide) ?_
  refine x_iload_n (k := 4) rfl rfl ?_
  refine x_imul (k := 5) rfl ?_
  refine x_iadd (k := 6) rfl ?_
  refine x_iload_n (k := 7) rfl rfl ?_
  refine x_bipush (v := 16) (k := 8) rfl (by decide) ?_
  refine x_idiv (k := 9) rfl (by decide) ?_
  refine x_iadd (k := 10) rfl ?_
  refine m_nat (k := 11) rfl (stA (by omega)) (by unfold nbA; omega) ?_
  refine x_iconst (v := 4) (k := 12) rfl (by decide) ?_
  refine x_iload_n (k := 13) rfl rfl ?_
  refine x_bipush (v := 16) (k := 14) rfl (by decide) ?_
  refine x_irem (k := 15) rfl (by decide) ?_
  refine x_imul (k := 16) rfl ?_
  refine x_top (stB (by omega)) ?_
  refine x_lshr (k := 17) rfl ?_
  refine x_ldc2 (k := 18) rfl klRX10_87 ?_
  refine x_land (k := 19) rfl ?_
  refine x_topL (y := lN c) e ?_
  refine x_l2i (k := 20) rfl ?_
  refine x_top (lN_i c) ?_
  refine x_istore_n (k := 21) rfl (by decide) ?_
  refine x_iload_n (k := 22) rfl rfl ?_
  refine x_bipush (v := 8) (k := 23) rfl (by decide) ?_
  refine x_icmp_ge (tgt := 41) (k := 24) rfl (by decide) (fun c34 => ?_) (fun c34 => ?_)
  · rw [if_neg (Int32.not_lt.mpr c34)] at hc3
    refine x_iload_n (k := 27) rfl rfl ?_
    refine x_iconst (v := 2) (k := 28) rfl (by decide) ?_
    refine x_iadd (k := 29) rfl ?_
    exact m_irD (k := 30) rfl rfl rfl hc3 rfl
  · rw [if_pos (Int32.not_le.mp c34)] at hc3
    refine x_iload_n (k := 25) rfl rfl ?_
    refine x_goto (tgt := 44) (k := 26) rfl (by decide) ?_
    exact m_irD (k := 30) rfl rfl rfl hc3 rfl
theorem m_comesTo {G : xG} {s : xA} {m hr f nt nk : Nat} {W : Wd} {V : Vd} (hM : Rm hr f nt nk W V) {k : Nat} (hk : k < nk) (h : Int32) : mV G MX10_comesTo [.ref m, .int (nI k), .int h] s m V (mCm V.1 hr k h, V.2) := by
  have hb := hM.2
  refine x_aload_n (k := 0) rfl rfl ?_
  refine x_iload_n (k := 1) rfl rfl ?_
  refine x_bipush (v := 6) (k := 2) rfl (by decide) ?_
  refine x_iload_n (k := 3) rfl rfl ?_
  refine x_i2l (k := 4) rfl ?_
  refine m_callV (ci := 10) (k := 5) rfl (by rfl) (m_sets (k := 6) (by omega) (by decide) _) okX10_sets viX10_sets mlRX10_119 ⟨Nat.le_of_ble_eq_true rfl, Nat.le_of_ble_eq_true rfl⟩ (by exact Nat.le_of_ble_eq_true rfl) rfl rfl mG0 (by exact Nat.le_of_ble_eq_true rfl) ?_
  refine x_aload_n (k := 6) rfl rfl ?_
  refine x_iload_n (k := 7) rfl rfl ?_
  refine x_bipush (v := 7) (k := 8) rfl (by decide) ?_
  refine x_aload_n (k := 9) rfl rfl ?_
  refine m_callI (ci := 10) (k := 10) rfl (by rfl) (m_hour (hM.set (a := 2) (i := k) (k := 6) (x := h) (Or.inr (Or.inr (Or.inl ⟨rfl, hk, by decide⟩))) (Or.inl (by decide)) (t32 h))) okX10_hour viX10_hour mlRX10_51 ⟨Nat.le_of_ble_eq_true rfl, Nat.le_of_ble_eq_true rfl⟩ (by exact Nat.le_of_ble_eq_true rfl) rfl rfl mG0 (by exact Nat.le_of_ble_eq_true rfl) ?_
  refine x_i2l (k := 11) rfl ?_
  refine m_callV (ci := 10) (k := 12) rfl (by rfl) (m_sets (k := 7) (by omega) (by decide) _) okX10_sets viX10_sets mlRX10_119 ⟨Nat.le_of_ble_eq_true rfl, Nat.le_of_ble_eq_true rfl⟩ (by exact Nat.le_of_ble_eq_true rfl) rfl rfl mG0 (by exact Nat.le_of_ble_eq_true rfl) ?_
  refine x_aload_n (k := 13) rfl rfl ?_
  refine x_iload_n (k := 14) rfl rfl ?_
  refine x_bipush (v := 8) (k := 15) rfl (by decide) ?_
  refine x_ldc2 (k := 16) rfl klRX10_34 ?_
  refine m_callV (ci := 10) (k := 17) rfl (by rfl) (m_sets (k := 8) (by omega) (by decide) _) okX10_sets viX10_sets mlRX10_119 ⟨Nat.le_of_ble_eq_true rfl, Nat.le_of_ble_eq_true rfl⟩ (by exact Nat.le_of_ble_eq_true rfl) rfl rfl mG0 (by exact Nat.le_of_ble_eq_true rfl) ?_
  refine x_aload_n (k := 18) rfl rfl ?_
  refine x_iload_n (k := 19) rfl rfl ?_
  refine x_bipush (v := 9) (k := 20) rfl (by decide) ?_
  refine x_ldc2 (k := 21) rfl klRX10_34 ?_
  refine m_callV (ci := 10) (k := 22) rfl (by rfl) (m_sets (k := 9) (by omega) (by decide) _) okX10_sets viX10_sets mlRX10_119 ⟨Nat.le_of_ble_eq_true rfl, Nat.le_of_ble_eq_true rfl⟩ (by exact Nat.le_of_ble_eq_true rfl) rfl rfl mG0 (by exact Nat.le_of_ble_eq_true rfl) ?_
  refine x_aload_n (k := 23) rfl rfl ?_
  refine x_iload_n (k := 24) rfl rfl ?_
  refine m_callV (ci := 10) (k := 25) rfl (by rfl) (m_stands (hM.cm hk) hk) okX10_stands viX10_stands mlRX10_100 ⟨Nat.le_of_ble_eq_true rfl, Nat.le_of_ble_eq_true rfl⟩ (by exact Nat.le_of_ble_eq_true rfl) rfl rfl mG0 (by exact Nat.le_of_ble_eq_true rfl) ?_
  exact m_rD (k := 26) rfl rfl (by rw [cmW_6]; rfl)
theorem l_mfirst {G : xG} {s : xA} {m hr f nt nk : Nat} {W : Wd} {V : Vd} (hM : Rm hr f nt nk W V) {c tn : Int32} (ht : tn = W 0 (ix c) 2) : ∀ (d i : Nat) (v : Int32) (ls : List (Nat × Value)), nt - i < d → i ≤ nt → v = ntTo W c i → ls.lookup 0 = some (.ref m) → ls.lookup 1 = some (.int c) → ls.lookup 2 = some (.int tn) → ls.lookup 3 = some (.int v) → ls.lookup 4 = some (.int (nI i)) → mE G MX10_firstTrip 6 ls [] s m V (fun r W1 => r = some (.int (ntTo W c nt)) ∧ W1 = V) := by
  have hb := hM.2
  intro d
  induction d with
  | zero =>
    intro i v ls hd hi hv g0 g1 g2 g3 g4
    exact absurd hd (Nat.not_lt_zero _)
  | succ d ih =>
    intro i v ls hd hi hv g0 g1 g2 g3 g4
    refine x_sub (ls' := [(0, .ref m), (1, .int c), (2, .int tn), (3, .int v), (4, .int (nI i))]) (by simp [*]) ?_
    refine x_iload (k := 4) rfl rfl ?_
    refine x_i2l (k := 5) rfl ?_
    refine x_aload_n (k := 6) rfl rfl ?_
    refine m_getA (a := 1) (k := 7) rfl flRX10_7 rfl ?_
    refine x_iconst (v := 2) (k := 8) rfl (by decide) ?_
    refine m_nat (k := 9) rfl (show (2 : Int32) = nI 2 from rfl) (by first | assumption | omega) ?_
    refine x_lcmp (k := 10) rfl ?_
    refine x_if_ge (tgt := 99) (k := 11) rfl (by decide) (fun c16 => ?_) (fun c16 => ?_)
    · replace c16 := (lg_cmp_ge _ _).mp c16
      have e : i = nt := by
        have := (lle hM.1.2.2.2.1 (by omega) (by omega)).mp c16
        omega
      rw [e] at hv
      refine x_iload_n (k := 53) rfl rfl ?_
      exact m_irD (k := 54) rfl rfl rfl hv rfl
    · replace c16 := mt (lg_cmp_ge _ _).mpr c16
      have hin : i < nt := by
        have := mt (lle hM.1.2.2.2.1 (by omega) (by omega)).mpr c16
        omega
      refine x_aload_n (k := 12) rfl rfl ?_
      refine x_iload (k := 13) rfl rfl ?_
      refine x_bipush (v := 6) (k := 14) rfl (by decide) ?_
      refine m_callI (ci := 10) (k := 15) rfl (by rfl) (m_ofT hM (k := 6) hin (by decide)) okX10_ofT viX10_ofT mlRX10_55 ⟨Nat.le_of_ble_eq_true rfl, Nat.le_of_ble_eq_true rfl⟩ (by exact Nat.le_of_ble_eq_true rfl) rfl rfl mG0 (by exact Nat.le_of_ble_eq_true rfl) ?_
      refine x_if_ne (tgt := 56) (k := 16) rfl (by decide) (fun c27 => ?_) (fun c27 => ?_)
      · have e : v = ntTo W c (i + 1) := by rw [ntTo, if_neg (fun q => c27 q.1.1)]; exact hv
        refine x_iconst (v := 0) (k := 31) rfl (by decide) ?_
        refine x_istore (k := 32) rfl (by decide) ?_
        refine x_iload (k := 33) rfl rfl ?_
        refine x_if_eq (tgt := 91) (k := 34) rfl (by decide) (fun c61 => ?_) (fun c61 => absurd c61 (by decide))
        refine x_iload_n (k := 49) rfl rfl ?_
        refine x_istore_n (k := 50) rfl (by decide) ?_
        refine x_iinc (k := 51) rfl rfl (nI_1 i) (by decide) ?_
        refine x_goto (tgt := 6) (k := 52) rfl (by decide) ?_
        exact ih (i + 1) _ _ (by omega) (by omega) e rfl rfl rfl rfl rfl
      · refine x_aload_n (k := 17) rfl rfl ?_
        refine x_iload (k := 18) rfl rfl ?_
        refine x_iconst (v := 0) (k := 19) rfl (by decide) ?_
        refine m_callI (ci := 10) (k := 20) rfl (by rfl) (m_ofT hM (k := 0) hin (by decide)) okX10_ofT viX10_ofT mlRX10_55 ⟨Nat.le_of_ble_eq_true rfl, Nat.le_of_ble_eq_true rfl⟩ (by exact Nat.le_of_ble_eq_true rfl) rfl rfl mG0 (by exact Nat.le_of_ble_eq_true rfl) ?_
        refine x_iload_n (k := 21) rfl rfl ?_
        refine x_icmp_ne (tgt := 56) (k := 22) rfl (by decide) (fun c38 => ?_) (fun c38 => ?_)
        · have e : v = ntTo W c (i + 1) := by rw [ntTo, if_neg (fun q => c38 q.2.1)]; exact hv
          refine x_iconst (v := 0) (k := 31) rfl (by decide) ?_
          refine x_istore (k := 32) rfl (by decide) ?_
          refine x_iload (k := 33) rfl rfl ?_
          refine x_if_eq (tgt := 91) (k := 34) rfl (by decide) (fun c61 => ?_) (fun c61 => absurd c61 (by decide))
          refine x_iload_n (k := 49) rfl rfl ?_
          refine x_istore_n (k := 50) rfl (by decide) ?_
          refine x_iinc (k := 51) rfl rfl (nI_1 i) (by decide) ?_
          refine x_goto (tgt := 6) (k := 52) rfl (by decide) ?_
          exact ih (i + 1) _ _ (by omega) (by omega) e rfl rfl rfl rfl rfl
        · refine x_aload_n (k := 23) rfl rfl ?_
          refine x_iload (k := 24) rfl rfl ?_
          refine x_iconst (v := 1) (k := 25) rfl (by decide) ?_
          refine m_callI (ci := 10) (k := 26) rfl (by rfl) (m_ofT hM (k := 1) hin (by decide)) okX10_ofT viX10_ofT mlRX10_55 ⟨Nat.le_of_ble_eq_true rfl, Nat.le_of_ble_eq_true rfl⟩ (by exact Nat.le_of_ble_eq_true rfl) rfl rfl mG0 (by exact Nat.le_of_ble_eq_true rfl) ?_
          refine x_iload_n (k := 27) rfl rfl ?_
          refine x_icmp_ne (tgt := 56) (k := 28) rfl (by decide) (fun c49 => ?_) (fun c49 => ?_)
          · have e : v = ntTo W c (i + 1) := by rw [ntTo, if_neg (fun q => c49 (q.1.2.trans ht.symm))]; exact hv
            refine x_iconst (v := 0) (k := 31) rfl (by decide) ?_
            refine x_istore (k := 32) rfl (by decide) ?_
            refine x_iload (k := 33) rfl rfl ?_
            refine x_if_eq (tgt := 91) (k := 34) rfl (by decide) (fun c61 => ?_) (fun c61 => absurd c61 (by decide))
            refine x_iload_n (k := 49) rfl rfl ?_
            refine x_istore_n (k := 50) rfl (by decide) ?_
            refine x_iinc (k := 51) rfl rfl (nI_1 i) (by decide) ?_
            refine x_goto (tgt := 6) (k := 52) rfl (by decide) ?_
            exact ih (i + 1) _ _ (by omega) (by omega) e rfl rfl rfl rfl rfl
          · refine x_iconst (v := 1) (k := 29) rfl (by decide) ?_
            refine x_goto (tgt := 57) (k := 30) rfl (by decide) ?_
            refine x_istore (k := 32) rfl (by decide) ?_
            refine x_iload (k := 33) rfl rfl ?_
            refine x_if_eq (tgt := 91) (k := 34) rfl (by decide) (fun c61 => absurd c61 (by decide)) (fun c61 => ?_)
            refine x_iload_n (k := 35) rfl rfl ?_
            refine x_bipush (v := -9) (k := 36) rfl (by decide) ?_
            refine x_icmp_eq (tgt := 86) (k := 37) rfl (by decide) (fun c67 => ?_) (fun c67 => ?_)
            · have e : nI i = ntTo W c (i + 1) := by rw [ntTo, if_pos ⟨⟨c27, c49.trans ht⟩, c38, Or.inl (hv.symm.trans c67)⟩]
              refine x_iload (k := 47) rfl rfl ?_
              refine x_goto (tgt := 92) (k := 48) rfl (by decide) ?_
              refine x_istore_n (k := 50) rfl (by decide) ?_
              refine x_iinc (k := 51) rfl rfl (nI_1 i) (by decide) ?_
              refine x_goto (tgt := 6) (k := 52) rfl (by decide) ?_
              exact ih (i + 1) _ _ (by omega) (by omega) e rfl rfl rfl rfl rfl
            · obtain ⟨j, hj, ej⟩ := (ntTo_is (W := W) (c := c) i).resolve_left (fun z => c67 (hv.trans z))
              have hvj : v = nI j := hv.trans ej
              subst hvj
              refine x_aload_n (k := 38) rfl rfl ?_
              refine x_iload (k := 39) rfl rfl ?_
              refine x_iconst (v := 3) (k := 40) rfl (by decide) ?_
              refine m_callI (ci := 10) (k := 41) rfl (by rfl) (m_ofT hM (k := 3) hin (by decide)) okX10_ofT viX10_ofT mlRX10_55 ⟨Nat.le_of_ble_eq_true rfl, Nat.le_of_ble_eq_true rfl⟩ (by exact Nat.le_of_ble_eq_true rfl) rfl rfl mG0 (by exact Nat.le_of_ble_eq_true rfl) ?_
              refine x_aload_n (k := 42) rfl rfl ?_
              refine x_iload_n (k := 43) rfl rfl ?_
              refine x_iconst (v := 3) (k := 44) rfl (by decide) ?_
              refine m_callI (ci := 10) (k := 45) rfl (by rfl) (m_ofT hM (k := 3) (by omega) (by decide)) okX10_ofT viX10_ofT mlRX10_55 ⟨Nat.le_of_ble_eq_true rfl, Nat.le_of_ble_eq_true rfl⟩ (by exact Nat.le_of_ble_eq_true rfl) rfl rfl mG0 (by exact Nat.le_of_ble_eq_true rfl) ?_
              refine x_icmp_ge (tgt := 91) (k := 46) rfl (by decide) (fun c83 => ?_) (fun c83 => ?_)
              · have e : nI j = ntTo W c (i + 1) := by
                  rw [ntTo, if_neg (fun q => q.2.2.elim (fun z => c67 (hv.trans z)) (fun z => by rw [← hv, show ix (nI j) = j from clT (by omega)] at z; exact Int32.not_lt.mpr c83 z))]
                  exact hv
                refine x_iload_n (k := 49) rfl rfl ?_
                refine x_istore_n (k := 50) rfl (by decide) ?_
                refine x_iinc (k := 51) rfl rfl (nI_1 i) (by decide) ?_
                refine x_goto (tgt := 6) (k := 52) rfl (by decide) ?_
                exact ih (i + 1) _ _ (by omega) (by omega) e rfl rfl rfl rfl rfl
              · have e : nI i = ntTo W c (i + 1) := by rw [ntTo, if_pos ⟨⟨c27, c49.trans ht⟩, c38, Or.inr (by rw [← hv, show ix (nI j) = j from clT (by omega)]; exact Int32.not_le.mp c83)⟩]
                refine x_iload (k := 47) rfl rfl ?_
                refine x_goto (tgt := 92) (k := 48) rfl (by decide) ?_
                refine x_istore_n (k := 50) rfl (by decide) ?_
                refine x_iinc (k := 51) rfl rfl (nI_1 i) (by decide) ?_
                refine x_goto (tgt := 6) (k := 52) rfl (by decide) ?_
                exact ih (i + 1) _ _ (by omega) (by omega) e rfl rfl rfl rfl rfl
theorem m_firstTrip {G : xG} {s : xA} {m hr f nt nk : Nat} {W : Wd} {V : Vd} (hM : Rm hr f nt nk W V) {c tn : Int32} (ht : tn = W 0 (ix c) 2) : mI G MX10_firstTrip [.ref m, .int c, .int tn] s m V (ntTo W c nt) V := by
  refine x_bipush (v := -9) (k := 0) rfl (by decide) ?_
  refine x_istore_n (k := 1) rfl (by decide) ?_
  refine x_iconst (v := 0) (k := 2) rfl (by decide) ?_
  refine x_istore (k := 3) rfl (by decide) ?_
  exact l_mfirst hM ht (nt + 1) 0 _ _ (by omega) (by omega) rfl rfl rfl rfl rfl rfl
theorem l_pays {G : xG} {s : xA} {m hr f nt nk : Nat} {W : Wd} {V : Vd} (hF : RF hr f nt nk W V.1) {a c : Nat} (ha : a < 8) (hc : c < 8) (fee v : Int32) : mE G MX10_pays 20 [(0, .ref m), (1, .int (nI a)), (2, .int (nI c)), (3, .int fee)] [.int v] s m V (fun r V1 => r = none ∧ Ch V hr f nt nk (sPay2 W a c c v) V1) := by
  have h0 := Chh.rf hF
  refine x_istore (k := 12) rfl (by decide) ?_
  refine x_aload_n (k := 13) rfl rfl ?_
  refine x_iload_n (k := 14) rfl rfl ?_
  refine x_iconst (v := 0) (k := 15) rfl (by decide) ?_
  refine x_aload_n (k := 16) rfl rfl ?_
  refine x_iload_n (k := 17) rfl rfl ?_
  refine x_iconst (v := 0) (k := 18) rfl (by decide) ?_
  refine m_callI (ci := 10) (k := 19) rfl (by rfl) (m_ofP h0.m (k := 0) ha (by decide)) okX10_ofP viX10_ofP mlRX10_91 ⟨Nat.le_of_ble_eq_true rfl, Nat.le_of_ble_eq_true rfl⟩ (by exact Nat.le_of_ble_eq_true rfl) rfl rfl mG0 (by exact Nat.le_of_ble_eq_true rfl) ?_
  refine x_iload (k := 20) rfl rfl ?_
  refine x_isub (k := 21) rfl ?_
  refine x_i2l (k := 22) rfl ?_
  refine m_callV (ci := 10) (k := 23) rfl (by rfl) (m_setsP (k := 0) ha (by decide) _) okX10_setsP viX10_setsP mlRX10_28 ⟨Nat.le_of_ble_eq_true rfl, Nat.le_of_ble_eq_true rfl⟩ (by exact Nat.le_of_ble_eq_true rfl) rfl rfl mG0 (by exact Nat.le_of_ble_eq_true rfl) ?_
  have h1 := h0.setP (k := 0) ha (by decide) (t32 (W 0 a 0 - v))
  refine x_aload_n (k := 24) rfl rfl ?_
  refine x_iload_n (k := 25) rfl rfl ?_
  refine x_iconst (v := 0) (k := 26) rfl (by decide) ?_
  refine x_aload_n (k := 27) rfl rfl ?_
  refine x_iload_n (k := 28) rfl rfl ?_
  refine x_iconst (v := 0) (k := 29) rfl (by decide) ?_
  refine m_callI (ci := 10) (k := 30) rfl (by rfl) (m_ofP h1.m (k := 0) hc (by decide)) okX10_ofP viX10_ofP mlRX10_91 ⟨Nat.le_of_ble_eq_true rfl, Nat.le_of_ble_eq_true rfl⟩ (by exact Nat.le_of_ble_eq_true rfl) rfl rfl mG0 (by exact Nat.le_of_ble_eq_true rfl) ?_
  refine x_iload (k := 31) rfl rfl ?_
  refine x_iadd (k := 32) rfl ?_
  refine x_i2l (k := 33) rfl ?_
  refine m_callV (ci := 10) (k := 34) rfl (by rfl) (m_setsP (k := 0) hc (by decide) _) okX10_setsP viX10_setsP mlRX10_28 ⟨Nat.le_of_ble_eq_true rfl, Nat.le_of_ble_eq_true rfl⟩ (by exact Nat.le_of_ble_eq_true rfl) rfl rfl mG0 (by exact Nat.le_of_ble_eq_true rfl) ?_
  have h2 := h1.setP (k := 0) hc (by decide) (t32 (wSet W 0 a 0 (W 0 a 0 - v) 0 c 0 + v))
  refine x_aload_n (k := 35) rfl rfl ?_
  refine x_iload_n (k := 36) rfl rfl ?_
  refine x_iconst (v := 4) (k := 37) rfl (by decide) ?_
  refine x_aload_n (k := 38) rfl rfl ?_
  refine x_iload_n (k := 39) rfl rfl ?_
  refine x_iconst (v := 4) (k := 40) rfl (by decide) ?_
  refine m_callI (ci := 10) (k := 41) rfl (by rfl) (m_ofP h2.m (k := 4) hc (by decide)) okX10_ofP viX10_ofP mlRX10_91 ⟨Nat.le_of_ble_eq_true rfl, Nat.le_of_ble_eq_true rfl⟩ (by exact Nat.le_of_ble_eq_true rfl) rfl rfl mG0 (by exact Nat.le_of_ble_eq_true rfl) ?_
  refine x_iload (k := 42) rfl rfl ?_
  refine x_iadd (k := 43) rfl ?_
  rw [show wSet (wSet W 0 a 0 (W 0 a 0 - v)) 0 c 0 (wSet W 0 a 0 (W 0 a 0 - v) 0 c 0 + v) 0 c 4 = W 0 c 4 from by rw [wSet_k (by decide), wSet_k (by decide)]]
  refine x_i2l (k := 44) rfl ?_
  refine m_callV (ci := 10) (k := 45) rfl (by rfl) (m_setsP (k := 4) hc (by decide) _) okX10_setsP viX10_setsP mlRX10_28 ⟨Nat.le_of_ble_eq_true rfl, Nat.le_of_ble_eq_true rfl⟩ (by exact Nat.le_of_ble_eq_true rfl) rfl rfl mG0 (by exact Nat.le_of_ble_eq_true rfl) ?_
  have h3 := h2.setP (k := 4) hc (by decide) (t32 (W 0 c 4 + v))
  have h4 := h3.add (q := 3) (Or.inr rfl) (t32 v)
  rw [show wSet (wSet (wSet W 0 a 0 (W 0 a 0 - v)) 0 c 0 (wSet W 0 a 0 (W 0 a 0 - v) 0 c 0 + v)) 0 c 4 (W 0 c 4 + v) 3 0 3 = W 3 0 3 from by rw [wSet_a (by decide), wSet_a (by decide), wSet_a (by decide)]] at h4
  refine x_aload_n (k := 46) rfl rfl ?_
  refine m_getA (a := 1) (k := 47) rfl flRX10_7 rfl ?_
  refine x_iconst (v := 5) (k := 48) rfl (by decide) ?_
  refine x_dup2 (k := 49) rfl rfl rfl ?_
  refine m_nat (k := 50) rfl (show (5 : Int32) = nI 5 from rfl) (by first | assumption | omega) ?_
  refine x_iload (k := 51) rfl rfl ?_
  refine x_i2l (k := 52) rfl ?_
  refine x_ladd (k := 53) rfl ?_
  refine m_nput (k := 54) rfl (show (5 : Int32) = nI 5 from rfl) (by first | assumption | omega) ?_
  exact m_rQ (k := 55) rfl rfl h4
theorem m_pays {G : xG} {s : xA} {m hr f nt nk : Nat} {W : Wd} {V : Vd} (hF : RF hr f nt nk W V.1) {a c : Nat} (ha : a < 8) (hc : c < 8) (fee : Int32) : mVQ G MX10_pays [.ref m, .int (nI a), .int (nI c), .int fee] s m V (Ch V hr f nt nk (sPay2 W a c c (iMin fee (W 0 a 0)))) := by
  refine x_iload_n (k := 0) rfl rfl ?_
  refine x_aload_n (k := 1) rfl rfl ?_
  refine x_iload_n (k := 2) rfl rfl ?_
  refine x_iconst (v := 0) (k := 3) rfl (by decide) ?_
  refine m_callI (ci := 10) (k := 4) rfl (by rfl) (m_ofP hF.m (k := 0) ha (by decide)) okX10_ofP viX10_ofP mlRX10_91 ⟨Nat.le_of_ble_eq_true rfl, Nat.le_of_ble_eq_true rfl⟩ (by exact Nat.le_of_ble_eq_true rfl) rfl rfl mG0 (by exact Nat.le_of_ble_eq_true rfl) ?_
  refine x_icmp_ge (tgt := 14) (k := 5) rfl (by decide) (fun c7 => ?_) (fun c7 => ?_)
  · rw [iMin_ge c7]
    refine x_aload_n (k := 8) rfl rfl ?_
    refine x_iload_n (k := 9) rfl rfl ?_
    refine x_iconst (v := 0) (k := 10) rfl (by decide) ?_
    refine m_callI (ci := 10) (k := 11) rfl (by rfl) (m_ofP hF.m (k := 0) ha (by decide)) okX10_ofP viX10_ofP mlRX10_91 ⟨Nat.le_of_ble_eq_true rfl, Nat.le_of_ble_eq_true rfl⟩ (by exact Nat.le_of_ble_eq_true rfl) rfl rfl mG0 (by exact Nat.le_of_ble_eq_true rfl) ?_
    exact l_pays hF ha hc fee _
  · rw [iMin_lt c7]
    refine x_iload_n (k := 6) rfl rfl ?_
    refine x_goto (tgt := 20) (k := 7) rfl (by decide) ?_
    exact l_pays hF ha hc fee _
