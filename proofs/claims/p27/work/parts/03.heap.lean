-- ===== rows that look at the heap, make cells, call =====
theorem inX0 : ∀ w ∈ wsX00, w ∈ gW := fun w h => gW_in ((by decide +kernel : ∀ w ∈ wsX00, w ∈ lw_tbl) w h) ((by decide +kernel : ∀ w ∈ wsX00, goodWord w = true) w h)
theorem inX1 : ∀ w ∈ wsX10, w ∈ gW := fun w h => gW_in ((by decide +kernel : ∀ w ∈ wsX10, w ∈ lw_tbl) w h) ((by decide +kernel : ∀ w ∈ wsX10, goodWord w = true) w h)
theorem inX2 : ∀ w ∈ wsX20, w ∈ gW := fun w h => gW_in ((by decide +kernel : ∀ w ∈ wsX20, w ∈ lw_tbl) w h) ((by decide +kernel : ∀ w ∈ wsX20, goodWord w = true) w h)
theorem inX3 : ∀ w ∈ wsX30, w ∈ gW := fun w h => gW_in ((by decide +kernel : ∀ w ∈ wsX30, w ∈ lw_tbl) w h) ((by decide +kernel : ∀ w ∈ wsX30, goodWord w = true) w h)
theorem inX4 : ∀ w ∈ wsX40, w ∈ gW := fun w h => gW_in ((by decide +kernel : ∀ w ∈ wsX40, w ∈ lw_tbl) w h) ((by decide +kernel : ∀ w ∈ wsX40, goodWord w = true) w h)
theorem inX5 : ∀ w ∈ wsX50, w ∈ gW := fun w h => gW_in ((by decide +kernel : ∀ w ∈ wsX50, w ∈ lw_tbl) w h) ((by decide +kernel : ∀ w ∈ wsX50, goodWord w = true) w h)
theorem inX6 : ∀ w ∈ wsX60, w ∈ gW := fun w h => gW_in ((by decide +kernel : ∀ w ∈ wsX60, w ∈ lw_tbl) w h) ((by decide +kernel : ∀ w ∈ wsX60, goodWord w = true) w h)
theorem inX7 : ∀ w ∈ wsX70, w ∈ gW := fun w h => gW_in ((by decide +kernel : ∀ w ∈ wsX70, w ∈ lw_tbl) w h) ((by decide +kernel : ∀ w ∈ wsX70, goodWord w = true) w h)
theorem inX8 : ∀ w ∈ wsX80, w ∈ gW := fun w h => gW_in ((by decide +kernel : ∀ w ∈ wsX80, w ∈ lw_tbl) w h) ((by decide +kernel : ∀ w ∈ wsX80, goodWord w = true) w h)
theorem inX9 : ∀ w ∈ wsX90, w ∈ gW := fun w h => gW_in ((by decide +kernel : ∀ w ∈ wsX90, w ∈ lw_tbl) w h) ((by decide +kernel : ∀ w ∈ wsX90, goodWord w = true) w h)
abbrev cFacts (q : vw_C) : Prop := (∀ w ∈ u_ws q.1 q.2.1 q.2.2, w ∈ gW) ∧ (∃ ty : Nat → FieldType, ∀ k, k < q.2.2 → parseFieldDescriptor (q.2.1 k).2.2.1 = some (ty k)) ∧ (∀ a, a < q.2.2 → ∀ b, b < q.2.2 → a ≠ b → (q.2.1 a).2.1 ≠ (q.2.1 b).2.1)
theorem cls_ok : ∀ (ci : Nat) (q : vw_C), vwCl[ci]? = some q → cFacts q := by
  intro ci q h
  match ci, h with
  | 0, h => cases h; exact ⟨inX0, ⟨tyX0, tyX0_ok⟩, nmX0⟩
  | 1, h => cases h; exact ⟨inX1, ⟨tyX1, tyX1_ok⟩, nmX1⟩
  | 2, h => cases h; exact ⟨inX2, ⟨tyX2, tyX2_ok⟩, nmX2⟩
  | 3, h => cases h; exact ⟨inX3, ⟨tyX3, tyX3_ok⟩, nmX3⟩
  | 4, h => cases h; exact ⟨inX4, ⟨tyX4, tyX4_ok⟩, nmX4⟩
  | 5, h => cases h; exact ⟨inX5, ⟨tyX5, tyX5_ok⟩, nmX5⟩
  | 6, h => cases h; exact ⟨inX6, ⟨tyX6, tyX6_ok⟩, nmX6⟩
  | 7, h => cases h; exact ⟨inX7, ⟨tyX7, tyX7_ok⟩, nmX7⟩
  | 8, h => cases h; exact ⟨inX8, ⟨tyX8, tyX8_ok⟩, nmX8⟩
  | 9, h => cases h; exact ⟨inX9, ⟨tyX9, tyX9_ok⟩, nmX9⟩
  | n + 10, h => simp [vwCl] at h
/-- entry idx of the pool of class own is field j of class ci -/
def xFl (own : String) (idx ci j : Nat) : Prop := ∃ q : vw_C, vwCl[ci]? = some q ∧ j < q.2.2 ∧ (q.2.1 j).1 = q.1 ∧ Cond.fieldLink own idx q.1 (q.2.1 j).2.1 (q.2.1 j).2.2.1 ∈ gW
/-- what a field may take -/
def xFt (ci j : Nat) (fin : Bool) (ty : FieldType) : Prop := ∃ q : vw_C, vwCl[ci]? = some q ∧ (q.2.1 j).2.2.2 = fin ∧ parseFieldDescriptor (q.2.1 j).2.2.1 = some ty
theorem xFl.mk {own : String} {idx ci j : Nat} (q : vw_C) (h1 : vwCl[ci]? = some q) (h2 : j < q.2.2) (h3 : (q.2.1 j).1 = q.1) (h4 : Cond.fieldLink own idx q.1 (q.2.1 j).2.1 (q.2.1 j).2.2.1 ∈ lw_tbl) : xFl own idx ci j := ⟨q, h1, h2, h3, gW_in h4 rfl⟩
section XE2
variable {G : xG} {M : xM} {pc pc' : Nat} {ls : List (Nat × Value)} {st st' : List Value} {s : xA} {Q : Option Value → xA → Prop}
theorem aAt.has {H : Heap} {a : Nat} {e : va_E} (hA : aAt G s H) (hh : s.1 a = some e) : ∃ (ws : va_W) (k0 : Nat), ws[k0]? = some (a, e) ∧ va_P (gD G) vwCl ws H := by
  obtain ⟨ws, h1, h2, h3, h4, -⟩ := hA
  obtain ⟨k0, h5⟩ := h3 a e hh
  exact ⟨ws, k0, h5, h4⟩
/-- a row that changes one cell -/
theorem xE.put {a : Nat} {e0 e : va_E}
    (h : ∀ (p : Program) (ev : Env) (U : State) (m : MethodId) (args : Array Value) (below : List Frame) (meth : Method) (c : Code) (R : Room) (l0 : Nat) (Qf : State → Prop) (r : Option Value) (s' : xA), xC G M p ev U m args below meth c R l0 Qf r s' →
      ∀ (H : Heap) (locs : List Loc) (lsA : Array Slot) (ws : va_W) (k0 : Nat), va_P (gD G) vwCl ws H → va_D (gA G) ws → va_S (gA G) U.heap H locs → lv_has lsA (mNL M) ls → (∀ (a : Nat) (e : va_E), s.1 a = some e → ∃ k : Nat, ws[k]? = some (a, e)) → ws[k0]? = some (a, e0) →
      (∀ (H1 : Heap) (locs1 : List Loc), va_P (gD G) vwCl (ws.set k0 (a, e)) H1 → va_D (gA G) (ws.set k0 (a, e)) → va_S (gA G) U.heap H1 locs1 → W p (gL G) ev R U m args below meth c H1 locs1 (s.2.1 - U.heap.size) (s.2.2 - l0) Qf (F0 m pc' lsA st')) →
      W p (gL G) ev R U m args below meth c H locs (s.2.1 - U.heap.size) (s.2.2 - l0) Qf (F0 m pc lsA st))
    (hh : s.1 a = some e0) (k : xE G M pc' ls st' (aUp s a e) Q) : xE G M pc ls st s Q := by
  obtain ⟨r, s', hq, hm, k⟩ := k
  refine ⟨r, s', hq, hm, fun p ev U m args below meth c R l0 Qf C h1 h2 H locs lsA hA hS hl => ?_⟩
  obtain ⟨ws, w1, w2, w3, w4, w5⟩ := hA
  obtain ⟨k0, hk0⟩ := w3 a e0 hh
  refine h p ev U m args below meth c R l0 Qf r s' C H locs lsA ws k0 w4 (aIdx w1) hS hl w3 hk0 (fun H1 locs1 hP1 _ hS1 => ?_)
  intro T hT X
  have hz := X.same.2.2.1
  have hz2 : T.heap.size ≤ U.heap.size + (s.2.1 - U.heap.size) := hz
  rw [hT] at hz2
  exact k p ev U m args below meth c R l0 Qf C h1 h2 H1 locs1 lsA (aAt.put w1 w2 w3 hk0 hP1 (Nat.le_trans C.2.2.1.2.1 hS1.1) (by omega)) hS1 hl T hT X
/-- a row that makes a cell -/
theorem xE.new {n : Nat} {e : va_E}
    (h : ∀ (p : Program) (ev : Env) (U : State) (m : MethodId) (args : Array Value) (below : List Frame) (meth : Method) (c : Code) (R : Room) (l0 : Nat) (Qf : State → Prop) (r : Option Value) (s' : xA), xC G M p ev U m args below meth c R l0 Qf r s' → (s.2.1 - U.heap.size) + 1 ≤ R.cells → (s.2.2 - l0) + n ≤ R.slots →
      ∀ (H : Heap) (locs : List Loc) (lsA : Array Slot) (ws : va_W), va_P (gD G) vwCl ws H → va_D (gA G) ws → va_S (gA G) U.heap H locs → lv_has lsA (mNL M) ls →
      (∀ (q : Nat) (H1 : Heap), va_P (gD G) vwCl (ws ++ [(q, e)]) H1 → va_D (gA G) (ws ++ [(q, e)]) → va_S (gA G) U.heap H1 locs → W p (gL G) ev R U m args below meth c H1 locs ((s.2.1 - U.heap.size) + 1) ((s.2.2 - l0) + n) Qf (F0 m pc' lsA (.ref q :: st'))) →
      W p (gL G) ev R U m args below meth c H locs (s.2.1 - U.heap.size) (s.2.2 - l0) Qf (F0 m pc lsA st))
    (k : xE G M pc' ls (.ref s.2.1 :: st') (aNew s n e) Q) : xE G M pc ls st s Q := by
  obtain ⟨r, s', hq, hm, k⟩ := k
  have hm1 : s.2.1 + 1 ≤ s'.2.1 := hm.1
  have hm2 : s.2.2 + n ≤ s'.2.2 := hm.2.1
  refine ⟨r, s', hq, ⟨by omega, by omega, hm.2.2⟩, fun p ev U m args below meth c R l0 Qf C h1 h2 H locs lsA hA hS hl => ?_⟩
  obtain ⟨ws, w1, w2, w3, w4, w5⟩ := hA
  have hR := C.2.2.2.1
  refine h p ev U m args below meth c R l0 Qf r s' C (by omega) (by omega) H locs lsA ws w4 (aIdx w1) hS hl (fun q H1 hP1 hD1 hS1 => ?_)
  intro T hT X
  have hz := X.same.2.2.1
  have hz2 : T.heap.size ≤ U.heap.size + ((s.2.1 - U.heap.size) + 1) := hz
  rw [hT] at hz2
  obtain ⟨hq1, hA1⟩ := aAt.new (n := n) w1 w2 w3 hP1 hD1 (by omega)
  subst hq1
  have e1 : (aNew s n e).2.1 - U.heap.size = (s.2.1 - U.heap.size) + 1 := by show s.2.1 + 1 - _ = _; omega
  have e2 : (aNew s n e).2.2 - l0 = (s.2.2 - l0) + n := by show s.2.2 + n - _ = _; omega
  have k1 := k p ev U m args below meth c R l0 Qf C (by show _ ≤ s.2.1 + 1; omega) (by show _ ≤ s.2.2 + n; omega) H1 locs lsA hA1 hS1 hl
  rw [e1, e2] at k1
  exact k1 T hT X
/-- getfield -/
theorem x_get {idx ci j a k : Nat} {fs : List Value} {v : Value} (hk : (mIn M)[k]? = some (pc, .getfield idx, 3)) (hf : xFl (mOwn M) idx ci j) (hh : s.1 a = some (eO ci fs)) (hv : fs[j]? = some v) (kk : xE G M (pc + 3) ls (v :: st) s Q) : xE G M pc ls (.ref a :: st) s Q := by
  obtain ⟨q, f1, f2, f3, f4⟩ := hf
  refine xE.step (fun p e U m args below meth c R l0 Qf r s' C H locs lsA hA hS hl kk => ?_) kk
  obtain ⟨ws, k0, hk0, hP⟩ := aAt.has hA hh
  exact va_get C.1.1 C.1.2.1 C.1.2.2.2.2 (fun w hw => mWs_in ((cls_ok ci q f1).1 w hw)) C.1.2.2.2.1 C.2.2.1.1 hP k0 hk0 f1 j f2 (C.1.2.2.2.2 _ (mWs_in f4)) (fun x hx => by rw [f3] at hx; exact hx) hv (C.dec hk) (kk lsA hl)
/-- putfield -/
theorem x_put {idx ci j a k : Nat} {fs : List Value} {v : Value} {ty : FieldType} (hk : (mIn M)[k]? = some (pc, .putfield idx, 3)) (hf : xFl (mOwn M) idx ci j) (ht : xFt ci j false ty) (hh : s.1 a = some (eO ci fs)) (hl0 : j < fs.length) (hn : narrow ty v = v) (hfit : fits ty v = true) (kk : xE G M (pc + 3) ls st (aUp s a (eO ci (fs.set j v))) Q) : xE G M pc ls (v :: .ref a :: st) s Q := by
  obtain ⟨q, f1, f2, f3, f4⟩ := hf
  obtain ⟨q', g1, g2, g3⟩ := ht
  cases f1.symm.trans g1
  obtain ⟨ty0, hty⟩ := (cls_ok ci q f1).2.1
  exact xE.put (fun p e U m args below meth c R l0 Qf r s' C H locs lsA ws k0 hP hD hS hl hsub hk0 kk => va_put C.1.1 C.1.2.1 C.1.2.2.2.2 (fun w hw => mWs_in ((cls_ok ci q f1).1 w hw)) ty0 hty (cls_ok ci q f1).2.2 C.1.2.2.2.1 C.2.2.1.1 hP hD hS k0 hk0 f1 j f2 (C.1.2.2.2.2 _ (mWs_in f4)) (fun x hx => by rw [f3] at hx; exact hx) g2 g3 hn hfit hl0 (C.dec hk) kk) hh kk
/-- putfield of a final field, in a constructor -/
theorem x_putF {idx ci j a k : Nat} {fs : List Value} {v : Value} {ty : FieldType} (hk : (mIn M)[k]? = some (pc, .putfield idx, 3)) (hf : xFl (mOwn M) idx ci j) (ht : xFt ci j true ty) (hin : (mY M).name = "<init>") (hown : (vwCl[ci]?).map (fun q => q.1) = some (mOwn M)) (hh : s.1 a = some (eO ci fs)) (hl0 : j < fs.length) (hn : narrow ty v = v) (hfit : fits ty v = true) (kk : xE G M (pc + 3) ls st (aUp s a (eO ci (fs.set j v))) Q) : xE G M pc ls (v :: .ref a :: st) s Q := by
  obtain ⟨q, f1, f2, f3, f4⟩ := hf
  obtain ⟨q', g1, g2, g3⟩ := ht
  cases f1.symm.trans g1
  obtain ⟨ty0, hty⟩ := (cls_ok ci q f1).2.1
  have ho : q.1 = mOwn M := by rw [f1] at hown; exact Option.some.inj hown
  exact xE.put (fun p e U m args below meth c R l0 Qf r s' C H locs lsA ws k0 hP hD hS hl hsub hk0 kk => va_putF C.1.1 C.1.2.1 C.1.2.2.2.2 (fun w hw => mWs_in ((cls_ok ci q f1).1 w hw)) ty0 hty (cls_ok ci q f1).2.2 C.1.2.2.2.1 C.2.2.1.1 hP hD hS k0 hk0 f1 j f2 (C.1.2.2.2.2 _ (mWs_in f4)) (fun x hx => by rw [f3] at hx; exact hx) g2 (C.2.1.trans hin) (f3.trans ho) g3 hn hfit hl0 (C.dec hk) kk) hh kk
/-- arrays -/
theorem x_iald {a n k : Nat} {f : Nat → Int32} {i : Int32} (hk : (mIn M)[k]? = some (pc, .iaload, 1)) (hh : s.1 a = some (eI G n f)) (hin : vp_in i n) (kk : xE G M (pc + 1) ls (.int (f i.toNatClampNeg) :: st) s Q) : xE G M pc ls (.int i :: .ref a :: st) s Q := by
  refine xE.step (fun p e U m args below meth c R l0 Qf r s' C H locs lsA hA hS hl kk => ?_) kk
  obtain ⟨ws, k0, hk0, hP⟩ := aAt.has hA hh
  exact va_iald C.1.1 C.1.2.1 C.2.2.1.1 hP k0 0 hk0 rfl hin (C.dec hk) (kk lsA hl)
theorem x_cald {a n k : Nat} {f : Nat → Int32} {i : Int32} (hk : (mIn M)[k]? = some (pc, .caload, 1)) (hh : s.1 a = some (eC G n f)) (hin : vp_in i n) (kk : xE G M (pc + 1) ls (.int (f i.toNatClampNeg) :: st) s Q) : xE G M pc ls (.int i :: .ref a :: st) s Q := by
  refine xE.step (fun p e U m args below meth c R l0 Qf r s' C H locs lsA hA hS hl kk => ?_) kk
  obtain ⟨ws, k0, hk0, hP⟩ := aAt.has hA hh
  exact va_cald C.1.1 C.1.2.1 C.2.2.1.1 hP k0 2 hk0 rfl hin (C.dec hk) (kk lsA hl)
theorem x_zald {a n k : Nat} {f : Nat → Int32} {i : Int32} (hk : (mIn M)[k]? = some (pc, .baload, 1)) (hh : s.1 a = some (eZ G n f)) (hin : vp_in i n) (kk : xE G M (pc + 1) ls (.int (f i.toNatClampNeg) :: st) s Q) : xE G M pc ls (.int i :: .ref a :: st) s Q := by
  refine xE.step (fun p e U m args below meth c R l0 Qf r s' C H locs lsA hA hS hl kk => ?_) kk
  obtain ⟨ws, k0, hk0, hP⟩ := aAt.has hA hh
  exact va_zald C.1.1 C.1.2.1 C.2.2.1.1 hP k0 3 hk0 rfl hin (C.dec hk) (kk lsA hl)
theorem x_aald {a n k t : Nat} {C0 : String} {f : Nat → Option Nat} {i : Int32} (hk : (mIn M)[k]? = some (pc, .aaload, 1)) (ht : (gT G)[t]? = some (gc G t, .object C0)) (hh : s.1 a = some (eR G t n f)) (hin : vp_in i n) (kk : xE G M (pc + 1) ls (va_rf (f i.toNatClampNeg) :: st) s Q) : xE G M pc ls (.int i :: .ref a :: st) s Q := by
  refine xE.step (fun p e U m args below meth c R l0 Qf r s' C H locs lsA hA hS hl kk => ?_) kk
  obtain ⟨ws, k0, hk0, hP⟩ := aAt.has hA hh
  exact va_aldq C.1.1 C.1.2.1 C.2.2.1.1 hP k0 t hk0 ht hin (C.dec hk) (kk lsA hl)
theorem x_iast {a n k : Nat} {f : Nat → Int32} {i x : Int32} (hk : (mIn M)[k]? = some (pc, .iastore, 1)) (hh : s.1 a = some (eI G n f)) (hin : vp_in i n) (kk : xE G M (pc + 1) ls st (aUp s a (eI G n (upd f i.toNatClampNeg x))) Q) : xE G M pc ls (.int x :: .int i :: .ref a :: st) s Q :=
  xE.put (fun p e U m args below meth c R l0 Qf r s' C H locs lsA ws k0 hP hD hS hl hsub hk0 kk => va_iast C.1.1 C.1.2.1 C.2.2.1.1 hP hD hS k0 0 hk0 rfl hin (C.dec hk) kk) hh kk
theorem x_cast {a n k : Nat} {f : Nat → Int32} {i x : Int32} (hk : (mIn M)[k]? = some (pc, .castore, 1)) (hh : s.1 a = some (eC G n f)) (hin : vp_in i n) (kk : xE G M (pc + 1) ls st (aUp s a (eC G n (upd f i.toNatClampNeg (vp_nar .char x)))) Q) : xE G M pc ls (.int x :: .int i :: .ref a :: st) s Q :=
  xE.put (fun p e U m args below meth c R l0 Qf r s' C H locs lsA ws k0 hP hD hS hl hsub hk0 kk => va_cast C.1.1 C.1.2.1 C.2.2.1.1 hP hD hS k0 2 hk0 rfl hin (C.dec hk) kk) hh kk
theorem x_zast {a n k : Nat} {f : Nat → Int32} {i x : Int32} (hk : (mIn M)[k]? = some (pc, .bastore, 1)) (hh : s.1 a = some (eZ G n f)) (hin : vp_in i n) (kk : xE G M (pc + 1) ls st (aUp s a (eZ G n (upd f i.toNatClampNeg (vp_nar .boolean x)))) Q) : xE G M pc ls (.int x :: .int i :: .ref a :: st) s Q :=
  xE.put (fun p e U m args below meth c R l0 Qf r s' C H locs lsA ws k0 hP hD hS hl hsub hk0 kk => va_zast C.1.1 C.1.2.1 C.2.2.1.1 hP hD hS k0 3 hk0 rfl hin (C.dec hk) kk) hh kk
theorem x_aast {a n k t ci v : Nat} {q : vw_C} {vs : List Value} {f : Nat → Option Nat} {i : Int32} (hk : (mIn M)[k]? = some (pc, .aastore, 1)) (hc : vwCl[ci]? = some q) (ht : (gT G)[t]? = some (gc G t, .object q.1)) (hh : s.1 a = some (eR G t n f)) (hv : s.1 v = some (eO ci vs)) (hin : vp_in i n) (kk : xE G M (pc + 1) ls st (aUp s a (eR G t n (va_up f i.toNatClampNeg (some v)))) Q) : xE G M pc ls (.ref v :: .int i :: .ref a :: st) s Q :=
  xE.put (fun p e U m args below meth c R l0 Qf r s' C H locs lsA ws k0 hP hD hS hl hsub hk0 kk => by
    obtain ⟨k1, hk1⟩ := hsub v _ hv
    exact va_astq C.1.1 C.1.2.1 C.2.2.1.1 hP hD hS k0 t k1 ci hk0 ht hk1 hc hin (C.dec hk) kk) hh kk
/-- System.arraycopy of ints, between two arrays -/
theorem x_copyi {a a0 n0 n1 idx k : Nat} {f g : Nat → Int32} {sp dp n : Int32} (hk : (mIn M)[k]? = some (pc, .invokestatic idx, 3)) (hw : Cond.methodLink (mOwn M) idx arraycopyName ∈ gW) (w1 : Cond.native arraycopyName ∈ gW) (w2 : Cond.static arraycopyName ∈ gW) (w3 : Cond.initialized "java/lang/System" ∈ gW) (h0 : s.1 a0 = some (eI G n0 f)) (hh : s.1 a = some (eI G n1 g))
    (h1 : ¬ sp < 0) (h2 : ¬ dp < 0) (h3 : ¬ n < 0) (h4 : sp.toNatClampNeg + n.toNatClampNeg ≤ n0) (h5 : dp.toNatClampNeg + n.toNatClampNeg ≤ n1) (hfr : 1 ≤ mFr M) (hlo : (st.map fun v => v.category).sum + (nativeFrameWords "java/lang/System" "arraycopy" 5 + 11) ≤ mLo M)
    (kk : xE G M (pc + 3) ls st (aUp s a (eI G n1 (va_cpy f g sp.toNatClampNeg dp.toNatClampNeg n.toNatClampNeg))) Q) : xE G M pc ls (.int n :: .int dp :: .ref a :: .int sp :: .ref a0 :: st) s Q :=
  xE.put (fun p e U m args below meth c R l0 Qf r s' C H locs lsA ws k0 hP hD hS hl hsub hk0 kk => by
    obtain ⟨k1, hk1⟩ := hsub a0 _ h0
    exact va_copyi C.1.1 C.1.2.1 (by rw [C.1.2.2.1]; exact hl.1.symm) C.1.2.2.2.1 (C.1.2.2.2.2 _ (mWs_in hw)) (C.1.2.2.2.2 _ (mWs_in w1)) (C.1.2.2.2.2 _ (mWs_in w2)) (C.1.2.2.2.2 _ (mWs_in w3)) C.2.2.1.1 hP hD hS k1 k0 0 0 hk1 hk0 rfl rfl rfl h1 h2 h3 h4 h5 (fun _ _ => rfl) (Nat.le_trans hfr C.2.2.2.1.1) (Nat.le_trans hlo C.2.2.2.1.2.1) (C.dec hk) kk) hh kk
/-- Math.min -/
theorem x_min {idx k : Nat} {x y : Int32} (hk : (mIn M)[k]? = some (pc, .invokestatic idx, 3)) (hw : Cond.methodLink (mOwn M) idx Lib.Math.min.name ∈ gW) (w1 : Cond.static Lib.Math.min.name ∈ gW) (w2 : Cond.initialized "java/lang/Math" ∈ gW) (w3 : Cond.code Lib.Math.min.name Lib.Math.min.code 2 (some .int) ∈ gW) (hfr : 1 ≤ mFr M) (hlo : (st.map fun v => v.category).sum + 13 ≤ mLo M) (kk : xE G M (pc + 3) ls (.int (if y < x then y else x) :: st) s Q) : xE G M pc ls (.int y :: .int x :: st) s Q := by
  obtain ⟨r, s', hq, hm, k⟩ := kk
  refine ⟨r, s', hq, hm, fun p e U m args below meth c R l0 Qf C h1 h2 H locs lsA hA hS hl => ?_⟩
  have hR := C.2.2.2.1
  exact va_mmin C.1.1 C.1.2.1 (by rw [C.1.2.2.1]; exact hl.1.symm) C.1.2.2.2.1 (C.1.2.2.2.2 _ (mWs_in hw)) (C.1.2.2.2.2 _ (mWs_in w1)) (C.1.2.2.2.2 _ (mWs_in w2)) (C.1.2.2.2.2 _ (mWs_in w3)) (Nat.le_trans hfr hR.1) (Nat.le_trans hlo hR.2.1) (by have := hm.1; omega) (by have := hm.2.1; omega) (C.dec hk) (k p e U m args below meth c R l0 Qf C h1 h2 H locs lsA hA hS hl)
/-- new -/
theorem x_new {idx ci k : Nat} {q : vw_C} {fs : List Value} (hk : (mIn M)[k]? = some (pc, .new idx, 3)) (hc : vwCl[ci]? = some q) (w1 : Cond.classLink (mOwn M) idx q.1 ∈ gW) (w2 : Cond.instantiable q.1 q.2.2 ∈ gW) (w3 : Cond.initialized q.1 ∈ gW) (ty : Nat → FieldType) (hty : ∀ k, k < q.2.2 → parseFieldDescriptor (q.2.1 k).2.2.1 = some (ty k)) (hfs : ∀ j, j < q.2.2 → defaultValue (ty j) = vp_V fs j) (kk : xE G M (pc + 3) ls (.ref s.2.1 :: st) (aNew s q.2.2 (eO ci fs)) Q) : xE G M pc ls st s Q :=
  xE.new (fun p e U m args below meth c R l0 Qf r s' C hc1 hc2 H locs lsA ws hP hD hS hl kk => va_new C.1.1 C.1.2.1 C.1.2.2.2.2 (fun w hw => mWs_in ((cls_ok ci q hc).1 w hw)) ty hty C.1.2.2.2.1 (C.1.2.2.2.2 _ (mWs_in w1)) (C.1.2.2.2.2 _ (mWs_in w2)) (C.1.2.2.2.2 _ (mWs_in w3)) C.2.2.1.1 hP hD hS (fun x hx => Nat.le_trans C.2.2.1.2.1 hx) hc hfs hc1 hc2 (C.dec hk) kk) kk
theorem gc_eq {G : xG} {U : State} {cA : ClassId} {t : Nat} {ty : FieldType} (hK : va_K (gD G) vwCl (gT G ++ [(cA, ty)]) U) (ht : (gT G)[t]? = some (gc G t, ty)) : cA = gc G t := by
  have h1 := (hK.2 (gT G).length (cA, ty) (by simp)).2
  have h2 := (hK.2 t (gc G t, ty) (by rw [List.getElem?_append_left (List.getElem?_eq_some_iff.mp ht).1]; exact ht)).2
  cases ty with
  | object C0 =>
    obtain ⟨_, _, _, _, _, h3⟩ := h1
    obtain ⟨_, _, _, _, _, h4⟩ := h2
    exact Option.some.inj (h3.symm.trans h4)
  | _ => exact Option.some.inj (h1.symm.trans h2)
/-- newarray -/
theorem x_newa {k t N : Nat} {n : Int32} {at0 : ArrayType} {ty : FieldType} {a0 : vp_A} (hk : (mIn M)[k]? = some (pc, .newarray at0, 2)) (hty : newarray.typeOf at0 = ty) (hw : Cond.arrayClass (newarray.typeOf at0) ∈ gW) (ht : (gT G)[t]? = some (gc G t, ty)) (ha : ∀ cA : ClassId, vp_cell cA a0 = arrV cA N (fun _ => defaultValue ty)) (hn : ¬ n < 0) (hN : n.toNatClampNeg = N) (hb : N * componentBytes ty ≤ 536870912) (kk : xE G M (pc + 2) ls (.ref s.2.1 :: st) (aNew s N (.inl (gc G t, a0))) Q) : xE G M pc ls (.int n :: st) s Q :=
  xE.new (fun p e U m args below meth c R l0 Qf r s' C hc1 hc2 H locs lsA ws hP hD hS hl kk => va_newa C.1.1 C.1.2.1 (C.1.2.2.2.2 _ (mWs_in hw)) hty C.2.2.1.1 hP hD hS (fun x hx => Nat.le_trans C.2.2.1.2.1 hx) ha hn hN hb hc1 hc2 (C.dec hk) (fun q cA H1 hK1 hP1 hD1 hS1 => by
    have e := gc_eq hK1 ht
    subst e
    exact kk q H1 hP1 hD1 hS1)) kk
/-- anewarray -/
theorem x_anew {k t N idx : Nat} {n : Int32} {C0 : String} (hk : (mIn M)[k]? = some (pc, .anewarray idx, 3)) (hC : C0 ∈ nestC) (hw : Cond.classLink (mOwn M) idx C0 ∈ gW) (ht : (gT G)[t]? = some (gc G t, .object C0)) (hn : ¬ n < 0) (hN : n.toNatClampNeg = N) (hb : N * 4 ≤ 536870912) (kk : xE G M (pc + 3) ls (.ref s.2.1 :: st) (aNew s N (eR G t N (fun _ => none))) Q) : xE G M pc ls (.int n :: st) s Q :=
  xE.new (fun p e U m args below meth c R l0 Qf r s' C hc1 hc2 H locs lsA ws hP hD hS hl kk => va_newq C.1.1 C.1.2.1 C.1.2.2.2.1 (C.1.2.2.2.2 _ (mWs_in hw)) (C.2.2.1.2.2.2.2.2 C0 hC) C.2.2.1.1 hP hD hS (fun x hx => Nat.le_trans C.2.2.1.2.1 hx) hn hN hb hc1 hc2 (C.dec hk) (fun q cA H1 hK1 hP1 hD1 hS1 => by
    have e := gc_eq hK1 ht
    subst e
    exact kk q H1 hP1 hD1 hS1)) kk
/-- the two static arrays, and the script -/
theorem x_cost {k : Nat} (hk : (mIn M)[k]? = some (pc, .getstatic 146, 3)) (ho : mOwn M = RX8) (kk : xE G M (pc + 3) ls (.ref (gS1 G) :: st) s Q) : xE G M pc ls st s Q :=
  xE.step (fun p e U m args below meth c R l0 Qf r s' C H locs lsA hA hS hl kk => va_getsN C.1.1 C.1.2.1 C.2.2.1.2.2.1.1.1 hS C.1.2.2.2.1 (by rw [ho]; exact va_Nw.use rfl (C.2.2.1.2.2.2.2.1 (RX8, 146, "COVER_COSTS") (by simp [nestF]))) (fun x hx => hx) (C.dec hk) (kk lsA hl)) kk
theorem x_cover {k : Nat} (hk : (mIn M)[k]? = some (pc, .getstatic 227, 3)) (ho : mOwn M = RX8) (kk : xE G M (pc + 3) ls (.ref (gS2 G) :: st) s Q) : xE G M pc ls st s Q :=
  xE.step (fun p e U m args below meth c R l0 Qf r s' C H locs lsA hA hS hl kk => va_getsN C.1.1 C.1.2.1 C.2.2.1.2.2.1.2.1.1 hS C.1.2.2.2.1 (by rw [ho]; exact va_Nw.use rfl (C.2.2.1.2.2.2.2.1 (RX8, 227, "COVERS") (by simp [nestF]))) (fun x hx => hx) (C.dec hk) (kk lsA hl)) kk
theorem x_costAt {k : Nat} {i : Int32} (hk : (mIn M)[k]? = some (pc, .iaload, 1)) (hin : vp_in i 4) (kk : xE G M (pc + 1) ls (cCost i.toNatClampNeg :: st) s Q) : xE G M pc ls (.int i :: .ref (gS1 G) :: st) s Q :=
  xE.step (fun p e U m args below meth c R l0 Qf r s' C H locs lsA hA hS hl kk => va_ti C.1.1 C.1.2.1 C.2.2.1.2.2.1.1.2 hS hin rfl (C.dec hk) (kk lsA hl)) kk
theorem x_coverAt {k : Nat} {i : Int32} (hk : (mIn M)[k]? = some (pc, .iaload, 1)) (hin : vp_in i 4) (kk : xE G M (pc + 1) ls (cCover i.toNatClampNeg :: st) s Q) : xE G M pc ls (.int i :: .ref (gS2 G) :: st) s Q :=
  xE.step (fun p e U m args below meth c R l0 Qf r s' C H locs lsA hA hS hl kk => va_ti C.1.1 C.1.2.1 C.2.2.1.2.2.1.2.1.2 hS hin rfl (C.dec hk) (kk lsA hl)) kk
theorem x_scrAt {k : Nat} {i : Int32} (hk : (mIn M)[k]? = some (pc, .iaload, 1)) (hin : vp_in i (gLen G)) (kk : xE G M (pc + 1) ls (.int (gScr G i.toNatClampNeg) :: st) s Q) : xE G M pc ls (.int i :: .ref (gS3 G) :: st) s Q :=
  xE.step (fun p e U m args below meth c R l0 Qf r s' C H locs lsA hA hS hl kk => va_ti C.1.1 C.1.2.1 C.2.2.1.2.2.1.2.2 hS hin rfl (C.dec hk) (kk lsA hl)) kk
theorem x_scrLen {k : Nat} (hk : (mIn M)[k]? = some (pc, .arraylength, 1)) (kk : xE G M (pc + 1) ls (.int (nI (gLen G)) :: st) s Q) : xE G M pc ls (.ref (gS3 G) :: st) s Q :=
  xE.step (fun p e U m args below meth c R l0 Qf r s' C H locs lsA hA hS hl kk => va_tlen C.1.1 C.1.2.1 C.2.2.1.2.2.1.2.2 hS rfl (C.dec hk) (kk lsA hl)) kk
/-- Object.<init> -/
theorem x_obj {idx a k : Nat} (hk : (mIn M)[k]? = some (pc, .invokespecial idx, 3)) (w1 : Cond.methodLink (mOwn M) idx Lib.objectInit ∈ gW) (w2 : Cond.instanceMethod Lib.objectInit ∈ gW) (w3 : Cond.code Lib.objectInit ⟨#[0xb1]⟩ 1 none ∈ gW) (hfr : 1 ≤ mFr M) (hlo : (st.map fun v => v.category).sum + 12 ≤ mLo M) (kk : xE G M (pc + 3) ls st s Q) : xE G M pc ls (.ref a :: st) s Q :=
  xE.step (fun p e U m args below meth c R l0 Qf r s' C H locs lsA hA hS hl kk => W.objInit C.1.1 C.1.2.1 C.1.2.2.2.1 (C.1.2.2.2.2 _ (mWs_in w1)) (C.1.2.2.2.2 _ (mWs_in w2)) (C.1.2.2.2.2 _ (mWs_in w3)) rfl (by rw [C.1.2.2.1]; exact hl.1) rfl (C.dec hk) (Nat.le_trans hfr C.2.2.2.1.1) (Nat.le_trans (by show 2 * 0 + _ + 12 ≤ _; omega) C.2.2.2.1.2.1) (kk lsA hl)) kk
/-- ends -/
theorem x_ret {k : Nat} (hk : (mIn M)[k]? = some (pc, .return_, 1)) (hr : mRt M = none) (hq : Q none s) : xE G M pc ls [] s Q :=
  ⟨none, s, hq, ⟨Nat.le_refl _, Nat.le_refl _, Or.inl ⟨rfl, hr⟩⟩, fun p e U m args below meth c R l0 Qf C h1 h2 H locs lsA hA hS hl => C.2.2.2.2.2 H locs lsA pc _ hA hS (C.dec hk) (Or.inl ⟨rfl, rfl⟩)⟩
theorem x_iret {k : Nat} {v : Int32} {ty : FieldType} (hk : (mIn M)[k]? = some (pc, .ireturn, 1)) (hr : mRt M = some ty) (hn : narrow ty (.int v) = .int v) (hq : Q (some (.int v)) s) : xE G M pc ls [.int v] s Q :=
  ⟨some (.int v), s, hq, ⟨Nat.le_refl _, Nat.le_refl _, Or.inr (Or.inl ⟨v, ty, rfl, hr, hn⟩)⟩, fun p e U m args below meth c R l0 Qf C h1 h2 H locs lsA hA hS hl => C.2.2.2.2.2 H locs lsA pc _ hA hS (C.dec hk) (Or.inr (Or.inl ⟨v, rfl, rfl⟩))⟩
theorem x_aret {k : Nat} {v : Value} {rt : FieldType} (hk : (mIn M)[k]? = some (pc, .areturn, 1)) (hr : mRt M = some rt) (hrt : (∃ n, rt = .object n) ∨ ∃ t, rt = .array t) (hv : v = .null ∨ ∃ a, v = .ref a) (hq : Q (some v) s) : xE G M pc ls [v] s Q :=
  ⟨some v, s, hq, ⟨Nat.le_refl _, Nat.le_refl _, Or.inr (Or.inr (Or.inl ⟨v, rt, hv, rfl, hr, hrt⟩))⟩, fun p e U m args below meth c R l0 Qf C h1 h2 H locs lsA hA hS hl => C.2.2.2.2.2 H locs lsA pc _ hA hS (C.dec hk) (Or.inr (Or.inr (Or.inl ⟨v, hv, rfl, rfl⟩)))⟩
theorem x_lret {k : Nat} {v : Int64} (hk : (mIn M)[k]? = some (pc, .lreturn, 1)) (hr : mRt M = some .long) (hq : Q (some (.long v)) s) : xE G M pc ls [.long v] s Q :=
  ⟨some (.long v), s, hq, ⟨Nat.le_refl _, Nat.le_refl _, Or.inr (Or.inr (Or.inr ⟨v, rfl, hr⟩))⟩, fun p e U m args below meth c R l0 Qf C h1 h2 H locs lsA hA hS hl => C.2.2.2.2.2 H locs lsA pc _ hA hS (C.dec hk) (Or.inr (Or.inr (Or.inr ⟨v, rfl, rfl⟩)))⟩
end XE2
