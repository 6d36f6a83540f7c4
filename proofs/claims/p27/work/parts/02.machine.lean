-- ===== an abstract machine over the kit's rows: a heap of known cells, a method's run as a judgement =====
abbrev xA : Type := (Nat → Option va_E) × Nat × Nat
abbrev xM : Type := String × MethodName × ByteArray × Nat × Option FieldType × Nat × Nat × List (Nat × Instr × Nat)
abbrev mOwn (M : xM) : String := M.1
abbrev mY (M : xM) : MethodName := M.2.1
abbrev mCd (M : xM) : ByteArray := M.2.2.1
abbrev mNL (M : xM) : Nat := M.2.2.2.1
abbrev mRt (M : xM) : Option FieldType := M.2.2.2.2.1
abbrev mFr (M : xM) : Nat := M.2.2.2.2.2.1
abbrev mLo (M : xM) : Nat := M.2.2.2.2.2.2.1
abbrev mIn (M : xM) : List (Nat × Instr × Nat) := M.2.2.2.2.2.2.2
abbrev xG : Type := Launch × va_G × (Nat → ClassId) × Nat × Nat × Nat × Nat × Nat × (Nat → Int32)
abbrev gL (G : xG) : Launch := G.1
abbrev gD (G : xG) : va_G := G.2.1
abbrev gc (G : xG) : Nat → ClassId := G.2.2.1
abbrev gB (G : xG) : Nat := G.2.2.2.1
abbrev gS1 (G : xG) : Nat := G.2.2.2.2.1
abbrev gS2 (G : xG) : Nat := G.2.2.2.2.2.1
abbrev gS3 (G : xG) : Nat := G.2.2.2.2.2.2.1
abbrev gLen (G : xG) : Nat := G.2.2.2.2.2.2.2.1
abbrev gScr (G : xG) : Nat → Int32 := G.2.2.2.2.2.2.2.2
abbrev gT (G : xG) : List (ClassId × FieldType) := [(gc G 0, .int), (gc G 1, .int), (gc G 2, .char), (gc G 3, .boolean), (gc G 4, .object RX3), (gc G 5, .object RX6), (gc G 6, .object RX2), (gc G 7, .object RX8), (gc G 8, .object RX4)]
abbrev gA (G : xG) : Nat → Prop := fun q => gB G ≤ q
abbrev eI (G : xG) (n : Nat) (f : Nat → Int32) : va_E := .inl (gc G 0, n, .inl f)
abbrev eJ (G : xG) (n : Nat) (f : Nat → Int64) : va_E := .inl (gc G 1, n, .inr (.inl f))
abbrev eC (G : xG) (n : Nat) (f : Nat → Int32) : va_E := .inl (gc G 2, n, .inl f)
abbrev eZ (G : xG) (n : Nat) (f : Nat → Int32) : va_E := .inl (gc G 3, n, .inl f)
abbrev eR (G : xG) (t n : Nat) (f : Nat → Option Nat) : va_E := .inl (gc G t, n, .inr (.inr (.inr (.inr f))))
abbrev eO (ci : Nat) (fs : List Value) : va_E := .inr (ci, fs)
/-- the words that every method stands on -/
def gW : List Cond := lw_tbl.filter goodWord
theorem gW_in {w : Cond} (h : w ∈ lw_tbl) (hg : goodWord w = true) : w ∈ gW := List.mem_filter.mpr ⟨h, hg⟩
theorem gW_tbl {w : Cond} (h : w ∈ gW) : w ∈ lw_tbl := (List.mem_filter.mp h).1
theorem gW_good : ∀ w ∈ gW, goodWord w = true := fun _ h => (List.mem_filter.mp h).2
def mWs (M : xM) : List Cond := Cond.code (mY M) (mCd M) (mNL M) (mRt M) :: gW
theorem mWs_in {M : xM} {w : Cond} (h : w ∈ gW) : w ∈ mWs M := List.mem_cons_of_mem _ h
def cCost : Nat → Value := fun j => match j with | 0 => .int 0 | 1 => .int 2 | 2 => .int 5 | _ => .int 10
def cCover : Nat → Value := fun j => match j with | 0 => .int 0 | 1 => .int 50 | 2 => .int 200 | _ => .int 999
def nestM : List (String × Nat × MethodName) := [(RX9, 9, yX4_init), (RX9, 23, yX0_init), (RX9, 30, yX5_init), (RX8, 31, yX1_init), (RX8, 39, yX6_init), (RX8, 40, yX2_init), (RX0, 21, yX4_init), (RX8, 89, yX9_isPerson), (RX8, 93, yX9_isTown), (RX8, 96, yX9_isWithin)]
def nestF : List (String × Nat × String) := [(RX8, 146, "COVER_COSTS"), (RX8, 227, "COVERS")]
def nestC : List String := [RX3, RX6, RX2, RX8, RX4]
/-- the two static arrays -/
def aSt (G : xG) (U : State) (H : Heap) : Prop :=
  (va_Z RX9 "COVER_COSTS" "[I" (.ref (gS1 G)) (gA G) U H ∧ va_T .int (gS1 G) 4 cCost (gA G) U H) ∧ (va_Z RX9 "COVERS" "[I" (.ref (gS2 G)) (gA G) U H ∧ va_T .int (gS2 G) 4 cCover (gA G) U H) ∧ va_T .int (gS3 G) (gLen G) (fun j => .int (gScr G j)) (gA G) U H
/-- what is known of the machine at a method's entry -/
def aK (G : xG) (U : State) : Prop := va_K (gD G) vwCl (gT G) U ∧ gB G ≤ U.heap.size ∧ aSt G U U.heap ∧ (∀ q ∈ nestM, va_Nw (.methodLinkNest q.1 q.2.1 q.2.2 RX9) U) ∧ (∀ q ∈ nestF, va_Nw (.fieldLinkNest q.1 q.2.1 RX9 q.2.2 "[I" RX9) U) ∧ (∀ C ∈ nestC, va_AO C U)
theorem aK.same {G : xG} {u U : State} (hv : U.vm = u.vm) (hh : U.heap = u.heap) (h : aK G u) : aK G U := by
  obtain ⟨h1, h2, ⟨⟨h3, h4⟩, ⟨h5, h6⟩, hx⟩, h7, h8, h9⟩ := h
  have hvm : u.vm.Alike U.vm := by rw [hv]; exact Vm.Alike.refl u.vm
  rw [aK, aSt, hh]
  exact ⟨h1.moved hvm, h2, ⟨⟨h3.moved hvm, h4.moved hvm⟩, ⟨h5.moved hvm, h6.moved hvm⟩, hx.moved hvm⟩, fun q hq => (h7 q hq).same rfl hv.symm, fun q hq => (h8 q hq).same rfl hv.symm, fun C hC => (h9 C hC).moved hvm⟩
theorem aK.to {G : xG} {u U : State} {H : Heap} {locs : List Loc} (hW : u.WarmedH U.vm) (hh : U.heap = H) (hS : va_S (gA G) u.heap H locs) (h : aK G u) : aK G U := by
  obtain ⟨h1, h2, ⟨⟨h3, h4⟩, ⟨h5, h6⟩, hx⟩, h7, h8, h9⟩ := h
  subst hh
  have hvm : u.vm.Alike U.vm := hW.alike
  have kq : ∀ a : Nat, a < u.heap.size → ¬ gA G a → U.heap[a]? = u.heap[a]? := hS.2.1
  exact ⟨h1.moved hvm, Nat.le_trans h2 hS.1, ⟨⟨(h3.moved hvm).kept kq, (h4.moved hvm).kept kq⟩, ⟨(h5.moved hvm).kept kq, (h6.moved hvm).kept kq⟩, (hx.moved hvm).kept kq⟩, fun q hq => (h7 q hq).warmM hW, fun q hq => (h8 q hq).warmF hW, fun C hC => (h9 C hC).moved hvm⟩
/-- the heap holds the known cells: all cells from the base on, in the order of their addresses -/
def aAt (G : xG) (s : xA) (H : Heap) : Prop := ∃ ws : va_W, (∀ (k : Nat) (q : Nat × va_E), ws[k]? = some q → q.1 = gB G + k) ∧ gB G + ws.length = s.2.1 ∧ (∀ (a : Nat) (e : va_E), s.1 a = some e → ∃ k : Nat, ws[k]? = some (a, e)) ∧ va_P (gD G) vwCl ws H ∧ H.size = s.2.1
theorem aIdx {b : Nat} {ws : va_W} (h : ∀ (k : Nat) (q : Nat × va_E), ws[k]? = some q → q.1 = b + k) : va_D (fun q => b ≤ q) ws :=
  ⟨fun i j p q hi hj he => by have := h i p hi; have := h j q hj; omega, fun k q hk => by have := h k q hk; show b ≤ q.1; omega⟩
theorem aSz {G : xG} {ws : va_W} {H : Heap} {n : Nat} (h : ∀ (k : Nat) (q : Nat × va_E), ws[k]? = some q → q.1 = gB G + k) (hl : gB G + ws.length = n) (hP : va_P (gD G) vwCl ws H) (hb : gB G ≤ H.size) (hz : H.size ≤ n) : H.size = n := by
  rcases Nat.eq_zero_or_pos ws.length with h0 | h0
  · omega
  · have hk : ws.length - 1 < ws.length := by omega
    have h1 := List.getElem?_eq_getElem hk
    have h2 := (hP _ _ h1).lt
    have h3 := h _ _ h1
    omega
/-- one cell is another -/
def aUp (s : xA) (a : Nat) (e : va_E) : xA := (fun q => if q = a then some e else s.1 q, s.2.1, s.2.2)
def aNew (s : xA) (n : Nat) (e : va_E) : xA := (fun q => if q = s.2.1 then some e else s.1 q, s.2.1 + 1, s.2.2 + n)
theorem aSet {b : Nat} {ws : va_W} {k0 a : Nat} {e0 e : va_E} (h : ∀ (k : Nat) (q : Nat × va_E), ws[k]? = some q → q.1 = b + k) (hk : ws[k0]? = some (a, e0)) : ∀ (k : Nat) (q : Nat × va_E), (ws.set k0 (a, e))[k]? = some q → q.1 = b + k := by
  intro k q hq
  by_cases hkk : k0 = k
  · subst hkk
    rw [List.getElem?_set_self (List.getElem?_eq_some_iff.mp hk).1] at hq
    cases hq
    exact h k0 (a, e0) hk
  · rw [List.getElem?_set_ne hkk] at hq
    exact h k q hq
theorem aSetUp {b : Nat} {ws : va_W} {k0 a : Nat} {e0 e : va_E} {s : xA} (h : ∀ (k : Nat) (q : Nat × va_E), ws[k]? = some q → q.1 = b + k) (hk : ws[k0]? = some (a, e0)) (hs : ∀ (a : Nat) (e : va_E), s.1 a = some e → ∃ k : Nat, ws[k]? = some (a, e)) : ∀ (a1 : Nat) (e1 : va_E), (aUp s a e).1 a1 = some e1 → ∃ k : Nat, (ws.set k0 (a, e))[k]? = some (a1, e1) := by
  intro a1 e1 h1
  have h1 : (if a1 = a then some e else s.1 a1) = some e1 := h1
  by_cases ha : a1 = a
  · rw [if_pos ha] at h1
    cases h1
    subst ha
    exact ⟨k0, List.getElem?_set_self (List.getElem?_eq_some_iff.mp hk).1⟩
  · rw [if_neg ha] at h1
    obtain ⟨k, hk2⟩ := hs a1 e1 h1
    refine ⟨k, ?_⟩
    rw [List.getElem?_set_ne]
    · exact hk2
    · intro hkk
      subst hkk
      rw [hk] at hk2
      cases hk2
      exact ha rfl
theorem aAt.put {G : xG} {s : xA} {ws : va_W} {k0 a : Nat} {e0 e : va_E} {H1 : Heap} (h : ∀ (k : Nat) (q : Nat × va_E), ws[k]? = some q → q.1 = gB G + k) (hl : gB G + ws.length = s.2.1) (hs : ∀ (a : Nat) (e : va_E), s.1 a = some e → ∃ k : Nat, ws[k]? = some (a, e)) (hk : ws[k0]? = some (a, e0)) (hP : va_P (gD G) vwCl (ws.set k0 (a, e)) H1) (hb : gB G ≤ H1.size) (hz : H1.size ≤ s.2.1) : aAt G (aUp s a e) H1 :=
  ⟨ws.set k0 (a, e), aSet h hk, by rw [List.length_set]; exact hl, aSetUp h hk hs, hP, aSz (aSet h hk) (by rw [List.length_set]; exact hl) hP hb hz⟩
theorem aAt.new {G : xG} {s : xA} {ws : va_W} {q n : Nat} {e : va_E} {H1 : Heap} (h : ∀ (k : Nat) (q : Nat × va_E), ws[k]? = some q → q.1 = gB G + k) (hl : gB G + ws.length = s.2.1) (hs : ∀ (a : Nat) (e : va_E), s.1 a = some e → ∃ k : Nat, ws[k]? = some (a, e)) (hP : va_P (gD G) vwCl (ws ++ [(q, e)]) H1) (hD : va_D (gA G) (ws ++ [(q, e)])) (hz : H1.size ≤ s.2.1 + 1) : q = s.2.1 ∧ aAt G (aNew s n e) H1 := by
  have hlast : (ws ++ [(q, e)])[ws.length]? = some (q, e) := by simp
  have hq1 : gB G ≤ q := hD.2 _ _ hlast
  have hq2 : q < H1.size := (hP _ _ hlast).lt
  have hq3 : ¬ q < s.2.1 := by
    intro hlt
    have hk : q - gB G < ws.length := by omega
    have h1 := List.getElem?_eq_getElem hk
    have h2 := h _ _ h1
    have h3 : (ws ++ [(q, e)])[q - gB G]? = some ws[q - gB G] := by rw [List.getElem?_append_left hk]; exact h1
    have h4 := hD.1 _ _ _ _ h3 hlast (by rw [h2]; show gB G + (q - gB G) = q; omega)
    omega
  have hq : q = s.2.1 := by omega
  have hidx : ∀ (k : Nat) (p : Nat × va_E), (ws ++ [(q, e)])[k]? = some p → p.1 = gB G + k := by
    intro k p hk
    by_cases hkl : k < ws.length
    · rw [List.getElem?_append_left hkl] at hk
      exact h k p hk
    · rw [List.getElem?_append_right (by omega)] at hk
      have hz1 : k - ws.length < 1 := (List.getElem?_eq_some_iff.mp hk).1
      rw [show k - ws.length = 0 by omega] at hk
      cases hk
      show q = gB G + k
      omega
  refine ⟨hq, ws ++ [(q, e)], hidx, by simp [aNew]; omega, ?_, hP, ?_⟩
  · intro a1 e1 h1
    have h1 : (if a1 = s.2.1 then some e else s.1 a1) = some e1 := h1
    by_cases ha : a1 = s.2.1
    · rw [if_pos ha] at h1
      cases h1
      exact ⟨ws.length, by rw [hlast, hq, ha]⟩
    · rw [if_neg ha] at h1
      obtain ⟨k, hk⟩ := hs a1 e1 h1
      exact ⟨k, by rw [List.getElem?_append_left (List.getElem?_eq_some_iff.mp hk).1]; exact hk⟩
  · show H1.size = s.2.1 + 1
    omega
-- ===== the judgement =====
def xRet (r : Option Value) (i : Instr) : Prop := (r = none ∧ i = .return_) ∨ (∃ v, r = some (.int v) ∧ i = .ireturn) ∨ (∃ v, (v = Value.null ∨ ∃ a, v = .ref a) ∧ r = some v ∧ i = .areturn) ∨ (∃ v, r = some (.long v) ∧ i = .lreturn)
/-- what may be returned, by the return type -/
def xRt (t : Option FieldType) (r : Option Value) : Prop := (r = none ∧ t = none) ∨ (∃ v ty, r = some (.int v) ∧ t = some ty ∧ narrow ty (.int v) = .int v) ∨ (∃ v rt, (v = Value.null ∨ ∃ a, v = .ref a) ∧ r = some v ∧ t = some rt ∧ ((∃ n, rt = .object n) ∨ ∃ t, rt = .array t)) ∨ (∃ v, r = some (.long v) ∧ t = some .long)
def xC (G : xG) (M : xM) (p : Program) (e : Env) (U : State) (m : MethodId) (args : Array Value) (below : List Frame) (meth : Method) (c : Code) (R : Room) (l0 : Nat) (Qf : State → Prop) (r : Option Value) (s' : xA) : Prop :=
  (p.tables.exec = Jvm.exec ∧ c.code = mCd M ∧ c.maxLocals = mNL M ∧ U.vm.findClass (mOwn M) = some m.cls ∧ ∀ w ∈ mWs M, w.before args U = true) ∧ meth.name = (mY M).name ∧ aK G U ∧ (mFr M ≤ R.frames ∧ mLo M ≤ R.locals ∧ s'.2.1 - U.heap.size ≤ R.cells ∧ s'.2.2 - l0 ≤ R.slots) ∧
  (∀ (k : Nat) (q : Nat × Instr × Nat), (mIn M)[k]? = some q → decode (mCd M) q.1 = .ok q.2) ∧
  ∀ (H : Heap) (locs : List Loc) (lsA : Array Slot) (pc : Nat) (i : Instr), aAt G s' H → va_S (gA G) U.heap H locs → decode (mCd M) pc = .ok (i, 1) → xRet r i → W p (gL G) e R U m args below meth c H locs (s'.2.1 - U.heap.size) (s'.2.2 - l0) Qf (F0 m pc lsA r.toList)
def xX (G : xG) (M : xM) (pc : Nat) (ls : List (Nat × Value)) (st : List Value) (s : xA) (r : Option Value) (s' : xA) : Prop :=
  (s.2.1 ≤ s'.2.1 ∧ s.2.2 ≤ s'.2.2 ∧ xRt (mRt M) r) ∧ ∀ (p : Program) (e : Env) (U : State) (m : MethodId) (args : Array Value) (below : List Frame) (meth : Method) (c : Code) (R : Room) (l0 : Nat) (Qf : State → Prop), xC G M p e U m args below meth c R l0 Qf r s' → U.heap.size ≤ s.2.1 → l0 ≤ s.2.2 →
    ∀ (H : Heap) (locs : List Loc) (lsA : Array Slot), aAt G s H → va_S (gA G) U.heap H locs → lv_has lsA (mNL M) ls → W p (gL G) e R U m args below meth c H locs (s.2.1 - U.heap.size) (s.2.2 - l0) Qf (F0 m pc lsA st)
theorem xC.dec {G : xG} {M : xM} {p : Program} {e : Env} {U : State} {m : MethodId} {args : Array Value} {below : List Frame} {meth : Method} {c : Code} {R : Room} {l0 : Nat} {Qf : State → Prop} {r : Option Value} {s' : xA} (C : xC G M p e U m args below meth c R l0 Qf r s') {k pc n : Nat} {i : Instr} (hk : (mIn M)[k]? = some (pc, i, n)) : decode (mCd M) pc = .ok (i, n) := by
  have h := C.2.2.2.2.1 k (pc, i, n) hk
  exact h
/-- from here the method ends so that Q holds of its answer and of the cells then -/
def xE (G : xG) (M : xM) (pc : Nat) (ls : List (Nat × Value)) (st : List Value) (s : xA) (Q : Option Value → xA → Prop) : Prop := ∃ (r : Option Value) (s' : xA), Q r s' ∧ xX G M pc ls st s r s'
theorem xE.mono {G : xG} {M : xM} {pc : Nat} {ls : List (Nat × Value)} {st : List Value} {s : xA} {Q Q' : Option Value → xA → Prop} (h : xE G M pc ls st s Q) (hq : ∀ r s', Q r s' → Q' r s') : xE G M pc ls st s Q' := by
  obtain ⟨r, s', h1, h2⟩ := h
  exact ⟨r, s', hq r s' h1, h2⟩
/-- a method, from its entry -/
def xMe (G : xG) (M : xM) (As : List Value) (s : xA) (Q : Option Value → xA → Prop) : Prop := xE G M 0 (lv_args 0 As) [] s Q
/-- a row that moves from one place to the next without a look at the heap -/
theorem xE.step {G : xG} {M : xM} {pc pc' : Nat} {ls ls' : List (Nat × Value)} {st st' : List Value} {s : xA} {Q : Option Value → xA → Prop}
    (h : ∀ (p : Program) (e : Env) (U : State) (m : MethodId) (args : Array Value) (below : List Frame) (meth : Method) (c : Code) (R : Room) (l0 : Nat) (Qf : State → Prop) (r : Option Value) (s' : xA), xC G M p e U m args below meth c R l0 Qf r s' →
      ∀ (H : Heap) (locs : List Loc) (lsA : Array Slot), aAt G s H → va_S (gA G) U.heap H locs → lv_has lsA (mNL M) ls → (∀ lsB : Array Slot, lv_has lsB (mNL M) ls' → W p (gL G) e R U m args below meth c H locs (s.2.1 - U.heap.size) (s.2.2 - l0) Qf (F0 m pc' lsB st')) → W p (gL G) e R U m args below meth c H locs (s.2.1 - U.heap.size) (s.2.2 - l0) Qf (F0 m pc lsA st))
    (k : xE G M pc' ls' st' s Q) : xE G M pc ls st s Q := by
  obtain ⟨r, s', hq, hm, k⟩ := k
  exact ⟨r, s', hq, hm, fun p e U m args below meth c R l0 Qf C h1 h2 H locs lsA hA hS hl => h p e U m args below meth c R l0 Qf r s' C H locs lsA hA hS hl (fun lsB hB => k p e U m args below meth c R l0 Qf C h1 h2 H locs lsB hA hS hB)⟩
theorem lv_look {ls : Array Slot} {nL : Nat} {l : List (Nat × Value)} (h : lv_has ls nL l) {i : Nat} {v : Value} (hk : l.lookup i = some v) : ls[i]? = some (.val v) := by
  refine h.2.2 (i, v) ?_
  clear h
  induction l with
  | nil => cases hk
  | cons q l ih =>
    obtain ⟨j, w⟩ := q
    by_cases hj : i = j
    · subst hj
      simp [List.lookup] at hk
      subst hk
      exact List.mem_cons_self
    · have hb : (i == j) = false := by simpa using hj
      simp only [List.lookup, hb] at hk
      exact List.mem_cons_of_mem _ (ih hk)
/-- locals in the order of their numbers -/
def lIns (i : Nat) (v : Value) : List (Nat × Value) → List (Nat × Value)
  | [] => [(i, v)]
  | (j, w) :: t => if i ≤ j then (i, v) :: (j, w) :: t else (j, w) :: lIns i v t
def lSet (i : Nat) (v : Value) (l : List (Nat × Value)) : List (Nat × Value) := lIns i v (l.filter (fun q => !(q.1 == i) && !(q.1 + 1 == i && q.2.category == 2)))
def lSet2 (i : Nat) (v : Value) (l : List (Nat × Value)) : List (Nat × Value) := lIns i v (l.filter (fun q => !(q.1 == i) && (!(q.1 == i + 1) && !(q.1 + 1 == i && q.2.category == 2))))
theorem lIns_mem {i : Nat} {v : Value} {q : Nat × Value} : ∀ {l : List (Nat × Value)}, q ∈ lIns i v l → q ∈ (i, v) :: l
  | [], h => h
  | (j, w) :: t, h => by
    unfold lIns at h
    split at h
    · exact h
    · rcases List.mem_cons.mp h with h | h
      · rw [h]; exact List.mem_cons_of_mem _ List.mem_cons_self
      · rcases List.mem_cons.mp (lIns_mem h) with h | h
        · rw [h]; exact List.mem_cons_self
        · exact List.mem_cons_of_mem _ (List.mem_cons_of_mem _ h)
theorem lv_ins {ls : Array Slot} {nL : Nat} {i : Nat} {v : Value} {l : List (Nat × Value)} (h : lv_has ls nL ((i, v) :: l)) : lv_has ls nL (lIns i v l) := ⟨h.1, h.2.1, fun q hq => h.2.2 q (lIns_mem hq)⟩
section XR
variable {G : xG} {M : xM} {pc : Nat} {ls : List (Nat × Value)} {st : List Value} {s : xA} {Q : Option Value → xA → Prop}
/-- fewer locals, in another order -/
theorem x_sub {ls' : List (Nat × Value)} (h : ∀ q ∈ ls', ls.lookup q.1 = some q.2) (k : xE G M pc ls' st s Q) : xE G M pc ls st s Q := by
  obtain ⟨r, s', hq, hm, k⟩ := k
  refine ⟨r, s', hq, hm, fun p e U m args below meth c R l0 Qf C h1 h2 H locs lsA hA hS hl => k p e U m args below meth c R l0 Qf C h1 h2 H locs lsA hA hS ⟨hl.1, hl.2.1, fun q hq => lv_look hl (h q hq)⟩⟩
-- PURE ROWS
theorem x_iconst {n : Int} {v : Int32} {k : Nat} (hk : (mIn M)[k]? = some (pc, .iconst n, 1)) (hv : Int32.ofInt n = v) (kk : xE G M (pc + 1) ls (.int v :: st) s Q) : xE G M pc ls st s Q :=
  xE.step (fun _ _ _ _ _ _ _ _ _ _ _ _ _ C _ _ lsA _ hS hl kk => lv_iconst C.1.1 C.1.2.1 (C.dec hk) hv (kk lsA hl)) kk
theorem x_bipush {n : Int} {v : Int32} {k : Nat} (hk : (mIn M)[k]? = some (pc, .bipush n, 2)) (hv : (Int8.ofInt n).toInt32 = v) (kk : xE G M (pc + 2) ls (.int v :: st) s Q) : xE G M pc ls st s Q :=
  xE.step (fun _ _ _ _ _ _ _ _ _ _ _ _ _ C _ _ lsA _ hS hl kk => lv_bipush C.1.1 C.1.2.1 (C.dec hk) hv (kk lsA hl)) kk
theorem x_sipush {n : Int} {v : Int32} {k : Nat} (hk : (mIn M)[k]? = some (pc, .sipush n, 3)) (hv : (Int16.ofInt n).toInt32 = v) (kk : xE G M (pc + 3) ls (.int v :: st) s Q) : xE G M pc ls st s Q :=
  xE.step (fun _ _ _ _ _ _ _ _ _ _ _ _ _ C _ _ lsA _ hS hl kk => lv_sipush C.1.1 C.1.2.1 (C.dec hk) hv (kk lsA hl)) kk
theorem x_lconst {n : Fin 2} {v : Int64} {k : Nat} (hk : (mIn M)[k]? = some (pc, .lconst n, 1)) (hv : Int64.ofNat (n : Nat) = v) (kk : xE G M (pc + 1) ls (.long v :: st) s Q) : xE G M pc ls st s Q :=
  xE.step (fun _ _ _ _ _ _ _ _ _ _ _ _ _ C _ _ lsA _ hS hl kk => lv_lconst C.1.1 C.1.2.1 (C.dec hk) hv (kk lsA hl)) kk
theorem x_ldc {n : Nat} {v : Int32} {k : Nat} (hk : (mIn M)[k]? = some (pc, .ldc n, 2)) (hw : Cond.constant (mOwn M) n v ∈ gW) (kk : xE G M (pc + 2) ls (.int v :: st) s Q) : xE G M pc ls st s Q :=
  xE.step (fun _ _ _ _ _ _ _ _ _ _ _ _ _ C _ _ lsA _ hS hl kk => lv_ldc C.1.1 C.1.2.1 C.1.2.2.2.1 (C.1.2.2.2.2 _ (mWs_in hw)) (C.dec hk) (kk lsA hl)) kk
theorem x_ldc2 {n : Nat} {v : Int64} {k : Nat} (hk : (mIn M)[k]? = some (pc, .ldc2_w n, 3)) (hw : Cond.constantLong (mOwn M) n v ∈ gW) (kk : xE G M (pc + 3) ls (.long v :: st) s Q) : xE G M pc ls st s Q :=
  xE.step (fun _ _ _ _ _ _ _ _ _ _ _ _ _ C _ _ lsA _ hS hl kk => lv_ldc2 C.1.1 C.1.2.1 C.1.2.2.2.1 (C.1.2.2.2.2 _ (mWs_in hw)) (C.dec hk) (kk lsA hl)) kk
theorem x_iload_n {j : Fin 4} {v : Int32} {k : Nat} (hk : (mIn M)[k]? = some (pc, .iload_n j, 1)) (hv : ls.lookup (j : Nat) = some (.int v)) (kk : xE G M (pc + 1) ls (.int v :: st) s Q) : xE G M pc ls st s Q :=
  xE.step (fun _ _ _ _ _ _ _ _ _ _ _ _ _ C _ _ lsA _ hS hl kk => lv_iload_n C.1.1 C.1.2.1 (C.dec hk) rfl (lv_look hl hv) (kk lsA hl)) kk
theorem x_iload {j : Nat} {v : Int32} {k : Nat} (hk : (mIn M)[k]? = some (pc, .iload j, 2)) (hv : ls.lookup j = some (.int v)) (kk : xE G M (pc + 2) ls (.int v :: st) s Q) : xE G M pc ls st s Q :=
  xE.step (fun _ _ _ _ _ _ _ _ _ _ _ _ _ C _ _ lsA _ hS hl kk => lv_iload C.1.1 C.1.2.1 (C.dec hk) (lv_look hl hv) (kk lsA hl)) kk
theorem x_lload_n {j : Fin 4} {v : Int64} {k : Nat} (hk : (mIn M)[k]? = some (pc, .lload_n j, 1)) (hv : ls.lookup (j : Nat) = some (.long v)) (kk : xE G M (pc + 1) ls (.long v :: st) s Q) : xE G M pc ls st s Q :=
  xE.step (fun _ _ _ _ _ _ _ _ _ _ _ _ _ C _ _ lsA _ hS hl kk => lv_lload_n C.1.1 C.1.2.1 (C.dec hk) rfl (lv_look hl hv) (kk lsA hl)) kk
theorem x_lload {j : Nat} {v : Int64} {k : Nat} (hk : (mIn M)[k]? = some (pc, .lload j, 2)) (hv : ls.lookup j = some (.long v)) (kk : xE G M (pc + 2) ls (.long v :: st) s Q) : xE G M pc ls st s Q :=
  xE.step (fun _ _ _ _ _ _ _ _ _ _ _ _ _ C _ _ lsA _ hS hl kk => lv_lload C.1.1 C.1.2.1 (C.dec hk) (lv_look hl hv) (kk lsA hl)) kk
theorem x_aload_n {j : Fin 4} {v : Nat} {k : Nat} (hk : (mIn M)[k]? = some (pc, .aload_n j, 1)) (hv : ls.lookup (j : Nat) = some (.ref v)) (kk : xE G M (pc + 1) ls (.ref v :: st) s Q) : xE G M pc ls st s Q :=
  xE.step (fun _ _ _ _ _ _ _ _ _ _ _ _ _ C _ _ lsA _ hS hl kk => lv_aload_n C.1.1 C.1.2.1 (C.dec hk) rfl (lv_look hl hv) (kk lsA hl)) kk
theorem x_aload {j : Nat} {v : Nat} {k : Nat} (hk : (mIn M)[k]? = some (pc, .aload j, 2)) (hv : ls.lookup j = some (.ref v)) (kk : xE G M (pc + 2) ls (.ref v :: st) s Q) : xE G M pc ls st s Q :=
  xE.step (fun _ _ _ _ _ _ _ _ _ _ _ _ _ C _ _ lsA _ hS hl kk => lv_aload C.1.1 C.1.2.1 (C.dec hk) (lv_look hl hv) (kk lsA hl)) kk
theorem x_aload_nN {j : Fin 4} {k : Nat} (hk : (mIn M)[k]? = some (pc, .aload_n j, 1)) (hv : ls.lookup (j : Nat) = some .null) (kk : xE G M (pc + 1) ls (.null :: st) s Q) : xE G M pc ls st s Q :=
  xE.step (fun _ _ _ _ _ _ _ _ _ _ _ _ _ C _ _ lsA _ hS hl kk => lv_aload_nN C.1.1 C.1.2.1 (C.dec hk) rfl (lv_look hl hv) (kk lsA hl)) kk
theorem x_aloadN {j : Nat} {k : Nat} (hk : (mIn M)[k]? = some (pc, .aload j, 2)) (hv : ls.lookup j = some .null) (kk : xE G M (pc + 2) ls (.null :: st) s Q) : xE G M pc ls st s Q :=
  xE.step (fun _ _ _ _ _ _ _ _ _ _ _ _ _ C _ _ lsA _ hS hl kk => lv_aloadN C.1.1 C.1.2.1 (C.dec hk) (lv_look hl hv) (kk lsA hl)) kk
theorem x_istore_n {j : Fin 4} {v : Int32} {k : Nat} (hk : (mIn M)[k]? = some (pc, .istore_n j, 1)) (hn : (j : Nat) < mNL M) (kk : xE G M (pc + 1) (lSet (j : Nat) (.int v) ls) st s Q) : xE G M pc ls (.int v :: st) s Q :=
  xE.step (fun _ _ _ _ _ _ _ _ _ _ _ _ _ C _ _ lsA _ hS hl kk => lv_istore_n C.1.1 C.1.2.1 (C.dec hk) rfl hl hn rfl (fun lsB hB => kk lsB (lv_ins hB))) kk
theorem x_istore {j : Nat} {v : Int32} {k : Nat} (hk : (mIn M)[k]? = some (pc, .istore j, 2)) (hn : j < mNL M) (kk : xE G M (pc + 2) (lSet j (.int v) ls) st s Q) : xE G M pc ls (.int v :: st) s Q :=
  xE.step (fun _ _ _ _ _ _ _ _ _ _ _ _ _ C _ _ lsA _ hS hl kk => lv_istore C.1.1 C.1.2.1 (C.dec hk) hl hn rfl (fun lsB hB => kk lsB (lv_ins hB))) kk
theorem x_astore_n {j : Fin 4} {v : Nat} {k : Nat} (hk : (mIn M)[k]? = some (pc, .astore_n j, 1)) (hn : (j : Nat) < mNL M) (kk : xE G M (pc + 1) (lSet (j : Nat) (.ref v) ls) st s Q) : xE G M pc ls (.ref v :: st) s Q :=
  xE.step (fun _ _ _ _ _ _ _ _ _ _ _ _ _ C _ _ lsA _ hS hl kk => lv_astore_n C.1.1 C.1.2.1 (C.dec hk) rfl hl hn rfl (fun lsB hB => kk lsB (lv_ins hB))) kk
theorem x_astore {j : Nat} {v : Nat} {k : Nat} (hk : (mIn M)[k]? = some (pc, .astore j, 2)) (hn : j < mNL M) (kk : xE G M (pc + 2) (lSet j (.ref v) ls) st s Q) : xE G M pc ls (.ref v :: st) s Q :=
  xE.step (fun _ _ _ _ _ _ _ _ _ _ _ _ _ C _ _ lsA _ hS hl kk => lv_astore C.1.1 C.1.2.1 (C.dec hk) hl hn rfl (fun lsB hB => kk lsB (lv_ins hB))) kk
theorem x_astore_nN {j : Fin 4} {k : Nat} (hk : (mIn M)[k]? = some (pc, .astore_n j, 1)) (hn : (j : Nat) < mNL M) (kk : xE G M (pc + 1) (lSet (j : Nat) .null ls) st s Q) : xE G M pc ls (.null :: st) s Q :=
  xE.step (fun _ _ _ _ _ _ _ _ _ _ _ _ _ C _ _ lsA _ hS hl kk => lv_astore_nN C.1.1 C.1.2.1 (C.dec hk) rfl hl hn rfl (fun lsB hB => kk lsB (lv_ins hB))) kk
theorem x_astoreN {j : Nat} {k : Nat} (hk : (mIn M)[k]? = some (pc, .astore j, 2)) (hn : j < mNL M) (kk : xE G M (pc + 2) (lSet j .null ls) st s Q) : xE G M pc ls (.null :: st) s Q :=
  xE.step (fun _ _ _ _ _ _ _ _ _ _ _ _ _ C _ _ lsA _ hS hl kk => lv_astoreN C.1.1 C.1.2.1 (C.dec hk) hl hn rfl (fun lsB hB => kk lsB (lv_ins hB))) kk
theorem x_lstore_n {j : Fin 4} {v : Int64} {k : Nat} (hk : (mIn M)[k]? = some (pc, .lstore_n j, 1)) (hn : (j : Nat) + 1 < mNL M) (kk : xE G M (pc + 1) (lSet2 (j : Nat) (.long v) ls) st s Q) : xE G M pc ls (.long v :: st) s Q :=
  xE.step (fun _ _ _ _ _ _ _ _ _ _ _ _ _ C _ _ lsA _ hS hl kk => lv_lstore_n C.1.1 C.1.2.1 (C.dec hk) rfl hl hn rfl (fun lsB hB => kk lsB (lv_ins hB))) kk
theorem x_lstore {j : Nat} {v : Int64} {k : Nat} (hk : (mIn M)[k]? = some (pc, .lstore j, 2)) (hn : j + 1 < mNL M) (kk : xE G M (pc + 2) (lSet2 j (.long v) ls) st s Q) : xE G M pc ls (.long v :: st) s Q :=
  xE.step (fun _ _ _ _ _ _ _ _ _ _ _ _ _ C _ _ lsA _ hS hl kk => lv_lstore C.1.1 C.1.2.1 (C.dec hk) hl hn rfl (fun lsB hB => kk lsB (lv_ins hB))) kk
theorem x_iadd {x y : Int32} {k : Nat} (hk : (mIn M)[k]? = some (pc, .iadd, 1)) (kk : xE G M (pc + 1) ls (.int (x + y) :: st) s Q) : xE G M pc ls (.int y :: .int x :: st) s Q :=
  xE.step (fun _ _ _ _ _ _ _ _ _ _ _ _ _ C _ _ lsA _ hS hl kk => lv_iadd C.1.1 C.1.2.1 (C.dec hk) (kk lsA hl)) kk
theorem x_isub {x y : Int32} {k : Nat} (hk : (mIn M)[k]? = some (pc, .isub, 1)) (kk : xE G M (pc + 1) ls (.int (x - y) :: st) s Q) : xE G M pc ls (.int y :: .int x :: st) s Q :=
  xE.step (fun _ _ _ _ _ _ _ _ _ _ _ _ _ C _ _ lsA _ hS hl kk => lv_isub C.1.1 C.1.2.1 (C.dec hk) (kk lsA hl)) kk
theorem x_imul {x y : Int32} {k : Nat} (hk : (mIn M)[k]? = some (pc, .imul, 1)) (kk : xE G M (pc + 1) ls (.int (x * y) :: st) s Q) : xE G M pc ls (.int y :: .int x :: st) s Q :=
  xE.step (fun _ _ _ _ _ _ _ _ _ _ _ _ _ C _ _ lsA _ hS hl kk => lv_imul C.1.1 C.1.2.1 (C.dec hk) (kk lsA hl)) kk
theorem x_iand {x y : Int32} {k : Nat} (hk : (mIn M)[k]? = some (pc, .iand, 1)) (kk : xE G M (pc + 1) ls (.int (x &&& y) :: st) s Q) : xE G M pc ls (.int y :: .int x :: st) s Q :=
  xE.step (fun _ _ _ _ _ _ _ _ _ _ _ _ _ C _ _ lsA _ hS hl kk => lv_iand C.1.1 C.1.2.1 (C.dec hk) (kk lsA hl)) kk
theorem x_idiv {x y : Int32} {k : Nat} (hk : (mIn M)[k]? = some (pc, .idiv, 1)) (hne : ¬ y = 0) (kk : xE G M (pc + 1) ls (.int (x / y) :: st) s Q) : xE G M pc ls (.int y :: .int x :: st) s Q :=
  xE.step (fun _ _ _ _ _ _ _ _ _ _ _ _ _ C _ _ lsA _ hS hl kk => lv_idiv C.1.1 C.1.2.1 (C.dec hk) hne (kk lsA hl)) kk
theorem x_irem {x y : Int32} {k : Nat} (hk : (mIn M)[k]? = some (pc, .irem, 1)) (hne : ¬ y = 0) (kk : xE G M (pc + 1) ls (.int (x - x / y * y) :: st) s Q) : xE G M pc ls (.int y :: .int x :: st) s Q :=
  xE.step (fun _ _ _ _ _ _ _ _ _ _ _ _ _ C _ _ lsA _ hS hl kk => lv_irem C.1.1 C.1.2.1 (C.dec hk) hne (kk lsA hl)) kk
theorem x_ladd {x y : Int64} {k : Nat} (hk : (mIn M)[k]? = some (pc, .ladd, 1)) (kk : xE G M (pc + 1) ls (.long (x + y) :: st) s Q) : xE G M pc ls (.long y :: .long x :: st) s Q :=
  xE.step (fun _ _ _ _ _ _ _ _ _ _ _ _ _ C _ _ lsA _ hS hl kk => lv_ladd C.1.1 C.1.2.1 (C.dec hk) (kk lsA hl)) kk
theorem x_lsub {x y : Int64} {k : Nat} (hk : (mIn M)[k]? = some (pc, .lsub, 1)) (kk : xE G M (pc + 1) ls (.long (x - y) :: st) s Q) : xE G M pc ls (.long y :: .long x :: st) s Q :=
  xE.step (fun _ _ _ _ _ _ _ _ _ _ _ _ _ C _ _ lsA _ hS hl kk => lv_lsub C.1.1 C.1.2.1 (C.dec hk) (kk lsA hl)) kk
theorem x_land {x y : Int64} {k : Nat} (hk : (mIn M)[k]? = some (pc, .land, 1)) (kk : xE G M (pc + 1) ls (.long (x &&& y) :: st) s Q) : xE G M pc ls (.long y :: .long x :: st) s Q :=
  xE.step (fun _ _ _ _ _ _ _ _ _ _ _ _ _ C _ _ lsA _ hS hl kk => lv_land C.1.1 C.1.2.1 (C.dec hk) (kk lsA hl)) kk
theorem x_lor {x y : Int64} {k : Nat} (hk : (mIn M)[k]? = some (pc, .lor, 1)) (kk : xE G M (pc + 1) ls (.long (x ||| y) :: st) s Q) : xE G M pc ls (.long y :: .long x :: st) s Q :=
  xE.step (fun _ _ _ _ _ _ _ _ _ _ _ _ _ C _ _ lsA _ hS hl kk => lv_lor C.1.1 C.1.2.1 (C.dec hk) (kk lsA hl)) kk
theorem x_lxor {x y : Int64} {k : Nat} (hk : (mIn M)[k]? = some (pc, .lxor, 1)) (kk : xE G M (pc + 1) ls (.long (x ^^^ y) :: st) s Q) : xE G M pc ls (.long y :: .long x :: st) s Q :=
  xE.step (fun _ _ _ _ _ _ _ _ _ _ _ _ _ C _ _ lsA _ hS hl kk => lv_lxor C.1.1 C.1.2.1 (C.dec hk) (kk lsA hl)) kk
theorem x_lshl {x : Int64} {y : Int32} {k : Nat} (hk : (mIn M)[k]? = some (pc, .lshl, 1)) (kk : xE G M (pc + 1) ls (.long (x <<< (y.toInt64 &&& 63)) :: st) s Q) : xE G M pc ls (.int y :: .long x :: st) s Q :=
  xE.step (fun _ _ _ _ _ _ _ _ _ _ _ _ _ C _ _ lsA _ hS hl kk => lv_lshl C.1.1 C.1.2.1 (C.dec hk) rfl (kk lsA hl)) kk
theorem x_lshr {x : Int64} {y : Int32} {k : Nat} (hk : (mIn M)[k]? = some (pc, .lshr, 1)) (kk : xE G M (pc + 1) ls (.long (x >>> (y.toInt64 &&& 63)) :: st) s Q) : xE G M pc ls (.int y :: .long x :: st) s Q :=
  xE.step (fun _ _ _ _ _ _ _ _ _ _ _ _ _ C _ _ lsA _ hS hl kk => lv_lshr C.1.1 C.1.2.1 (C.dec hk) rfl (kk lsA hl)) kk
theorem x_i2l {x : Int32} {k : Nat} (hk : (mIn M)[k]? = some (pc, .i2l, 1)) (kk : xE G M (pc + 1) ls (.long x.toInt64 :: st) s Q) : xE G M pc ls (.int x :: st) s Q :=
  xE.step (fun _ _ _ _ _ _ _ _ _ _ _ _ _ C _ _ lsA _ hS hl kk => lv_i2l C.1.1 C.1.2.1 (C.dec hk) rfl (kk lsA hl)) kk
theorem x_l2i {x : Int64} {k : Nat} (hk : (mIn M)[k]? = some (pc, .l2i, 1)) (kk : xE G M (pc + 1) ls (.int x.toInt32 :: st) s Q) : xE G M pc ls (.long x :: st) s Q :=
  xE.step (fun _ _ _ _ _ _ _ _ _ _ _ _ _ C _ _ lsA _ hS hl kk => lv_l2i C.1.1 C.1.2.1 (C.dec hk) rfl (kk lsA hl)) kk
theorem x_i2c {x : Int32} {k : Nat} (hk : (mIn M)[k]? = some (pc, .i2c, 1)) (kk : xE G M (pc + 1) ls (.int (x.toUInt32 % 65536).toInt32 :: st) s Q) : xE G M pc ls (.int x :: st) s Q :=
  xE.step (fun _ _ _ _ _ _ _ _ _ _ _ _ _ C _ _ lsA _ hS hl kk => lv_i2c C.1.1 C.1.2.1 (C.dec hk) rfl (kk lsA hl)) kk
theorem x_lcmp {x y : Int64} {k : Nat} (hk : (mIn M)[k]? = some (pc, .lcmp, 1)) (kk : xE G M (pc + 1) ls (.int (lg_cmp x y) :: st) s Q) : xE G M pc ls (.long y :: .long x :: st) s Q :=
  xE.step (fun _ _ _ _ _ _ _ _ _ _ _ _ _ C _ _ lsA _ hS hl kk => W.lcmp C.1.1 C.1.2.1 (C.dec hk) (kk lsA hl)) kk
theorem x_dup {v : Value} {k : Nat} (hk : (mIn M)[k]? = some (pc, .dup, 1)) (hc : v.category = 1) (kk : xE G M (pc + 1) ls (v :: v :: st) s Q) : xE G M pc ls (v :: st) s Q :=
  xE.step (fun _ _ _ _ _ _ _ _ _ _ _ _ _ C _ _ lsA _ hS hl kk => lv_dup C.1.1 C.1.2.1 (C.dec hk) hc (kk lsA hl)) kk
theorem x_dup2 {v w : Value} {k : Nat} (hk : (mIn M)[k]? = some (pc, .dup2, 1)) (hc : v.category = 1) (hd : w.category = 1) (kk : xE G M (pc + 1) ls (v :: w :: v :: w :: st) s Q) : xE G M pc ls (v :: w :: st) s Q :=
  xE.step (fun _ _ _ _ _ _ _ _ _ _ _ _ _ C _ _ lsA _ hS hl kk => lv_dup2_11 C.1.1 C.1.2.1 (C.dec hk) hc hd (kk lsA hl)) kk
theorem x_null {k : Nat} (hk : (mIn M)[k]? = some (pc, .aconst_null, 1)) (kk : xE G M (pc + 1) ls (.null :: st) s Q) : xE G M pc ls st s Q :=
  xE.step (fun _ _ _ _ _ _ _ _ _ _ _ _ _ C _ _ lsA _ hS hl kk => lv_null C.1.1 C.1.2.1 (C.dec hk) (kk lsA hl)) kk
theorem x_goto {off : Int} {tgt : Nat} {k : Nat} (hk : (mIn M)[k]? = some (pc, .goto off, 3)) (ht : (pc : Int) + off = (tgt : Int)) (kk : xE G M tgt ls st s Q) : xE G M pc ls st s Q :=
  xE.step (fun _ _ _ _ _ _ _ _ _ _ _ _ _ C _ _ lsA _ hS hl kk => lv_goto C.1.1 C.1.2.1 (C.dec hk) ht (kk lsA hl)) kk
theorem x_ifnonnull {off : Int} {tgt a : Nat} {k : Nat} (hk : (mIn M)[k]? = some (pc, .ifnonnull off, 3)) (ht : (pc : Int) + off = (tgt : Int)) (kk : xE G M tgt ls st s Q) : xE G M pc ls (.ref a :: st) s Q :=
  xE.step (fun _ _ _ _ _ _ _ _ _ _ _ _ _ C _ _ lsA _ hS hl kk => lv_ifnonnull C.1.1 C.1.2.1 (C.dec hk) ht (kk lsA hl)) kk
theorem x_ifnonnullN {off : Int} {k : Nat} (hk : (mIn M)[k]? = some (pc, .ifnonnull off, 3)) (kk : xE G M (pc + 3) ls st s Q) : xE G M pc ls (.null :: st) s Q :=
  xE.step (fun _ _ _ _ _ _ _ _ _ _ _ _ _ C _ _ lsA _ hS hl kk => lv_ifnonnullN C.1.1 C.1.2.1 (C.dec hk) (kk lsA hl)) kk
theorem x_ifnull {off : Int} {a : Nat} {k : Nat} (hk : (mIn M)[k]? = some (pc, .ifnull off, 3)) (kk : xE G M (pc + 3) ls st s Q) : xE G M pc ls (.ref a :: st) s Q :=
  xE.step (fun _ _ _ _ _ _ _ _ _ _ _ _ _ C _ _ lsA _ hS hl kk => lv_ifnull C.1.1 C.1.2.1 (C.dec hk) (kk lsA hl)) kk
theorem x_ifnullN {off : Int} {tgt : Nat} {k : Nat} (hk : (mIn M)[k]? = some (pc, .ifnull off, 3)) (ht : (pc : Int) + off = (tgt : Int)) (kk : xE G M tgt ls st s Q) : xE G M pc ls (.null :: st) s Q :=
  xE.step (fun _ _ _ _ _ _ _ _ _ _ _ _ _ C _ _ lsA _ hS hl kk => lv_ifnullN C.1.1 C.1.2.1 (C.dec hk) ht (kk lsA hl)) kk
theorem x_lookup {dflt : Int} {ps : Array (Int × Int)} {len : Nat} {x : Int32} {off : Int} {tgt k : Nat} (hk : (mIn M)[k]? = some (pc, .lookupswitch dflt ps, len)) (hp : (ps.toList.zip (ps.toList.drop 1)).all (fun (a, next) => a.1 < next.1) = true) (ho : Op.lookupswitch.offset ps.toList dflt x.toInt = off) (ht : (pc : Int) + off = (tgt : Int)) (kk : xE G M tgt ls st s Q) : xE G M pc ls (.int x :: st) s Q :=
  xE.step (fun _ _ _ _ _ _ _ _ _ _ _ _ _ C _ _ lsA _ hS hl kk => lv_lookup C.1.1 C.1.2.1 (C.dec hk) hp ho ht (kk lsA hl)) kk
theorem x_tableIn {dflt lo hi : Int} {offs : Array Int} {len : Nat} {x : Int32} {off : Int} {tgt k : Nat} (hk : (mIn M)[k]? = some (pc, .tableswitch dflt lo hi offs, len)) (h1 : ¬ x.toInt < lo) (h2 : ¬ hi < x.toInt) (ho : offs[(x.toInt - lo).toNat]? = some off) (ht : (pc : Int) + off = (tgt : Int)) (kk : xE G M tgt ls st s Q) : xE G M pc ls (.int x :: st) s Q :=
  xE.step (fun _ _ _ _ _ _ _ _ _ _ _ _ _ C _ _ lsA _ hS hl kk => lv_tableIn C.1.1 C.1.2.1 (C.dec hk) h1 h2 ho ht (kk lsA hl)) kk
theorem x_tableOut {dflt lo hi : Int} {offs : Array Int} {len : Nat} {x : Int32} {tgt k : Nat} (hk : (mIn M)[k]? = some (pc, .tableswitch dflt lo hi offs, len)) (h : x.toInt < lo ∨ hi < x.toInt) (ht : (pc : Int) + dflt = (tgt : Int)) (kk : xE G M tgt ls st s Q) : xE G M pc ls (.int x :: st) s Q :=
  xE.step (fun _ _ _ _ _ _ _ _ _ _ _ _ _ C _ _ lsA _ hS hl kk => lv_tableOut C.1.1 C.1.2.1 (C.dec hk) h ht (kk lsA hl)) kk
theorem x_iinc {i : Nat} {n : Int} {x v : Int32} {k : Nat} (hk : (mIn M)[k]? = some (pc, .iinc i n, 3)) (hv : ls.lookup i = some (.int x)) (he : x + Int32.ofInt n = v) (hn : i < mNL M) (kk : xE G M (pc + 3) (lSet i (.int v) ls) st s Q) : xE G M pc ls st s Q :=
  xE.step (fun _ _ _ _ _ _ _ _ _ _ _ _ _ C _ _ lsA _ hS hl kk => lv_iinc (lv := (i, .int x) :: ls) (k := 0) C.1.1 C.1.2.1 (C.dec hk) ⟨hl.1, hl.2.1, fun q hq => (List.mem_cons.mp hq).elim (fun e => e ▸ lv_look hl hv) (hl.2.2 q)⟩ rfl he hn rfl (fun lsB hB => kk lsB (lv_ins (by simpa using hB)))) kk
theorem x_if_eq {x : Int32} {off : Int} {tgt k : Nat} (hk : (mIn M)[k]? = some (pc, .ifCond .eq off, 3)) (ht : (pc : Int) + off = (tgt : Int)) (kt : x = 0 → xE G M tgt ls st s Q) (kf : ¬ x = 0 → xE G M (pc + 3) ls st s Q) : xE G M pc ls (.int x :: st) s Q := by
  by_cases h : x = 0
  · exact xE.step (fun _ _ _ _ _ _ _ _ _ _ _ _ _ C _ _ lsA _ hS hl kk => lv_if_eq C.1.1 C.1.2.1 (C.dec hk) ht (fun _ => kk lsA hl) (fun q => absurd h q)) (kt h)
  · exact xE.step (fun _ _ _ _ _ _ _ _ _ _ _ _ _ C _ _ lsA _ hS hl kk => lv_if_eq C.1.1 C.1.2.1 (C.dec hk) ht (fun q => absurd q h) (fun _ => kk lsA hl)) (kf h)
theorem x_icmp_eq {x y : Int32} {off : Int} {tgt k : Nat} (hk : (mIn M)[k]? = some (pc, .if_icmp .eq off, 3)) (ht : (pc : Int) + off = (tgt : Int)) (kt : x = y → xE G M tgt ls st s Q) (kf : ¬ x = y → xE G M (pc + 3) ls st s Q) : xE G M pc ls (.int y :: .int x :: st) s Q := by
  by_cases h : x = y
  · exact xE.step (fun _ _ _ _ _ _ _ _ _ _ _ _ _ C _ _ lsA _ hS hl kk => lv_icmp_eq C.1.1 C.1.2.1 (C.dec hk) ht (fun _ => kk lsA hl) (fun q => absurd h q)) (kt h)
  · exact xE.step (fun _ _ _ _ _ _ _ _ _ _ _ _ _ C _ _ lsA _ hS hl kk => lv_icmp_eq C.1.1 C.1.2.1 (C.dec hk) ht (fun q => absurd q h) (fun _ => kk lsA hl)) (kf h)
theorem x_if_ne {x : Int32} {off : Int} {tgt k : Nat} (hk : (mIn M)[k]? = some (pc, .ifCond .ne off, 3)) (ht : (pc : Int) + off = (tgt : Int)) (kt : ¬ x = 0 → xE G M tgt ls st s Q) (kf : x = 0 → xE G M (pc + 3) ls st s Q) : xE G M pc ls (.int x :: st) s Q := by
  by_cases h : x = 0
  · exact xE.step (fun _ _ _ _ _ _ _ _ _ _ _ _ _ C _ _ lsA _ hS hl kk => lv_if_ne C.1.1 C.1.2.1 (C.dec hk) ht (fun q => absurd h q) (fun _ => kk lsA hl)) (kf h)
  · exact xE.step (fun _ _ _ _ _ _ _ _ _ _ _ _ _ C _ _ lsA _ hS hl kk => lv_if_ne C.1.1 C.1.2.1 (C.dec hk) ht (fun _ => kk lsA hl) (fun q => absurd q h)) (kt h)
theorem x_icmp_ne {x y : Int32} {off : Int} {tgt k : Nat} (hk : (mIn M)[k]? = some (pc, .if_icmp .ne off, 3)) (ht : (pc : Int) + off = (tgt : Int)) (kt : ¬ x = y → xE G M tgt ls st s Q) (kf : x = y → xE G M (pc + 3) ls st s Q) : xE G M pc ls (.int y :: .int x :: st) s Q := by
  by_cases h : x = y
  · exact xE.step (fun _ _ _ _ _ _ _ _ _ _ _ _ _ C _ _ lsA _ hS hl kk => lv_icmp_ne C.1.1 C.1.2.1 (C.dec hk) ht (fun q => absurd h q) (fun _ => kk lsA hl)) (kf h)
  · exact xE.step (fun _ _ _ _ _ _ _ _ _ _ _ _ _ C _ _ lsA _ hS hl kk => lv_icmp_ne C.1.1 C.1.2.1 (C.dec hk) ht (fun _ => kk lsA hl) (fun q => absurd q h)) (kt h)
theorem x_if_lt {x : Int32} {off : Int} {tgt k : Nat} (hk : (mIn M)[k]? = some (pc, .ifCond .lt off, 3)) (ht : (pc : Int) + off = (tgt : Int)) (kt : x < 0 → xE G M tgt ls st s Q) (kf : ¬ x < 0 → xE G M (pc + 3) ls st s Q) : xE G M pc ls (.int x :: st) s Q := by
  by_cases h : x < 0
  · exact xE.step (fun _ _ _ _ _ _ _ _ _ _ _ _ _ C _ _ lsA _ hS hl kk => lv_if_lt C.1.1 C.1.2.1 (C.dec hk) ht (fun _ => kk lsA hl) (fun q => absurd h q)) (kt h)
  · exact xE.step (fun _ _ _ _ _ _ _ _ _ _ _ _ _ C _ _ lsA _ hS hl kk => lv_if_lt C.1.1 C.1.2.1 (C.dec hk) ht (fun q => absurd q h) (fun _ => kk lsA hl)) (kf h)
theorem x_icmp_lt {x y : Int32} {off : Int} {tgt k : Nat} (hk : (mIn M)[k]? = some (pc, .if_icmp .lt off, 3)) (ht : (pc : Int) + off = (tgt : Int)) (kt : x < y → xE G M tgt ls st s Q) (kf : ¬ x < y → xE G M (pc + 3) ls st s Q) : xE G M pc ls (.int y :: .int x :: st) s Q := by
  by_cases h : x < y
  · exact xE.step (fun _ _ _ _ _ _ _ _ _ _ _ _ _ C _ _ lsA _ hS hl kk => lv_icmp_lt C.1.1 C.1.2.1 (C.dec hk) ht (fun _ => kk lsA hl) (fun q => absurd h q)) (kt h)
  · exact xE.step (fun _ _ _ _ _ _ _ _ _ _ _ _ _ C _ _ lsA _ hS hl kk => lv_icmp_lt C.1.1 C.1.2.1 (C.dec hk) ht (fun q => absurd q h) (fun _ => kk lsA hl)) (kf h)
theorem x_if_ge {x : Int32} {off : Int} {tgt k : Nat} (hk : (mIn M)[k]? = some (pc, .ifCond .ge off, 3)) (ht : (pc : Int) + off = (tgt : Int)) (kt : 0 ≤ x → xE G M tgt ls st s Q) (kf : ¬ 0 ≤ x → xE G M (pc + 3) ls st s Q) : xE G M pc ls (.int x :: st) s Q := by
  by_cases h : 0 ≤ x
  · exact xE.step (fun _ _ _ _ _ _ _ _ _ _ _ _ _ C _ _ lsA _ hS hl kk => lv_if_ge C.1.1 C.1.2.1 (C.dec hk) ht (fun _ => kk lsA hl) (fun q => absurd h q)) (kt h)
  · exact xE.step (fun _ _ _ _ _ _ _ _ _ _ _ _ _ C _ _ lsA _ hS hl kk => lv_if_ge C.1.1 C.1.2.1 (C.dec hk) ht (fun q => absurd q h) (fun _ => kk lsA hl)) (kf h)
theorem x_icmp_ge {x y : Int32} {off : Int} {tgt k : Nat} (hk : (mIn M)[k]? = some (pc, .if_icmp .ge off, 3)) (ht : (pc : Int) + off = (tgt : Int)) (kt : y ≤ x → xE G M tgt ls st s Q) (kf : ¬ y ≤ x → xE G M (pc + 3) ls st s Q) : xE G M pc ls (.int y :: .int x :: st) s Q := by
  by_cases h : y ≤ x
  · exact xE.step (fun _ _ _ _ _ _ _ _ _ _ _ _ _ C _ _ lsA _ hS hl kk => lv_icmp_ge C.1.1 C.1.2.1 (C.dec hk) ht (fun _ => kk lsA hl) (fun q => absurd h q)) (kt h)
  · exact xE.step (fun _ _ _ _ _ _ _ _ _ _ _ _ _ C _ _ lsA _ hS hl kk => lv_icmp_ge C.1.1 C.1.2.1 (C.dec hk) ht (fun q => absurd q h) (fun _ => kk lsA hl)) (kf h)
theorem x_if_gt {x : Int32} {off : Int} {tgt k : Nat} (hk : (mIn M)[k]? = some (pc, .ifCond .gt off, 3)) (ht : (pc : Int) + off = (tgt : Int)) (kt : 0 < x → xE G M tgt ls st s Q) (kf : ¬ 0 < x → xE G M (pc + 3) ls st s Q) : xE G M pc ls (.int x :: st) s Q := by
  by_cases h : 0 < x
  · exact xE.step (fun _ _ _ _ _ _ _ _ _ _ _ _ _ C _ _ lsA _ hS hl kk => lv_if_gt C.1.1 C.1.2.1 (C.dec hk) ht (fun _ => kk lsA hl) (fun q => absurd h q)) (kt h)
  · exact xE.step (fun _ _ _ _ _ _ _ _ _ _ _ _ _ C _ _ lsA _ hS hl kk => lv_if_gt C.1.1 C.1.2.1 (C.dec hk) ht (fun q => absurd q h) (fun _ => kk lsA hl)) (kf h)
theorem x_icmp_gt {x y : Int32} {off : Int} {tgt k : Nat} (hk : (mIn M)[k]? = some (pc, .if_icmp .gt off, 3)) (ht : (pc : Int) + off = (tgt : Int)) (kt : y < x → xE G M tgt ls st s Q) (kf : ¬ y < x → xE G M (pc + 3) ls st s Q) : xE G M pc ls (.int y :: .int x :: st) s Q := by
  by_cases h : y < x
  · exact xE.step (fun _ _ _ _ _ _ _ _ _ _ _ _ _ C _ _ lsA _ hS hl kk => lv_icmp_gt C.1.1 C.1.2.1 (C.dec hk) ht (fun _ => kk lsA hl) (fun q => absurd h q)) (kt h)
  · exact xE.step (fun _ _ _ _ _ _ _ _ _ _ _ _ _ C _ _ lsA _ hS hl kk => lv_icmp_gt C.1.1 C.1.2.1 (C.dec hk) ht (fun q => absurd q h) (fun _ => kk lsA hl)) (kf h)
theorem x_if_le {x : Int32} {off : Int} {tgt k : Nat} (hk : (mIn M)[k]? = some (pc, .ifCond .le off, 3)) (ht : (pc : Int) + off = (tgt : Int)) (kt : x ≤ 0 → xE G M tgt ls st s Q) (kf : ¬ x ≤ 0 → xE G M (pc + 3) ls st s Q) : xE G M pc ls (.int x :: st) s Q := by
  by_cases h : x ≤ 0
  · exact xE.step (fun _ _ _ _ _ _ _ _ _ _ _ _ _ C _ _ lsA _ hS hl kk => lv_if_le C.1.1 C.1.2.1 (C.dec hk) ht (fun _ => kk lsA hl) (fun q => absurd h q)) (kt h)
  · exact xE.step (fun _ _ _ _ _ _ _ _ _ _ _ _ _ C _ _ lsA _ hS hl kk => lv_if_le C.1.1 C.1.2.1 (C.dec hk) ht (fun q => absurd q h) (fun _ => kk lsA hl)) (kf h)
theorem x_icmp_le {x y : Int32} {off : Int} {tgt k : Nat} (hk : (mIn M)[k]? = some (pc, .if_icmp .le off, 3)) (ht : (pc : Int) + off = (tgt : Int)) (kt : x ≤ y → xE G M tgt ls st s Q) (kf : ¬ x ≤ y → xE G M (pc + 3) ls st s Q) : xE G M pc ls (.int y :: .int x :: st) s Q := by
  by_cases h : x ≤ y
  · exact xE.step (fun _ _ _ _ _ _ _ _ _ _ _ _ _ C _ _ lsA _ hS hl kk => lv_icmp_le C.1.1 C.1.2.1 (C.dec hk) ht (fun _ => kk lsA hl) (fun q => absurd h q)) (kt h)
  · exact xE.step (fun _ _ _ _ _ _ _ _ _ _ _ _ _ C _ _ lsA _ hS hl kk => lv_icmp_le C.1.1 C.1.2.1 (C.dec hk) ht (fun q => absurd q h) (fun _ => kk lsA hl)) (kf h)
theorem x_lmul {x y : Int64} {k : Nat} (hk : (mIn M)[k]? = some (pc, .lmul, 1)) (kk : xE G M (pc + 1) ls (.long (x * y) :: st) s Q) : xE G M pc ls (.long y :: .long x :: st) s Q :=
  xE.step (fun _ _ _ _ _ _ _ _ _ _ _ _ _ C _ _ lsA _ hS hl kk => lv_lmul C.1.1 C.1.2.1 (C.dec hk) (kk lsA hl)) kk
theorem x_ishr {x y : Int32} {k : Nat} (hk : (mIn M)[k]? = some (pc, .ishr, 1)) (kk : xE G M (pc + 1) ls (.int (x >>> (y &&& 31)) :: st) s Q) : xE G M pc ls (.int y :: .int x :: st) s Q :=
  xE.step (fun _ _ _ _ _ _ _ _ _ _ _ _ _ C _ _ lsA _ hS hl kk => lv_ishr C.1.1 C.1.2.1 (C.dec hk) (kk lsA hl)) kk
theorem x_pop {v : Value} {k : Nat} (hk : (mIn M)[k]? = some (pc, .pop, 1)) (hc : v.category = 1) (kk : xE G M (pc + 1) ls st s Q) : xE G M pc ls (v :: st) s Q :=
  xE.step (fun _ _ _ _ _ _ _ _ _ _ _ _ _ C _ _ lsA _ hS hl kk => lv_pop C.1.1 C.1.2.1 (C.dec hk) hc (kk lsA hl)) kk
end XR
