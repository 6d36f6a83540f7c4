-- ===== a method's contract out of its run; calls =====
def xQ (G : xG) (r : Option Value) (s' : xA) : Array Value → State → Outcome → State → Prop := fun _ st oc t => oc = .returned r ∧ aAt G s' t.heap ∧ va_F (gA G) st t
/-- what is printed of a method: its code's word, its class's, its decoded instructions -/
def xOk (M : xM) (n : Nat) : Prop := Cond.code (mY M) (mCd M) (mNL M) (mRt M) ∈ gW ∧ Cond.initialized (mY M).cls ∈ gW ∧ plainName (mY M).cls = true ∧ ((mY M).cls ≠ "java/lang/invoke/MethodHandle" ∧ (mY M).cls ≠ "java/lang/invoke/VarHandle" ∧ (parseMethodDescriptor (mY M).desc).map (fun d => d.parameters.length) = some n) ∧ mOwn M = (mY M).cls ∧ ∀ (k : Nat) (q : Nat × Instr × Nat), (mIn M)[k]? = some q → decode (mCd M) q.1 = .ok q.2
def dOk (cc : ByteArray) (L : List (Nat × Instr × Nat)) : Bool := L.all (fun q => decide (decode cc q.1 = .ok q.2))
theorem dOk.all {cc : ByteArray} {L : List (Nat × Instr × Nat)} (h : dOk cc L = true) : ∀ (k : Nat) (q : Nat × Instr × Nat), L[k]? = some q → decode cc q.1 = .ok q.2 := fun _ _ hk => of_decide_eq_true (List.all_eq_true.mp h _ (List.mem_of_getElem? hk))
def mRm (M : xM) (s s' : xA) : Room := { frames := mFr M, cells := s'.2.1 - s.2.1, slots := s'.2.2 - s.2.2, locals := mLo M }
set_option maxHeartbeats 4000000 in
theorem xMet {G : xG} {M : xM} {n : Nat} {As : List Value} {s s' : xA} {r : Option Value} (ho : xOk M n) (hlen : (lg_sl As).length ≤ mNL M) (hX : xX G M 0 (lv_args 0 As) [] s r s') :
    Met (gL G) (mY M) (mWs M) (mRm M s s') (va_Pc As (fun U => aAt G s U.heap ∧ aK G U)) (xQ G r s') (s'.2.1 - s.2.1) (s'.2.2 - s.2.2) (gA G) := by
  refine Met.ofW (cc := mCd M) (maxL := mNL M) (ret := mRt M) ho.2.2.1 rfl ?_
  intro p e s0 m args below meth c s₁ B hml hv
  obtain ⟨rfl, hA, hK⟩ := hv
  have hz : s0.heap.size = s.2.1 := hA.choose_spec.2.2.2.2
  have hl := lv_entry As (n := mNL M) hlen
  rw [lg_entry_eq]
  generalize (lg_sl As ++ List.replicate (mNL M - (lg_sl As).length) Slot.unset).toArray = ls at hl ⊢
  have hown : s0.vm.findClass (mOwn M) = some m.cls := by rw [ho.2.2.2.2.1]; exact findClass_of_methodNamed B.named
  have hlocks := B.notSynchronized
  have hx := B.exec
  have hb := B.bytes
  have hr := B.returns
  have key := hX.2 p e s0 m As.toArray below meth c (mRm M s s') s.2.2 (MQ below (xQ G r s') As.toArray s0 (s'.2.1 - s.2.1) (s'.2.2 - s.2.2) (gA G))
    ⟨⟨hx, hb, hml, hown, atoms_spec (ws := mWs M) B.pre⟩, (name_of_methodNamed B.named B.method).1, hK, ⟨Nat.le_refl _, Nat.le_refl _, by rw [hz]; exact Nat.le_refl _, Nat.le_refl _⟩, ho.2.2.2.2.2, fun H locs lsA pc i hA' hS' hd hret => by
      rw [hz]
      rcases hret with ⟨rfl, rfl⟩ | ⟨v, rfl, rfl⟩ | ⟨v, hv, rfl, rfl⟩ | ⟨v, rfl, rfl⟩
      · refine W.vret hx hb ?_ (fun t ht hW => ⟨rfl, by rw [ht]; exact hA', hS'.F ht⟩) hS'.2.2 hd
        rcases hX.1.2.2 with ⟨-, h⟩ | ⟨_, _, h, -⟩ | ⟨_, _, _, h, -⟩ | ⟨_, h, -⟩
        · rw [hr]; exact h
        · cases h
        · cases h
        · cases h
      · rcases hX.1.2.2 with ⟨h, -⟩ | ⟨v', ty, h, h2, h3⟩ | ⟨v', _, h1, h, -⟩ | ⟨_, h, -⟩
        · cases h
        · cases h
          exact W.zret hx hb (by rw [hr]; exact h2) h3 (fun t ht hW => ⟨rfl, by rw [ht]; exact hA', hS'.F ht⟩) hS'.2.2 hd
        · cases h
          rcases h1 with h1 | ⟨a, h1⟩ <;> cases h1
        · cases h
      · rcases hX.1.2.2 with ⟨h, -⟩ | ⟨v', ty, h, h2, h3⟩ | ⟨v', rt, h1, h, h2, h3⟩ | ⟨_, h, -⟩
        · cases h
        · cases h
          rcases hv with hv | ⟨a, hv⟩ <;> cases hv
        · cases h
          exact W.aret hx hb (by rw [hr]; exact h2) h3 hv (fun t ht hW => ⟨rfl, by rw [ht]; exact hA', hS'.F ht⟩) hS'.2.2 hd
        · cases h
          rcases hv with hv | ⟨a, hv⟩ <;> cases hv
      · rcases hX.1.2.2 with ⟨h, -⟩ | ⟨_, _, h, -⟩ | ⟨_, _, h1, h, -⟩ | ⟨v', h, h2⟩
        · cases h
        · cases h
        · cases h
          rcases h1 with h1 | ⟨a, h1⟩ <;> cases h1
        · cases h
          exact W.lret hx hb (by rw [hr]; exact h2) (fun t ht hW => ⟨rfl, by rw [ht]; exact hA', hS'.F ht⟩) hS'.2.2 hd⟩
    (by omega) (Nat.le_refl _) s0.heap [] ls hA va_S.rf hl
  rw [hz, Nat.sub_self, Nat.sub_self] at key
  exact key
theorem xBlind {G : xG} {s : xA} {As : List Value} : FrameBlind (va_Pc As (fun U => aAt G s U.heap ∧ aK G U)) := fun a U g mk q => ⟨q.1, q.2.1, aK.same (u := U) (U := U.calling g mk a) rfl rfl q.2.2⟩
section XCALL
variable {G : xG} {M M' : xM} {pc : Nat} {ls : List (Nat × Value)} {st stk As : List Value} {s : xA} {Q Q' : Option Value → xA → Prop}
/-- a call, once the kit's row for its kind is at hand -/
theorem xE.call {k idx n : Nat} {i : Instr} (hk : (mIn M)[k]? = some (pc, i, 3)) (ho : xOk M' n) (hlen : (lg_sl As).length ≤ mNL M')
    (hrun : ∀ (p : Program) (ev : Env) (U : State) (m : MethodId) (args : Array Value) (below : List Frame) (meth : Method) (c : Code) (R : Room) (l0 : Nat) (Qf : State → Prop) (r : Option Value) (s' : xA) (r1 : Option Value) (s1 : xA), xC G M p ev U m args below meth c R l0 Qf r s' →
      ∀ (H : Heap) (locs : List Loc) (lsA : Array Slot), aAt G s H → va_S (gA G) U.heap H locs → lv_has lsA (mNL M) ls → decode (mCd M) pc = .ok (i, 3) →
      (s.2.1 - U.heap.size) + (s1.2.1 - s.2.1) ≤ R.cells → (s.2.2 - l0) + (s1.2.2 - s.2.2) ≤ R.slots →
      Met (gL G) (mY M') (mWs M') (mRm M' s s1) (va_Pc As (fun U => aAt G s U.heap ∧ aK G U)) (xQ G r1 s1) (s1.2.1 - s.2.1) (s1.2.2 - s.2.2) (gA G) →
      (∀ V : State, V.heap = H → U.WarmedH V.vm → va_Pc As (fun U => aAt G s U.heap ∧ aK G U) As.toArray V) →
      ∃ Ar : Array Value, va_Run p (gL G) ev R U m args below meth c H locs (s.2.1 - U.heap.size) (s.2.2 - l0) (s1.2.1 - s.2.1) (s1.2.2 - s.2.2) (F0 m pc lsA stk) st (xQ G r1 s1 Ar) (gA G))
    (hb : xMe G M' As s Q') (kk : ∀ (r : Option Value) (s1 : xA), Q' r s1 → xE G M (pc + 3) ls (r.toList ++ st) s1 Q) : xE G M pc ls stk s Q := by
  obtain ⟨r1, s1, hq1, hX1⟩ := hb
  obtain ⟨r, s', hq, hm, k2⟩ := kk r1 s1 hq1
  have m1 := hX1.1.1
  have m2 := hX1.1.2.1
  have m3 := hm.1
  have m4 := hm.2.1
  refine ⟨r, s', hq, ⟨by omega, by omega, hm.2.2⟩, fun p ev U m args below meth c R l0 Qf C h1 h2 H locs lsA hA hS hl => ?_⟩
  have hR := C.2.2.2.1
  obtain ⟨Ar, hr⟩ := hrun p ev U m args below meth c R l0 Qf r s' r1 s1 C H locs lsA hA hS hl (C.dec hk) (by omega) (by omega) (xMet ho hlen hX1) (fun V hV hW => ⟨rfl, by rw [hV]; exact hA, aK.to hW hV hS C.2.2.1⟩)
  intro T hT X
  obtain ⟨v, st₀, t, T', L, g0, X', hL, g1, g2, ⟨g3, g4, g5⟩, st1⟩ := hr T hT X
  cases g3
  have e1 : (s.2.1 - U.heap.size) + (s1.2.1 - s.2.1) = s1.2.1 - U.heap.size := by omega
  have e2 : (s.2.2 - l0) + (s1.2.2 - s.2.2) = s1.2.2 - l0 := by omega
  rw [e1, e2] at X'
  have hS1 : va_S (gA G) U.heap T'.heap (locs ++ L) := ⟨Nat.le_trans hS.1 (by rw [g1, ← g0]; exact g5.1), fun q q1 q2 => by
      rw [g1, g5.2 q (by rw [g0]; exact Nat.lt_of_lt_of_le q1 hS.1) q2, g0]
      exact hS.2.1 q q1 q2, fun q hq => by
      rcases List.mem_append.mp hq with h | h
      · exact hS.2.2 q h
      · exact hL q h⟩
  obtain ⟨t2, a1, b1⟩ := k2 p ev U m args below meth c R l0 Qf C (by omega) (by omega) T'.heap (locs ++ L) lsA (by rw [g1]; exact g4) hS1 hl T' rfl X'
  exact ⟨t2, st1 t2 a1, b1⟩
theorem gIn {ws : List Cond} (h : ∀ w ∈ ws, w ∈ gW) : GoodIn (mWs M) ws := fun w hw => ⟨mWs_in (h w hw), good_of_word (gW_good w (h w hw))⟩
theorem mWsIn {n : Nat} (ho : xOk M' n) : ∀ w ∈ mWs M', w ∈ gW := fun w hw => by
  rcases List.mem_cons.mp hw with h | h
  · rw [h]; exact ho.1
  · exact h
/-- room for a call -/
def xRm (M M' : xM) : Prop := mFr M' + 1 ≤ mFr M ∧ 8 + (mNL M' + 11) + mLo M' ≤ mLo M
theorem xRm.to {p : Program} {ev : Env} {U : State} {m : MethodId} {args : Array Value} {below : List Frame} {meth : Method} {c : Code} {R : Room} {l0 : Nat} {Qf : State → Prop} {r : Option Value} {s' s1 : xA} (h : xRm M M') (C : xC G M p ev U m args below meth c R l0 Qf r s') : (mRm M' s s1).frames + 1 ≤ R.frames ∧ 8 + (mNL M' + 11) + (mRm M' s s1).locals ≤ R.locals := ⟨Nat.le_trans h.1 C.2.2.2.1.1, Nat.le_trans h.2 C.2.2.2.1.2.1⟩
def xVi (y : MethodName) : Prop := Cond.instanceMethod y ∈ gW ∧ Cond.selects y.cls y y ∈ gW
/-- invokevirtual -/
theorem x_callV {k idx n a ci : Nat} {fs Ar : List Value} (hk : (mIn M)[k]? = some (pc, .invokevirtual idx, 3)) (ho : xOk M' n) (hv : xVi (mY M')) (hw : Cond.methodLink (mOwn M) idx (mY M') ∈ gW) (hR : xRm M M') (hlen : (lg_sl (.ref a :: Ar)).length ≤ mNL M') (hn : Ar.length = n) (hc : (vwCl[ci]?).map (fun q => q.1) = some (mY M').cls) (hh : s.1 a = some (eO ci fs)) (hst : (st.map fun v => v.category).sum ≤ 8) (hs : stk = Ar.reverse ++ .ref a :: st)
    (hb : xMe G M' (.ref a :: Ar) s Q') (kk : ∀ (r : Option Value) (s1 : xA), Q' r s1 → xE G M (pc + 3) ls (r.toList ++ st) s1 Q) : xE G M pc ls stk s Q := by
  refine xE.call (idx := idx) hk ho hlen (fun p ev U m args below meth c R l0 Qf r s' r1 s1 C H locs lsA hA hS hl hd c1 c2 hM hV => ?_) hb kk
  obtain ⟨ws, k0, hk0, hP⟩ := aAt.has hA hh
  cases hq : vwCl[ci]? with
  | none => rw [hq] at hc; cases hc
  | some q =>
    rw [hq] at hc
    have hq1 : q.1 = (mY M').cls := Option.some.inj hc
    obtain ⟨cell, r1', r2, r3⟩ := va_recv C.2.2.1.1 hP hq hk0
    rw [hq1] at r3
    exact ⟨_, va_runV (As := Ar) (rest := st) (Ts := mWs M) (own := mOwn M) (nL := mNL M) C.1 hM (cwV n C.1.2.2.2.2 (gIn (by
      intro w h
      rcases List.mem_append.mp h with h | h
      · simp only [List.mem_cons, List.not_mem_nil, or_false] at h
        rcases h with rfl | rfl | rfl | rfl
        · exact hw
        · exact hv.1
        · exact hv.2
        · exact ho.2.1
      · exact mWsIn ho w h)) rfl rfl rfl ⟨rfl, ho.2.2.2.1⟩ (hR.to C)) ⟨xBlind, ⟨cell, r1', r2, r3⟩, hV⟩ rfl hn hl.1 hs (by show 2 * 0 + _ ≤ 8; omega) hd ⟨c1, c2⟩⟩
/-- invokestatic, of the own class -/
theorem x_callS {k idx n : Nat} (hk : (mIn M)[k]? = some (pc, .invokestatic idx, 3)) (ho : xOk M' n) (hv : Cond.static (mY M') ∈ gW) (hw : Cond.methodLink (mOwn M) idx (mY M') ∈ gW) (hR : xRm M M') (hlen : (lg_sl As).length ≤ mNL M') (hn : As.length = n) (hst : (st.map fun v => v.category).sum ≤ 8) (hs : stk = As.reverse ++ st)
    (hb : xMe G M' As s Q') (kk : ∀ (r : Option Value) (s1 : xA), Q' r s1 → xE G M (pc + 3) ls (r.toList ++ st) s1 Q) : xE G M pc ls stk s Q := by
  refine xE.call (idx := idx) hk ho hlen (fun p ev U m args below meth c R l0 Qf r s' r1 s1 C H locs lsA hA hS hl hd c1 c2 hM hV => ?_) hb kk
  exact ⟨_, va_runS (As := As) (rest := st) (Ts := mWs M) (own := mOwn M) (nL := mNL M) C.1 hM (va_cwS n C.1.2.2.2.2 (gIn (by
      intro w h
      rcases List.mem_append.mp h with h | h
      · simp only [List.mem_cons, List.not_mem_nil, or_false] at h
        rcases h with rfl | rfl | rfl
        · exact hw
        · exact hv
        · exact ho.2.1
      · exact mWsIn ho w h)) rfl rfl rfl ho.2.2.2.1 (hR.to C)) ⟨xBlind, hV⟩ rfl hn hl.1 hs (by show 2 * 0 + _ ≤ 8; omega) hd ⟨c1, c2⟩⟩
/-- invokestatic, a nest mate's private method -/
theorem x_callSN {k idx n : Nat} (hk : (mIn M)[k]? = some (pc, .invokestatic idx, 3)) (ho : xOk M' n) (hv : Cond.static (mY M') ∈ gW) (hw : (mOwn M, idx, mY M') ∈ nestM) (hR : xRm M M') (hlen : (lg_sl As).length ≤ mNL M') (hn : As.length = n) (hst : (st.map fun v => v.category).sum ≤ 8) (hs : stk = As.reverse ++ st)
    (hb : xMe G M' As s Q') (kk : ∀ (r : Option Value) (s1 : xA), Q' r s1 → xE G M (pc + 3) ls (r.toList ++ st) s1 Q) : xE G M pc ls stk s Q := by
  refine xE.call (idx := idx) hk ho hlen (fun p ev U m args below meth c R l0 Qf r s' r1 s1 C H locs lsA hA hS hl hd c1 c2 hM hV => ?_) hb kk
  exact ⟨_, va_runSN (As := As) (rest := st) (Ts := mWs M) (own := mOwn M) (nL := mNL M) C.1 hM ⟨va_cnB n C.1.2.2.2.2 (gIn (mWsIn ho)) rfl rfl rfl (C.2.2.1.2.2.2.1 _ hw) (C.1.2.2.2.2 _ (mWs_in ho.2.1)) ho.2.2.2.1 (hR.to C), C.1.2.2.2.2 _ (mWs_in hv), trivial⟩ ⟨xBlind, hV⟩ rfl hn hl.1 hs (by show 2 * 0 + _ ≤ 8; omega) hd ⟨c1, c2⟩⟩
/-- invokespecial of a constructor -/
theorem x_callI {k idx n a : Nat} {Ar : List Value} (hk : (mIn M)[k]? = some (pc, .invokespecial idx, 3)) (ho : xOk M' n) (h1 : (mY M').name = "<init>") (h2 : mRt M' = none) (hv : Cond.instanceMethod (mY M') ∈ gW) (hw : Cond.methodLink (mOwn M) idx (mY M') ∈ gW) (hR : xRm M M') (hlen : (lg_sl (.ref a :: Ar)).length ≤ mNL M') (hn : Ar.length = n) (hst : (st.map fun v => v.category).sum ≤ 8) (hs : stk = Ar.reverse ++ .ref a :: st)
    (hb : xMe G M' (.ref a :: Ar) s Q') (kk : ∀ (r : Option Value) (s1 : xA), Q' r s1 → xE G M (pc + 3) ls (r.toList ++ st) s1 Q) : xE G M pc ls stk s Q := by
  refine xE.call (idx := idx) hk ho hlen (fun p ev U m args below meth c R l0 Qf r s' r1 s1 C H locs lsA hA hS hl hd c1 c2 hM hV => ?_) hb kk
  exact ⟨_, va_runI (As := Ar) (rest := st) (Ts := mWs M) (own := mOwn M) (nL := mNL M) C.1 hM (cwI (y := mY M') (bytes := mCd M') (maxL := mNL M') n C.1.2.2.2.2 (gIn (mWsIn ho)) (by rw [← h2]; rfl) rfl rfl (C.1.2.2.2.2 _ (mWs_in ho.2.1)) (C.1.2.2.2.2 _ (mWs_in hw)) (C.1.2.2.2.2 _ (mWs_in hv)) h1 ho.2.2.2.1 (hR.to C)) ⟨xBlind, hV⟩ rfl hn hl.1 hs (by show 2 * 0 + _ ≤ 8; omega) hd ⟨c1, c2⟩⟩
/-- invokespecial of a nest mate's private constructor -/
theorem x_callIN {k idx n a : Nat} {Ar : List Value} (hk : (mIn M)[k]? = some (pc, .invokespecial idx, 3)) (ho : xOk M' n) (h1 : (mY M').name = "<init>") (h2 : mRt M' = none) (hv : Cond.instanceMethod (mY M') ∈ gW) (hw : (mOwn M, idx, mY M') ∈ nestM) (hR : xRm M M') (hlen : (lg_sl (.ref a :: Ar)).length ≤ mNL M') (hn : Ar.length = n) (hst : (st.map fun v => v.category).sum ≤ 8) (hs : stk = Ar.reverse ++ .ref a :: st)
    (hb : xMe G M' (.ref a :: Ar) s Q') (kk : ∀ (r : Option Value) (s1 : xA), Q' r s1 → xE G M (pc + 3) ls (r.toList ++ st) s1 Q) : xE G M pc ls stk s Q := by
  refine xE.call (idx := idx) hk ho hlen (fun p ev U m args below meth c R l0 Qf r s' r1 s1 C H locs lsA hA hS hl hd c1 c2 hM hV => ?_) hb kk
  exact ⟨_, va_runIN (As := Ar) (rest := st) (Ts := mWs M) (own := mOwn M) (nL := mNL M) C.1 hM ⟨va_cnB (y := mY M') (bytes := mCd M') (maxL := mNL M') n C.1.2.2.2.2 (gIn (mWsIn ho)) (by rw [← h2]; rfl) rfl rfl (C.2.2.1.2.2.2.1 _ hw) (C.1.2.2.2.2 _ (mWs_in ho.2.1)) ho.2.2.2.1 (hR.to C), h1, C.1.2.2.2.2 _ (mWs_in hv)⟩ ⟨xBlind, hV⟩ rfl hn hl.1 hs (by show 2 * 0 + _ ≤ 8; omega) hd ⟨c1, c2⟩⟩
end XCALL
