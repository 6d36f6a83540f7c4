-- ===== from the entry to the end =====
def R_law : String := "RelayParcelsLaw"
def lw_P (b : Addr) (xs : List Int32) (args : Array Value) (s : State) : Prop := args = #[.ref b] ∧ s.IntsAt b xs ∧ xs.length ≤ 260 ∧ (Jvm.Cond.and given_1 narrow_1).before args s = true
def lw_Q (_ : Array Value) (s : State) (o : Outcome) (t : State) : Prop := o = .returned (some (.int 1)) ∧ Framed s o t [] 600000 7302250
def lw_Z (below : List Frame) (a : Array Value) (s : State) : State → Prop := fun t => ∃ o, t.status = .running ∧ Ended t below o ∧ lw_Q a s o t
/-- the law's own end, with 1 on the stack, nothing written that was there before, its room as the claim has it -/
theorem lw_ret {p : Program} {l : Launch} {e : Env} {s : State} {m : MethodId} {below : List Frame} {meth : Method} {c : Code} {b : Nat} (hx : p.tables.exec = Jvm.exec) (hb : c.code = code) (hr : meth.sig.returnType = ret) (hlocks : meth.locks = false) {pc : Nat} {H : Heap} {ls : Array Slot} (hdg : decode code pc = .ok (.ireturn, 1)) : W p l e room_1 s m #[Value.ref b] below meth c H [] 600000 7302250 (lw_Z below #[Value.ref b] s) (F0 m pc ls [.int 1]) := by
  intro T hT X
  obtain ⟨fs, hret, hrun, hended, hW, hframe⟩ := X.leave (v := some (.int 1)) (hlocks := hlocks) (fun h => by rw [hr] at h; cases h)
  have hmeth' : T.vm.method? m = some meth := X.method'
  refine ⟨T.setFrames fs, ?_, .returned (some (.int 1)), hrun, hended, rfl, ⟨_, rfl⟩, hW, hframe⟩
  jvm_step X.here [X.here.top, hx, hb, hdg, hmeth', hr, ret, narrow_b1]
  (try refine ⟨rfl, ?_⟩); (try refine ⟨rfl, ?_⟩)
  first | (intro acts; rw [hret _ acts rfl rfl rfl]) | rw [hret _ _ rfl rfl rfl]
  exact Steps.refl _
/-- what holds at the law's entry: the machine, the code, the tables' words (any of lw_tbl by 'hts w (by decide +kernel)'), the script of L ints xs at the cell b, what the Statement gives of the start (any of its parts by flat_of_before) -/
def lw_At (p : Program) (s : State) (m : MethodId) (meth : Method) (c : Code) (b L : Nat) (xs : Nat → Int32) : Prop :=
  p.tables.exec = Jvm.exec ∧ c.code = code ∧ meth.sig.returnType = ret ∧ c.maxLocals = 17 ∧ s.vm.findClass R_law = some m.cls ∧ (∀ w ∈ lw_tbl, w.before #[Value.ref b] s = true) ∧ va_X b L xs s s.heap ∧ b < s.heap.size ∧ meth.locks = false ∧ (Jvm.Cond.and given_1 narrow_1).before #[Value.ref b] s = true
theorem tL {w : Cond} (i : Nat) (h : tables_1[i]? = some w) : w ∈ lw_tbl := List.mem_append_right _ (List.mem_of_getElem? h)
section START
variable {args : Array Value} {s : State}
theorem k_prim {ty : FieldType} (h : (Cond.arrayClass ty).before args s = true) (hr : ∀ cA, s.vm.findClass ("[" ++ ty.toString) = some cA → va_RA s cA ty) : ∃ cA, ArrOfT s cA ty ∧ va_RA s cA ty := by
  obtain ⟨cA, kA, comp, f1, f2, f3⟩ := Cond.arrayClass_spec h
  exact ⟨cA, fun N z => ⟨fun k h => (by cases h), kA, f2, comp, f3⟩, hr cA f1⟩
theorem k_obj {C : String} (h : (Cond.arrayOver (.object C)).before args s = true) : ∃ cA, ArrOfT s cA (.object C) ∧ va_RA s cA (.object C) := by
  obtain ⟨comp, cA, kA, f1, -, f2, f3, f4⟩ := Cond.arrayOver_spec h
  exact ⟨cA, fun N z => ⟨fun k h => (by cases h), kA, f2, comp, f3⟩, kA, comp, f2, f3, f1, f4⟩
theorem wn_all : ∀ (c : Nat) (q : vw_C), vwCl[c]? = some q → ∃ n, Cond.instantiable q.1 n ∈ gW := by
  intro c q hq
  match c, hq with
  | 0, hq => cases hq; exact ⟨_, wn0⟩
  | 1, hq => cases hq; exact ⟨_, wn1⟩
  | 2, hq => cases hq; exact ⟨_, wn2⟩
  | 3, hq => cases hq; exact ⟨_, wn3⟩
  | 4, hq => cases hq; exact ⟨_, wn4⟩
  | 5, hq => cases hq; exact ⟨_, wn5⟩
  | 6, hq => cases hq; exact ⟨_, wn6⟩
  | 7, hq => cases hq; exact ⟨_, wn7⟩
  | 8, hq => cases hq; exact ⟨_, wn8⟩
  | 9, hq => cases hq; exact ⟨_, wn9⟩
  | c + 10, hq => exact absurd hq (by simp [vwCl])
theorem k_nest (hts : ∀ w ∈ lw_tbl, w.before args s = true) : (∀ q ∈ nestM, va_Nw (.methodLinkNest q.1 q.2.1 q.2.2 RX9) s) ∧ (∀ q ∈ nestF, va_Nw (.fieldLinkNest q.1 q.2.1 RX9 q.2.2 "[I" RX9) s) ∧ ∀ C ∈ nestC, va_AO C s := by
  refine ⟨fun q hq => ?_, fun q hq => ?_, fun C hC => ?_⟩
  · simp only [nestM, List.mem_cons, List.not_mem_nil, or_false] at hq
    rcases hq with rfl | rfl | rfl | rfl | rfl | rfl | rfl | rfl | rfl | rfl
    · exact va_Nw.of rfl (hts _ (tL 23 (by decide +kernel)))
    · exact va_Nw.of rfl (hts _ (tL 208 (by decide +kernel)))
    · exact va_Nw.of rfl (hts _ (tL 227 (by decide +kernel)))
    · exact va_Nw.of rfl (hts _ (tL 41 (by decide +kernel)))
    · exact va_Nw.of rfl (hts _ (tL 80 (by decide +kernel)))
    · exact va_Nw.of rfl (hts _ (tL 114 (by decide +kernel)))
    · exact va_Nw.of rfl (hts _ (tL 412 (by decide +kernel)))
    · exact va_Nw.of rfl (hts _ (tL 391 (by decide +kernel)))
    · exact va_Nw.of rfl (hts _ (tL 392 (by decide +kernel)))
    · exact va_Nw.of rfl (hts _ (tL 395 (by decide +kernel)))
  · simp only [nestF, List.mem_cons, List.not_mem_nil, or_false] at hq
    rcases hq with rfl | rfl
    · exact va_Nw.of rfl (hts _ (tL 463 (by decide +kernel)))
    · exact va_Nw.of rfl (hts _ (tL 603 (by decide +kernel)))
  · simp only [nestC, List.mem_cons, List.not_mem_nil, or_false] at hC
    rcases hC with rfl | rfl | rfl | rfl | rfl
    · exact va_AO.of (hts _ (tL 34 (by decide +kernel)))
    · exact va_AO.of (hts _ (tL 36 (by decide +kernel)))
    · exact va_AO.of (hts _ (tL 38 (by decide +kernel)))
    · exact va_AO.of (hts _ (tL 193 (by decide +kernel)))
    · exact va_AO.of (hts _ (tL 213 (by decide +kernel)))
/-- the classes of the class file's objects -/
theorem k_cls (hts : ∀ w ∈ lw_tbl, w.before args s = true) : ∃ (dC : Nat → ClassId) (dI : Nat → Nat → Nat), ∀ (c : Nat) (q : vw_C), vwCl[c]? = some q → u_Kn s q.1 q.2.1 q.2.2 (dC c) (dI c) := by
  have hG : ∀ w ∈ gW, w.before args s = true := fun w hw => hts w (gW_tbl hw)
  have one : ∀ (c : Nat) (q : vw_C), vwCl[c]? = some q → ∃ z : ClassId × (Nat → Nat), u_Kn s q.1 q.2.1 q.2.2 z.1 z.2 := fun c q hq => by
    obtain ⟨n, hn⟩ := wn_all c q hq
    obtain ⟨cC, iS, h⟩ := u_known (T := q.2.1) (N := q.2.2) hG (cls_ok c q hq).1 (hG _ hn)
    exact ⟨(cC, iS), h⟩
  obtain ⟨z0, -⟩ := one 0 _ rfl
  have all : ∀ c : Nat, ∃ z : ClassId × (Nat → Nat), ∀ q : vw_C, vwCl[c]? = some q → u_Kn s q.1 q.2.1 q.2.2 z.1 z.2 := fun c => by
    match hc : vwCl[c]? with
    | none => exact ⟨z0, fun q hq => by cases hq⟩
    | some q0 =>
      obtain ⟨z, hz⟩ := one c q0 hc
      exact ⟨z, fun q hq => by cases hq; exact hz⟩
  exact ⟨fun c => (all c).choose.1, fun c => (all c).choose.2, fun c q hq => (all c).choose_spec q hq⟩
/-- the arrays' classes -/
theorem k_arr (hts : ∀ w ∈ lw_tbl, w.before args s = true) : ∃ gc : Nat → ClassId, ∀ (k : Nat) (q : ClassId × FieldType), [(gc 0, FieldType.int), (gc 1, .int), (gc 2, .char), (gc 3, .boolean), (gc 4, .object RX3), (gc 5, .object RX6), (gc 6, .object RX2), (gc 7, .object RX8), (gc 8, .object RX4)][k]? = some q → ArrOfT s q.1 q.2 ∧ va_RA s q.1 q.2 := by
  have hG : ∀ w ∈ gW, w.before args s = true := fun w hw => hts w (gW_tbl hw)
  obtain ⟨c0, h0⟩ := k_prim (hG _ wa_int) (fun _ h => h)
  obtain ⟨c1, h1⟩ := k_prim (hG _ wa_int) (fun _ h => h)
  obtain ⟨c2, h2⟩ := k_prim (hG _ wa_char) (fun _ h => h)
  obtain ⟨c3, h3⟩ := k_prim (hG _ wa_boolean) (fun _ h => h)
  obtain ⟨c4, h4⟩ := k_obj (C := RX3) (hts _ (tL 34 (by decide +kernel)))
  obtain ⟨c5, h5⟩ := k_obj (C := RX6) (hts _ (tL 36 (by decide +kernel)))
  obtain ⟨c6, h6⟩ := k_obj (C := RX2) (hts _ (tL 38 (by decide +kernel)))
  obtain ⟨c7, h7⟩ := k_obj (C := RX8) (hts _ (tL 193 (by decide +kernel)))
  obtain ⟨c8, h8⟩ := k_obj (C := RX4) (hts _ (tL 213 (by decide +kernel)))
  refine ⟨fun k => match k with | 0 => c0 | 1 => c1 | 2 => c2 | 3 => c3 | 4 => c4 | 5 => c5 | 6 => c6 | 7 => c7 | _ => c8, ?_⟩
  intro k q hq
  match k, hq with
  | 0, hq => cases hq; exact h0
  | 1, hq => cases hq; exact h1
  | 2, hq => cases hq; exact h2
  | 3, hq => cases hq; exact h3
  | 4, hq => cases hq; exact h4
  | 5, hq => cases hq; exact h5
  | 6, hq => cases hq; exact h6
  | 7, hq => cases hq; exact h7
  | 8, hq => cases hq; exact h8
  | k + 9, hq => simp at hq
/-- a static array of four ints -/
theorem k_stat {nm : String} {f : Nat → Value} (hl : (Cond.laysStatic RX9 nm "[I").before args s = true) (hini : (Cond.initialized RX9).before args s = true) (harr : (Cond.arrayOf (.static RX9 nm "[I") .int).before args s = true) (hlen : (Cond.eq (.length (.static RX9 nm "[I")) (.int 4)).before args s = true)
    (hel : ∀ j : Nat, j < 4 → (Term.elem (.static RX9 nm "[I") (.int (Int32.ofNat j))).eval args s none [] s = some (f j)) : ∃ t : Nat, va_Z RX9 nm "[I" (.ref t) (fun q => s.heap.size ≤ q) s s.heap ∧ va_T .int t 4 f (fun q => s.heap.size ≤ q) s s.heap := by
  have hA : ∀ a : Nat, a < s.heap.size → ¬ s.heap.size ≤ a := fun a h => Nat.not_le.mpr h
  obtain ⟨t, e, h⟩ := va_Tof (A := fun q => s.heap.size ≤ q) (N := 4) (f := f) (by decide) harr (va_eqt hlen) hel hA
  exact ⟨t, va_Zref hl hini e hA, h⟩
end START
/-- from the entry, for every script of at most 260 ints, the law comes to its end with true -/
theorem whole_start {p : Program} {e : Env} {s : State} {m : MethodId} {below : List Frame} {meth : Method} {c : Code} (l : Launch) {b L : Nat} {xs : Nat → Int32} (hL : L ≤ 260) (C0 : lw_At p s m meth c b L xs) (hcode : (Cond.code x code maxLocals ret).before #[Value.ref b] s = true) (hname : meth.name = "law") : W p l e room_1 s m #[Value.ref b] below meth c s.heap [] 0 0 (lw_Z below #[Value.ref b] s) (entryFrame m ([Value.ref b] : List Value).toArray 17) := by
  obtain ⟨hx, hb, hr, hml, hown, hts, hX, hbl, hlocks, hgv⟩ := id C0
  have hq := flat_of_before _ hgv
  obtain ⟨dC, dI, hcl⟩ := k_cls hts
  obtain ⟨gc0, harr⟩ := k_arr hts
  obtain ⟨tcCost, hZcCost, hTcCost⟩ := k_stat (nm := "COVER_COSTS") (f := cCost) (hts _ (tL 464 (by decide +kernel))) (hts _ (gW_tbl wi_RX9)) (hq (.arrayOf (.static "RelayParcels" "COVER_COSTS" "[I") .int) (by decide +kernel)) (hq (.eq (.length (.static "RelayParcels" "COVER_COSTS" "[I")) (.int 4)) (by decide +kernel)) (fun j hj => by
    match j, hj with
    | 0, _ => exact va_eqt (hq (.eq (.elem (.static "RelayParcels" "COVER_COSTS" "[I") (.int 0)) (.int 0)) (by decide +kernel))
    | 1, _ => exact va_eqt (hq (.eq (.elem (.static "RelayParcels" "COVER_COSTS" "[I") (.int 1)) (.int 2)) (by decide +kernel))
    | 2, _ => exact va_eqt (hq (.eq (.elem (.static "RelayParcels" "COVER_COSTS" "[I") (.int 2)) (.int 5)) (by decide +kernel))
    | 3, _ => exact va_eqt (hq (.eq (.elem (.static "RelayParcels" "COVER_COSTS" "[I") (.int 3)) (.int 10)) (by decide +kernel))
    | j + 4, h => exact absurd h (by omega))
  obtain ⟨tcCover, hZcCover, hTcCover⟩ := k_stat (nm := "COVERS") (f := cCover) (hts _ (tL 604 (by decide +kernel))) (hts _ (gW_tbl wi_RX9)) (hq (.arrayOf (.static "RelayParcels" "COVERS" "[I") .int) (by decide +kernel)) (hq (.eq (.length (.static "RelayParcels" "COVERS" "[I")) (.int 4)) (by decide +kernel)) (fun j hj => by
    match j, hj with
    | 0, _ => exact va_eqt (hq (.eq (.elem (.static "RelayParcels" "COVERS" "[I") (.int 0)) (.int 0)) (by decide +kernel))
    | 1, _ => exact va_eqt (hq (.eq (.elem (.static "RelayParcels" "COVERS" "[I") (.int 1)) (.int 50)) (by decide +kernel))
    | 2, _ => exact va_eqt (hq (.eq (.elem (.static "RelayParcels" "COVERS" "[I") (.int 2)) (.int 200)) (by decide +kernel))
    | 3, _ => exact va_eqt (hq (.eq (.elem (.static "RelayParcels" "COVERS" "[I") (.int 3)) (.int 999)) (by decide +kernel))
    | j + 4, h => exact absurd h (by omega))
  obtain ⟨G, eG⟩ : ∃ G : xG, G = (l, (dC, dI), gc0, s.heap.size, tcCost, tcCover, b, L, xs) := ⟨_, rfl⟩
  have hK : aK G s := by
    subst eG
    refine ⟨⟨hcl, harr⟩, Nat.le_refl _, ⟨⟨hZcCost, hTcCost⟩, ⟨hZcCover, hTcCover⟩, ?_⟩, k_nest hts⟩
    obtain ⟨scr, f1, f2, f3, f4, f5⟩ := hX
    exact ⟨scr, f1, f2, f3, Nat.le_of_eq f4.symm, by rw [f4], f5, Nat.not_le.mpr hbl⟩
  have eL : gLen G = L := by rw [eG]
  have eS : gS3 G = b := by rw [eG]
  have eB : gB G = s.heap.size := by rw [eG]
  have eLa : gL G = l := by rw [eG]
  have hA : aAt G (fun _ => none, s.heap.size, 0) s.heap := ⟨[], fun k q h => (by simp at h), by rw [eB]; rfl, fun a e h => (by cases h), fun k q h => (by simp at h), rfl⟩
  obtain ⟨r, s', ⟨hr1, hc1, hc2⟩, hm, key⟩ := c_law (G := G) (s := (fun _ => none, s.heap.size, 0)) (by rw [eL]; exact hL)
  have hc1 : s'.2.1 ≤ s.heap.size + 600000 := hc1
  have hc2 : s'.2.2 ≤ 0 + 7302250 := hc2
  have hl := lv_entry ([.ref b]) (n := 17) (Nat.le_of_ble_eq_true rfl)
  rw [lg_entry_eq]
  generalize (lg_sl ([.ref b]) ++ List.replicate (17 - (lg_sl ([.ref b])).length) Slot.unset).toArray = ls at hl ⊢
  have k := key p e s m #[Value.ref b] below meth c room_1 0 (lw_Z below #[Value.ref b] s)
    ⟨⟨hx, hb, hml, hown, fun w hw => by
      rcases List.mem_cons.mp hw with h | h
      · rw [h]; exact hcode
      · exact hts w (gW_tbl h)⟩, hname, hK, ⟨by decide, by decide, by show s'.2.1 - s.heap.size ≤ 600000; omega, by show s'.2.2 - 0 ≤ 7302250; omega⟩, dOk.all dlL_law, fun H locs lsA pc i hA' hS' hd hret => by
      subst hr1
      rcases hret with ⟨h, -⟩ | ⟨v, h, rfl⟩ | ⟨v, h, h2, -⟩ | ⟨v, h, -⟩
      · cases h
      · refine va_forget (fun q hq => by have := hS'.2.2 q hq; rw [← eB]; exact this) ?_
        refine W.widen (k := 600000) (n := 7302250) (by omega) (by omega) ?_
        rw [eLa]
        exact lw_ret hx hb hr hlocks hd
      · cases h2
        rcases h with h | ⟨a, h⟩ <;> cases h
      · cases h⟩
    (Nat.le_refl _) (Nat.le_refl _) s.heap [] ls hA va_S.rf (by rw [eS]; exact hl)
  have e0 : (((fun _ => none, s.heap.size, 0) : xA).2.1 - s.heap.size) = 0 := Nat.sub_self _
  rw [e0, eLa] at k
  exact k
