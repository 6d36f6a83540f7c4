-- ===== the model: the text =====
/-- the world, what is kept, the text are as they were -/
def tF (V V' : Vd) : Prop := V'.1 = V.1 ∧ V'.2.1 = V.2.1 ∧ V'.2.2 0 2 = V.2.2 0 2 ∧ V'.2.2 0 4 = V.2.2 0 4 ∧ V'.2.2 1 = V.2.2 1
theorem tF.rf {V : Vd} : tF V V := ⟨rfl, rfl, rfl, rfl, rfl⟩
theorem tF.tr {V V1 V2 : Vd} (h : tF V V1) (h2 : tF V1 V2) : tF V V2 := ⟨h2.1.trans h.1, h2.2.1.trans h.2.1, h2.2.2.1.trans h.2.2.1, h2.2.2.2.1.trans h.2.2.2.1, h2.2.2.2.2.trans h.2.2.2.2⟩
theorem mSc_at {V : Vd} {j : Nat} {v : Int32} : (mSc V j v).2.2 0 j = v := ySet_at
theorem mSc_0 {V : Vd} {j k : Nat} {v : Int32} (h : k ≠ j) : (mSc V j v).2.2 0 k = V.2.2 0 k := ySet_k h
theorem mSc_r {V : Vd} {j b : Nat} {v : Int32} (h : b ≠ 0) : (mSc V j v).2.2 b = V.2.2 b := yR_set h
theorem mAr_at {V : Vd} {a k : Nat} {v : Int32} : (mAr V a k v).2.2 a k = v := ySet_at
theorem mAr_k {V : Vd} {a k j : Nat} {v : Int32} (h : j ≠ k) : (mAr V a k v).2.2 a j = V.2.2 a j := ySet_k h
theorem mAr_r {V : Vd} {a k b : Nat} {v : Int32} (h : b ≠ a) : (mAr V a k v).2.2 b = V.2.2 b := yR_set h
theorem mAr_0 {V : Vd} {a k b j : Nat} {v : Int32} (h : b ≠ a) : (mAr V a k v).2.2 b j = V.2.2 b j := ySet_a h
theorem tF.sc {V V1 : Vd} {j : Nat} {v : Int32} (h : tF V V1) (hj : j = 5 ∨ j = 6) : tF V (mSc V1 j v) := ⟨h.1, h.2.1, (mSc_0 (by omega)).trans h.2.2.1, (mSc_0 (by omega)).trans h.2.2.2.1, (mSc_r (by decide)).trans h.2.2.2.2⟩
theorem tF.dg {V V1 : Vd} {j : Nat} {v : Int32} (h : tF V V1) : tF V (mAr V1 2 j v) := ⟨h.1, h.2.1, (mAr_0 (by decide)).trans h.2.2.1, (mAr_0 (by decide)).trans h.2.2.2.1, (mAr_r (by decide)).trans h.2.2.2.2⟩
/-- the text: n signs -/
def TxM (n : Nat) (V : Vd) : Prop := n ≤ 80 ∧ V.2.2 0 4 = nI n ∧ ∀ k, k < n → ∃ c : Nat, c < 256 ∧ V.2.2 1 k = nI c
theorem TxM.f {n : Nat} {V V' : Vd} (h : TxM n V) (hf : tF V V') : TxM n V' := ⟨h.1, hf.2.2.2.1.trans h.2.1, fun k hk => by rw [hf.2.2.2.2]; exact h.2.2 k hk⟩
theorem dOf_m {c : Nat} (hc : c < 256) (h : ¬ dOf (nI c) = -9) : ∃ mk : Nat, mk ≤ 3 ∧ dOf (nI c) = nI mk ∧ ¬ nI c = 59 := by
  rcases dOf_no c hc with rfl | rfl | rfl | rfl | rfl | h'
  · exact ⟨3, by decide, by decide, by decide⟩
  · exact ⟨3, by decide, by decide, by decide⟩
  · exact ⟨2, by decide, by decide, by decide⟩
  · exact ⟨2, by decide, by decide, by decide⟩
  · exact ⟨0, by decide, by decide, by decide⟩
  · exact absurd h' h
theorem tFa_let {sg : Nat → Int32} {n p : Nat} (hp : p < n) : tFa sg n (n - p) (-1) = if dOf (sg p) = -9 then nI p else tFa sg n (n - (p + 1)) (dOf (sg p)) := by
  obtain ⟨d, hd⟩ : ∃ d, n - p = d + 1 := ⟨n - p - 1, by omega⟩
  rw [hd, tFa, if_pos rfl, show n - (d + 1) = p by omega, show n - (p + 1) = d by omega]
theorem tFa_dig {sg : Nat → Int32} {n q a : Nat} (hq : q < n) (ha : 0 < a) (ha3 : a ≤ 3) : tFa sg n (n - q) (nI a) = if sg q < 48 ∨ 57 < sg q then nI q else tFa sg n (n - (q + 1)) (nI (a - 1)) := by
  obtain ⟨d, hd⟩ : ∃ d, n - q = d + 1 := ⟨n - q - 1, by omega⟩
  have e1 : ¬ nI a = -1 := fun z => nI_pos (n := a) (by omega) (by rw [z]; decide)
  have e2 : nI a + Int32.ofInt (-1) = nI (a - 1) := by
    obtain ⟨b, rfl⟩ : ∃ b, a = b + 1 := ⟨a - 1, by omega⟩
    rw [i_m1]
    exact nI_pred b
  rw [hd, tFa, if_neg e1, if_neg (nI_ne0 ha (by omega)), show n - (d + 1) = q by omega, show n - (q + 1) = d by omega, e2]
theorem tFa_sep {sg : Nat → Int32} {n q : Nat} (hq : q < n) : tFa sg n (n - q) 0 = if sg q = 59 then tFa sg n (n - (q + 1)) (-1) else nI q := by
  obtain ⟨d, hd⟩ : ∃ d, n - q = d + 1 := ⟨n - q - 1, by omega⟩
  rw [hd, tFa, if_neg (by decide), if_pos rfl, show n - (d + 1) = q by omega, show n - (q + 1) = d by omega]
theorem tFa_nn {sg : Nat → Int32} {n : Nat} {due : Int32} (h : ¬ due = 0) : tFa sg n (n - n) due = nI n := by
  rw [Nat.sub_self]
  exact if_neg h
theorem tFa_n0 {sg : Nat → Int32} {n : Nat} : tFa sg n (n - n) 0 = -9 := by
  rw [Nat.sub_self]
  exact if_pos rfl
/-- an order was tried from sign p on: whether it is one, and where the next sign stands -/
def PoQ (V0 : Vd) (n p : Nat) : Option Value → Vd → Prop := fun r V' => ∃ (ok : Bool) (q : Nat), r = some (.int (if ok then 1 else 0)) ∧ tF V0 V' ∧ V'.2.2 0 5 = nI q ∧ q ≤ n ∧ (ok = false → tFa (V0.2.2 1) n (n - p) (-1) = nI q) ∧
  (ok = true → p < q ∧ tFa (V0.2.2 1) n (n - p) (-1) = tFa (V0.2.2 1) n (n - q) 0 ∧ V'.2.2 0 6 = V0.2.2 1 p ∧ dOf (V0.2.2 1 p) = nI (q - p - 1) ∧ ¬ V0.2.2 1 p = 59 ∧ ∀ j, j < q - p - 1 → V'.2.2 2 j = V0.2.2 1 (p + 1 + j) - 48 ∧ wIn (V0.2.2 1 (p + 1 + j)) 48 57)
theorem m_appendF {G : xG} {s : xA} {m : Nat} {V : Vd} {q : Int32} (hq : ¬ wIn q 1 255) : mI G MX10_append [.ref m, .int q] s m V (-1) V := by
  refine x_iload_n (k := 0) rfl rfl ?_
  refine x_i2l (k := 1) rfl ?_
  refine x_lconst (v := 1) (k := 2) rfl (by decide) ?_
  refine x_ldc2 (k := 3) rfl klRX10_167 ?_
  refine x_sD (k := 4) rfl (by rfl) (m_isIn _ _ _) okX10_isIn viX10_isIn mlRX10_38 ⟨Nat.le_of_ble_eq_true rfl, Nat.le_of_ble_eq_true rfl⟩ (by exact Nat.le_of_ble_eq_true rfl) rfl (by exact Nat.le_of_ble_eq_true rfl) ?_
  refine x_if_ne (tgt := 14) (k := 5) rfl (by decide) (fun c9 => absurd ((w64 (n := q) (lo := 1) (hi := 255) (by decide) (by decide)).mp (bz_ne0 c9)) hq) (fun c9 => ?_)
  refine x_iconst (v := -1) (k := 6) rfl (by decide) ?_
  exact m_irD (k := 7) rfl rfl rfl rfl rfl
theorem m_appendN {G : xG} {s : xA} {m : Nat} {V : Vd} {q : Int32} (hq : wIn q 1 255) (hn : V.2.2 0 4 = 80) : mI G MX10_append [.ref m, .int q] s m V (-3) V := by
  refine x_iload_n (k := 0) rfl rfl ?_
  refine x_i2l (k := 1) rfl ?_
  refine x_lconst (v := 1) (k := 2) rfl (by decide) ?_
  refine x_ldc2 (k := 3) rfl klRX10_167 ?_
  refine x_sD (k := 4) rfl (by rfl) (m_isIn _ _ _) okX10_isIn viX10_isIn mlRX10_38 ⟨Nat.le_of_ble_eq_true rfl, Nat.le_of_ble_eq_true rfl⟩ (by exact Nat.le_of_ble_eq_true rfl) rfl (by exact Nat.le_of_ble_eq_true rfl) ?_
  refine x_if_ne (tgt := 14) (k := 5) rfl (by decide) (fun c9 => ?_) (fun c9 => absurd hq (fun z => bz_eq0 c9 ((w64 (n := q) (lo := 1) (hi := 255) (by decide) (by decide)).mpr z)))
  refine x_aload_n (k := 8) rfl rfl ?_
  refine m_get (k := 9) rfl flRX10_169 rfl ?_
  refine x_bipush (v := 80) (k := 10) rfl (by decide) ?_
  refine x_icmp_ne (tgt := 26) (k := 11) rfl (by decide) (fun c20 => absurd hn c20) (fun c20 => ?_)
  refine x_bipush (v := -3) (k := 12) rfl (by decide) ?_
  exact m_irD (k := 13) rfl rfl rfl rfl rfl
theorem m_append {G : xG} {s : xA} {m : Nat} {V : Vd} {q : Int32} {n : Nat} (hq : wIn q 1 255) (hn : V.2.2 0 4 = nI n) (h80 : n < 80) : mI G MX10_append [.ref m, .int q] s m V (nI (n + 1)) (mSc (mAr V 1 n q) 4 (nI (n + 1))) := by
  refine x_iload_n (k := 0) rfl rfl ?_
  refine x_i2l (k := 1) rfl ?_
  refine x_lconst (v := 1) (k := 2) rfl (by decide) ?_
  refine x_ldc2 (k := 3) rfl klRX10_167 ?_
  refine x_sD (k := 4) rfl (by rfl) (m_isIn _ _ _) okX10_isIn viX10_isIn mlRX10_38 ⟨Nat.le_of_ble_eq_true rfl, Nat.le_of_ble_eq_true rfl⟩ (by exact Nat.le_of_ble_eq_true rfl) rfl (by exact Nat.le_of_ble_eq_true rfl) ?_
  refine x_if_ne (tgt := 14) (k := 5) rfl (by decide) (fun c9 => ?_) (fun c9 => absurd hq (fun z => bz_eq0 c9 ((w64 (n := q) (lo := 1) (hi := 255) (by decide) (by decide)).mpr z)))
  refine x_aload_n (k := 8) rfl rfl ?_
  refine m_get (k := 9) rfl flRX10_169 rfl ?_
  refine x_bipush (v := 80) (k := 10) rfl (by decide) ?_
  refine x_icmp_ne (tgt := 26) (k := 11) rfl (by decide) (fun c20 => ?_) (fun c20 => absurd ((nI_eq (b := 80) (by omega) (by decide)).mp (hn.symm.trans c20)) (by omega))
  refine x_aload_n (k := 14) rfl rfl ?_
  refine m_getA (a := 3) (k := 15) rfl flRX10_16 rfl ?_
  refine x_aload_n (k := 16) rfl rfl ?_
  refine m_get (k := 17) rfl flRX10_169 rfl ?_
  refine x_iload_n (k := 18) rfl rfl ?_
  refine m_tput (k := 19) rfl hn (by first | assumption | omega) ?_
  refine x_aload_n (k := 20) rfl rfl ?_
  refine x_dup (k := 21) rfl rfl ?_
  refine m_get (k := 22) rfl flRX10_169 rfl ?_
  refine x_iconst (v := 1) (k := 23) rfl (by decide) ?_
  refine x_iadd (k := 24) rfl ?_
  refine x_top (y := nI (n + 1)) (by rw [mAr_0 (by decide), hn, nI_1]) ?_
  refine m_put (k := 25) rfl flRX10_169 ft10_4 (by decide) rfl ?_
  refine x_aload_n (k := 26) rfl rfl ?_
  refine m_get (k := 27) rfl flRX10_169 rfl ?_
  exact m_irD (k := 28) rfl rfl rfl mSc_at rfl
theorem m_clearText {G : xG} {s : xA} {m : Nat} {V : Vd} : mI G MX10_clearText [.ref m] s m V (V.2.2 0 4) (mSc V 4 0) := by
  refine x_aload_n (k := 0) rfl rfl ?_
  refine m_get (k := 1) rfl flRX10_169 rfl ?_
  refine x_istore_n (k := 2) rfl (by decide) ?_
  refine x_aload_n (k := 3) rfl rfl ?_
  refine x_iconst (v := 0) (k := 4) rfl (by decide) ?_
  refine m_put (k := 5) rfl flRX10_169 ft10_4 (by decide) rfl ?_
  refine x_iload_n (k := 6) rfl rfl ?_
  exact m_irD (k := 7) rfl rfl rfl rfl rfl
theorem m_isHere {G : xG} {s : xA} {m : Nat} {V : Vd} {n p : Nat} (hn : n ≤ 80) (hp : p ≤ 1000) (e4 : V.2.2 0 4 = nI n) (e5 : V.2.2 0 5 = nI p) (lo hi : Int32) : mI G MX10_isHere [.ref m, .int lo, .int hi] s m V (bz (p < n ∧ wIn (V.2.2 1 p) lo hi)) V := by
  refine x_aload_n (k := 0) rfl rfl ?_
  refine m_get (k := 1) rfl flRX10_172 rfl ?_
  refine x_top e5 ?_
  refine x_aload_n (k := 2) rfl rfl ?_
  refine m_get (k := 3) rfl flRX10_169 rfl ?_
  refine x_top e4 ?_
  refine x_icmp_ge (tgt := 35) (k := 4) rfl (by decide) (fun c8 => ?_) (fun c8 => ?_)
  · have e : bz (p < n ∧ wIn (V.2.2 1 p) lo hi) = 0 := bz_0 (fun q => by
      have := (nI_leI (by omega) (by omega)).mp c8
      omega)
    refine x_iconst (v := 0) (k := 19) rfl (by decide) ?_
    exact m_irD (k := 20) rfl rfl rfl e.symm rfl
  · have hl : p < n := by
      have := mt (nI_leI (a := n) (by omega) (b := p) (by omega)).mpr c8
      omega
    refine x_aload_n (k := 5) rfl rfl ?_
    refine m_getA (a := 3) (k := 6) rfl flRX10_16 rfl ?_
    refine x_aload_n (k := 7) rfl rfl ?_
    refine m_get (k := 8) rfl flRX10_172 rfl ?_
    refine x_top e5 ?_
    refine m_tat (k := 9) rfl rfl (by first | assumption | omega) ?_
    refine x_i2l (k := 10) rfl ?_
    refine x_iload_n (k := 11) rfl rfl ?_
    refine x_i2l (k := 12) rfl ?_
    refine x_iload_n (k := 13) rfl rfl ?_
    refine x_i2l (k := 14) rfl ?_
    refine x_sD (k := 15) rfl (by rfl) (m_isIn _ _ _) okX10_isIn viX10_isIn mlRX10_38 ⟨Nat.le_of_ble_eq_true rfl, Nat.le_of_ble_eq_true rfl⟩ (by exact Nat.le_of_ble_eq_true rfl) rfl (by exact Nat.le_of_ble_eq_true rfl) ?_
    refine x_if_eq (tgt := 35) (k := 16) rfl (by decide) (fun c28 => ?_) (fun c28 => ?_)
    · replace c28 := bz_eq0 c28
      have e : bz (p < n ∧ wIn (V.2.2 1 p) lo hi) = 0 := bz_0 (fun q => c28 ((w64 rfl rfl).mpr q.2))
      refine x_iconst (v := 0) (k := 19) rfl (by decide) ?_
      exact m_irD (k := 20) rfl rfl rfl e.symm rfl
    · replace c28 := bz_ne0 c28
      have e : bz (p < n ∧ wIn (V.2.2 1 p) lo hi) = 1 := bz_1 ⟨hl, (w64 rfl rfl).mp c28⟩
      refine x_iconst (v := 1) (k := 17) rfl (by decide) ?_
      refine x_goto (tgt := 36) (k := 18) rfl (by decide) ?_
      exact m_irD (k := 20) rfl rfl rfl e.symm rfl
/-- within the digits of an order -/
def PoI (V0 : Vd) (n p mk j : Nat) (V : Vd) : Prop := tF V0 V ∧ V.2.2 0 5 = nI (p + 1 + j) ∧ V.2.2 0 6 = V0.2.2 1 p ∧ p + 1 + j ≤ n ∧ (∀ i, i < j → V.2.2 2 i = V0.2.2 1 (p + 1 + i) - 48 ∧ wIn (V0.2.2 1 (p + 1 + i)) 48 57) ∧ tFa (V0.2.2 1) n (n - p) (-1) = tFa (V0.2.2 1) n (n - (p + 1 + j)) (nI (mk - j))
theorem PoI.end_ {V0 V : Vd} {n p mk : Nat} (h : PoI V0 n p mk mk V) (hm : dOf (V0.2.2 1 p) = nI mk) (h59 : ¬ V0.2.2 1 p = 59) : PoQ V0 n p (some (.int 1)) V := by
  obtain ⟨h1, h2, h3, h4, h5, h6⟩ := h
  rw [Nat.sub_self] at h6
  exact ⟨true, p + 1 + mk, rfl, h1, h2, h4, (fun z => nomatch z), fun _ => ⟨by omega, h6, h3, by rw [hm, show p + 1 + mk - p - 1 = mk by omega], h59, fun j hj => h5 j (by omega)⟩⟩
theorem PoI.bad {V0 V : Vd} {n p mk j : Nat} (h : PoI V0 n p mk j V) (hj : j < mk) (hm3 : mk ≤ 3) (hb : ¬ (p + 1 + j < n ∧ wIn (V.2.2 1 (p + 1 + j)) 48 57)) : PoQ V0 n p (some (.int 0)) V := by
  obtain ⟨h1, h2, h3, h4, h5, h6⟩ := h
  refine ⟨false, p + 1 + j, rfl, h1, h2, h4, (fun _ => ?_), fun z => nomatch z⟩
  rw [h6]
  by_cases e : p + 1 + j = n
  · rw [e]
    exact tFa_nn (nI_ne0 (by omega) (by omega))
  · rw [tFa_dig (by omega) (by omega) (by omega), if_pos]
    rw [h1.2.2.2.2] at hb
    rcases Decidable.em (V0.2.2 1 (p + 1 + j) < 48) with z | z
    · exact Or.inl z
    · exact Or.inr (Decidable.by_contra (fun y => hb ⟨by omega, z, y⟩))
theorem PoI.next {V0 V : Vd} {n p mk j : Nat} (h : PoI V0 n p mk j V) (hj : j < mk) (hm3 : mk ≤ 3) (hb : p + 1 + j < n ∧ wIn (V.2.2 1 (p + 1 + j)) 48 57) : PoI V0 n p mk (j + 1) (mSc (mAr V 2 j (V.2.2 1 (p + 1 + j) - 48)) 5 (nI (p + 1 + (j + 1)))) := by
  obtain ⟨h1, h2, h3, h4, h5, h6⟩ := h
  have hb2 := hb
  rw [h1.2.2.2.2] at hb2
  refine ⟨(h1.dg).sc (Or.inl rfl), mSc_at, ((mSc_0 (by decide)).trans (mAr_0 (by decide))).trans h3, by omega, fun i hi => ?_, ?_⟩
  · rw [mSc_r (by decide)]
    by_cases e : i = j
    · subst e
      rw [mAr_at, h1.2.2.2.2]
      exact ⟨rfl, hb2.2⟩
    · rw [mAr_k e]
      exact h5 i (by omega)
  · rw [h6, tFa_dig hb.1 (by omega) (by omega), if_neg (fun z => z.elim hb2.2.1 hb2.2.2), show mk - j - 1 = mk - (j + 1) by omega]
    rfl
theorem m_irZ {G : xG} {M : xM} {pc : Nat} {ls : List (Nat × Value)} {s : xA} {m : Nat} {V : Vd} {Q : Option Value → Vd → Prop} {k : Nat} {x : Int32} {ty : FieldType} (hk : (mIn M)[k]? = some (pc, .ireturn, 1)) (hr : mRt M = some ty) (hn : narrow ty (.int x) = .int x) (hQ : Q (some (.int x)) V) : mE G M pc ls [.int x] s m V Q := x_iret hk hr hn ⟨V, rfl, hQ⟩
theorem l_poDig {G : xG} {s : xA} {m n p mk : Nat} {V0 : Vd} (hx : TxM n V0) (hm3 : mk ≤ 3) (hm : dOf (V0.2.2 1 p) = nI mk) (h59 : ¬ V0.2.2 1 p = 59) : ∀ (d j : Nat) (V : Vd) (ls : List (Nat × Value)), mk - j < d → j ≤ mk → PoI V0 n p mk j V → ls.lookup 0 = some (.ref m) → ls.lookup 1 = some (.int (nI mk)) → ls.lookup 2 = some (.int (nI j)) → mE G MX10_passesOrder 108 ls [] s m V (PoQ V0 n p) := by
  intro d
  induction d with
  | zero =>
    intro j V ls hd hj hI g0 g1 g2
    exact absurd hd (Nat.not_lt_zero _)
  | succ d ih =>
    intro j V ls hd hj hI g0 g1 g2
    have hx2 := hx.f hI.1
    have h80 := hx.1
    have hq := hI.2.2.2.1
    refine x_sub (ls' := [(0, .ref m), (1, .int (nI mk)), (2, .int (nI j))]) (by simp [*]) ?_
    refine x_iload_n (k := 55) rfl rfl ?_
    refine x_iload_n (k := 56) rfl rfl ?_
    refine x_icmp_ge (tgt := 160) (k := 57) rfl (by decide) (fun c110 => ?_) (fun c110 => ?_)
    · have e0 : j = mk := by
        have := (nI_leI (by omega) (by omega)).mp c110
        omega
      subst e0
      refine x_iconst (v := 1) (k := 84) rfl (by decide) ?_
      exact m_irZ (k := 85) rfl rfl rfl (hI.end_ hm h59)
    · have hin : j < mk := by
        have := mt (nI_leI (a := mk) (by omega) (b := j) (by omega)).mpr c110
        omega
      refine x_aload_n (k := 58) rfl rfl ?_
      refine x_bipush (v := 48) (k := 59) rfl (by decide) ?_
      refine x_bipush (v := 57) (k := 60) rfl (by decide) ?_
      refine m_callI (ci := 10) (k := 61) rfl (by rfl) (m_isHere hx.1 (by omega) hx2.2.1 hI.2.1 _ _) okX10_isHere viX10_isHere mlRX10_178 ⟨Nat.le_of_ble_eq_true rfl, Nat.le_of_ble_eq_true rfl⟩ (by exact Nat.le_of_ble_eq_true rfl) rfl rfl mG0 (by exact Nat.le_of_ble_eq_true rfl) ?_
      refine x_if_ne (tgt := 126) (k := 62) rfl (by decide) (fun c121 => ?_) (fun c121 => ?_)
      · replace c121 := bz_ne0 c121
        refine x_aload_n (k := 65) rfl rfl ?_
        refine m_getA (a := 4) (k := 66) rfl flRX10_20 rfl ?_
        refine x_iload_n (k := 67) rfl rfl ?_
        refine x_aload_n (k := 68) rfl rfl ?_
        refine m_getA (a := 3) (k := 69) rfl flRX10_16 rfl ?_
        refine x_aload_n (k := 70) rfl rfl ?_
        refine m_get (k := 71) rfl flRX10_172 rfl ?_
        refine x_top hI.2.1 ?_
        refine m_tat (k := 72) rfl rfl (by first | assumption | omega) ?_
        refine x_bipush (v := 48) (k := 73) rfl (by decide) ?_
        refine x_isub (k := 74) rfl ?_
        refine m_dput (k := 75) rfl rfl (by first | assumption | omega) ?_
        refine x_aload_n (k := 76) rfl rfl ?_
        refine x_dup (k := 77) rfl rfl ?_
        refine m_get (k := 78) rfl flRX10_172 rfl ?_
        refine x_iconst (v := 1) (k := 79) rfl (by decide) ?_
        refine x_iadd (k := 80) rfl ?_
        refine x_top (y := nI (p + 1 + (j + 1))) (by rw [mAr_0 (by decide), hI.2.1, nI_1]; rfl) ?_
        refine m_put (k := 81) rfl flRX10_172 ft10_5 (by decide) rfl ?_
        refine x_iinc (k := 82) rfl rfl (nI_1 j) (by decide) ?_
        refine x_goto (tgt := 108) (k := 83) rfl (by decide) ?_
        exact ih (j + 1) _ _ (by omega) (by omega) (hI.next hin hm3 c121) rfl rfl rfl
      · replace c121 := bz_eq0 c121
        refine x_iconst (v := 0) (k := 63) rfl (by decide) ?_
        exact m_irZ (k := 64) rfl rfl rfl (hI.bad hin hm3 c121)
theorem l_po87 {G : xG} {s : xA} {m n p : Nat} {V0 V : Vd} {c : Int32} {ls : List (Nat × Value)} (g0 : ls.lookup 0 = some (.ref m)) (hx : TxM n V0) (hp : p ≤ n) (hV : tF V0 V) (h5 : V.2.2 0 5 = nI p) (h6 : V.2.2 0 6 = c) (hc : c = if p < n then V0.2.2 1 p else 0) : mE G MX10_passesOrder 87 ls [.int (dOf c)] s m V (PoQ V0 n p) := by
  have h80 := hx.1
  refine x_sub (ls' := [(0, .ref m)]) (by simp [*]) ?_
  refine x_istore_n (k := 41) rfl (by decide) ?_
  refine x_iload_n (k := 42) rfl rfl ?_
  refine x_bipush (v := -9) (k := 43) rfl (by decide) ?_
  refine x_icmp_ne (tgt := 96) (k := 44) rfl (by decide) (fun c91 => ?_) (fun c91 => ?_)
  · have hpn : p < n := by
      by_cases e : p < n
      · exact e
      · rw [if_neg e] at hc
        exact absurd (show dOf c = -9 by rw [hc]; decide) c91
    rw [if_pos hpn] at hc
    obtain ⟨a, ha, ea⟩ := hx.2.2 p hpn
    obtain ⟨mk, hm3, hm, h59⟩ := dOf_m ha (by rw [← ea, ← hc]; exact c91)
    rw [← ea] at hm h59
    rw [hc, hm]
    refine x_sub (ls' := [(0, .ref m), (1, .int (nI mk))]) (by intro q hq; simp only [List.mem_cons, List.not_mem_nil, or_false] at hq; rcases hq with rfl | rfl <;> rfl) ?_
    refine x_aload_n (k := 47) rfl rfl ?_
    refine x_dup (k := 48) rfl rfl ?_
    refine m_get (k := 49) rfl flRX10_172 rfl ?_
    refine x_top h5 ?_
    refine x_iconst (v := 1) (k := 50) rfl (by decide) ?_
    refine x_iadd (k := 51) rfl ?_
    refine x_top (nI_1 p) ?_
    refine m_put (k := 52) rfl flRX10_172 ft10_5 (by decide) rfl ?_
    refine x_iconst (v := 0) (k := 53) rfl (by decide) ?_
    refine x_istore_n (k := 54) rfl (by decide) ?_
    exact l_poDig hx hm3 hm h59 (mk + 1) 0 _ _ (by omega) (by omega) ⟨hV.sc (Or.inl rfl), mSc_at, (mSc_0 (by decide)).trans (h6.trans hc), by omega, fun i hi => absurd hi (Nat.not_lt_zero i), by rw [tFa_let hpn, if_neg (by rw [← hc]; exact c91), hm]; rfl⟩ rfl rfl rfl
  · have hb : tFa (V0.2.2 1) n (n - p) (-1) = nI p := by
      by_cases e : p = n
      · subst e
        exact tFa_nn (by decide)
      · rw [if_pos (by omega)] at hc
        rw [tFa_let (by omega), ← hc, if_pos c91]
    refine x_iconst (v := 0) (k := 45) rfl (by decide) ?_
    exact m_irZ (k := 46) rfl rfl rfl ⟨false, p, rfl, hV, h5, hp, fun _ => hb, fun z => nomatch z⟩
theorem l_po28 {G : xG} {s : xA} {m n p : Nat} {V0 V : Vd} {c : Int32} (hx : TxM n V0) (hp : p ≤ n) (hV : tF V0 V) (h5 : V.2.2 0 5 = nI p) (hc : c = if p < n then V0.2.2 1 p else 0) : mE G MX10_passesOrder 28 [(0, .ref m)] [] s m (mSc V 6 c) (PoQ V0 n p) := by
  refine x_aload_n (k := 14) rfl rfl ?_
  refine m_get (k := 15) rfl flRX10_175 rfl ?_
  refine x_top (y := c) mSc_at ?_
  refine x_bipush (v := 103) (k := 16) rfl (by decide) ?_
  refine x_icmp_eq (tgt := 46) (k := 17) rfl (by decide) (fun c34 => ?_) (fun c34 => ?_)
  · have e : (3 : Int32) = dOf c := by rw [c34]; rfl
    refine x_iconst (v := 3) (k := 22) rfl (by decide) ?_
    refine x_goto (tgt := 87) (k := 23) rfl (by decide) ?_
    rw [e]
    exact l_po87 rfl hx hp (hV.sc (Or.inr rfl)) ((mSc_0 (by decide)).trans h5) mSc_at hc
  · refine x_aload_n (k := 18) rfl rfl ?_
    refine m_get (k := 19) rfl flRX10_175 rfl ?_
    refine x_top (y := c) mSc_at ?_
    refine x_bipush (v := 116) (k := 20) rfl (by decide) ?_
    refine x_icmp_ne (tgt := 50) (k := 21) rfl (by decide) (fun c43 => ?_) (fun c43 => ?_)
    · refine x_aload_n (k := 24) rfl rfl ?_
      refine m_get (k := 25) rfl flRX10_175 rfl ?_
      refine x_top (y := c) mSc_at ?_
      refine x_bipush (v := 112) (k := 26) rfl (by decide) ?_
      refine x_icmp_eq (tgt := 68) (k := 27) rfl (by decide) (fun c56 => ?_) (fun c56 => ?_)
      · have e : (2 : Int32) = dOf c := by rw [c56]; rfl
        refine x_iconst (v := 2) (k := 32) rfl (by decide) ?_
        refine x_goto (tgt := 87) (k := 33) rfl (by decide) ?_
        rw [e]
        exact l_po87 rfl hx hp (hV.sc (Or.inr rfl)) ((mSc_0 (by decide)).trans h5) mSc_at hc
      · refine x_aload_n (k := 28) rfl rfl ?_
        refine m_get (k := 29) rfl flRX10_175 rfl ?_
        refine x_top (y := c) mSc_at ?_
        refine x_bipush (v := 102) (k := 30) rfl (by decide) ?_
        refine x_icmp_ne (tgt := 72) (k := 31) rfl (by decide) (fun c65 => ?_) (fun c65 => ?_)
        · refine x_aload_n (k := 34) rfl rfl ?_
          refine m_get (k := 35) rfl flRX10_175 rfl ?_
          refine x_top (y := c) mSc_at ?_
          refine x_bipush (v := 104) (k := 36) rfl (by decide) ?_
          refine x_icmp_ne (tgt := 85) (k := 37) rfl (by decide) (fun c78 => ?_) (fun c78 => ?_)
          · have e : (-9 : Int32) = dOf c := by rw [dOf, if_neg (fun z => z.elim c34 c43), if_neg (fun z => z.elim c56 c65), if_neg c78]
            refine x_bipush (v := -9) (k := 40) rfl (by decide) ?_
            rw [e]
            exact l_po87 rfl hx hp (hV.sc (Or.inr rfl)) ((mSc_0 (by decide)).trans h5) mSc_at hc
          · have e : (0 : Int32) = dOf c := by rw [c78]; rfl
            refine x_iconst (v := 0) (k := 38) rfl (by decide) ?_
            refine x_goto (tgt := 87) (k := 39) rfl (by decide) ?_
            rw [e]
            exact l_po87 rfl hx hp (hV.sc (Or.inr rfl)) ((mSc_0 (by decide)).trans h5) mSc_at hc
        · have e : (2 : Int32) = dOf c := by rw [c65]; rfl
          refine x_iconst (v := 2) (k := 32) rfl (by decide) ?_
          refine x_goto (tgt := 87) (k := 33) rfl (by decide) ?_
          rw [e]
          exact l_po87 rfl hx hp (hV.sc (Or.inr rfl)) ((mSc_0 (by decide)).trans h5) mSc_at hc
    · have e : (3 : Int32) = dOf c := by rw [c43]; rfl
      refine x_iconst (v := 3) (k := 22) rfl (by decide) ?_
      refine x_goto (tgt := 87) (k := 23) rfl (by decide) ?_
      rw [e]
      exact l_po87 rfl hx hp (hV.sc (Or.inr rfl)) ((mSc_0 (by decide)).trans h5) mSc_at hc
theorem m_passesOrder {G : xG} {s : xA} {m : Nat} {V : Vd} {n p : Nat} (hx : TxM n V) (hp : p ≤ n) (h5 : V.2.2 0 5 = nI p) : mMe G MX10_passesOrder [.ref m] s m V (PoQ V n p) := by
  have h80 := hx.1
  refine x_aload_n (k := 0) rfl rfl ?_
  refine x_aload_n (k := 1) rfl rfl ?_
  refine m_get (k := 2) rfl flRX10_172 rfl ?_
  refine x_top h5 ?_
  refine x_aload_n (k := 3) rfl rfl ?_
  refine m_get (k := 4) rfl flRX10_169 rfl ?_
  refine x_top hx.2.1 ?_
  refine x_icmp_ge (tgt := 24) (k := 5) rfl (by decide) (fun c9 => ?_) (fun c9 => ?_)
  · have hpn : ¬ p < n := by
      have := (nI_leI (by omega) (by omega)).mp c9
      omega
    refine x_iconst (v := 0) (k := 12) rfl (by decide) ?_
    refine m_put (k := 13) rfl flRX10_175 ft10_6 (by decide) rfl ?_
    exact l_po28 hx hp tF.rf h5 (by first | exact (if_pos hpn).symm | exact (if_neg hpn).symm)
  · have hpn : p < n := by
      have := mt (nI_leI (a := n) (by omega) (b := p) (by omega)).mpr c9
      omega
    refine x_aload_n (k := 6) rfl rfl ?_
    refine m_getA (a := 3) (k := 7) rfl flRX10_16 rfl ?_
    refine x_aload_n (k := 8) rfl rfl ?_
    refine m_get (k := 9) rfl flRX10_172 rfl ?_
    refine x_top h5 ?_
    refine m_tat (k := 10) rfl rfl (by first | assumption | omega) ?_
    refine x_goto (tgt := 25) (k := 11) rfl (by decide) ?_
    refine m_put (k := 13) rfl flRX10_175 ft10_6 (by decide) rfl ?_
    exact l_po28 hx hp tF.rf h5 (by first | exact (if_pos hpn).symm | exact (if_neg hpn).symm)
def FoQ (V0 : Vd) (n : Nat) (v : Int32) : Option Value → Vd → Prop := fun r V' => r = some (.int v) ∧ tF V0 V' 
theorem l_fo58F {G : xG} {s : xA} {m n q : Nat} {V0 V : Vd} {v : Int32} {ls : List (Nat × Value)} (g0 : ls.lookup 0 = some (.ref m)) (hV : tF V0 V) (h5 : V.2.2 0 5 = nI q) (hv : v = nI q) : mE G MX10_faultOf 58 ls [.int 0] s m V (FoQ V0 n v) := by
  refine x_sub (ls' := [(0, .ref m)]) (by simp [*]) ?_
  refine x_if_ne (tgt := 17) (k := 30) rfl (by decide) (fun c58 => absurd c58 (by decide)) (fun c58 => ?_)
  refine x_aload_n (k := 31) rfl rfl ?_
  refine m_get (k := 32) rfl flRX10_172 rfl ?_
  refine x_top h5 ?_
  exact m_irZ (k := 33) rfl rfl rfl ⟨by rw [hv], hV⟩
theorem l_fo58T {G : xG} {s : xA} {m : Nat} {V : Vd} {Q : Option Value → Vd → Prop} {ls : List (Nat × Value)} (kk : mE G MX10_faultOf 17 ls [] s m V Q) : mE G MX10_faultOf 58 ls [.int 1] s m V Q := by
  refine x_if_ne (tgt := 17) (k := 30) rfl (by decide) (fun c58 => ?_) (fun c58 => absurd c58 (by decide))
  exact kk
theorem l_fo9F {G : xG} {s : xA} {m n q : Nat} {V0 V : Vd} {v : Int32} {ls : List (Nat × Value)} (g0 : ls.lookup 0 = some (.ref m)) (hV : tF V0 V) (h5 : V.2.2 0 5 = nI q) (hv : v = nI q) : mE G MX10_faultOf 9 ls [.int 0] s m V (FoQ V0 n v) := by
  refine x_sub (ls' := [(0, .ref m)]) (by simp [*]) ?_
  refine x_if_ne (tgt := 17) (k := 5) rfl (by decide) (fun c9 => absurd c9 (by decide)) (fun c9 => ?_)
  refine x_aload_n (k := 6) rfl rfl ?_
  refine m_get (k := 7) rfl flRX10_172 rfl ?_
  refine x_top h5 ?_
  exact m_irZ (k := 8) rfl rfl rfl ⟨by rw [hv], hV⟩
theorem l_fo9T {G : xG} {s : xA} {m : Nat} {V : Vd} {Q : Option Value → Vd → Prop} {ls : List (Nat × Value)} (kk : mE G MX10_faultOf 17 ls [] s m V Q) : mE G MX10_faultOf 9 ls [.int 1] s m V Q := by
  refine x_if_ne (tgt := 17) (k := 5) rfl (by decide) (fun c9 => ?_) (fun c9 => absurd c9 (by decide))
  exact kk
theorem l_fo {G : xG} {s : xA} {m n : Nat} {V0 : Vd} (hx : TxM n V0) : ∀ (d q : Nat) (V : Vd), n - q < d → q ≤ n → tF V0 V → V.2.2 0 5 = nI q → mE G MX10_faultOf 17 [(0, .ref m)] [] s m V (FoQ V0 n (tFa (V0.2.2 1) n (n - q) 0)) := by
  intro d
  induction d with
  | zero =>
    intro q V hd hq hV h5
    exact absurd hd (Nat.not_lt_zero _)
  | succ d ih =>
    intro q V hd hq hV h5
    have h80 := hx.1
    have hx2 := hx.f hV
    refine x_aload_n (k := 9) rfl rfl ?_
    refine m_get (k := 10) rfl flRX10_172 rfl ?_
    refine x_top h5 ?_
    refine x_aload_n (k := 11) rfl rfl ?_
    refine m_get (k := 12) rfl flRX10_169 rfl ?_
    refine x_top hx2.2.1 ?_
    refine x_icmp_ge (tgt := 66) (k := 13) rfl (by decide) (fun c25 => ?_) (fun c25 => ?_)
    · have e : q = n := by
        have := (nI_leI (by omega) (by omega)).mp c25
        omega
      subst e
      refine x_bipush (v := -9) (k := 34) rfl (by decide) ?_
      exact m_irZ (k := 35) rfl rfl rfl ⟨by rw [tFa_n0], hV⟩
    · have hqn : q < n := by
        have := mt (nI_leI (a := n) (by omega) (b := q) (by omega)).mpr c25
        omega
      refine x_aload_n (k := 14) rfl rfl ?_
      refine x_bipush (v := 59) (k := 15) rfl (by decide) ?_
      refine x_bipush (v := 59) (k := 16) rfl (by decide) ?_
      refine m_callI (ci := 10) (k := 17) rfl (by rfl) (m_isHere hx.1 (by omega) hx2.2.1 h5 _ _) okX10_isHere viX10_isHere mlRX10_178 ⟨Nat.le_of_ble_eq_true rfl, Nat.le_of_ble_eq_true rfl⟩ (by exact Nat.le_of_ble_eq_true rfl) rfl rfl mG0 (by exact Nat.le_of_ble_eq_true rfl) ?_
      refine x_if_ne (tgt := 44) (k := 18) rfl (by decide) (fun c36 => ?_) (fun c36 => ?_)
      · replace c36 := bz_ne0 c36
        have ys : V0.2.2 1 q = 59 := by
          rw [hV.2.2.2.2] at c36
          exact Int32.le_antisymm (Int32.not_lt.mp c36.2.2) (Int32.not_lt.mp c36.2.1)
        refine x_aload_n (k := 22) rfl rfl ?_
        refine x_dup (k := 23) rfl rfl ?_
        refine m_get (k := 24) rfl flRX10_172 rfl ?_
        refine x_top h5 ?_
        refine x_iconst (v := 1) (k := 25) rfl (by decide) ?_
        refine x_iadd (k := 26) rfl ?_
        refine x_top (nI_1 q) ?_
        refine m_put (k := 27) rfl flRX10_172 ft10_5 (by decide) rfl ?_
        have hV3 : tF V0 (mSc V 5 (nI (q + 1))) := hV.sc (Or.inl rfl)
        have hx3 := hx.f hV3
        refine x_aload_n (k := 28) rfl rfl ?_
        refine m_callX (ci := 10) (k := 29) rfl (by rfl) (m_passesOrder hx3 (p := q + 1) (by omega) mSc_at) okX10_passesOrder viX10_passesOrder mlRX10_182 ⟨Nat.le_of_ble_eq_true rfl, Nat.le_of_ble_eq_true rfl⟩ (by exact Nat.le_of_ble_eq_true rfl) rfl rfl mG0 (by exact Nat.le_of_ble_eq_true rfl) (fun r1 V1 q1 => ?_)
        obtain ⟨ok, q2, rfl, b1, b2, b3, b4, b5⟩ := q1
        rw [tFa_sep hqn, if_pos ys]
        rw [hV3.2.2.2.2] at b4 b5
        cases ok with
        | false => exact l_fo58F rfl (hV3.tr b1) b2 (b4 rfl)
        | true =>
          obtain ⟨b6, b7, -⟩ := b5 rfl
          rw [b7]
          exact l_fo58T (ih q2 V1 (by omega) b3 (hV3.tr b1) b2)
      · replace c36 := bz_eq0 c36
        have ns : ¬ V0.2.2 1 q = 59 := fun z => c36 ⟨hqn, by rw [hV.2.2.2.2, z]; decide⟩
        refine x_aload_n (k := 19) rfl rfl ?_
        refine m_get (k := 20) rfl flRX10_172 rfl ?_
        refine x_top h5 ?_
        exact m_irZ (k := 21) rfl rfl rfl ⟨by rw [tFa_sep hqn, if_neg ns], hV⟩
theorem m_faultOf {G : xG} {s : xA} {m : Nat} {V : Vd} {n : Nat} (hx : TxM n V) : mMe G MX10_faultOf [.ref m] s m V (FoQ V n (tFa (V.2.2 1) n n (-1))) := by
  refine x_aload_n (k := 0) rfl rfl ?_
  refine x_iconst (v := 0) (k := 1) rfl (by decide) ?_
  refine m_put (k := 2) rfl flRX10_172 ft10_5 (by decide) rfl ?_
  have hV3 : tF V (mSc V 5 0) := tF.rf.sc (Or.inl rfl)
  have hx3 := hx.f hV3
  refine x_aload_n (k := 3) rfl rfl ?_
  refine m_callX (ci := 10) (k := 4) rfl (by rfl) (m_passesOrder hx3 (p := 0) (Nat.zero_le n) mSc_at) okX10_passesOrder viX10_passesOrder mlRX10_182 ⟨Nat.le_of_ble_eq_true rfl, Nat.le_of_ble_eq_true rfl⟩ (by exact Nat.le_of_ble_eq_true rfl) rfl rfl mG0 (by exact Nat.le_of_ble_eq_true rfl) (fun r1 V1 q1 => ?_)
  obtain ⟨ok, q2, rfl, b1, b2, b3, b4, b5⟩ := q1
  rw [hV3.2.2.2.2, Nat.sub_zero] at b4 b5
  cases ok with
  | false => exact l_fo9F rfl (hV3.tr b1) b2 (b4 rfl)
  | true =>
    obtain ⟨b6, b7, -⟩ := b5 rfl
    rw [b7]
    exact l_fo9T (l_fo hx (n - q2 + 1) q2 V1 (by omega) b3 (hV3.tr b1) b2)
