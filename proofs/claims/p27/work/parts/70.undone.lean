-- ===== the law's own methods: what is undone, what was taken =====
section UNDO
variable {G : xG} {t t1 : xA} {own own1 : Nat → Nat} {a B : Nat} {D D1 : OD} {c : Cl} {H1 : HD}
theorem kept_n {H H' : HD} {S : SD} (h : KeptH H S H') : H'.2.1 = min (H.2.1 + 1) 5 := by
  obtain ⟨σ, W1, rw1, fl1, Wr1, rfl, -⟩ := h
  rfl
theorem g_c14 (h : Ob G t own a D) {k : Nat} (e : D.2.1.2.1 = k) : xMe G MX9_count [.ref a, .int 14] t (nuQ t (nI k)) := by
  have g := c_count h (q := 14) (by decide)
  rw [show sCnt D 14 = nI k from congrArg nI e] at g
  exact g
theorem IvD.fl (hJ : IvD B D) : ∀ i, i < 2 → D.1.2.2.1 i = 0 ∨ D.1.2.2.1 i = 1 := fun i hi => (hJ.2 i hi).imp id (fun z => z.1)
theorem IvD.up {B' : Nat} (hJ : IvD B D) (hb : B ≤ B') : IvD B' D := ⟨hJ.1.up hb, fun i hi => (hJ.2 i hi).imp id (fun z => ⟨z.1, z.2.up hb⟩)⟩
/-- what is so behind a call that is no error -/
def TnQ (B : Nat) (D : OD) (c : Cl) (D2 : OD) : Prop := IvD (B + 1) D2 ∧ D2.2.1.2.1 = min (D.2.1.2.1 + 1) 5 ∧ (c.1 < 9 → HSt (2 ≤ c.1 ∧ c.1 ≤ 5) (cK D.1.1) D.1.1 D2.1.1 ∧ cK D.1.1 ≤ cK D2.1.1)
theorem tn_mk (hJ : IvD B D) (hB : B < 512) (hF : ¬ dF D c < 0) (hK : KeptH D.2.1 D.1 H1) : TnQ B D c ((dN D c, D.1.2), H1, D.2.2) ∧ ¬ dA D c < 0 := by
  obtain ⟨⟨hr, f, nt, nk, sz, j1, j2⟩, hS⟩ := id hJ
  obtain ⟨hr', f', nt', nk', sz', g1, g2, g3, g4⟩ := a_ok (c := c) j1 j2 hB hS hF
  refine ⟨⟨⟨⟨hr', f', nt', nk', sz', g1, g2⟩, (hJ.up (Nat.le_succ B)).2⟩, kept_n hK, fun z => ?_⟩, ?_⟩
  · obtain ⟨g5, g6⟩ := g4 z
    rw [j1.1.cK]
    refine ⟨g6, ?_⟩
    show nk ≤ cK (dN D c)
    rw [g1.1.cK]
    exact g5
  · show ¬ foR (dF D c) (dV D c) < 0
    rw [foR_o hF]
    exact g3
/-- alike, in what is in use -/
def AlD (D1 D : OD) : Prop := wEq D1.1.1 D.1.1 ∧ ∀ i, i < 2 → D1.1.2.2.1 i = D.1.2.2.1 i ∧ (D.1.2.2.1 i = 1 → wEq (D1.1.2.2.2 i) (D.1.2.2.2 i))
theorem AlD.iv (h : AlD D1 D) (hJ : IvD B D) : IvD B D1 := ⟨hJ.1.cp h.1, fun i hi => by
  obtain ⟨e1, e2⟩ := h.2 i hi
  rcases hJ.2 i hi with z | ⟨z, y⟩
  · exact Or.inl (e1.trans z)
  · exact Or.inr ⟨e1.trans z, y.cp (e2 z)⟩⟩
theorem AlD.an (h : AlD D1 D) (hJ : IvD B D) (hB : B < 512) (c : Cl) : dF D1 c = dF D c ∧ (¬ dF D c < 0 → dA D1 c = dA D c) := by
  obtain ⟨⟨hr, f, nt, nk, sz, j1, j2⟩, hS⟩ := id hJ
  obtain ⟨e1, e2⟩ := a_same (c := c) j1 (by omega) h.1 h.2 hJ.fl
  refine ⟨e1, fun z => ?_⟩
  show foR (dF D1 c) (dV D1 c) = foR (dF D c) (dV D c)
  rw [foR_o z, foR_o (by rw [show dF D1 c = dF D c from e1]; exact z)]
  exact e2 z
theorem AlD.vw (h : AlD D1 D) (hJ : IvD B D) : sVw D1.1.1 = sVw D.1.1 := by
  obtain ⟨⟨hr, f, nt, nk, sz, j1, j2⟩, hS⟩ := id hJ
  exact sVw_eq h.1 j1.1
theorem prA_eq {hr f nt nk k q : Nat} {R V : Wd} (s : SF nt nk R V) (hG : Gd hr f nt nk V) (hq : q < 11) : prA R k q = prA V k q := by
  unfold prA
  rw [s.cK, hG.cK]
  by_cases z : k < nk
  · rw [if_pos z, if_pos z, s.par hG z hq]
  · rw [if_neg z, if_neg z]
theorem AlD.tu (h : AlD D1 D) (hJ : IvD B D) (w : Nat) (x y : Int32) : sTurn D1.1.1 w x y = sTurn D.1.1 w x y := by
  obtain ⟨⟨hr, f, nt, nk, sz, j1, j2⟩, hS⟩ := id hJ
  have s := h.1.sf j1.1
  have ek : tPk D1.1.1 x = tPk D.1.1 x := by unfold tPk; rw [s.cK]
  have eh : tH D1.1.1 x = tH D.1.1 x := by unfold tH; rw [ek, prA_eq s j1.1 (by decide)]
  have ep : sPer D1.1.1 (tOt y) 2 = sPer D.1.1 (tOt y) 2 := s.per j1.1 (sUp_lt (by decide))
  have e9 : prA D1.1.1 (tPk D.1.1 x) 9 = prA D.1.1 (tPk D.1.1 x) 9 := prA_eq s j1.1 (by decide)
  have e8 : prA D1.1.1 (tPk D.1.1 x) 8 = prA D.1.1 (tPk D.1.1 x) 8 := prA_eq s j1.1 (by decide)
  unfold sTurn
  split
  · unfold tOf; rw [ep]
  · unfold tOf; rw [ep]
  · rfl
  · rfl
  · rfl
  · unfold tGa; rw [eh, ek, e9]
  · unfold tGa; rw [eh, ek, e9]
  · unfold tTo; rw [eh, ek, e8]
  · unfold tTo; rw [eh, ek, e8]
  · unfold tG9; rw [eh, ek]
  · unfold tT10; rw [eh, ek]
  · rw [eh, ek]
  · rw [ek]
  · rw [ek]
  · rfl
  · rfl
/-- undo behind an action -/
theorem un_kept (h : Ob G t1 own1 a D1) (hJ : IvD B D) (hK : KeptH D.2.1 D.1 D1.2.1) {k : Nat} (hk : D1.2.1.2.1 = k + 1) : xMe G MX9_undo [.ref a] t1 (fun r t2 => r = some (.int (nI k)) ∧ ∃ (own2 : Nat → Nat) (D2 : OD), Ob G t2 own2 a D2 ∧ AlD D2 D ∧ D2.2.1.2.1 = k ∧ Did t1 t2 own1 own2 clsT 80 1620) := by
  obtain ⟨σ, W1, rw1, fl1, Wr1, eH, e1, e2⟩ := hK
  have hr : D1.2.1.2.2.1 D1.2.1.1 = some σ := by
    rw [eH]
    exact if_pos rfl
  refine (c_undo h hk hr).mono (fun r t2 q => ?_)
  obtain ⟨q0, own2, S2, q1, q2, q3, q4⟩ := q
  obtain ⟨⟨hr, f, nt, nk, sz, j1, j2⟩, hS⟩ := id hJ
  refine ⟨q0, own2, _, q1, ⟨?_, fun i hi => ?_⟩, rfl, q4⟩
  · refine wEq.tr ?_ e1 j1.1
    rw [eH] at q2
    have q2' : wEq S2.1 (upW D.2.1.2.2.2.1 ((D.2.1.1 + 1) % 5) W1 ((D.2.1.1 + 1) % 5)) := q2
    rw [upW_at] at q2'
    exact q2'
  · obtain ⟨a1, a2⟩ := q3 i hi
    rw [eH] at a1 a2
    have a1' : S2.2.2.1 i = upW D.2.1.2.2.2.2.2.1 ((D.2.1.1 + 1) % 5) fl1 ((D.2.1.1 + 1) % 5) i := a1
    have a2' : upW D.2.1.2.2.2.2.2.1 ((D.2.1.1 + 1) % 5) fl1 ((D.2.1.1 + 1) % 5) i = 1 → wEq (S2.2.2.2 i) (upW D.2.1.2.2.2.2.2.2 ((D.2.1.1 + 1) % 5) Wr1 ((D.2.1.1 + 1) % 5) i) := a2
    rw [upW_at] at a1'
    rw [upW_at, upW_at] at a2'
    obtain ⟨b1, b2⟩ := e2 i hi
    refine ⟨a1'.trans b1, fun z => ?_⟩
    rcases hJ.2 i hi with y | ⟨y, hr2, f2, nt2, nk2, sz2, g1, g2⟩
    · rw [z] at y
      exact absurd y (by decide)
    · exact wEq.tr (a2' (b1.trans z)) (b2 z) g1.1
theorem tn_al {D2 : OD} (hA : AlD D2 D) (hJ : IvD B D) (hB : B < 512) (hF : ¬ dF D2 c < 0) (hK : KeptH D2.2.1 D2.1 H1) (hn : H1.2.1 = min (D.2.1.2.1 + 1) 5) : TnQ B D c ((dN D2 c, D2.1.2), H1, D2.2.2) := by
  obtain ⟨⟨g1, g2, g3⟩, -⟩ := tn_mk (hA.iv hJ) hB hF hK
  refine ⟨g1, hn, fun z => ?_⟩
  obtain ⟨g4, g5⟩ := g3 z
  obtain ⟨⟨hr, f, nt, nk, sz, j1, j2⟩, hS⟩ := id hJ
  have s := hA.1.sf j1.1
  rw [s.cK, j1.1.cK] at g4 g5
  rw [j1.1.cK]
  refine ⟨?_, g5⟩
  rcases g4 with q | ⟨q1, q2⟩
  · exact Or.inl (fun k hk => (q k hk).trans (s.2.2.2 k 6 hk (by decide)))
  · exact Or.inr ⟨q1, q2.trans (by rw [s.1 2 (by decide)])⟩
theorem c_isUndone (h : Ob G t1 own1 a D1) (hJ : IvD B D) (hB : B < 512) {w : Nat} (hw : w < 16) {x y : Int32} (ec : sTurn D.1.1 w x y = c) (hF : ¬ dF D c < 0) (hK : KeptH D.2.1 D.1 D1.2.1) : xMe G ML_isUndone [.ref a, .int (nI w), .int x, .int y, .int (dA D c), .long (sVw D.1.1)] t1 (fun r t3 => r = some (.int 1) ∧ ∃ (own3 : Nat → Nat) (D3 : OD), Ob G t3 own3 a D3 ∧ TnQ B D c D3 ∧ Did t1 t3 own1 own3 clsT 203 4057) := by
  have h5 : D.2.1.2.1 ≤ 5 ∨ True := Or.inr trivial
  have en := kept_n hK
  obtain ⟨k, hk⟩ : ∃ k, D1.2.1.2.1 = k + 1 := ⟨D1.2.1.2.1 - 1, by omega⟩
  have hk5 : k + 1 ≤ 5 := by omega
  refine x_sub (ls' := [(0, .ref a), (1, .int (nI w)), (2, .int x), (3, .int y), (4, .int (dA D c)), (5, .long (sVw D.1.1))]) (by intro q hq; simp only [List.mem_cons, List.not_mem_nil, or_false] at hq; rcases hq with rfl | rfl | rfl | rfl | rfl | rfl <;> rfl) ?_
  refine x_aload_n (k := 0) rfl rfl ?_
  refine x_bipush (v := 14) (k := 1) rfl (by decide) ?_
  refine x_cVI (ci := 9) (k := 2) rfl (by rfl) (g_c14 h hk) okX9_count viX9_count mlRL_13 ⟨Nat.le_of_ble_eq_true rfl, Nat.le_of_ble_eq_true rfl⟩ (by exact Nat.le_of_ble_eq_true rfl) rfl rfl h.1.1 (by exact Nat.le_of_ble_eq_true rfl) ?_
  refine x_istore (k := 3) rfl (by decide) ?_
  refine x_aload_n (k := 4) rfl rfl ?_
  refine x_cX (ci := 9) (k := 5) rfl (by rfl) (un_kept h hJ hK hk) okX9_undo viX9_undo mlRL_77 ⟨Nat.le_of_ble_eq_true rfl, Nat.le_of_ble_eq_true rfl⟩ (by exact Nat.le_of_ble_eq_true rfl) rfl rfl h.1.1 (by exact Nat.le_of_ble_eq_true rfl) ?_
  intro r t2 q
  obtain ⟨rfl, own2, D2, h2, hA, e2, d2⟩ := q
  have hJ2 := hA.iv hJ
  obtain ⟨eF, eA⟩ := hA.an hJ hB c
  have kt := c_turn h2 hJ2 hB hw x y
  rw [(hA.tu hJ w x y).trans ec] at kt
  refine x_iload (k := 6) rfl rfl ?_
  refine x_iconst (v := 1) (k := 7) rfl (by decide) ?_
  refine x_isub (k := 8) rfl ?_
  refine x_icmp_ne (tgt := 69) (k := 9) rfl (by decide) (fun c16 => absurd (nI_pred k).symm c16) (fun c16 => ?_)
  refine x_aload_n (k := 10) rfl rfl ?_
  refine x_bipush (v := 14) (k := 11) rfl (by decide) ?_
  refine x_cVI (ci := 9) (k := 12) rfl (by rfl) (g_c14 h2 e2) okX9_count viX9_count mlRL_13 ⟨Nat.le_of_ble_eq_true rfl, Nat.le_of_ble_eq_true rfl⟩ (by exact Nat.le_of_ble_eq_true rfl) rfl rfl h2.1.1 (by exact Nat.le_of_ble_eq_true rfl) ?_
  refine x_iload (k := 13) rfl rfl ?_
  refine x_iconst (v := 1) (k := 14) rfl (by decide) ?_
  refine x_isub (k := 15) rfl ?_
  refine x_icmp_ne (tgt := 69) (k := 16) rfl (by decide) (fun c29 => absurd (nI_pred k).symm c29) (fun c29 => ?_)
  refine x_aload_n (k := 17) rfl rfl ?_
  refine x_sL (k := 18) rfl (by rfl) (c_view h2 hJ2) okL_view viL_view mlRL_81 ⟨Nat.le_of_ble_eq_true rfl, Nat.le_of_ble_eq_true rfl⟩ (by exact Nat.le_of_ble_eq_true rfl) rfl (by exact Nat.le_of_ble_eq_true rfl) ?_
  refine x_lload (k := 19) rfl rfl ?_
  refine x_lcmp (k := 20) rfl ?_
  refine x_if_ne (tgt := 69) (k := 21) rfl (by decide) (fun c39 => absurd ((lg_cmp_eq _ _).mpr (hA.vw hJ)) c39) (fun c39 => ?_)
  refine x_aload_n (k := 22) rfl rfl ?_
  refine x_iload_n (k := 23) rfl rfl ?_
  refine x_iload_n (k := 24) rfl rfl ?_
  refine x_iload_n (k := 25) rfl rfl ?_
  refine x_sX (k := 26) rfl (by rfl) (kt) okL_turn viL_turn mlRL_85 ⟨Nat.le_of_ble_eq_true rfl, Nat.le_of_ble_eq_true rfl⟩ (by exact Nat.le_of_ble_eq_true rfl) rfl (by exact Nat.le_of_ble_eq_true rfl) ?_
  intro r t3 q
  have e3 := q.1
  subst e3
  rcases q.2 with ⟨z, -⟩ | ⟨z, own3, H3, h3, k3, d3⟩
  · exact absurd z (by rw [eF]; exact hF)
  have e5 : H3.2.1 = k + 1 := by rw [kept_n k3, e2]; omega
  refine x_iload (k := 27) rfl rfl ?_
  refine x_icmp_ne (tgt := 69) (k := 28) rfl (by decide) (fun c51 => absurd (eA hF) c51) (fun c51 => ?_)
  refine x_aload_n (k := 29) rfl rfl ?_
  refine x_bipush (v := 14) (k := 30) rfl (by decide) ?_
  refine x_cVI (ci := 9) (k := 31) rfl (by rfl) (g_c14 h3 e5) okX9_count viX9_count mlRL_13 ⟨Nat.le_of_ble_eq_true rfl, Nat.le_of_ble_eq_true rfl⟩ (by exact Nat.le_of_ble_eq_true rfl) rfl rfl h3.1.1 (by exact Nat.le_of_ble_eq_true rfl) ?_
  refine x_iload (k := 32) rfl rfl ?_
  refine x_icmp_ne (tgt := 69) (k := 33) rfl (by decide) (fun c62 => absurd rfl c62) (fun c62 => ?_)
  refine x_iconst (v := 1) (k := 34) rfl (by decide) ?_
  refine x_goto (tgt := 70) (k := 35) rfl (by decide) ?_
  exact x_iret (k := 37) rfl rfl rfl ⟨rfl, own3, _, h3, tn_al hA hJ hB z k3 (by rw [e5, ← hk, en]), d2.tr d3 (fun _ z => z) (fun _ z => z) (by decide) (by decide)⟩
/-- the snapshot in a slot is of the world W -/
def SnD (D : OD) (i : Nat) (V : Wd) : Prop := D.1.2.2.1 i = 1 ∧ wEq (D.1.2.2.2 i) V
theorem tk_iv {i : Nat} {rw1 : Nat → Option Nat} {R : Wd} (hJ : IvD B D) : IvD B ((D.1.1, rw1, upd D.1.2.2.1 i 1, up1 D.1.2.2.2 i (sCopy R D.1.1)), H1, D.2.2) ∧ SnD ((D.1.1, rw1, upd D.1.2.2.1 i 1, up1 D.1.2.2.2 i (sCopy R D.1.1)), H1, D.2.2) i D.1.1 := by
  have e1 : upd D.1.2.2.1 i 1 i = 1 := upd_at
  have e2 : up1 D.1.2.2.2 i (sCopy R D.1.1) i = sCopy R D.1.1 := if_pos rfl
  refine ⟨⟨hJ.1, fun j hj => ?_⟩, e1, ?_⟩
  · by_cases z : j = i
    · subst z
      refine Or.inr ⟨e1, ?_⟩
      show JB B (up1 D.1.2.2.2 j (sCopy R D.1.1) j)
      rw [e2]
      exact hJ.1.cp (sCopy_eq _ _)
    · have a1 : upd D.1.2.2.1 i 1 j = D.1.2.2.1 j := upd_ne z
      have a2 : up1 D.1.2.2.2 i (sCopy R D.1.1) j = D.1.2.2.2 j := if_neg z
      show upd D.1.2.2.1 i 1 j = 0 ∨ (upd D.1.2.2.1 i 1 j = 1 ∧ JB B (up1 D.1.2.2.2 i (sCopy R D.1.1) j))
      rw [a1, a2]
      exact hJ.2 j hj
  · show wEq (up1 D.1.2.2.2 i (sCopy R D.1.1) i) D.1.1
    rw [e2]
    exact sCopy_eq _ _
theorem c_isTaken (h : Ob G t own a D) (hJ : IvD B D) (hB : B + 2 < 512) {x y : Int32} : xMe G ML_isTaken [.ref a, .int x, .int y] t (fun r t3 => r = some (.int 1) ∧ ∃ (own3 : Nat → Nat) (D3 : OD), Ob G t3 own3 a D3 ∧ IvD (B + 2) D3 ∧ Did t t3 own own3 clsT 409 8121) := by
  obtain ⟨i, hi, ei⟩ : ∃ i : Nat, i < 2 ∧ x &&& 1 = nI i := ⟨_, Nat.mod_lt _ (by decide), pk_and x 1 (by decide +kernel)⟩
  have eix : ix (nI i) = i := nI_clamp (by omega)
  have hwi : wIn (nI i) 0 1 := ⟨nI_pos (by omega), nI_nlt (a := 1) (b := i) (by omega) (by omega)⟩
  have hw : sUp y 14 < 16 := Nat.lt_trans (sUp_lt (by decide)) (by decide)
  obtain ⟨⟨hr, f, nt, nk, sz, j1, j2⟩, -⟩ := id hJ
  have e0 := j1.1.1.2.1
  refine x_aload_n (k := 0) rfl rfl ?_
  refine x_sL (k := 1) rfl (by rfl) (c_view h hJ) okL_view viL_view mlRL_81 ⟨Nat.le_of_ble_eq_true rfl, Nat.le_of_ble_eq_true rfl⟩ (by exact Nat.le_of_ble_eq_true rfl) rfl (by exact Nat.le_of_ble_eq_true rfl) ?_
  refine x_lstore_n (k := 2) rfl (by decide) ?_
  refine x_aload_n (k := 3) rfl rfl ?_
  refine x_iload_n (k := 4) rfl rfl ?_
  refine x_iconst (v := 1) (k := 5) rfl (by decide) ?_
  refine x_iand (k := 6) rfl ?_
  rw [ei]
  refine x_cX (ci := 9) (k := 7) rfl (by rfl) (c_take h hi) okX9_take viX9_take mlRL_89 ⟨Nat.le_of_ble_eq_true rfl, Nat.le_of_ble_eq_true rfl⟩ (by exact Nat.le_of_ble_eq_true rfl) rfl rfl h.1.1 (by exact Nat.le_of_ble_eq_true rfl) ?_
  intro r t1 q
  obtain ⟨rfl, own1, H1, rw1, R, h1, k1, d1⟩ := q
  obtain ⟨hJ1, hs1⟩ := tk_iv (H1 := H1) (rw1 := rw1) (R := R) (i := i) hJ
  generalize eD1 : ((D.1.1, rw1, upd D.1.2.2.1 i 1, up1 D.1.2.2.2 i (sCopy R D.1.1)), H1, D.2.2) = D1 at h1 hJ1 hs1
  have e1 : D1.1.1 3 0 0 = nI hr := by rw [← eD1]; exact e0
  rw [e0]
  refine x_aload_n (k := 8) rfl rfl ?_
  refine x_iconst (v := 0) (k := 9) rfl (by decide) ?_
  refine x_cVI (ci := 9) (k := 10) rfl (by rfl) (g_c0 h1 e1) okX9_count viX9_count mlRL_13 ⟨Nat.le_of_ble_eq_true rfl, Nat.le_of_ble_eq_true rfl⟩ (by exact Nat.le_of_ble_eq_true rfl) rfl rfl h1.1.1 (by exact Nat.le_of_ble_eq_true rfl) ?_
  refine x_icmp_eq (tgt := 22) (k := 11) rfl (by decide) (fun c17 => ?_) (fun c17 => absurd rfl c17)
  refine x_aload_n (k := 14) rfl rfl ?_
  refine x_iload_n (k := 15) rfl rfl ?_
  refine x_bipush (v := 14) (k := 16) rfl (by decide) ?_
  refine x_sD (k := 17) rfl (by rfl) (c_up (m := 14) (by decide) (by decide)) okL_up viL_up mlRL_59 ⟨Nat.le_of_ble_eq_true rfl, Nat.le_of_ble_eq_true rfl⟩ (by exact Nat.le_of_ble_eq_true rfl) rfl (by exact Nat.le_of_ble_eq_true rfl) ?_
  refine x_iload_n (k := 18) rfl rfl ?_
  refine x_iload_n (k := 19) rfl rfl ?_
  refine x_sX (k := 20) rfl (by rfl) (c_turn h1 hJ1 (by omega) hw y x) okL_turn viL_turn mlRL_85 ⟨Nat.le_of_ble_eq_true rfl, Nat.le_of_ble_eq_true rfl⟩ (by exact Nat.le_of_ble_eq_true rfl) rfl (by exact Nat.le_of_ble_eq_true rfl) ?_
  intro r t2 q
  have e2 := q.1
  subst e2
  obtain ⟨own2, D2, h2, hJ2, hs2, d2⟩ : ∃ (own2 : Nat → Nat) (D2 : OD), Ob G t2 own2 a D2 ∧ IvD (B + 1) D2 ∧ SnD D2 i D.1.1 ∧ Did t1 t2 own1 own2 clsT 123 2437 := by
    rcases q.2 with ⟨z, rfl⟩ | ⟨z, own2, H2, h2, k2, d2⟩
    · exact ⟨own1, D1, h1, hJ1.up (Nat.le_succ B), hs1, Did.rf⟩
    · exact ⟨own2, _, h2, (tn_mk hJ1 (by omega) z k2).1.1, hs1, d2⟩
  have er : ¬ dF D2 (9, ar [nI i]) < 0 := by
    show ¬ (if ¬ wIn (nI i) 0 1 then -1 else if D2.1.2.2.1 (ix (nI i)) = 0 then (-2 : Int32) else 0) < 0
    rw [if_neg (Decidable.not_not.mpr hwi), eix, hs2.1]
    decide
  have ev : dA D2 (9, ar [nI i]) = nI hr := by
    show foR (dF D2 (9, ar [nI i])) (D2.1.2.2.2 (ix (nI i)) 3 0 0) = nI hr
    rw [foR_o er, eix, hs2.2.1 0 (by decide), e0]
  refine x_pop (k := 21) rfl rfl ?_
  refine x_aload_n (k := 22) rfl rfl ?_
  refine x_iload_n (k := 23) rfl rfl ?_
  refine x_iconst (v := 1) (k := 24) rfl (by decide) ?_
  refine x_iand (k := 25) rfl ?_
  rw [ei]
  refine x_cX (ci := 9) (k := 26) rfl (by rfl) (ca_restore h2 hJ2 (by omega) (nI i)) okX9_restore viX9_restore mlRL_67 ⟨Nat.le_of_ble_eq_true rfl, Nat.le_of_ble_eq_true rfl⟩ (by exact Nat.le_of_ble_eq_true rfl) rfl rfl h2.1.1 (by exact Nat.le_of_ble_eq_true rfl) ?_
  intro r t3 q
  have e3 := q.1
  subst e3
  rcases q.2 with ⟨z, -⟩ | ⟨z, own3, H3, h3, k3, d3⟩
  · exact absurd z er
  rw [ev]
  have hJ3 := (tn_mk hJ2 (by omega) z k3).1.1
  have ew : wEq (dN D2 (9, ar [nI i])) D.1.1 := by
    show wEq (sCopy D2.1.1 (D2.1.2.2.2 (ix (nI i)))) D.1.1
    rw [eix]
    exact wEq.tr (sCopy_eq _ _) hs2.2 j1.1
  have e4 : dN D2 (9, ar [nI i]) 3 0 0 = nI hr := (ew.1 0 (by decide)).trans e0
  refine x_aload_n (k := 27) rfl rfl ?_
  refine x_iconst (v := 0) (k := 28) rfl (by decide) ?_
  refine x_cVI (ci := 9) (k := 29) rfl (by rfl) (g_c0 h3 e4) okX9_count viX9_count mlRL_13 ⟨Nat.le_of_ble_eq_true rfl, Nat.le_of_ble_eq_true rfl⟩ (by exact Nat.le_of_ble_eq_true rfl) rfl rfl h3.1.1 (by exact Nat.le_of_ble_eq_true rfl) ?_
  refine x_icmp_ne (tgt := 63) (k := 30) rfl (by decide) (fun c47 => absurd rfl c47) (fun c47 => ?_)
  refine x_aload_n (k := 31) rfl rfl ?_
  refine x_sL (k := 32) rfl (by rfl) (c_view h3 hJ3) okL_view viL_view mlRL_81 ⟨Nat.le_of_ble_eq_true rfl, Nat.le_of_ble_eq_true rfl⟩ (by exact Nat.le_of_ble_eq_true rfl) rfl (by exact Nat.le_of_ble_eq_true rfl) ?_
  refine x_lload_n (k := 33) rfl rfl ?_
  refine x_lcmp (k := 34) rfl ?_
  refine x_if_ne (tgt := 63) (k := 35) rfl (by decide) (fun c56 => absurd ((lg_cmp_eq _ _).mpr (sVw_eq ew j1.1)) c56) (fun c56 => ?_)
  refine x_iconst (v := 1) (k := 36) rfl (by decide) ?_
  refine x_goto (tgt := 64) (k := 37) rfl (by decide) ?_
  exact x_iret (k := 39) rfl rfl rfl ⟨rfl, own3, _, h3, hJ3, (d1.tr d2 (fun _ z => z) (fun _ z => z) (by decide) (by decide) : Did t t2 own own2 clsT 286 5684).tr d3 (fun _ z => z) (fun _ z => z) (by decide) (by decide)⟩
end UNDO
