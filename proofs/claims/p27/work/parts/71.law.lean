-- ===== the law =====
theorem tu_9 {W : Wd} {w : Nat} {x y : Int32} (hw : w < 16) (h : w = 14 → x &&& 1 = 0) : (sTurn W w x y).1 < 9 := by
  have a9 : ∀ n : Nat, (tAnN n x y).1 < 9 := fun n => by
    unfold tAnN
    split <;> exact Nat.le_of_ble_eq_true rfl
  have a8 : x &&& 1 = 0 → (tBk x y).1 < 9 := fun z => by
    unfold tBk
    rw [if_pos z]
    exact Nat.le_of_ble_eq_true rfl
  match w, hw, h with
  | 0, _, _ => exact Nat.le_of_ble_eq_true rfl
  | 1, _, _ => exact Nat.le_of_ble_eq_true rfl
  | 2, _, _ => exact Nat.le_of_ble_eq_true rfl
  | 3, _, _ => exact Nat.le_of_ble_eq_true rfl
  | 4, _, _ => exact Nat.le_of_ble_eq_true rfl
  | 5, _, _ => exact Nat.le_of_ble_eq_true rfl
  | 6, _, _ => exact Nat.le_of_ble_eq_true rfl
  | 7, _, _ => exact Nat.le_of_ble_eq_true rfl
  | 8, _, _ => exact Nat.le_of_ble_eq_true rfl
  | 9, _, _ => exact Nat.le_of_ble_eq_true rfl
  | 10, _, _ => exact Nat.le_of_ble_eq_true rfl
  | 11, _, _ => exact Nat.le_of_ble_eq_true rfl
  | 12, _, _ => exact Nat.le_of_ble_eq_true rfl
  | 13, _, _ => exact Nat.le_of_ble_eq_true rfl
  | 14, _, h => exact a8 (h rfl)
  | 15, _, _ => exact a9 _
  | j + 16, hw, _ => exact absurd hw (by omega)
theorem tu_hv {W : Wd} {w : Nat} {x y : Int32} (hw : w < 16) (h : 2 ≤ (sTurn W w x y).1 ∧ (sTurn W w x y).1 ≤ 5) : hvI w y := by
  have hn : ∀ j : Nat, ¬ (2 ≤ j ∧ j ≤ 5) → (sTurn W w x y).1 = j → hvI w y := fun j z e => absurd (by rw [← e]; exact h) z
  have a9 : ∀ n : Nat, n < 8 → 2 ≤ (tAnN n x y).1 ∧ (tAnN n x y).1 ≤ 5 → 1 < n ∧ n < 6 := fun n hn z => by
    match n, hn, z with
    | 0, _, z => exact absurd z.1 (by exact Nat.not_le_of_lt (Nat.le_of_ble_eq_true rfl))
    | 1, _, z => exact absurd z.1 (by exact Nat.not_le_of_lt (Nat.le_of_ble_eq_true rfl))
    | 2, _, _ => exact ⟨by decide, by decide⟩
    | 3, _, _ => exact ⟨by decide, by decide⟩
    | 4, _, _ => exact ⟨by decide, by decide⟩
    | 5, _, _ => exact ⟨by decide, by decide⟩
    | 6, _, z => exact absurd z.2 (by exact Nat.not_le_of_lt (Nat.le_of_ble_eq_true rfl))
    | 7, _, z => exact absurd z.2 (by exact Nat.not_le_of_lt (Nat.le_of_ble_eq_true rfl))
  have a8 : ¬ (2 ≤ (tBk x y).1 ∧ (tBk x y).1 ≤ 5) := fun z => by
    unfold tBk at z
    by_cases q : x &&& 1 = 0
    · rw [if_pos q] at z
      exact absurd z.2 (Nat.not_le_of_lt (Nat.le_of_ble_eq_true rfl))
    · rw [if_neg q] at z
      exact absurd z.2 (Nat.not_le_of_lt (Nat.le_of_ble_eq_true rfl))
  match w, hw, h with
  | 0, _, h => exact absurd h.1 (Nat.not_le_of_lt (Nat.le_of_ble_eq_true rfl))
  | 1, _, h => exact absurd h.1 (Nat.not_le_of_lt (Nat.le_of_ble_eq_true rfl))
  | 2, _, h => exact absurd h.1 (Nat.not_le_of_lt (Nat.le_of_ble_eq_true rfl))
  | 3, _, h => exact absurd h.1 (Nat.not_le_of_lt (Nat.le_of_ble_eq_true rfl))
  | 4, _, h => exact absurd h.2 (Nat.not_le_of_lt (Nat.le_of_ble_eq_true rfl))
  | 5, _, _ => exact Or.inl ⟨by decide, by decide⟩
  | 6, _, _ => exact Or.inl ⟨by decide, by decide⟩
  | 7, _, _ => exact Or.inl ⟨by decide, by decide⟩
  | 8, _, _ => exact Or.inl ⟨by decide, by decide⟩
  | 9, _, _ => exact Or.inl ⟨by decide, by decide⟩
  | 10, _, _ => exact Or.inl ⟨by decide, by decide⟩
  | 11, _, _ => exact Or.inl ⟨by decide, by decide⟩
  | 12, _, _ => exact Or.inl ⟨by decide, by decide⟩
  | 13, _, h => exact absurd h.2 (Nat.not_le_of_lt (Nat.le_of_ble_eq_true rfl))
  | 14, _, h => exact absurd h a8
  | 15, _, h => exact Or.inr ⟨rfl, a9 _ (Nat.mod_lt _ (by decide)) h⟩
  | j + 16, hw, _ => exact absurd hw (by omega)
section LAW
variable {G : xG} {t : xA} {own : Nat → Nat} {a B n k w : Nat} {D : OD} {x y z : Int32} {Q : Option Value → xA → Prop}
abbrev lsL (G : xG) (a n k : Nat) : List (Nat × Value) := [(0, .ref (gS3 G)), (1, .ref a), (2, .int (nI n)), (3, .int (nI k))]
abbrev ls7 (G : xG) (a n k : Nat) (x y z : Int32) : List (Nat × Value) := [(0, .ref (gS3 G)), (1, .ref a), (2, .int (nI n)), (3, .int (nI k)), (4, .int x), (5, .int y), (6, .int z)]
/-- what the walk goes on with behind a turn, in c more cells and m more slots -/
def LK (G : xG) (t : xA) (a n k B c m : Nat) (Q : Option Value → xA → Prop) : Prop := ∀ (t2 : xA) (own2 : Nat → Nat) (D2 : OD), Ob G t2 own2 a D2 → IvD B D2 → t2.2.1 ≤ t.2.1 + c → t2.2.2 ≤ t.2.2 + m → xE G ML_law 29 (lsL G a n (k + 1)) [] t2 Q
theorem LK.go {t1 : xA} {own1 : Nat → Nat} {T : Nat → Prop} {B' c m c1 m1 c2 m2 : Nat} (h : LK G t a n k B c m Q) (hd : Did t t1 own own1 T c1 m1) (hb : B' ≤ B) (h1 : c1 + c2 ≤ c) (h2 : m1 + m2 ≤ m) : LK G t1 a n k B' c2 m2 Q := fun t2 own2 D2 a1 a2 a3 a4 => h t2 own2 D2 a1 (a2.up hb) (by have := hd.2.2.2.1; omega) (by have := hd.2.2.2.2.2; omega)
theorem l_lawD (h : Ob G t own a D) (hJ : IvD B D) (kk : LK G t a n k B 0 0 Q) : xE G ML_law 300 (lsL G a n k) [] t Q := by
  refine x_aload_n (k := 165) rfl rfl ?_
  refine x_sI (k := 166) rfl (by rfl) (c_arePersons h hJ) okL_arePersons viL_arePersons mlRL_113 ⟨Nat.le_of_ble_eq_true rfl, Nat.le_of_ble_eq_true rfl⟩ (by exact Nat.le_of_ble_eq_true rfl) rfl (by exact Nat.le_of_ble_eq_true rfl) ?_
  refine x_if_eq (tgt := 321) (k := 167) rfl (by decide) (fun c304 => absurd c304 (by decide)) (fun c304 => ?_)
  refine x_aload_n (k := 168) rfl rfl ?_
  refine x_sI (k := 169) rfl (by rfl) (c_areParcels h hJ) okL_areParcels viL_areParcels mlRL_117 ⟨Nat.le_of_ble_eq_true rfl, Nat.le_of_ble_eq_true rfl⟩ (by exact Nat.le_of_ble_eq_true rfl) rfl (by exact Nat.le_of_ble_eq_true rfl) ?_
  refine x_if_eq (tgt := 321) (k := 170) rfl (by decide) (fun c311 => absurd c311 (by decide)) (fun c311 => ?_)
  refine x_aload_n (k := 171) rfl rfl ?_
  refine x_sI (k := 172) rfl (by rfl) (c_areTrips h hJ) okL_areTrips viL_areTrips mlRL_120 ⟨Nat.le_of_ble_eq_true rfl, Nat.le_of_ble_eq_true rfl⟩ (by exact Nat.le_of_ble_eq_true rfl) rfl (by exact Nat.le_of_ble_eq_true rfl) ?_
  refine x_if_ne (tgt := 323) (k := 173) rfl (by decide) (fun c318 => ?_) (fun c318 => absurd c318 (by decide))
  refine x_iinc (k := 176) rfl rfl (nI_1 k) (by decide) ?_
  refine x_goto (tgt := 29) (k := 177) rfl (by decide) ?_
  exact kk t own D h hJ (Nat.le_refl _) (Nat.le_refl _)
theorem l_lawC (h : Ob G t own a D) (hJ : IvD B D) (hB : B + 2 < 512) (kk : LK G t a n k (B + 2) 409 8121 Q) : xE G ML_law 281 (ls7 G a n k x y z) [] t Q := by
  refine x_iload (k := 156) rfl rfl ?_
  refine x_bipush (v := 96) (k := 157) rfl (by decide) ?_
  refine x_iand (k := 158) rfl ?_
  refine x_if_ne (tgt := 300) (k := 159) rfl (by decide) (fun c286 => ?_) (fun c286 => ?_)
  · refine x_sub (ls' := lsL G a n k) (by intro q hq; simp only [List.mem_cons, List.not_mem_nil, or_false] at hq; rcases hq with rfl | rfl | rfl | rfl <;> rfl) ?_
    exact l_lawD h hJ (kk.go (own := own) (T := clsT) (Did.rf (c := 0) (m := 0)) (Nat.le_add_right _ _) (by decide) (by decide))
  · refine x_aload_n (k := 160) rfl rfl ?_
    refine x_iload (k := 161) rfl rfl ?_
    refine x_iload (k := 162) rfl rfl ?_
    refine x_sX (k := 163) rfl (by rfl) (c_isTaken h hJ hB) okL_isTaken viL_isTaken mlRL_109 ⟨Nat.le_of_ble_eq_true rfl, Nat.le_of_ble_eq_true rfl⟩ (by exact Nat.le_of_ble_eq_true rfl) rfl (by exact Nat.le_of_ble_eq_true rfl) ?_
    intro r t3 q
    obtain ⟨rfl, own3, D3, h3, hJ3, d3⟩ := q
    refine x_if_eq (tgt := 321) (k := 164) rfl (by decide) (fun c297 => absurd c297 (by decide)) (fun c297 => ?_)
    refine x_sub (ls' := lsL G a n k) (by intro q hq; simp only [List.mem_cons, List.not_mem_nil, or_false] at hq; rcases hq with rfl | rfl | rfl | rfl <;> rfl) ?_
    exact l_lawD h3 hJ3 (kk.go d3 (Nat.le_refl _) (by decide) (by decide))
theorem l_lawB {W : Wd} {nk rs : Nat} (hw : w < 16) (hr1 : rs < 2) (h : Ob G t own a D) (hJ : IvD B D) (hB : B + 2 < 512) (hH : rs = 0 → HSt (hvI w z) nk W D.1.1 ∧ nk ≤ cK D.1.1) (kk : LK G t a n k (B + 2) 409 8121 Q) : xE G ML_law 239 [(0, .ref (gS3 G)), (1, .ref a), (2, .int (nI n)), (3, .int (nI k)), (4, .int x), (5, .int y), (6, .int z), (7, .int (nI w)), (11, .int (W 3 0 2)), (12, .int (nI nk)), (13, .long (sHd W nk)), (16, .int (nI rs))] [] t Q := by
  have fin : xE G ML_law 281 [(0, .ref (gS3 G)), (1, .ref a), (2, .int (nI n)), (3, .int (nI k)), (4, .int x), (5, .int y), (6, .int z), (7, .int (nI w)), (11, .int (W 3 0 2)), (12, .int (nI nk)), (13, .long (sHd W nk)), (16, .int (nI rs))] [] t Q := by
    refine x_sub (ls' := ls7 G a n k x y z) (by intro q hq; simp only [List.mem_cons, List.not_mem_nil, or_false] at hq; rcases hq with rfl | rfl | rfl | rfl | rfl | rfl | rfl <;> rfl) ?_
    exact l_lawC h hJ hB kk
  refine x_iload (k := 135) rfl rfl ?_
  refine x_if_ne (tgt := 281) (k := 136) rfl (by decide) (fun c241 => ?_) (fun c241 => ?_)
  · exact fin
  · have e0 : rs = 0 := (nI_eq (b := 0) (by omega) (by decide)).mp c241
    obtain ⟨g1, g2⟩ := hH e0
    refine x_aload_n (k := 137) rfl rfl ?_
    refine x_iload (k := 138) rfl rfl ?_
    refine x_sL (k := 139) rfl (by rfl) (c_holders h hJ g2) okL_holders viL_holders mlRL_97 ⟨Nat.le_of_ble_eq_true rfl, Nat.le_of_ble_eq_true rfl⟩ (by exact Nat.le_of_ble_eq_true rfl) rfl (by exact Nat.le_of_ble_eq_true rfl) ?_
    refine x_lload (k := 140) rfl rfl ?_
    refine x_lcmp (k := 141) rfl ?_
    refine x_if_eq (tgt := 281) (k := 142) rfl (by decide) (fun c253 => ?_) (fun c253 => ?_)
    · replace c253 := (lg_cmp_eq _ _).mp c253
      exact fin
    · replace c253 := mt (lg_cmp_eq _ _).mpr c253
      have g3 : hvI w z ∧ D.1.1 3 0 2 = W 3 0 2 + 1 := g1.resolve_left (fun q => c253 (fo_eq nk q))
      refine x_iload (k := 143) rfl rfl ?_
      refine x_iload (k := 144) rfl rfl ?_
      refine x_sD (k := 145) rfl (by rfl) (c_isHandover hw g3.1) okL_isHandover viL_isHandover mlRL_105 ⟨Nat.le_of_ble_eq_true rfl, Nat.le_of_ble_eq_true rfl⟩ (by exact Nat.le_of_ble_eq_true rfl) rfl (by exact Nat.le_of_ble_eq_true rfl) ?_
      refine x_if_eq (tgt := 279) (k := 146) rfl (by decide) (fun c263 => absurd c263 (by decide)) (fun c263 => ?_)
      refine x_aload_n (k := 147) rfl rfl ?_
      refine x_bipush (v := 11) (k := 148) rfl (by decide) ?_
      refine x_cVI (ci := 9) (k := 149) rfl (by rfl) (g_num h (q := 11) (by decide)) okX9_count viX9_count mlRL_13 ⟨Nat.le_of_ble_eq_true rfl, Nat.le_of_ble_eq_true rfl⟩ (by exact Nat.le_of_ble_eq_true rfl) rfl rfl h.1.1 (by exact Nat.le_of_ble_eq_true rfl) ?_
      refine x_iload (k := 150) rfl rfl ?_
      refine x_iconst (v := 1) (k := 151) rfl (by decide) ?_
      refine x_iadd (k := 152) rfl ?_
      refine x_icmp_eq (tgt := 281) (k := 153) rfl (by decide) (fun c276 => ?_) (fun c276 => absurd g3.2 c276)
      exact fin
/-- a call that is an error -/
theorem l_lawE {rs : Nat} (hw : w < 16) (hr1 : rs < 2) (h : Ob G t own a D) (hJ : IvD B D) (hB : B + 3 < 512) (hF : dF D (sTurn D.1.1 w y z) < 0) (kk : LK G t a n k (B + 3) 735 14615 Q) : xE G ML_law 154 [(0, .ref (gS3 G)), (1, .ref a), (2, .int (nI n)), (3, .int (nI k)), (4, .int x), (5, .int y), (6, .int z), (7, .int (nI w)), (8, .long (sVw D.1.1)), (10, .int (nI D.2.1.2.1)), (11, .int (D.1.1 3 0 2)), (12, .int (nI (cK D.1.1))), (13, .long (sHd D.1.1 (cK D.1.1))), (15, .int (dA D (sTurn D.1.1 w y z))), (16, .int (nI rs))] [] t Q := by
  have e1 : dA D (sTurn D.1.1 w y z) = dF D (sTurn D.1.1 w y z) := foR_f hF
  have c5 := h.2.2.1.2.2.1.2
  refine x_iload (k := 92) rfl rfl ?_
  refine x_if_ge (tgt := 189) (k := 93) rfl (by decide) (fun c156 => absurd c156 (by rw [e1]; exact Int32.not_le.mpr hF)) (fun c156 => ?_)
  refine x_iload (k := 94) rfl rfl ?_
  refine x_bipush (v := -9) (k := 95) rfl (by decide) ?_
  refine x_icmp_eq (tgt := 189) (k := 96) rfl (by decide) (fun c163 => absurd c163 (by rw [e1]; exact aF_9)) (fun c163 => ?_)
  refine x_aload_n (k := 97) rfl rfl ?_
  refine x_sL (k := 98) rfl (by rfl) (c_view h hJ) okL_view viL_view mlRL_81 ⟨Nat.le_of_ble_eq_true rfl, Nat.le_of_ble_eq_true rfl⟩ (by exact Nat.le_of_ble_eq_true rfl) rfl (by exact Nat.le_of_ble_eq_true rfl) ?_
  refine x_lload (k := 99) rfl rfl ?_
  refine x_lcmp (k := 100) rfl ?_
  refine x_if_ne (tgt := 187) (k := 101) rfl (by decide) (fun c173 => absurd ((lg_cmp_eq _ _).mpr rfl) c173) (fun c173 => ?_)
  refine x_aload_n (k := 102) rfl rfl ?_
  refine x_bipush (v := 14) (k := 103) rfl (by decide) ?_
  refine x_cVI (ci := 9) (k := 104) rfl (by rfl) (g_c14 h rfl) okX9_count viX9_count mlRL_13 ⟨Nat.le_of_ble_eq_true rfl, Nat.le_of_ble_eq_true rfl⟩ (by exact Nat.le_of_ble_eq_true rfl) rfl rfl h.1.1 (by exact Nat.le_of_ble_eq_true rfl) ?_
  refine x_iload (k := 105) rfl rfl ?_
  refine x_icmp_eq (tgt := 239) (k := 106) rfl (by decide) (fun c184 => ?_) (fun c184 => absurd rfl c184)
  refine x_sub (ls' := [(0, .ref (gS3 G)), (1, .ref a), (2, .int (nI n)), (3, .int (nI k)), (4, .int x), (5, .int y), (6, .int z), (7, .int (nI w)), (11, .int (D.1.1 3 0 2)), (12, .int (nI (cK D.1.1))), (13, .long (sHd D.1.1 (cK D.1.1))), (16, .int (nI rs))]) (by intro q hq; simp only [List.mem_cons, List.not_mem_nil, or_false] at hq; rcases hq with rfl | rfl | rfl | rfl | rfl | rfl | rfl | rfl | rfl | rfl | rfl | rfl <;> rfl) ?_
  exact l_lawB hw hr1 h (hJ.up (Nat.le_succ B)) (by omega) (fun _ => ⟨Or.inl (fun _ _ => rfl), Nat.le_refl _⟩) (kk.go (own := own) (T := clsT) (Did.rf (c := 0) (m := 0)) (Nat.le_refl _) (by decide) (by decide))
/-- one that is none -/
theorem l_lawS {t1 : xA} {own1 : Nat → Nat} {H1 : HD} {rs : Nat} (hw : w < 16) (hr1 : rs < 2) (hrs : rs = 0 → (sTurn D.1.1 w y z).1 < 9) (h5 : D.2.1.2.1 ≤ 5) (hJ : IvD B D) (hB : B + 3 < 512) (hF : ¬ dF D (sTurn D.1.1 w y z) < 0) (h1 : Ob G t1 own1 a ((dN D (sTurn D.1.1 w y z), D.1.2), H1, D.2.2)) (hK : KeptH D.2.1 D.1 H1) (kk : LK G t1 a n k (B + 3) 612 12178 Q) : xE G ML_law 154 [(0, .ref (gS3 G)), (1, .ref a), (2, .int (nI n)), (3, .int (nI k)), (4, .int x), (5, .int y), (6, .int z), (7, .int (nI w)), (8, .long (sVw D.1.1)), (10, .int (nI D.2.1.2.1)), (11, .int (D.1.1 3 0 2)), (12, .int (nI (cK D.1.1))), (13, .long (sHd D.1.1 (cK D.1.1))), (15, .int (dA D (sTurn D.1.1 w y z))), (16, .int (nI rs))] [] t1 Q := by
  obtain ⟨tn, nn⟩ := tn_mk hJ (by omega) hF hK
  have hst : ∀ D2 : OD, TnQ B D (sTurn D.1.1 w y z) D2 → rs = 0 → HSt (hvI w z) (cK D.1.1) D.1.1 D2.1.1 ∧ cK D.1.1 ≤ cK D2.1.1 := fun D2 q e => by
    obtain ⟨g1, g2⟩ := q.2.2 (hrs e)
    exact ⟨g1.imp id (fun y => ⟨tu_hv hw y.1, y.2⟩), g2⟩
  have ek := kept_n hK
  refine x_iload (k := 92) rfl rfl ?_
  refine x_if_ge (tgt := 189) (k := 93) rfl (by decide) (fun c156 => ?_) (fun c156 => absurd (Int32.not_lt.mp nn) c156)
  refine x_aload_n (k := 109) rfl rfl ?_
  refine x_bipush (v := 14) (k := 110) rfl (by decide) ?_
  refine x_cVI (ci := 9) (k := 111) rfl (by rfl) (g_c14 h1 (k := min (D.2.1.2.1 + 1) 5) ek) okX9_count viX9_count mlRL_13 ⟨Nat.le_of_ble_eq_true rfl, Nat.le_of_ble_eq_true rfl⟩ (by exact Nat.le_of_ble_eq_true rfl) rfl rfl h1.1.1 (by exact Nat.le_of_ble_eq_true rfl) ?_
  refine x_iload (k := 112) rfl rfl ?_
  refine x_iconst (v := 5) (k := 113) rfl (by decide) ?_
  refine x_icmp_ge (tgt := 208) (k := 114) rfl (by decide) (fun c198 => ?_) (fun c198 => ?_)
  · have d5 : D.2.1.2.1 = 5 := by
      have := (nI_leI (a := 5) (b := D.2.1.2.1) (by decide) (by omega)).mp c198
      omega
    refine x_iconst (v := 5) (k := 119) rfl (by decide) ?_
    refine x_icmp_ne (tgt := 237) (k := 120) rfl (by decide) (fun c209 => absurd (by first | (rw [nI_1, show min (D.2.1.2.1 + 1) 5 = D.2.1.2.1 + 1 by omega]; done) | (rw [show min (D.2.1.2.1 + 1) 5 = 5 by omega]; rfl)) c209) (fun c209 => ?_)
    refine x_iload (k := 121) rfl rfl ?_
    refine x_bipush (v := 16) (k := 122) rfl (by decide) ?_
    refine x_iand (k := 123) rfl ?_
    refine x_if_ne (tgt := 239) (k := 124) rfl (by decide) (fun c217 => ?_) (fun c217 => ?_)
    · refine x_sub (ls' := [(0, .ref (gS3 G)), (1, .ref a), (2, .int (nI n)), (3, .int (nI k)), (4, .int x), (5, .int y), (6, .int z), (7, .int (nI w)), (11, .int (D.1.1 3 0 2)), (12, .int (nI (cK D.1.1))), (13, .long (sHd D.1.1 (cK D.1.1))), (16, .int (nI rs))]) (by intro q hq; simp only [List.mem_cons, List.not_mem_nil, or_false] at hq; rcases hq with rfl | rfl | rfl | rfl | rfl | rfl | rfl | rfl | rfl | rfl | rfl | rfl <;> rfl) ?_
      exact l_lawB hw hr1 h1 tn.1 (by omega) (hst _ tn) (kk.go (own := own1) (T := clsT) (Did.rf (c := 0) (m := 0)) (Nat.le_refl _) (by decide) (by decide))
    · refine x_aload_n (k := 125) rfl rfl ?_
      refine x_iload (k := 126) rfl rfl ?_
      refine x_iload (k := 127) rfl rfl ?_
      refine x_iload (k := 128) rfl rfl ?_
      refine x_iload (k := 129) rfl rfl ?_
      refine x_lload (k := 130) rfl rfl ?_
      refine x_sX (k := 131) rfl (by rfl) (c_isUndone h1 hJ (by omega) hw rfl hF hK) okL_isUndone viL_isUndone mlRL_101 ⟨Nat.le_of_ble_eq_true rfl, Nat.le_of_ble_eq_true rfl⟩ (by exact Nat.le_of_ble_eq_true rfl) rfl (by exact Nat.le_of_ble_eq_true rfl) ?_
      intro r t3 q
      obtain ⟨rfl, own3, D3, h3, q3, d3⟩ := q
      refine x_if_ne (tgt := 239) (k := 132) rfl (by decide) (fun c234 => ?_) (fun c234 => absurd c234 (by decide))
      refine x_sub (ls' := [(0, .ref (gS3 G)), (1, .ref a), (2, .int (nI n)), (3, .int (nI k)), (4, .int x), (5, .int y), (6, .int z), (7, .int (nI w)), (11, .int (D.1.1 3 0 2)), (12, .int (nI (cK D.1.1))), (13, .long (sHd D.1.1 (cK D.1.1))), (16, .int (nI rs))]) (by intro q hq; simp only [List.mem_cons, List.not_mem_nil, or_false] at hq; rcases hq with rfl | rfl | rfl | rfl | rfl | rfl | rfl | rfl | rfl | rfl | rfl | rfl <;> rfl) ?_
      exact l_lawB hw hr1 h3 q3.1 (by omega) (hst _ q3) (kk.go d3 (Nat.le_refl _) (by decide) (by decide))
  · have d5 : D.2.1.2.1 < 5 := by
      have := mt (nI_leI (a := 5) (b := D.2.1.2.1) (by decide) (by omega)).mpr c198
      omega
    refine x_iload (k := 115) rfl rfl ?_
    refine x_iconst (v := 1) (k := 116) rfl (by decide) ?_
    refine x_iadd (k := 117) rfl ?_
    refine x_goto (tgt := 209) (k := 118) rfl (by decide) ?_
    refine x_icmp_ne (tgt := 237) (k := 120) rfl (by decide) (fun c209 => absurd (by first | (rw [nI_1, show min (D.2.1.2.1 + 1) 5 = D.2.1.2.1 + 1 by omega]; done) | (rw [show min (D.2.1.2.1 + 1) 5 = 5 by omega]; rfl)) c209) (fun c209 => ?_)
    refine x_iload (k := 121) rfl rfl ?_
    refine x_bipush (v := 16) (k := 122) rfl (by decide) ?_
    refine x_iand (k := 123) rfl ?_
    refine x_if_ne (tgt := 239) (k := 124) rfl (by decide) (fun c217 => ?_) (fun c217 => ?_)
    · refine x_sub (ls' := [(0, .ref (gS3 G)), (1, .ref a), (2, .int (nI n)), (3, .int (nI k)), (4, .int x), (5, .int y), (6, .int z), (7, .int (nI w)), (11, .int (D.1.1 3 0 2)), (12, .int (nI (cK D.1.1))), (13, .long (sHd D.1.1 (cK D.1.1))), (16, .int (nI rs))]) (by intro q hq; simp only [List.mem_cons, List.not_mem_nil, or_false] at hq; rcases hq with rfl | rfl | rfl | rfl | rfl | rfl | rfl | rfl | rfl | rfl | rfl | rfl <;> rfl) ?_
      exact l_lawB hw hr1 h1 tn.1 (by omega) (hst _ tn) (kk.go (own := own1) (T := clsT) (Did.rf (c := 0) (m := 0)) (Nat.le_refl _) (by decide) (by decide))
    · refine x_aload_n (k := 125) rfl rfl ?_
      refine x_iload (k := 126) rfl rfl ?_
      refine x_iload (k := 127) rfl rfl ?_
      refine x_iload (k := 128) rfl rfl ?_
      refine x_iload (k := 129) rfl rfl ?_
      refine x_lload (k := 130) rfl rfl ?_
      refine x_sX (k := 131) rfl (by rfl) (c_isUndone h1 hJ (by omega) hw rfl hF hK) okL_isUndone viL_isUndone mlRL_101 ⟨Nat.le_of_ble_eq_true rfl, Nat.le_of_ble_eq_true rfl⟩ (by exact Nat.le_of_ble_eq_true rfl) rfl (by exact Nat.le_of_ble_eq_true rfl) ?_
      intro r t3 q
      obtain ⟨rfl, own3, D3, h3, q3, d3⟩ := q
      refine x_if_ne (tgt := 239) (k := 132) rfl (by decide) (fun c234 => ?_) (fun c234 => absurd c234 (by decide))
      refine x_sub (ls' := [(0, .ref (gS3 G)), (1, .ref a), (2, .int (nI n)), (3, .int (nI k)), (4, .int x), (5, .int y), (6, .int z), (7, .int (nI w)), (11, .int (D.1.1 3 0 2)), (12, .int (nI (cK D.1.1))), (13, .long (sHd D.1.1 (cK D.1.1))), (16, .int (nI rs))]) (by intro q hq; simp only [List.mem_cons, List.not_mem_nil, or_false] at hq; rcases hq with rfl | rfl | rfl | rfl | rfl | rfl | rfl | rfl | rfl | rfl | rfl | rfl <;> rfl) ?_
      exact l_lawB hw hr1 h3 q3.1 (by omega) (hst _ q3) (kk.go d3 (Nat.le_refl _) (by decide) (by decide))
theorem l_lawA (hw : w < 16) (h : Ob G t own a D) (hJ : IvD B D) (hB : B + 3 < 512) (kk : LK G t a n k (B + 3) 735 14615 Q) : xE G ML_law 83 [(0, .ref (gS3 G)), (1, .ref a), (2, .int (nI n)), (3, .int (nI k)), (4, .int x), (5, .int y), (6, .int z), (7, .int (nI w))] [] t Q := by
  have hJ5 := h.2.2.1.2.2.1.2
  obtain ⟨i, hi, ei⟩ : ∃ i : Nat, i < 2 ∧ y &&& 1 = nI i := ⟨_, Nat.mod_lt _ (by decide), pk_and y 1 (by decide +kernel)⟩
  refine x_aload_n (k := 55) rfl rfl ?_
  refine x_sL (k := 56) rfl (by rfl) (c_view h hJ) okL_view viL_view mlRL_81 ⟨Nat.le_of_ble_eq_true rfl, Nat.le_of_ble_eq_true rfl⟩ (by exact Nat.le_of_ble_eq_true rfl) rfl (by exact Nat.le_of_ble_eq_true rfl) ?_
  refine x_lstore (k := 57) rfl (by decide) ?_
  refine x_sub (ls' := [(0, .ref (gS3 G)), (1, .ref a), (2, .int (nI n)), (3, .int (nI k)), (4, .int x), (5, .int y), (6, .int z), (7, .int (nI w)), (8, .long (sVw D.1.1))]) (by intro q hq; simp only [List.mem_cons, List.not_mem_nil, or_false] at hq; rcases hq with rfl | rfl | rfl | rfl | rfl | rfl | rfl | rfl | rfl <;> rfl) ?_
  refine x_aload_n (k := 58) rfl rfl ?_
  refine x_bipush (v := 14) (k := 59) rfl (by decide) ?_
  refine x_cVI (ci := 9) (k := 60) rfl (by rfl) (g_c14 h rfl) okX9_count viX9_count mlRL_13 ⟨Nat.le_of_ble_eq_true rfl, Nat.le_of_ble_eq_true rfl⟩ (by exact Nat.le_of_ble_eq_true rfl) rfl rfl h.1.1 (by exact Nat.le_of_ble_eq_true rfl) ?_
  refine x_istore (k := 61) rfl (by decide) ?_
  refine x_sub (ls' := [(0, .ref (gS3 G)), (1, .ref a), (2, .int (nI n)), (3, .int (nI k)), (4, .int x), (5, .int y), (6, .int z), (7, .int (nI w)), (8, .long (sVw D.1.1)), (10, .int (nI D.2.1.2.1))]) (by intro q hq; simp only [List.mem_cons, List.not_mem_nil, or_false] at hq; rcases hq with rfl | rfl | rfl | rfl | rfl | rfl | rfl | rfl | rfl | rfl <;> rfl) ?_
  refine x_aload_n (k := 62) rfl rfl ?_
  refine x_bipush (v := 11) (k := 63) rfl (by decide) ?_
  refine x_cVI (ci := 9) (k := 64) rfl (by rfl) (g_num h (q := 11) (by decide)) okX9_count viX9_count mlRL_13 ⟨Nat.le_of_ble_eq_true rfl, Nat.le_of_ble_eq_true rfl⟩ (by exact Nat.le_of_ble_eq_true rfl) rfl rfl h.1.1 (by exact Nat.le_of_ble_eq_true rfl) ?_
  refine x_istore (k := 65) rfl (by decide) ?_
  refine x_sub (ls' := [(0, .ref (gS3 G)), (1, .ref a), (2, .int (nI n)), (3, .int (nI k)), (4, .int x), (5, .int y), (6, .int z), (7, .int (nI w)), (8, .long (sVw D.1.1)), (10, .int (nI D.2.1.2.1)), (11, .int (D.1.1 3 0 2))]) (by intro q hq; simp only [List.mem_cons, List.not_mem_nil, or_false] at hq; rcases hq with rfl | rfl | rfl | rfl | rfl | rfl | rfl | rfl | rfl | rfl | rfl <;> rfl) ?_
  refine x_aload_n (k := 66) rfl rfl ?_
  refine x_iconst (v := 5) (k := 67) rfl (by decide) ?_
  refine x_cVI (ci := 9) (k := 68) rfl (by rfl) (g_c5 h) okX9_count viX9_count mlRL_13 ⟨Nat.le_of_ble_eq_true rfl, Nat.le_of_ble_eq_true rfl⟩ (by exact Nat.le_of_ble_eq_true rfl) rfl rfl h.1.1 (by exact Nat.le_of_ble_eq_true rfl) ?_
  refine x_istore (k := 69) rfl (by decide) ?_
  refine x_sub (ls' := [(0, .ref (gS3 G)), (1, .ref a), (2, .int (nI n)), (3, .int (nI k)), (4, .int x), (5, .int y), (6, .int z), (7, .int (nI w)), (8, .long (sVw D.1.1)), (10, .int (nI D.2.1.2.1)), (11, .int (D.1.1 3 0 2)), (12, .int (nI (cK D.1.1)))]) (by intro q hq; simp only [List.mem_cons, List.not_mem_nil, or_false] at hq; rcases hq with rfl | rfl | rfl | rfl | rfl | rfl | rfl | rfl | rfl | rfl | rfl | rfl <;> rfl) ?_
  refine x_aload_n (k := 70) rfl rfl ?_
  refine x_iload (k := 71) rfl rfl ?_
  refine x_sL (k := 72) rfl (by rfl) (c_holders h hJ (Nat.le_refl _)) okL_holders viL_holders mlRL_97 ⟨Nat.le_of_ble_eq_true rfl, Nat.le_of_ble_eq_true rfl⟩ (by exact Nat.le_of_ble_eq_true rfl) rfl (by exact Nat.le_of_ble_eq_true rfl) ?_
  refine x_lstore (k := 73) rfl (by decide) ?_
  refine x_sub (ls' := [(0, .ref (gS3 G)), (1, .ref a), (2, .int (nI n)), (3, .int (nI k)), (4, .int x), (5, .int y), (6, .int z), (7, .int (nI w)), (8, .long (sVw D.1.1)), (10, .int (nI D.2.1.2.1)), (11, .int (D.1.1 3 0 2)), (12, .int (nI (cK D.1.1))), (13, .long (sHd D.1.1 (cK D.1.1)))]) (by intro q hq; simp only [List.mem_cons, List.not_mem_nil, or_false] at hq; rcases hq with rfl | rfl | rfl | rfl | rfl | rfl | rfl | rfl | rfl | rfl | rfl | rfl | rfl <;> rfl) ?_
  refine x_aload_n (k := 74) rfl rfl ?_
  refine x_iload (k := 75) rfl rfl ?_
  refine x_iload (k := 76) rfl rfl ?_
  refine x_iload (k := 77) rfl rfl ?_
  refine x_sX (k := 78) rfl (by rfl) (c_turn h hJ (by omega) hw y z) okL_turn viL_turn mlRL_85 ⟨Nat.le_of_ble_eq_true rfl, Nat.le_of_ble_eq_true rfl⟩ (by exact Nat.le_of_ble_eq_true rfl) rfl (by exact Nat.le_of_ble_eq_true rfl) ?_
  intro r t1 q
  obtain ⟨rfl, q2⟩ := q
  refine x_istore (k := 79) rfl (by decide) ?_
  refine x_sub (ls' := [(0, .ref (gS3 G)), (1, .ref a), (2, .int (nI n)), (3, .int (nI k)), (4, .int x), (5, .int y), (6, .int z), (7, .int (nI w)), (8, .long (sVw D.1.1)), (10, .int (nI D.2.1.2.1)), (11, .int (D.1.1 3 0 2)), (12, .int (nI (cK D.1.1))), (13, .long (sHd D.1.1 (cK D.1.1))), (15, .int (dA D (sTurn D.1.1 w y z)))]) (by intro q hq; simp only [List.mem_cons, List.not_mem_nil, or_false] at hq; rcases hq with rfl | rfl | rfl | rfl | rfl | rfl | rfl | rfl | rfl | rfl | rfl | rfl | rfl | rfl <;> rfl) ?_
  refine x_iload (k := 80) rfl rfl ?_
  refine x_bipush (v := 14) (k := 81) rfl (by decide) ?_
  refine x_icmp_ne (tgt := 151) (k := 82) rfl (by decide) (fun c136 => ?_) (fun c136 => ?_)
  · refine x_iconst (v := 0) (k := 90) rfl (by decide) ?_
    refine x_istore (k := 91) rfl (by decide) ?_
    rcases q2 with ⟨zz, rfl⟩ | ⟨zz, own1, H1, h1, k1, d1⟩
    · exact l_lawE (rs := 0) hw (by decide) h hJ hB zz kk
    · exact l_lawS (rs := 0) hw (by decide) (fun _ => tu_9 hw (fun e => absurd (by rw [e]; rfl) c136)) hJ5 hJ hB zz h1 k1 (kk.go d1 (Nat.le_refl _) (by decide) (by decide))
  · refine x_iload (k := 83) rfl rfl ?_
    refine x_iconst (v := 1) (k := 84) rfl (by decide) ?_
    refine x_iand (k := 85) rfl ?_
    refine x_iconst (v := 1) (k := 86) rfl (by decide) ?_
    refine x_icmp_ne (tgt := 151) (k := 87) rfl (by decide) (fun c144 => ?_) (fun c144 => ?_)
    · refine x_iconst (v := 0) (k := 90) rfl (by decide) ?_
      refine x_istore (k := 91) rfl (by decide) ?_
      rcases q2 with ⟨zz, rfl⟩ | ⟨zz, own1, H1, h1, k1, d1⟩
      · exact l_lawE (rs := 0) hw (by decide) h hJ hB zz kk
      · exact l_lawS (rs := 0) hw (by decide) (fun _ => tu_9 hw (fun _ => (by omega : i = 0 ∨ i = 1).elim (fun e => by rw [ei, e]; rfl) (fun e => absurd (by rw [ei, e]; rfl) c144))) hJ5 hJ hB zz h1 k1 (kk.go d1 (Nat.le_refl _) (by decide) (by decide))
    · refine x_iconst (v := 1) (k := 88) rfl (by decide) ?_
      refine x_goto (tgt := 152) (k := 89) rfl (by decide) ?_
      refine x_istore (k := 91) rfl (by decide) ?_
      rcases q2 with ⟨zz, rfl⟩ | ⟨zz, own1, H1, h1, k1, d1⟩
      · exact l_lawE (rs := 1) hw (by decide) h hJ hB zz kk
      · exact l_lawS (rs := 1) hw (by decide) (fun e => absurd e (by decide)) hJ5 hJ hB zz h1 k1 (kk.go d1 (Nat.le_refl _) (by decide) (by decide))
set_option maxRecDepth 20000 in
theorem l_law {B1 B2 : Nat} (hL : gLen G ≤ 260) (hn : n ≤ 40) : ∀ (d k : Nat) (s : xA) (own : Nat → Nat) (D : OD), k + d = n → Ob G s own a D → IvD (3 * k) D → s.2.1 ≤ B1 + 735 * k → s.2.2 ≤ B2 + 14615 * k → xE G ML_law 29 (lsL G a n k) [] s (fun r s1 => r = some (.int 1) ∧ s1.2.1 ≤ B1 + 735 * 40 ∧ s1.2.2 ≤ B2 + 14615 * 40)
  | 0, k, s, own, D, hd, h, hJ, h1, h2 => by
    obtain rfl : n = k := hd.symm
    refine x_iload_n (k := 19) rfl rfl ?_
    refine x_iload_n (k := 20) rfl rfl ?_
    refine x_icmp_ge (tgt := 329) (k := 21) rfl (by decide) (fun c31 => ?_) (fun c31 => absurd (nI_le (Nat.le_refl _) (by omega)) c31)
    refine x_iconst (v := 1) (k := 178) rfl (by decide) ?_
    exact x_iret (k := 179) rfl rfl rfl ⟨rfl, by omega, by omega⟩
  | d + 1, k, s, own, D, hd, h, hJ, h1, h2 => by
    have kk : LK G s a n k (3 * k + 3) 735 14615 (fun r s1 => r = some (.int 1) ∧ s1.2.1 ≤ B1 + 735 * 40 ∧ s1.2.2 ≤ B2 + 14615 * 40) := fun t2 own2 D2 a1 a2 a3 a4 => l_law hL hn d (k + 1) t2 own2 D2 (by omega) a1 (a2.up (by omega)) (Nat.le_trans a3 (by rw [Nat.mul_add, Nat.mul_one, ← Nat.add_assoc]; exact Nat.add_le_add_right h1 735)) (Nat.le_trans a4 (by rw [Nat.mul_add, Nat.mul_one, ← Nat.add_assoc]; exact Nat.add_le_add_right h2 14615))
    refine x_iload_n (k := 19) rfl rfl ?_
    refine x_iload_n (k := 20) rfl rfl ?_
    refine x_icmp_ge (tgt := 329) (k := 21) rfl (by decide) (fun c31 => absurd c31 (nI_ge (by omega) (by omega))) (fun c31 => ?_)
    refine x_aload_n (k := 22) rfl rfl ?_
    refine x_iconst (v := 3) (k := 23) rfl (by decide) ?_
    refine x_iload_n (k := 24) rfl rfl ?_
    refine x_imul (k := 25) rfl ?_
    rw [show (3 : Int32) * nI k = nI (3 * k) from pk_mul 3 k]
    refine x_sD (k := 26) rfl (by rfl) (c_cell hL (by omega)) okL_cell viL_cell mlRL_93 ⟨Nat.le_of_ble_eq_true rfl, Nat.le_of_ble_eq_true rfl⟩ (by exact Nat.le_of_ble_eq_true rfl) rfl (by exact Nat.le_of_ble_eq_true rfl) ?_
    refine x_istore (k := 27) rfl (by decide) ?_
    refine x_aload_n (k := 28) rfl rfl ?_
    refine x_iconst (v := 3) (k := 29) rfl (by decide) ?_
    refine x_iload_n (k := 30) rfl rfl ?_
    refine x_imul (k := 31) rfl ?_
    refine x_iconst (v := 1) (k := 32) rfl (by decide) ?_
    refine x_iadd (k := 33) rfl ?_
    rw [show (3 : Int32) * nI k + 1 = nI (3 * k + 1) from by rw [show (3 : Int32) * nI k = nI (3 * k) from pk_mul 3 k, nI_1]]
    refine x_sD (k := 34) rfl (by rfl) (c_cell hL (by omega)) okL_cell viL_cell mlRL_93 ⟨Nat.le_of_ble_eq_true rfl, Nat.le_of_ble_eq_true rfl⟩ (by exact Nat.le_of_ble_eq_true rfl) rfl (by exact Nat.le_of_ble_eq_true rfl) ?_
    refine x_istore (k := 35) rfl (by decide) ?_
    refine x_aload_n (k := 36) rfl rfl ?_
    refine x_iconst (v := 3) (k := 37) rfl (by decide) ?_
    refine x_iload_n (k := 38) rfl rfl ?_
    refine x_imul (k := 39) rfl ?_
    refine x_iconst (v := 2) (k := 40) rfl (by decide) ?_
    refine x_iadd (k := 41) rfl ?_
    rw [show (3 : Int32) * nI k + 2 = nI (3 * k + 2) from by rw [show (3 : Int32) * nI k = nI (3 * k) from pk_mul 3 k]; exact nI_add (3 * k) 2]
    refine x_sD (k := 42) rfl (by rfl) (c_cell hL (by omega)) okL_cell viL_cell mlRL_93 ⟨Nat.le_of_ble_eq_true rfl, Nat.le_of_ble_eq_true rfl⟩ (by exact Nat.le_of_ble_eq_true rfl) rfl (by exact Nat.le_of_ble_eq_true rfl) ?_
    refine x_istore (k := 43) rfl (by decide) ?_
    refine x_iload_n (k := 44) rfl rfl ?_
    refine x_iconst (v := 2) (k := 45) rfl (by decide) ?_
    refine x_icmp_ge (tgt := 76) (k := 46) rfl (by decide) (fun c67 => ?_) (fun c67 => ?_)
    · refine x_iload (k := 51) rfl rfl ?_
      refine x_bipush (v := 15) (k := 52) rfl (by decide) ?_
      refine x_iand (k := 53) rfl ?_
      first | rw [show nI k * 2 = nI (k * 2) from pk_mul k 2] | rw [pk_and _ 4 (by decide +kernel)]
      refine x_istore (k := 54) rfl (by decide) ?_
      exact l_lawA (by first | omega | exact Nat.mod_lt _ (by decide)) h hJ (by omega) kk
    · have k2 : k < 2 := by
        have := mt (nI_leI (a := 2) (b := k) (by decide) (by omega)).mpr c67
        omega
      refine x_iload_n (k := 47) rfl rfl ?_
      refine x_iconst (v := 2) (k := 48) rfl (by decide) ?_
      refine x_imul (k := 49) rfl ?_
      refine x_goto (tgt := 81) (k := 50) rfl (by decide) ?_
      first | rw [show nI k * 2 = nI (k * 2) from pk_mul k 2] | rw [pk_and _ 4 (by decide +kernel)]
      refine x_istore (k := 54) rfl (by decide) ?_
      exact l_lawA (by first | omega | exact Nat.mod_lt _ (by decide)) h hJ (by omega) kk
end LAW
