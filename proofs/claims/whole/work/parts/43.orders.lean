-- ===== an order, and what holds of the world behind it =====
/-- the list of holders grows by one at most -/
def szO (W W' : Wd) : Prop := ∀ sz : Nat, sz ≤ 512 → W 4 0 0 = nI sz → ∃ sz' : Nat, sz' ≤ 512 ∧ sz' ≤ sz + 1 ∧ W' 4 0 0 = nI sz'
/-- it stays -/
def szS (W W' : Wd) : Prop := W' 4 0 0 = W 4 0 0
theorem szS.o {W W' : Wd} (h : szS W W') : szO W W' := fun sz h5 e => ⟨sz, h5, Nat.le_succ _, Eq.trans h e⟩
theorem szO.s {W W' W2 : Wd} (h : szO W W') (h2 : szS W' W2) : szO W W2 := fun sz h5 e => by
  obtain ⟨s', a, b, c⟩ := h sz h5 e
  exact ⟨s', a, b, Eq.trans h2 c⟩
theorem szS.t {W W' W2 : Wd} (h : szS W W') (h2 : szO W' W2) : szO W W2 := fun sz h5 e => h2 sz h5 (Eq.trans h e)
theorem szS.tr {W W' W2 : Wd} (h : szS W W') (h2 : szS W' W2) : szS W W2 := Eq.trans h2 h
theorem szS.set {W : Wd} {a i k : Nat} {v : Int32} (h : a ≠ 4) : szS W (wSet W a i k v) := wSet_a (Ne.symm h)
theorem sz_note {W : Wd} {a b c : Int32} : szO W (sNote W a b c) := fun sz h5 e => by
  by_cases h : sz = 512
  · subst h
    refine ⟨512, Nat.le_refl _, by omega, ?_⟩
    rw [sNote, if_pos (by rw [e]; decide), e]
  · exact ⟨sz + 1, by omega, Nat.le_refl _, sNote_4 e (by omega)⟩
theorem sz_setH {W : Wd} {k : Nat} {h : Int32} : szO W (sSetH W k h) := szS.t (((szS.set (by decide)).tr (szS.set (by decide))).tr ((szS.set (by decide)).tr (szS.set (by decide)))) sz_note
theorem sz_hov {W : Wd} {k : Nat} {h : Int32} : szO W (sHov W k h) := szS.t (szS.set (by decide)) sz_setH
theorem sz_set {W : Wd} {k : Nat} {t : Int32} : szS W (sSet W k t) := by
  unfold sSet sPay
  split
  · split
    · exact rfl
    · exact ((szS.set (by decide)).tr (szS.set (by decide))).tr ((szS.set (by decide)).tr (szS.set (by decide)))
  · split
    · exact szS.set (by decide)
    · exact rfl
theorem sz_how {W : Wd} {k : Nat} {t : Int32} : szO W (sHow W k t) := by
  unfold sHow
  split
  · exact sz_hov.s sz_set
  · exact szS.o rfl
theorem sz_gav {W : Wd} {k : Nat} {t : Int32} : szO W (sGav W k t) := szS.t (szS.set (by decide)) sz_how
theorem sz_tok {W : Wd} {k : Nat} {t : Int32} : szO W (sTok W k t) := szS.t (szS.set (by decide)) sz_how
theorem sz_et {W : Wd} : ∀ i, szS W (etTo W i)
  | 0 => rfl
  | i + 1 => by
    rw [etTo]
    split
    · exact (sz_et i).tr (((szS.set (by decide)).tr (szS.set (by decide))).tr (szS.set (by decide)))
    · exact sz_et i
theorem sz_gt {W : Wd} : ∀ i, szS W (gtTo W i)
  | 0 => rfl
  | i + 1 => by
    rw [gtTo]
    split
    · refine (sz_gt i).tr ?_
      unfold gStep
      split
      · exact ((szS.set (by decide)).tr (szS.set (by decide))).tr (szS.set (by decide))
      · exact szS.set (by decide)
    · exact sz_gt i
theorem sz_hour {W : Wd} : szS W (sHour W) := ((szS.set (by decide)).tr (sz_et _)).tr (sz_gt _)
theorem sz_pas {W : Wd} : ∀ j, szS W (paTo W j)
  | 0 => rfl
  | j + 1 => (sz_pas j).tr sz_hour
theorem sz_los {W : Wd} {k : Nat} : szS W (sLos W k) := by
  unfold sLos sLoD
  refine szS.tr ?_ (((szS.set (by decide)).tr (szS.set (by decide))).tr ((szS.set (by decide)).tr (szS.set (by decide))))
  unfold sLoC sLoB sLoA
  split <;> split
  · exact szS.set (by decide)
  · exact (szS.set (by decide)).tr (szS.set (by decide))
  · exact (szS.set (by decide)).tr (szS.set (by decide))
  · exact ((szS.set (by decide)).tr (szS.set (by decide))).tr (szS.set (by decide))
theorem sz_addT {W : Wd} {p a b i l e : Int32} : szS W (sAddT W p a b i l e) := (((szS.set (by decide)).tr (szS.set (by decide))).tr ((szS.set (by decide)).tr (szS.set (by decide)))).tr (((szS.set (by decide)).tr (szS.set (by decide))).tr ((szS.set (by decide)).tr (szS.set (by decide))))
theorem sz_addK {W : Wd} {a b t v c : Int32} : szO W (sAddK W a b t v c) := szS.t ((((szS.set (by decide)).tr (szS.set (by decide))).tr ((szS.set (by decide)).tr (szS.set (by decide)))).tr (((szS.set (by decide)).tr (szS.set (by decide))).tr (((szS.set (by decide)).tr (szS.set (by decide))).tr (szS.set (by decide))))) sz_setH
-- answers that are no errors
theorem bz_nn {p : Prop} [Decidable p] : ¬ bz p < 0 := by
  unfold bz
  split <;> decide
theorem ecTo_n {W : Wd} : ∀ n, ∃ c : Nat, c ≤ n ∧ ecTo W n = nI c
  | 0 => ⟨0, Nat.le_refl _, rfl⟩
  | n + 1 => by
    obtain ⟨c, h, e⟩ := ecTo_n (W := W) n
    rw [ecTo]
    split
    · exact ⟨c + 1, by omega, by rw [e, nI_1]⟩
    · exact ⟨c, by omega, e⟩
theorem Gd.held_nn {hr f nt nk : Nat} {W : Wd} (hG : Gd hr f nt nk W) (x : Int32) : ¬ sHeld W x < 0 := by
  rw [hG.held]
  exact nI_pos (by have := hG.2.2.2.2 x; omega)
def ordF (W : Wd) (c x k y : Int32) : Int32 :=
  if c = 103 then sHoF W x k y else if c = 116 then sHoF W y k x else if c = 112 then sPuF W x k else if c = 102 then sFeF W x k else sPaF W 1
theorem foR_nn {F v : Int32} (hF : ¬ F < 0) (hv : ¬ v < 0) : ¬ foR F v < 0 := by
  rw [foR_o hF]
  exact hv
/-- an order: it is an error and nothing is changed; or it is none, and all holds again -/
theorem ord_ok {hr f nt nk : Nat} {W : Wd} (hG : Gd hr f nt nk W) (c x k y : Int32) : (ordF W c x k y < 0 ∧ ordR W c x k y < 0 ∧ ordW W c x k y = W) ∨ (¬ ordF W c x k y < 0 ∧ ¬ ordR W c x k y < 0 ∧ (∃ hr', hr' ≤ 500 ∧ Gd hr' f nt nk (ordW W c x k y)) ∧ szO W (ordW W c x k y)) := by
  unfold ordF ordR ordW
  by_cases c1 : c = 103
  · rw [if_pos c1, if_pos c1, if_pos c1]
    by_cases h : sHoF W x k y < 0
    · exact Or.inl ⟨h, by rw [foR_f h]; exact h, foW_f h⟩
    · obtain ⟨⟨h1, h2, h3, h4⟩, h5, h6, h7⟩ := sHoF_ge h
      obtain ⟨p, hp, rfl⟩ := gP_is h3
      obtain ⟨g, hg, rfl⟩ := gP_is h1
      obtain ⟨j, hj, hj10, rfl⟩ := kP_is ⟨by rw [hG.cK]; exact hG.1.1.2.2.2, by rw [hG.cK]; exact hG.1.2.2.2.2⟩ h2
      rw [hG.cK] at hj
      rw [foW_o h, show ix (nI j) = j from clK hj10]
      rw [show ix (nI j) = j from clK hj10] at h5
      have := hG.gav hj hp hg h5.2 h4 (hG.h2 h7)
      exact Or.inr ⟨h, foR_nn h bz_nn, ⟨hr, hG.1.1.1, this⟩, sz_gav⟩
  · rw [if_neg c1, if_neg c1, if_neg c1]
    by_cases c2 : c = 116
    · rw [if_pos c2, if_pos c2, if_pos c2]
      by_cases h : sHoF W y k x < 0
      · exact Or.inl ⟨h, by rw [foR_f h]; exact h, foW_f h⟩
      · obtain ⟨⟨h1, h2, h3, h4⟩, h5, h6, h7⟩ := sHoF_ge h
        obtain ⟨p, hp, rfl⟩ := gP_is h3
        obtain ⟨j, hj, hj10, rfl⟩ := kP_is ⟨by rw [hG.cK]; exact hG.1.1.2.2.2, by rw [hG.cK]; exact hG.1.2.2.2.2⟩ h2
        rw [hG.cK] at hj
        rw [foW_o h, show ix (nI j) = j from clK hj10]
        have := hG.tok hj hp (hG.h2 h7)
        exact Or.inr ⟨h, foR_nn h bz_nn, ⟨hr, hG.1.1.1, this⟩, sz_tok⟩
    · rw [if_neg c2, if_neg c2, if_neg c2]
      by_cases c3 : c = 112
      · rw [if_pos c3, if_pos c3, if_pos c3]
        by_cases h : sPuF W x k < 0
        · exact Or.inl ⟨h, by rw [foR_f h]; exact h, foW_f h⟩
        · obtain ⟨⟨h1, h2⟩, h5, h6, h7⟩ := sPuF_ge h
          obtain ⟨p, hp, rfl⟩ := gP_is h1
          obtain ⟨j, hj, hj10, rfl⟩ := kP_is ⟨by rw [hG.cK]; exact hG.1.1.2.2.2, by rw [hG.cK]; exact hG.1.2.2.2.2⟩ h2
          rw [hG.cK] at hj
          rw [ixP hp] at h6 h7
          rw [foW_o h, show ix (nI j) = j from clK hj10, ixP hp]
          have := hG.put hj hp h6 (hG.h2 h7)
          exact Or.inr ⟨h, foR_nn h (this.held_nn _), ⟨hr, hG.1.1.1, this⟩, sz_hov⟩
      · rw [if_neg c3, if_neg c3, if_neg c3]
        by_cases c4 : c = 102
        · rw [if_pos c4, if_pos c4, if_pos c4]
          by_cases h : sFeF W x k < 0
          · exact Or.inl ⟨h, by rw [foR_f h]; exact h, foW_f h⟩
          · obtain ⟨⟨h1, h2⟩, h6, h5, h7⟩ := sFeF_ge h
            obtain ⟨p, hp, rfl⟩ := gP_is h1
            obtain ⟨j, hj, hj10, rfl⟩ := kP_is ⟨by rw [hG.cK]; exact hG.1.1.2.2.2, by rw [hG.cK]; exact hG.1.2.2.2.2⟩ h2
            rw [hG.cK] at hj
            rw [foW_o h, show ix (nI j) = j from clK hj10, ixP hp]
            have := hG.fet hj hp (hG.h2 h7)
            exact Or.inr ⟨h, foR_nn h (this.held_nn _), ⟨hr, hG.1.1.1, this⟩, sz_hov.s sz_set⟩
        · rw [if_neg c4, if_neg c4, if_neg c4]
          by_cases h : sPaF W 1 < 0
          · exact Or.inl ⟨h, by rw [foR_f h]; exact h, foW_f h⟩
          · obtain ⟨-, h2⟩ := sPaF_ge h
            have h5 : hr + 1 ≤ 500 := by
              rw [hG.1.2.1, nI_1] at h2
              have := mt (nI_ltI (a := 500) (b := hr + 1) (by decide) (by have := hG.1.1.1; omega)).mpr h2
              omega
            rw [foW_o h]
            have hv : ¬ pcTo W 1 < 0 := by
              obtain ⟨q, hq, eq⟩ := ecTo_n (W := wSet (paTo W 0) 3 0 0 (paTo W 0 3 0 0 + 1)) (cT W)
              have hc := hG.cT
              have := hG.1.1
              rw [pcTo, pcTo, eq, Int32.zero_add]
              exact nI_pos (by omega)
            exact Or.inr ⟨h, foR_nn h hv, ⟨hr + 1, h5, hG.hour h5⟩, (sz_pas 1).o⟩
/-- what carries an object through a text of orders -/
def ordP (W : Wd) : Prop := (∃ hr f nt nk : Nat, Gd hr f nt nk W) ∧ ∃ sz : Nat, sz ≤ 512 ∧ W 4 0 0 = nI sz
theorem ordP.pre {W : Wd} (h : ordP W) : oPre W := by
  obtain ⟨⟨hr, f, nt, nk, hG⟩, -⟩ := h
  refine ⟨fun k hk => ?_, fun t ht => ?_⟩
  · rw [hG.cK] at hk
    exact (hG.2.2.2.1 k hk).1
  · rw [hG.cT] at ht
    exact (hG.2.2.1 t ht).1.1
theorem ordP.step {W : Wd} {n : Nat} {sg : Nat → Int32} {p : Nat} (h : ordP W) (hn : ¬ ordA W n sg p < 0) : ordP (ordB W n sg p) ∧ wGood (ordB W n sg p) := by
  obtain ⟨⟨hr, f, nt, nk, hG⟩, sz, h5, hz⟩ := h
  rcases ord_ok hG (tSg n sg p) (tDg n sg (p + 1)) (tDg n sg (p + 2)) (tDg n sg (p + 3)) with ⟨-, z, -⟩ | ⟨-, -, ⟨hr', -, g⟩, hs⟩
  · exact absurd z hn
  · obtain ⟨sz', a, b, c⟩ := hs sz h5 hz
    exact ⟨⟨⟨hr', f, nt, nk, g⟩, sz', a, c⟩, g.good c a⟩
theorem ordP.stop {W : Wd} {n : Nat} {sg : Nat → Int32} {p : Nat} (hn : ordA W n sg p < 0) (h : ordP W) : ordB W n sg p = W := by
  obtain ⟨⟨hr, f, nt, nk, hG⟩, -⟩ := h
  rcases ord_ok hG (tSg n sg p) (tDg n sg (p + 1)) (tDg n sg (p + 2)) (tDg n sg (p + 3)) with ⟨-, -, z⟩ | ⟨-, z, -⟩
  · exact z
  · exact absurd hn z
-- the signs of an order that was read
theorem co_skip {n p : Nat} {sg : Nat → Int32} {c : Int32} {W : Wd} (hp : p < n) (h : ¬ tBg n sg p) : coTo n sg (n - p) c W = coTo n sg (n - (p + 1)) c W := by
  obtain ⟨d, hd⟩ : ∃ d, n - p = d + 1 := ⟨n - p - 1, by omega⟩
  rw [hd, coTo, show n - (d + 1) = p by omega, show n - (p + 1) = d by omega, if_neg h]
theorem co_at {n p : Nat} {sg : Nat → Int32} {c : Int32} {W : Wd} (hp : p < n) (h : tBg n sg p) : coTo n sg (n - p) c W = if ordA W n sg p < 0 then (c, ordB W n sg p) else coTo n sg (n - (p + 1)) (c + 1) (ordB W n sg p) := by
  obtain ⟨d, hd⟩ : ∃ d, n - p = d + 1 := ⟨n - p - 1, by omega⟩
  rw [hd, coTo, show n - (d + 1) = p by omega, show n - (p + 1) = d by omega, if_pos h]
theorem co_run {n : Nat} {sg : Nat → Int32} {c : Int32} {W : Wd} : ∀ d p : Nat, p + d ≤ n → (∀ j, j < d → ¬ tBg n sg (p + j)) → coTo n sg (n - p) c W = coTo n sg (n - (p + d)) c W
  | 0, _, _, _ => rfl
  | d + 1, p, h, hb => by
    rw [co_skip (p := p) (by omega) (hb 0 (by omega)), co_run d (p + 1) (by omega) (fun j hj => by
      have := hb (j + 1) (by omega)
      rwa [show p + 1 + j = p + (j + 1) by omega]), show p + 1 + d = p + (d + 1) by omega]
theorem no_bg {n p : Nat} {sg : Nat → Int32} (hp : 0 < p) (hn : p - 1 < n) (h : ¬ sg (p - 1) = 59) : ¬ tBg n sg p := fun z => by
  rcases z with z | z
  · omega
  · rw [tSg, if_pos hn] at z
    exact h z
/-- an order from p to q: it is carried out, and the rest, or all ends -/
theorem co_ord {n p q : Nat} {sg : Nat → Int32} {c : Int32} {W : Wd} (hpq : p < q) (hq : q ≤ n) (h : tBg n sg p) (h59 : ¬ sg p = 59) (hd : ∀ j, j < q - p - 1 → wIn (sg (p + 1 + j)) 48 57) : coTo n sg (n - p) c W = if ordA W n sg p < 0 then (c, ordB W n sg p) else if q = n then (c + 1, ordB W n sg p) else coTo n sg (n - (q + 1)) (c + 1) (ordB W n sg p) := by
  have h9 : ∀ j, p ≤ j → j < q → ¬ sg j = 59 := fun j h1 h2 => by
    by_cases e : j = p
    · rw [e]
      exact h59
    · have := hd (j - p - 1) (by omega)
      rw [show p + 1 + (j - p - 1) = j by omega] at this
      exact fun z => this.2 (by rw [z]; decide)
  rw [co_at (by omega) h, co_run (q - (p + 1)) (p + 1) (by omega) (fun j hj => no_bg (by omega) (by omega) (h9 _ (by omega) (by omega))), show p + 1 + (q - (p + 1)) = q by omega]
  by_cases e : q = n
  · rw [if_pos e, e, Nat.sub_self]
    rfl
  · rw [if_neg e, co_skip (by omega) (no_bg (by omega) (by omega) (h9 _ (by omega) (by omega)))]
