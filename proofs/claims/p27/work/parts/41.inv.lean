-- ===== what holds of every world =====
def hbN (W : Wd) (x : Int32) : Nat → Nat
  | 0 => 0
  | n + 1 => if W 2 n 5 = 0 ∧ W 2 n 6 = x then hbN W x n + 1 else hbN W x n
theorem hbTo_N {W : Wd} {x : Int32} : ∀ n, hbTo W x n = nI (hbN W x n)
  | 0 => rfl
  | n + 1 => by
    rw [hbTo, hbN]
    split
    · rw [hbTo_N n, nI_1]
    · exact hbTo_N n
theorem hbN_le {W : Wd} {x : Int32} : ∀ n, hbN W x n ≤ n
  | 0 => Nat.le_refl _
  | n + 1 => by
    have := hbN_le (W := W) (x := x) n
    rw [hbN]
    split <;> omega
theorem hbN_mono {W W' : Wd} {x : Int32} : ∀ n, (∀ k, k < n → W' 2 k 5 = 0 ∧ W' 2 k 6 = x → W 2 k 5 = 0 ∧ W 2 k 6 = x) → hbN W' x n ≤ hbN W x n
  | 0, _ => Nat.le_refl _
  | n + 1, h => by
    have ih := hbN_mono n (fun k hk => h k (by omega))
    rw [hbN, hbN]
    by_cases z : W' 2 n 5 = 0 ∧ W' 2 n 6 = x
    · rw [if_pos z, if_pos (h n (by omega) z)]
      omega
    · rw [if_neg z]
      split <;> omega
theorem hbN_one {W W' : Wd} {x : Int32} {k0 : Nat} : ∀ n, (∀ k, k < n → k ≠ k0 → W' 2 k 5 = 0 ∧ W' 2 k 6 = x → W 2 k 5 = 0 ∧ W 2 k 6 = x) → hbN W' x n ≤ hbN W x n + 1
  | 0, _ => by rw [hbN]; omega
  | n + 1, h => by
    by_cases e : n = k0
    · have ih := hbN_mono (W := W) (W' := W') (x := x) n (fun k hk => h k (by omega) (by omega))
      rw [hbN, hbN]
      split <;> split <;> omega
    · have ih := hbN_one n (fun k hk => h k (by omega))
      rw [hbN, hbN]
      by_cases z : W' 2 n 5 = 0 ∧ W' 2 n 6 = x
      · rw [if_pos z, if_pos (h n (by omega) e z)]
        omega
      · rw [if_neg z]
        split <;> omega
def perG (W : Wd) (nt p : Nat) : Prop := ((W 0 p 2 = -9 ∧ ∃ t, t < nt ∧ W 0 p 3 = nI t) ∨ (isTn (W 0 p 2) ∧ W 0 p 3 = -9)) ∧ ¬ W 0 p 1 < 0
def triG (W : Wd) (t : Nat) : Prop := (isP (W 1 t 0) ∧ isTn (W 1 t 1) ∧ isTn (W 1 t 2)) ∧ trG W t
def parG (W : Wd) (k : Nat) : Prop := isP (W 2 k 0) ∧ isHo (W 2 k 6) ∧ (¬ W 2 k 8 = -9 → isP (W 2 k 8)) ∧ (10 ≤ W 2 k 6 → W 2 k 8 = -9) ∧ ¬ W 2 k 8 = W 2 k 6 ∧ (∃ q : Nat, q < 4 ∧ W 2 k 4 = nI q) ∧ ∃ v : Nat, v ≤ 999 ∧ W 2 k 3 = nI v
def numG (hr f nt nk : Nat) (W : Wd) : Prop := (hr ≤ 500 ∧ f ≤ 10 * nk ∧ nt ≤ 16 ∧ nk ≤ 10) ∧ W 3 0 0 = nI hr ∧ W 3 0 1 = nI f ∧ W 3 0 4 = nI nt ∧ W 3 0 5 = nI nk
def Gd (hr f nt nk : Nat) (W : Wd) : Prop := numG hr f nt nk W ∧ (∀ p, p < 8 → perG W nt p) ∧ (∀ t, t < nt → triG W t) ∧ (∀ k, k < nk → parG W k) ∧ ∀ x, hbN W x nk ≤ 3
theorem perG.eq {W W' : Wd} {nt p : Nat} (h : perG W nt p) (h1 : W' 0 p 1 = W 0 p 1) (h2 : W' 0 p 2 = W 0 p 2) (h3 : W' 0 p 3 = W 0 p 3) : perG W' nt p := by
  unfold perG at h ⊢
  rw [h1, h2, h3]
  exact h
theorem perG.up {W : Wd} {nt p : Nat} (h : perG W nt p) : perG W (nt + 1) p := by
  refine ⟨?_, h.2⟩
  rcases h.1 with ⟨a, t, b, c⟩ | h
  · exact Or.inl ⟨a, t, by omega, c⟩
  · exact Or.inr h
theorem triG.eq {W W' : Wd} {t : Nat} (h : triG W t) (h1 : ∀ j, j < 6 → W' 1 t j = W 1 t j) : triG W' t := by
  unfold triG trG lvN arN feN at h ⊢
  rw [h1 0 (by decide), h1 1 (by decide), h1 2 (by decide), h1 3 (by decide), h1 4 (by decide), h1 5 (by decide)]
  exact h
theorem parG.eq {W W' : Wd} {k : Nat} (h : parG W k) (h0 : W' 2 k 0 = W 2 k 0) (h3 : W' 2 k 3 = W 2 k 3) (h4 : W' 2 k 4 = W 2 k 4) (h6 : W' 2 k 6 = W 2 k 6) (h8 : W' 2 k 8 = W 2 k 8) : parG W' k := by
  unfold parG at h ⊢
  rw [h0, h3, h4, h6, h8]
  exact h
theorem ho_ne9 {h : Int32} (hh : isHo h) : ¬ -9 = h := fun z => by
  obtain ⟨c, hc, rfl⟩ := isHo_c hh
  exact nI_pos (n := c) (by omega) (by rw [← z]; decide)
theorem ho_10 {h : Int32} (hh : isHo h) (hl : h < 10) : isP h := by
  rcases hh with hh | ⟨t, ht, rfl⟩
  · exact hh
  · exact absurd hl (nI_nlt (b := 10) (by omega) (by omega))
section GD
variable {hr f nt nk : Nat} {W : Wd}
theorem Gd.cT (h : Gd hr f nt nk W) : cT W = nt := by
  unfold Jvm.Pilot.CRelayParcelsLaw_law_r9431_5a56c4.cT
  have := h.1.1
  rw [h.1.2.2.2.1, nI_clamp (by omega)]
theorem Gd.cK (h : Gd hr f nt nk W) : cK W = nk := by
  unfold Jvm.Pilot.CRelayParcelsLaw_law_r9431_5a56c4.cK
  have := h.1.1
  rw [h.1.2.2.2.2, nI_clamp (by omega)]
theorem Gd.held (h : Gd hr f nt nk W) (x : Int32) : sHeld W x = nI (hbN W x nk) := by rw [sHeld, h.cK, hbTo_N]
theorem Gd.h3 (h : Gd hr f nt nk W) (x : Int32) : sHeld W x ≤ 3 := by
  rw [h.held]
  exact nI_le (b := 3) (h.2.2.2.2 x) (by decide)
theorem Gd.h2 (h : Gd hr f nt nk W) {x : Int32} (hx : ¬ 3 ≤ sHeld W x) : hbN W x nk ≤ 2 := by
  rw [h.held] at hx
  have := mt (nI_leI (a := 3) (b := hbN W x nk) (by decide) (by have := h.2.2.2.2 x; omega)).mpr hx
  omega
theorem Gd.good {sz : Nat} (h : Gd hr f nt nk W) (hz : W 4 0 0 = nI sz) (h5 : sz ≤ 512) : wGood W :=
  ⟨⟨by rw [h.cT]; exact h.1.1.2.2.1, by rw [h.cT]; exact h.1.2.2.2.1⟩, ⟨by rw [h.cK]; exact h.1.1.2.2.2, by rw [h.cK]; exact h.1.2.2.2.2⟩, sz, h5, hz⟩
/-- another world, the same counts -/
theorem Gd.up {W' : Wd} {hr' f' : Nat} (h : Gd hr f nt nk W) (hn : numG hr' f' nt nk W') (hp : ∀ p, p < 8 → perG W nt p → perG W' nt p) (ht : ∀ t, t < nt → triG W t → triG W' t) (hk : ∀ k, k < nk → parG W k → parG W' k) (hb : ∀ x, hbN W' x nk ≤ 3) : Gd hr' f' nt nk W' :=
  ⟨hn, fun p h1 => hp p h1 (h.2.1 p h1), fun t h1 => ht t h1 (h.2.2.1 t h1), fun k h1 => hk k h1 (h.2.2.2.1 k h1), hb⟩
theorem numG.eq {W' : Wd} (h : numG hr f nt nk W) (e0 : W' 3 0 0 = W 3 0 0) (e1 : W' 3 0 1 = W 3 0 1) (e4 : W' 3 0 4 = W 3 0 4) (e5 : W' 3 0 5 = W 3 0 5) : numG hr f nt nk W' := by
  unfold numG at h ⊢
  rw [e0, e1, e4, e5]
  exact h
/-- a cell that no rule speaks of: coins, fees got; handovers, fees paid; a trip's state; a parcel's receiver, goal, hours, second word -/
theorem Gd.free {a i j : Nat} {v : Int32} (h : Gd hr f nt nk W) (hc : (a = 0 ∧ (j = 0 ∨ j = 4)) ∨ (a = 3 ∧ (j = 2 ∨ j = 3)) ∨ (a = 1 ∧ j = 6) ∨ (a = 2 ∧ (j = 1 ∨ j = 2 ∨ j = 7 ∨ j = 9))) : Gd hr f nt nk (wSet W a i j v) := by
  have e : ∀ b i' q, ¬ ((b = 0 ∧ (q = 0 ∨ q = 4)) ∨ (b = 3 ∧ (q = 2 ∨ q = 3)) ∨ (b = 1 ∧ q = 6) ∨ (b = 2 ∧ (q = 1 ∨ q = 2 ∨ q = 7 ∨ q = 9))) → wSet W a i j v b i' q = W b i' q := fun b i' q hq => by
    rw [wSet_r, if_neg]
    rintro ⟨rfl, -, rfl⟩
    exact hq hc
  exact h.up (h.1.eq (e _ _ _ (by decide)) (e _ _ _ (by decide)) (e _ _ _ (by decide)) (e _ _ _ (by decide))) (fun p _ g => g.eq (e _ _ _ (by decide)) (e _ _ _ (by decide)) (e _ _ _ (by decide))) (fun t _ g => g.eq (fun q hq => e _ _ _ (by omega))) (fun k _ g => g.eq (e _ _ _ (by decide)) (e _ _ _ (by decide)) (e _ _ _ (by decide)) (e _ _ _ (by decide)) (e _ _ _ (by decide))) (fun x => by
    refine Nat.le_trans (hbN_mono (W := W) nk (fun k _ q => ?_)) (h.2.2.2.2 x)
    rw [e _ _ _ (by decide), e _ _ _ (by decide)] at q
    exact q)
/-- a parcel is no more under way -/
theorem Gd.gone {k : Nat} {v : Int32} (h : Gd hr f nt nk W) (hv : ¬ v = 0) : Gd hr f nt nk (wSet W 2 k 5 v) := by
  have e : ∀ b i' q, ¬ (b = 2 ∧ q = 5) → wSet W 2 k 5 v b i' q = W b i' q := fun b i' q hq => by
    rw [wSet_r, if_neg]
    rintro ⟨rfl, -, rfl⟩
    exact hq ⟨rfl, rfl⟩
  refine h.up (h.1.eq (e _ _ _ (by decide)) (e _ _ _ (by decide)) (e _ _ _ (by decide)) (e _ _ _ (by decide))) (fun p _ g => g.eq (e _ _ _ (by decide)) (e _ _ _ (by decide)) (e _ _ _ (by decide))) (fun t _ g => g.eq (fun q hq => e _ _ _ (by omega))) (fun k _ g => g.eq (e _ _ _ (by decide)) (e _ _ _ (by decide)) (e _ _ _ (by decide)) (e _ _ _ (by decide)) (e _ _ _ (by decide))) (fun x => ?_)
  refine Nat.le_trans (hbN_mono (W := W) nk (fun k' _ q => ?_)) (h.2.2.2.2 x)
  rw [e 2 k' 6 (by decide)] at q
  by_cases z : k' = k
  · subst z
    rw [wSet_same] at q
    exact absurd q.1 hv
  · rw [wSet_i z] at q
    exact q
/-- the lists of holders are no matter -/
theorem Gd.els {W' : Wd} (h : Gd hr f nt nk W) (e : ∀ a i k, a ≠ 4 → a ≠ 5 → W' a i k = W a i k) : Gd hr f nt nk W' :=
  h.up (h.1.eq (e _ _ _ (by decide) (by decide)) (e _ _ _ (by decide) (by decide)) (e _ _ _ (by decide) (by decide)) (e _ _ _ (by decide) (by decide))) (fun p _ g => g.eq (e _ _ _ (by decide) (by decide)) (e _ _ _ (by decide) (by decide)) (e _ _ _ (by decide) (by decide))) (fun t _ g => g.eq (fun q hq => e _ _ _ (by decide) (by decide))) (fun k _ g => g.eq (e _ _ _ (by decide) (by decide)) (e _ _ _ (by decide) (by decide)) (e _ _ _ (by decide) (by decide)) (e _ _ _ (by decide) (by decide)) (e _ _ _ (by decide) (by decide))) (fun x => Nat.le_trans (hbN_mono (W := W) nk (fun k _ q => by
    rw [e _ _ _ (by decide) (by decide), e _ _ _ (by decide) (by decide)] at q
    exact q)) (h.2.2.2.2 x))
theorem sSetH_6 {k : Nat} {h : Int32} : sSetH W k h 2 k 6 = h := by
  rw [sSetH, sNote_r (by decide) (by decide), wSet_k (by decide), wSet_k (by decide), wSet_k (by decide), wSet_same]
theorem sSetH_8 {k : Nat} {h : Int32} : sSetH W k h 2 k 8 = -9 := by
  rw [sSetH, sNote_r (by decide) (by decide), wSet_k (by decide), wSet_same]
/-- a parcel has another holder -/
theorem Gd.setH {k : Nat} {h : Int32} (hG : Gd hr f nt nk W) (hk : k < nk) (hh : isHo h) (h2 : hbN W h nk ≤ 2) : Gd hr f nt nk (sSetH W k h) := by
  have e : ∀ b i' q, b ≠ 4 → b ≠ 5 → (b ≠ 2 ∨ i' ≠ k ∨ q < 6) → sSetH W k h b i' q = W b i' q := fun b i' q a1 a2 a3 => sSetH_r a1 a2 a3
  refine hG.up (hG.1.eq (e _ _ _ (by decide) (by decide) (Or.inl (by decide))) (e _ _ _ (by decide) (by decide) (Or.inl (by decide))) (e _ _ _ (by decide) (by decide) (Or.inl (by decide))) (e _ _ _ (by decide) (by decide) (Or.inl (by decide)))) (fun p _ g => g.eq (e _ _ _ (by decide) (by decide) (Or.inl (by decide))) (e _ _ _ (by decide) (by decide) (Or.inl (by decide))) (e _ _ _ (by decide) (by decide) (Or.inl (by decide)))) (fun t _ g => g.eq (fun q hq => e _ _ _ (by decide) (by decide) (Or.inl (by decide)))) (fun k' _ g => ?_) (fun x => ?_)
  · by_cases z : k' = k
    · subst z
      obtain ⟨g0, g1, g2, g3, g4, g5, g6⟩ := g
      unfold parG
      rw [sSetH_6, sSetH_8, e _ _ _ (by decide) (by decide) (Or.inr (Or.inr (by decide))), e _ _ _ (by decide) (by decide) (Or.inr (Or.inr (by decide))), e _ _ _ (by decide) (by decide) (Or.inr (Or.inr (by decide)))]
      exact ⟨g0, hh, fun q => absurd rfl q, fun _ => rfl, ho_ne9 hh, g5, g6⟩
    · exact g.eq (e _ _ _ (by decide) (by decide) (Or.inr (Or.inl z))) (e _ _ _ (by decide) (by decide) (Or.inr (Or.inl z))) (e _ _ _ (by decide) (by decide) (Or.inr (Or.inl z))) (e _ _ _ (by decide) (by decide) (Or.inr (Or.inl z))) (e _ _ _ (by decide) (by decide) (Or.inr (Or.inl z)))
  · by_cases hx : x = h
    · subst hx
      refine Nat.le_trans (hbN_one (W := W) (k0 := k) nk (fun k' _ z q => ?_)) (Nat.succ_le_succ h2)
      rw [e _ _ _ (by decide) (by decide) (Or.inr (Or.inl z)), e _ _ _ (by decide) (by decide) (Or.inr (Or.inl z))] at q
      exact q
    · refine Nat.le_trans (hbN_mono (W := W) nk (fun k' _ q => ?_)) (hG.2.2.2.2 x)
      by_cases z : k' = k
      · subst z
        rw [sSetH_6] at q
        exact absurd q.2.symm hx
      · rw [e _ _ _ (by decide) (by decide) (Or.inr (Or.inl z)), e _ _ _ (by decide) (by decide) (Or.inr (Or.inl z))] at q
        exact q
theorem hbN_free {a i j n : Nat} {v x : Int32} (h : a ≠ 2) : hbN (wSet W a i j v) x n = hbN W x n := by
  induction n with
  | zero => rfl
  | succ n ih => rw [hbN, hbN, ih, wSet_a (Ne.symm h), wSet_a (Ne.symm h)]
theorem hbN_word {k j n : Nat} {v x : Int32} (h5 : j ≠ 5) (h6 : j ≠ 6) : hbN (wSet W 2 k j v) x n = hbN W x n := by
  induction n with
  | zero => rfl
  | succ n ih => rw [hbN, hbN, ih, wSet_k (Ne.symm h5), wSet_k (Ne.symm h6)]
theorem Gd.hov {k : Nat} {h : Int32} (hG : Gd hr f nt nk W) (hk : k < nk) (hh : isHo h) (h2 : hbN W h nk ≤ 2) : Gd hr f nt nk (sHov W k h) :=
  (hG.free (Or.inr (Or.inl ⟨rfl, Or.inl rfl⟩))).setH hk hh (by rw [hbN_free (by decide)]; exact h2)
theorem Gd.pay2 {a c d : Nat} {v : Int32} (hG : Gd hr f nt nk W) : Gd hr f nt nk (sPay2 W a c d v) :=
  (((hG.free (Or.inl ⟨rfl, Or.inl rfl⟩)).free (Or.inl ⟨rfl, Or.inl rfl⟩)).free (Or.inl ⟨rfl, Or.inr rfl⟩)).free (Or.inr (Or.inl ⟨rfl, Or.inr rfl⟩))
theorem Gd.sett {k : Nat} {t : Int32} (hG : Gd hr f nt nk W) : Gd hr f nt nk (sSet W k t) := by
  unfold sSet sPay
  split
  · split
    · exact hG
    · exact hG.pay2
  · split
    · exact hG.gone (by decide)
    · exact hG
/-- the holder's word -/
theorem Gd.word {k p : Nat} (hG : Gd hr f nt nk W) (hp : p < 8) (hl : W 2 k 6 < 10) (hne : ¬ nI p = W 2 k 6) : Gd hr f nt nk (wSet W 2 k 8 (nI p)) := by
  have e : ∀ b i' q, (b ≠ 2 ∨ q ≠ 8) → wSet W 2 k 8 (nI p) b i' q = W b i' q := fun b i' q hq => by
    rw [wSet_r, if_neg]
    rintro ⟨rfl, -, rfl⟩
    exact hq.elim (fun z => z rfl) (fun z => z rfl)
  refine hG.up (hG.1.eq (e _ _ _ (by decide)) (e _ _ _ (by decide)) (e _ _ _ (by decide)) (e _ _ _ (by decide))) (fun p _ g => g.eq (e _ _ _ (by decide)) (e _ _ _ (by decide)) (e _ _ _ (by decide))) (fun t _ g => g.eq (fun q hq => e _ _ _ (by omega))) (fun k' _ g => ?_) (fun x => by rw [hbN_word (by decide) (by decide)]; exact hG.2.2.2.2 x)
  by_cases z : k' = k
  · subst z
    obtain ⟨g0, g1, g2, g3, g4, g5, g6⟩ := g
    unfold parG
    rw [wSet_same, e 2 k' 0 (by decide), e 2 k' 6 (by decide), e 2 k' 4 (by decide), e 2 k' 3 (by decide)]
    exact ⟨g0, g1, fun _ => ⟨p, hp, rfl⟩, fun q => absurd hl (Int32.not_lt.mpr q), hne, g5, g6⟩
  · exact g.eq (wSet_i z) (wSet_i z) (wSet_i z) (wSet_i z) (wSet_i z)
theorem Gd.how {k p : Nat} (hG : Gd hr f nt nk W) (hk : k < nk) (hp : p < 8) (h2 : hbN W (nI p) nk ≤ 2) : Gd hr f nt nk (sHow W k (nI p)) := by
  unfold sHow
  split
  · exact (hG.hov hk (Or.inl ⟨p, hp, rfl⟩) h2).sett
  · exact hG
theorem lt10 {g : Nat} (h : g < 8) : nI g < 10 := nI_lt (b := 10) (by omega) (by omega)
theorem Gd.gav {k p g : Nat} (hG : Gd hr f nt nk W) (hk : k < nk) (hp : p < 8) (hg : g < 8) (eg : W 2 k 6 = nI g) (hne : ¬ nI g = nI p) (h2 : hbN W (nI p) nk ≤ 2) : Gd hr f nt nk (sGav W k (nI p)) :=
  (hG.word hp (by rw [eg]; exact lt10 hg) (by rw [eg]; exact fun z => hne z.symm)).how hk hp (by rw [hbN_word (by decide) (by decide)]; exact h2)
theorem Gd.tok {k p : Nat} (hG : Gd hr f nt nk W) (hk : k < nk) (hp : p < 8) (h2 : hbN W (nI p) nk ≤ 2) : Gd hr f nt nk (sTok W k (nI p)) :=
  (hG.free (Or.inr (Or.inr (Or.inr ⟨rfl, Or.inr (Or.inr (Or.inr rfl))⟩)))).how hk hp (by rw [hbN_word (by decide) (by decide)]; exact h2)
theorem isHo_l {t : Int32} (h : isTn t) : isHo (10 + t) := by
  obtain ⟨t, h1, rfl⟩ := h
  exact Or.inr ⟨t, h1, by rw [← nI_add]; rfl⟩
theorem Gd.put {k p : Nat} (hG : Gd hr f nt nk W) (hk : k < nk) (hp : p < 8) (ht : ¬ W 0 p 2 = -9) (h2 : hbN W (10 + W 0 p 2) nk ≤ 2) : Gd hr f nt nk (sPut W p k) :=
  hG.hov hk (isHo_l ((hG.2.1 p hp).1.elim (fun z => absurd z.1 ht) (fun z => z.1))) h2
theorem Gd.fet {k p : Nat} (hG : Gd hr f nt nk W) (hk : k < nk) (hp : p < 8) (h2 : hbN W (nI p) nk ≤ 2) : Gd hr f nt nk (sFet W p k) := (hG.hov hk (Or.inl ⟨p, hp, rfl⟩) h2).sett
-- hours
theorem Gd.perset {p : Nat} {a b : Int32} (hG : Gd hr f nt nk W) (h : (a = -9 ∧ ∃ t, t < nt ∧ b = nI t) ∨ (isTn a ∧ b = -9)) : Gd hr f nt nk (wSet (wSet W 0 p 2 a) 0 p 3 b) := by
  have e : ∀ c i' q, (c ≠ 0 ∨ (q ≠ 2 ∧ q ≠ 3)) → wSet (wSet W 0 p 2 a) 0 p 3 b c i' q = W c i' q := fun c i' q hq => by
    rw [wSet_r, if_neg (by omega), wSet_r, if_neg (by omega)]
  refine hG.up (hG.1.eq (e _ _ _ (by decide)) (e _ _ _ (by decide)) (e _ _ _ (by decide)) (e _ _ _ (by decide))) (fun p' _ g => ?_) (fun t _ g => g.eq (fun q hq => e _ _ _ (by omega))) (fun k _ g => g.eq (e _ _ _ (by decide)) (e _ _ _ (by decide)) (e _ _ _ (by decide)) (e _ _ _ (by decide)) (e _ _ _ (by decide))) (fun x => by rw [hbN_free (by decide), hbN_free (by decide)]; exact hG.2.2.2.2 x)
  by_cases z : p' = p
  · subst z
    unfold perG
    rw [wSet_same, wSet_k (show (2 : Nat) ≠ 3 by decide), wSet_same, e 0 p' 1 (by decide)]
    exact ⟨h, g.2⟩
  · exact g.eq ((wSet_i z).trans (wSet_i z)) ((wSet_i z).trans (wSet_i z)) ((wSet_i z).trans (wSet_i z))
theorem Gd.eSt {i : Nat} (hG : Gd hr f nt nk W) (hi : i < nt) : Gd hr f nt nk (eStep W i) :=
  (hG.free (Or.inr (Or.inr (Or.inl ⟨rfl, rfl⟩)))).perset (Or.inr ⟨(hG.2.2.1 i hi).1.2.2, rfl⟩)
theorem Gd.gSt {i : Nat} (hG : Gd hr f nt nk W) (hi : i < nt) : Gd hr f nt nk (gStep W i) := by
  unfold gStep
  split
  · exact (hG.free (Or.inr (Or.inr (Or.inl ⟨rfl, rfl⟩)))).perset (Or.inl ⟨rfl, i, hi, rfl⟩)
  · exact hG.free (Or.inr (Or.inr (Or.inl ⟨rfl, rfl⟩)))
theorem Gd.et (hG : Gd hr f nt nk W) : ∀ i, i ≤ nt → Gd hr f nt nk (etTo W i)
  | 0, _ => hG
  | i + 1, h => by
    rw [etTo]
    split
    · exact (hG.et i (by omega)).eSt (by omega)
    · exact hG.et i (by omega)
theorem Gd.gt (hG : Gd hr f nt nk W) : ∀ i, i ≤ nt → Gd hr f nt nk (gtTo W i)
  | 0, _ => hG
  | i + 1, h => by
    rw [gtTo]
    split
    · exact (hG.gt i (by omega)).gSt (by omega)
    · exact hG.gt i (by omega)
theorem Gd.hour (hG : Gd hr f nt nk W) (h5 : hr + 1 ≤ 500) : Gd (hr + 1) f nt nk (sHour W) := by
  have e : ∀ c i' q, (c ≠ 3 ∨ q ≠ 0) → wSet W 3 0 0 (W 3 0 0 + 1) c i' q = W c i' q := fun c i' q hq => by rw [wSet_r, if_neg (by omega)]
  have h1 : Gd (hr + 1) f nt nk (wSet W 3 0 0 (W 3 0 0 + 1)) := hG.up ⟨⟨h5, hG.1.1.2⟩, by rw [wSet_same, hG.1.2.1, nI_1], (e _ _ _ (by decide)).trans hG.1.2.2.1, (e _ _ _ (by decide)).trans hG.1.2.2.2.1, (e _ _ _ (by decide)).trans hG.1.2.2.2.2⟩ (fun p _ g => g.eq (e _ _ _ (by decide)) (e _ _ _ (by decide)) (e _ _ _ (by decide))) (fun t _ g => g.eq (fun q hq => e _ _ _ (by omega))) (fun k _ g => g.eq (e _ _ _ (by decide)) (e _ _ _ (by decide)) (e _ _ _ (by decide)) (e _ _ _ (by decide)) (e _ _ _ (by decide))) (fun x => by rw [hbN_free (by decide)]; exact hG.2.2.2.2 x)
  unfold sHour
  rw [hG.cT]
  exact (h1.et nt (Nat.le_refl _)).gt nt (Nat.le_refl _)
theorem Gd.pas (hG : Gd hr f nt nk W) : ∀ j, hr + j ≤ 500 → Gd (hr + j) f nt nk (paTo W j)
  | 0, _ => hG
  | j + 1, h => (hG.pas j (by omega)).hour (by omega)
-- a claim
theorem iMin_n {a b : Nat} (ha : a < 2 ^ 31) (hb : b < 2 ^ 31) : iMin (nI a) (nI b) = nI (min a b) := by
  unfold iMin
  by_cases h : b < a
  · rw [if_pos ((nI_ltI hb ha).mpr h), Nat.min_eq_right (by omega)]
  · rw [if_neg (fun z => h ((nI_ltI hb ha).mp z)), Nat.min_eq_left (by omega)]
theorem iCover_n (q : Nat) : ∃ c : Nat, c ≤ 999 ∧ iCover q = nI c := match q with | 0 => ⟨0, by decide, rfl⟩ | 1 => ⟨50, by decide, rfl⟩ | 2 => ⟨200, by decide, rfl⟩ | _ + 3 => ⟨999, by decide, rfl⟩
theorem Gd.fund {k : Nat} (hG : Gd hr f nt nk W) (hk : k < nk) : ∃ q v : Nat, q ≤ f ∧ q ≤ v ∧ v ≤ 999 ∧ sFund W k = nI q ∧ W 2 k 3 = nI v := by
  obtain ⟨-, -, -, -, -, ⟨q, hq, eq⟩, v, hv, ev⟩ := hG.2.2.2.1 k hk
  obtain ⟨c, hc, ec⟩ := iCover_n (ix (W 2 k 4))
  have hf := hG.1.1
  refine ⟨min (min v c) f, v, Nat.min_le_right _ _, by omega, hv, ?_, ev⟩
  rw [sFund, ev, ec, hG.1.2.2.1, iMin_n (by omega) (by omega), iMin_n (by omega) (by omega)]
theorem Gd.owe {k : Nat} (hG : Gd hr f nt nk W) (hk : k < nk) : (∃ x : Nat, sHoP W k = nI x ∧ ∀ p d : Nat, p < 8 → W 2 k 6 = nI p → W 0 p 1 = nI d → d < 2 ^ 31 → x ≤ d) ∧ (∃ x : Nat, sNaP W k = nI x ∧ ∀ p d : Nat, p < 8 → W 2 k 8 = nI p → W 0 p 1 = nI d → d < 2 ^ 31 → x ≤ d) := by
  obtain ⟨q, v, h1, h2, h3, h4, h5⟩ := hG.fund hk
  obtain ⟨g0, g1, g2, g3, g4, -, -⟩ := hG.2.2.2.1 k hk
  have em : sMiss W k = nI (v - q) := by rw [sMiss, h4, h5, pk_sub h2]
  have e2 : sMiss W k / 2 = nI ((v - q) / 2) := by rw [em]; exact pk_div (d := 2) (by omega) (by decide) (by decide)
  have eo : ∃ y : Nat, y < 1000 ∧ (if W 2 k 8 = -9 then sMiss W k else sMiss W k - sMiss W k / 2) = nI y := by
    split
    · exact ⟨v - q, by omega, em⟩
    · exact ⟨v - q - (v - q) / 2, by omega, by rw [e2, em, pk_sub (by omega)]⟩
  obtain ⟨y, hy, ey⟩ := eo
  constructor
  · by_cases hl : 10 ≤ W 2 k 6
    · exact ⟨0, if_pos hl, fun p d _ _ _ _ => Nat.zero_le _⟩
    · obtain ⟨p, hp, ep⟩ := ho_10 g1 (Int32.not_le.mp hl)
      obtain ⟨d, hd, ed⟩ := nI_of (hG.2.1 p hp).2
      refine ⟨min y d, by rw [sHoP, if_neg hl, ey, ep, ixP hp, ed, iMin_n (by omega) hd], fun p' d' hp' ep' ed' hd' => ?_⟩
      have : p' = p := (nI_eq (by omega) (by omega)).mp (ep'.symm.trans ep)
      subst this
      have : d' = d := (nI_eq hd' hd).mp (ed'.symm.trans ed)
      omega
  · by_cases hl : W 2 k 8 = -9
    · exact ⟨0, if_pos hl, fun p d _ _ _ _ => Nat.zero_le _⟩
    · obtain ⟨p, hp, ep⟩ := g2 hl
      obtain ⟨d, hd, ed⟩ := nI_of (hG.2.1 p hp).2
      refine ⟨min ((v - q) / 2) d, by rw [sNaP, if_neg hl, e2, ep, ixP hp, ed, iMin_n (by omega) hd], fun p' d' hp' ep' ed' hd' => ?_⟩
      have : p' = p := (nI_eq (by omega) (by omega)).mp (ep'.symm.trans ep)
      subst this
      have : d' = d := (nI_eq hd' hd).mp (ed'.symm.trans ed)
      omega
end GD
