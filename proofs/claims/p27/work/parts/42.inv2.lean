-- ===== what holds of every world: a claim, an offer, a parcel posted, copies =====
section GD2
variable {hr f nt nk : Nat} {W : Wd}
theorem Gd.dep {p : Nat} {v : Int32} (hG : Gd hr f nt nk W) (hv : ¬ v < 0) : Gd hr f nt nk (wSet W 0 p 1 v) := by
  have e : ∀ c i' q, (c ≠ 0 ∨ q ≠ 1) → wSet W 0 p 1 v c i' q = W c i' q := fun c i' q hq => by rw [wSet_r, if_neg (by omega)]
  refine hG.up (hG.1.eq (e _ _ _ (by decide)) (e _ _ _ (by decide)) (e _ _ _ (by decide)) (e _ _ _ (by decide))) (fun p' _ g => ?_) (fun t _ g => g.eq (fun q hq => e _ _ _ (by omega))) (fun k _ g => g.eq (e _ _ _ (by decide)) (e _ _ _ (by decide)) (e _ _ _ (by decide)) (e _ _ _ (by decide)) (e _ _ _ (by decide))) (fun x => by rw [hbN_free (by decide)]; exact hG.2.2.2.2 x)
  by_cases z : p' = p
  · subst z
    unfold perG
    rw [wSet_same, e 0 p' 2 (by decide), e 0 p' 3 (by decide)]
    exact ⟨g.1, hv⟩
  · exact g.eq (wSet_i z) (wSet_i z) (wSet_i z)
theorem Gd.fnd {g : Nat} (hG : Gd hr f nt nk W) (hg : g ≤ 10 * nk) : Gd hr g nt nk (wSet W 3 0 1 (nI g)) := by
  have e : ∀ c i' q, (c ≠ 3 ∨ q ≠ 1) → wSet W 3 0 1 (nI g) c i' q = W c i' q := fun c i' q hq => by rw [wSet_r, if_neg (by omega)]
  exact hG.up ⟨⟨hG.1.1.1, hg, hG.1.1.2.2⟩, (e _ _ _ (by decide)).trans hG.1.2.1, wSet_same _ _ _ _ _, (e _ _ _ (by decide)).trans hG.1.2.2.2.1, (e _ _ _ (by decide)).trans hG.1.2.2.2.2⟩ (fun p _ g => g.eq (e _ _ _ (by decide)) (e _ _ _ (by decide)) (e _ _ _ (by decide))) (fun t _ g => g.eq (fun q hq => e _ _ _ (by omega))) (fun k _ g => g.eq (e _ _ _ (by decide)) (e _ _ _ (by decide)) (e _ _ _ (by decide)) (e _ _ _ (by decide)) (e _ _ _ (by decide))) (fun x => by rw [hbN_free (by decide)]; exact hG.2.2.2.2 x)
theorem Gd.wno {k : Nat} (hG : Gd hr f nt nk W) : Gd hr f nt nk (wSet W 2 k 8 (-9)) := by
  have e : ∀ b i' q, (b ≠ 2 ∨ q ≠ 8) → wSet W 2 k 8 (-9) b i' q = W b i' q := fun b i' q hq => by rw [wSet_r, if_neg (by omega)]
  refine hG.up (hG.1.eq (e _ _ _ (by decide)) (e _ _ _ (by decide)) (e _ _ _ (by decide)) (e _ _ _ (by decide))) (fun p _ g => g.eq (e _ _ _ (by decide)) (e _ _ _ (by decide)) (e _ _ _ (by decide))) (fun t _ g => g.eq (fun q hq => e _ _ _ (by omega))) (fun k' _ g => ?_) (fun x => by rw [hbN_word (by decide) (by decide)]; exact hG.2.2.2.2 x)
  by_cases z : k' = k
  · subst z
    obtain ⟨g0, g1, g2, g3, g4, g5, g6⟩ := g
    unfold parG
    rw [wSet_same, e 2 k' 0 (by decide), e 2 k' 6 (by decide), e 2 k' 4 (by decide), e 2 k' 3 (by decide)]
    exact ⟨g0, g1, fun z => absurd rfl z, fun _ => rfl, ho_ne9 g1, g5, g6⟩
  · exact g.eq (wSet_i z) (wSet_i z) (wSet_i z) (wSet_i z) (wSet_i z)
theorem sub_nn {d x : Nat} (h : x ≤ d) (hd : d < 2 ^ 31) : ¬ (nI d - nI x) < 0 := by
  rw [pk_sub h]
  exact nI_pos (by omega)
theorem Gd.los {k q : Nat} (hG : Gd hr f nt nk W) (hk : k < nk) (hq : q ≤ f) (eq : sFund W k = nI q) : Gd hr (f - q) nt nk (sLos W k) := by
  have hf := hG.1.1
  obtain ⟨g0, g1, g2, g3, g4, -, -⟩ := hG.2.2.2.1 k hk
  obtain ⟨⟨x, ex, hx⟩, y, ey, hy⟩ := hG.owe hk
  have hA : Gd hr (f - q) nt nk (sLoA W k) := by
    rw [sLoA, eq, hG.1.2.2.1, pk_sub hq]
    exact hG.fnd (by omega)
  have hB : Gd hr (f - q) nt nk (sLoB W k) := by
    unfold sLoB
    split
    · exact hA
    · rename_i hl
      obtain ⟨p, hp, ep⟩ := ho_10 g1 (Int32.not_le.mp hl)
      obtain ⟨d, hd, ed⟩ := nI_of (hG.2.1 p hp).2
      refine hA.dep ?_
      rw [ep, ixP hp, ed, ex]
      exact sub_nn (hx p d hp ep ed hd) hd
  have hC : Gd hr (f - q) nt nk (sLoC W k) := by
    unfold sLoC
    split
    · exact hB
    · rename_i hl
      obtain ⟨p, hp, ep⟩ := g2 hl
      obtain ⟨d, hd, ed⟩ := nI_of (hG.2.1 p hp).2
      refine hB.dep ?_
      have eB : sLoB W k 0 p 1 = nI d := by
        unfold sLoB
        split
        · rw [sLoA_r (by decide), ed]
        · rename_i hl2
          obtain ⟨p2, hp2, ep2⟩ := ho_10 g1 (Int32.not_le.mp hl2)
          rw [wSet_i, sLoA_r (by decide), ed]
          intro z
          rw [ep2, ixP hp2] at z
          subst z
          exact g4 (ep.trans ep2.symm)
      rw [ep, ixP hp, eB, ey]
      exact sub_nn (hy p d hp ep ed hd) hd
  exact (((hC.free (Or.inl ⟨rfl, Or.inl rfl⟩)).gone (by decide)).wno).free (Or.inr (Or.inr (Or.inr ⟨rfl, Or.inr (Or.inr (Or.inr rfl))⟩)))
theorem Gd.cl {k : Nat} (hG : Gd hr f nt nk W) (hk : k < nk) : clG W f k := by
  obtain ⟨g0, g1, g2, g3, g4, g5, -⟩ := hG.2.2.2.1 k hk
  obtain ⟨q, v, h1, -, -, h4, -⟩ := hG.fund hk
  obtain ⟨⟨x, ex, hx⟩, y, ey, hy⟩ := hG.owe hk
  have hf := hG.1.1
  refine ⟨g5, ho_10 g1, g2, g3, ⟨q, h1, h4⟩, ?_, ?_, g0⟩
  · by_cases hl : 10 ≤ W 2 k 6
    · rw [sHoP, if_pos hl]
      decide
    · obtain ⟨p, hp, ep⟩ := ho_10 g1 (Int32.not_le.mp hl)
      obtain ⟨d, hd, ed⟩ := nI_of (hG.2.1 p hp).2
      rw [ex]
      exact nI_pos (Nat.lt_of_le_of_lt (hx p d hp ep ed hd) hd)
  · by_cases hl : W 2 k 8 = -9
    · rw [sNaP, if_pos hl]
      decide
    · obtain ⟨p, hp, ep⟩ := g2 hl
      obtain ⟨d, hd, ed⟩ := nI_of (hG.2.1 p hp).2
      rw [ey]
      exact nI_pos (Nat.lt_of_le_of_lt (hy p d hp ep ed hd) hd)
theorem tn_ne9 {t : Int32} (h : isTn t) : ¬ t = -9 := fun z => by
  obtain ⟨c, hc, rfl⟩ := h
  exact nI_pos (n := c) (by omega) (by rw [z]; decide)
theorem Gd.rd {k : Nat} (hG : Gd hr f nt nk W) (hk : k < nk) : rdG W nt k := by
  obtain ⟨g0, g1, -⟩ := hG.2.2.2.1 k hk
  have hb := hG.1.1
  by_cases hl : W 2 k 6 < 10
  · obtain ⟨p, hp, ep⟩ := ho_10 g1 hl
    have e1 : sTown W (W 2 k 6) = W 0 p 2 := by rw [sTown, if_pos hl, ep, ixP hp]
    have e2 : sOn W (W 2 k 6) = W 0 p 3 := by rw [sOn, if_pos hl, ep, ixP hp]
    rw [rdG, e1, e2]
    rcases (hG.2.1 p hp).1 with ⟨a, t, ht, b⟩ | ⟨a, b⟩
    · exact Or.inl ⟨a, p, t, hp, ht, ep, b, b⟩
    · exact Or.inr ⟨tn_ne9 a, b⟩
  · refine Or.inr ⟨?_, if_neg hl⟩
    rw [sTown, if_neg hl]
    rcases g1 with ⟨p, hp, ep⟩ | ⟨t, ht, et⟩
    · exact absurd (show W 2 k 6 < 10 by rw [ep]; exact lt10 hp) hl
    · rw [et, show (10 : Int32) = nI 10 from rfl, pk_sub (by omega)]
      exact fun z => nI_pos (n := 10 + t - 10) (by omega) (by rw [z]; decide)
theorem Gd.on {k : Nat} (hG : Gd hr f nt nk W) (hk : k < nk) : ¬ sOn W (W 2 k 6) = -9 → ∃ t : Nat, t < 16 ∧ sOn W (W 2 k 6) = nI t := fun h => by
  have hb := hG.1.1
  rcases hG.rd hk with ⟨-, p, t, -, ht, -, e, -⟩ | ⟨-, e⟩
  · exact ⟨t, by omega, e⟩
  · exact absurd e h
theorem Gd.offer {p a b i l e : Nat} (hG : Gd hr f nt nk W) (h16 : nt < 16) (hp : p < 8) (ha : a < 6) (hb : b < 6) (hi : i ≤ 50) (hl0 : 0 < l) (hl : l ≤ 50) (he : e ≤ 99) : Gd hr f (nt + 1) nk (sAddT W (nI p) (nI a) (nI b) (nI i) (nI l) (nI e)) := by
  have hc := hG.cT
  have hq := hG.1.1
  have hW : ∀ a' i' k', (a' ≠ 1 ∨ i' ≠ nt) → (a' ≠ 3 ∨ k' ≠ 4) → sAddT W (nI p) (nI a) (nI b) (nI i) (nI l) (nI e) a' i' k' = W a' i' k' := fun a' i' k' h h' => by
    simp only [sAddT, hc, wSet_r]
    rw [if_neg (by omega), if_neg (by omega), if_neg (by omega), if_neg (by omega), if_neg (by omega), if_neg (by omega), if_neg (by omega), if_neg (by omega)]
  have e0 : ∀ {a' i' k'}, (a' ≠ 1 ∨ i' ≠ nt) ∧ (a' ≠ 3 ∨ k' ≠ 4) → sAddT W (nI p) (nI a) (nI b) (nI i) (nI l) (nI e) a' i' k' = W a' i' k' := fun h => hW _ _ _ h.1 h.2
  refine ⟨⟨⟨hq.1, hq.2.1, by omega, hq.2.2.2⟩, (e0 (by omega)).trans hG.1.2.1, (e0 (by omega)).trans hG.1.2.2.1, ?_, (e0 (by omega)).trans hG.1.2.2.2.2⟩, fun q hq => ((hG.2.1 q hq).up).eq (e0 (by omega)) (e0 (by omega)) (e0 (by omega)), fun t ht => ?_, fun k hk => (hG.2.2.2.1 k hk).eq (e0 (by omega)) (e0 (by omega)) (e0 (by omega)) (e0 (by omega)) (e0 (by omega)), fun x => Nat.le_trans (hbN_mono (W := W) nk (fun k _ q => by
    rw [e0 (by omega), e0 (by omega)] at q
    exact q)) (hG.2.2.2.2 x)⟩
  · rw [sAddT, wSet_same, hG.1.2.2.2.1, nI_1]
  · by_cases z : t = nt
    · subst z
      have r : ∀ j, j < 7 → sAddT W (nI p) (nI a) (nI b) (nI i) (nI l) (nI e) 1 t j = (match j with | 0 => nI p | 1 => nI a | 2 => nI b | 3 => nI (hr + i) | 4 => nI (hr + i + l) | 5 => nI e | _ => 0) := fun j hj => by
        rcases (by omega : j = 0 ∨ j = 1 ∨ j = 2 ∨ j = 3 ∨ j = 4 ∨ j = 5 ∨ j = 6) with rfl | rfl | rfl | rfl | rfl | rfl | rfl <;> simp [sAddT, hc, wSet, hG.1.2.1, nI_add]
      refine ⟨⟨⟨p, hp, r 0 (by decide)⟩, ⟨a, ha, r 1 (by decide)⟩, ⟨b, hb, r 2 (by decide)⟩⟩, ?_⟩
      unfold trG lvN arN feN
      rw [r 3 (by decide), r 4 (by decide), r 5 (by decide)]
      show nI (hr + i) = nI (ix (nI (hr + i))) ∧ nI (hr + i + l) = nI (ix (nI (hr + i + l))) ∧ ix (nI (hr + i)) < ix (nI (hr + i + l)) ∧ ix (nI (hr + i + l)) ≤ 600 ∧ nI e = nI (ix (nI e)) ∧ ix (nI e) ≤ 99
      rw [show ix (nI (hr + i)) = hr + i from nI_clamp (by omega), show ix (nI (hr + i + l)) = hr + i + l from nI_clamp (by omega), show ix (nI e) = e from nI_clamp (by omega)]
      exact ⟨rfl, rfl, by omega, by omega, rfl, he⟩
    · exact (hG.2.2.1 t (by omega)).eq (fun j hj => e0 (by omega))
theorem Gd.post {p q b t v : Nat} (hG : Gd hr f nt nk W) (h10 : nk < 10) (hp : p < 8) (hq4 : q < 4) (hv : v ≤ 999) (h2 : hbN W (nI p) nk ≤ 2) {B T : Int32} : Gd hr (f + costN q) nt (nk + 1) (sAddK W (nI p) B T (nI v) (nI q)) := by
  have hc := hG.cK
  have hq := hG.1.1
  have hcq := costN_le q
  have eX : ix (nI q) = q := cl4 hq4
  have hW : ∀ a' i' k', (a' ≠ 2 ∨ i' ≠ nk) → (a' ≠ 0 ∨ k' ≠ 0) → (a' ≠ 3 ∨ (k' ≠ 1 ∧ k' ≠ 5)) → a' ≠ 4 → a' ≠ 5 → sAddK W (nI p) B T (nI v) (nI q) a' i' k' = W a' i' k' := fun a' i' k' h h' h'' h4 h5 => by
    rw [sAddK, hc, ixP hp, eX, sSetH_r h4 h5 (by omega)]
    simp only [wSet_r]
    rw [if_neg (by omega), if_neg (by omega), if_neg (by omega), if_neg (by omega), if_neg (by omega), if_neg (by omega), if_neg (by omega), if_neg (by omega), if_neg (by omega)]
  have e0 : ∀ {a' i' k'}, (a' ≠ 2 ∨ i' ≠ nk) ∧ (a' ≠ 0 ∨ k' ≠ 0) ∧ (a' ≠ 3 ∨ (k' ≠ 1 ∧ k' ≠ 5)) ∧ a' ≠ 4 ∧ a' ≠ 5 → sAddK W (nI p) B T (nI v) (nI q) a' i' k' = W a' i' k' := fun h => hW _ _ _ h.1 h.2.1 h.2.2.1 h.2.2.2.1 h.2.2.2.2
  have eN : ∀ j, j < 6 → sAddK W (nI p) B T (nI v) (nI q) 2 nk j = (match j with | 0 => nI p | 1 => B | 2 => T | 3 => nI v | 4 => nI q | _ => 0) := fun j hj => by
    rw [sAddK, hc, ixP hp, eX, sSetH_r (by decide) (by decide) (Or.inr (Or.inr hj))]
    rcases (by omega : j = 0 ∨ j = 1 ∨ j = 2 ∨ j = 3 ∨ j = 4 ∨ j = 5) with rfl | rfl | rfl | rfl | rfl | rfl <;> simp [wSet]
  have e6 : sAddK W (nI p) B T (nI v) (nI q) 2 nk 6 = nI p := by rw [sAddK, hc]; exact sSetH_6
  have e8 : sAddK W (nI p) B T (nI v) (nI q) 2 nk 8 = -9 := by rw [sAddK, hc]; exact sSetH_8
  refine ⟨⟨⟨hq.1, by omega, hq.2.2.1, by omega⟩, (e0 (by omega)).trans hG.1.2.1, ?_, (e0 (by omega)).trans hG.1.2.2.2.1, ?_⟩, fun q hq => (hG.2.1 q hq).eq (e0 (by omega)) (e0 (by omega)) (e0 (by omega)), fun t ht => (hG.2.2.1 t ht).eq (fun j hj => e0 (by omega)), fun k hk => ?_, fun x => ?_⟩
  · rw [sAddK, hc, ixP hp, eX, sSetH_r (by decide) (by decide) (Or.inl (by decide)), wSet_k (by decide), wSet_same, hG.1.2.2.1, costN_i, nI_add]
  · rw [sAddK, hc, sSetH_r (by decide) (by decide) (Or.inl (by decide)), wSet_same, hG.1.2.2.2.2, nI_1]
  · by_cases z : k = nk
    · subst z
      unfold parG
      rw [eN 0 (by decide), eN 3 (by decide), eN 4 (by decide), e6, e8]
      exact ⟨⟨p, hp, rfl⟩, Or.inl ⟨p, hp, rfl⟩, fun z => absurd rfl z, fun _ => rfl, ho_ne9 (Or.inl ⟨p, hp, rfl⟩), ⟨q, hq4, rfl⟩, v, hv, rfl⟩
    · exact (hG.2.2.2.1 k (by omega)).eq (e0 (by omega)) (e0 (by omega)) (e0 (by omega)) (e0 (by omega)) (e0 (by omega))
  · have hm : hbN (sAddK W (nI p) B T (nI v) (nI q)) x nk ≤ hbN W x nk := hbN_mono (W := W) nk (fun k hk q => by
      rw [e0 (by omega), e0 (by omega)] at q
      exact q)
    have h3 := hG.2.2.2.2 x
    rw [hbN]
    split
    · rename_i z
      rw [e6] at z
      rw [← z.2] at hm ⊢
      omega
    · omega
end GD2
-- a copy
theorem wEq.rows {R V : Wd} {nt nk : Nat} (h : wEq R V) (hc : cT V = nt) (hk : cK V = nk) : (∀ k, k < 6 → R 3 0 k = V 3 0 k) ∧ (∀ i k, i < 8 → k < 5 → R 0 i k = V 0 i k) ∧ (∀ i k, i < nt → k < 7 → R 1 i k = V 1 i k) ∧ (∀ i k, i < nk → k < 10 → R 2 i k = V 2 i k) ∧ R 4 0 0 = V 4 0 0 ∧ ∀ j, j < ix (V 4 0 0) → R 5 0 j = V 5 0 j := by
  rw [← hc, ← hk]
  exact h
theorem Gd.cp {hr f nt nk : Nat} {R V : Wd} (hG : Gd hr f nt nk V) (h : wEq R V) : Gd hr f nt nk R := by
  obtain ⟨h3, h0, h1, h2, -, -⟩ := h.rows hG.cT hG.cK
  exact hG.up (hG.1.eq (h3 _ (by decide)) (h3 _ (by decide)) (h3 _ (by decide)) (h3 _ (by decide))) (fun p hp g => g.eq (h0 _ _ hp (by decide)) (h0 _ _ hp (by decide)) (h0 _ _ hp (by decide))) (fun t ht g => g.eq (fun j hj => h1 _ _ ht (by omega))) (fun k hk g => g.eq (h2 _ _ hk (by decide)) (h2 _ _ hk (by decide)) (h2 _ _ hk (by decide)) (h2 _ _ hk (by decide)) (h2 _ _ hk (by decide))) (fun x => Nat.le_trans (hbN_mono (W := V) nk (fun k hk q => by
    rw [h2 _ _ hk (by decide), h2 _ _ hk (by decide)] at q
    exact q)) (hG.2.2.2.2 x))
-- what the tests ahead of a change leave
theorem sOfF_ge {W : Wd} {p a b i l e : Int32} (h : ¬ sOfF W p a b i l e < 0) : (gP p ∧ gTn a ∧ gTn b ∧ ¬ a = b) ∧ (wIn i 1 50 ∧ wIn l 1 50 ∧ wIn e 0 99) ∧ ¬ 16 ≤ W 3 0 4 := by
  unfold sOfF at h
  by_cases h1 : ¬ gP p ∨ ¬ gTn a ∨ ¬ gTn b ∨ a = b
  · rw [if_pos h1] at h
    exact absurd neg1 h
  · rw [if_neg h1] at h
    by_cases h2 : ¬ wIn i 1 50 ∨ ¬ wIn l 1 50 ∨ ¬ wIn e 0 99
    · rw [if_pos h2] at h
      exact absurd neg1 h
    · rw [if_neg h2] at h
      by_cases h3 : sOvl W p (W 3 0 0 + i) (W 3 0 0 + i + l)
      · rw [if_pos h3] at h
        exact absurd neg2 h
      · rw [if_neg h3] at h
        by_cases h4 : 16 ≤ W 3 0 4
        · rw [if_pos h4] at h
          exact absurd neg3 h
        · refine ⟨⟨Decidable.by_contra (fun z => h1 (Or.inl z)), Decidable.by_contra (fun z => h1 (Or.inr (Or.inl z))), Decidable.by_contra (fun z => h1 (Or.inr (Or.inr (Or.inl z)))), fun z => h1 (Or.inr (Or.inr (Or.inr z)))⟩, ⟨Decidable.by_contra (fun z => h2 (Or.inl z)), Decidable.by_contra (fun z => h2 (Or.inr (Or.inl z))), Decidable.by_contra (fun z => h2 (Or.inr (Or.inr z)))⟩, h4⟩
theorem sTbF_ge {W : Wd} {n : Int32} (h : ¬ sTbF W n < 0) : tP W n := by
  unfold sTbF at h
  by_cases h1 : ¬ tP W n
  · rw [if_pos h1] at h
    exact absurd neg1 h
  · exact Decidable.not_not.mp h1
theorem sPaF_ge {W : Wd} {n : Int32} (h : ¬ sPaF W n < 0) : wIn n 1 24 ∧ ¬ 500 < W 3 0 0 + n := by
  unfold sPaF at h
  by_cases h1 : ¬ wIn n 1 24
  · rw [if_pos h1] at h
    exact absurd neg1 h
  · rw [if_neg h1] at h
    by_cases h2 : 500 < W 3 0 0 + n
    · rw [if_pos h2] at h
      exact absurd neg3 h
    · exact ⟨Decidable.not_not.mp h1, h2⟩
theorem sClF_ge {W : Wd} {n : Int32} (h : ¬ sClF W n < 0) : kP W n := by
  unfold sClF at h
  by_cases h1 : ¬ kP W n
  · rw [if_pos h1] at h
    exact absurd neg1 h
  · exact Decidable.not_not.mp h1
theorem sPoF_ge {W : Wd} {s r t v c : Int32} (h : ¬ sPoF W s r t v c < 0) : (gP s ∧ wIn v 1 999 ∧ wIn c 0 3) ∧ sHeld W s < 3 ∧ ¬ 10 ≤ W 3 0 5 := by
  unfold sPoF at h
  by_cases h1 : ¬ gP s ∨ ¬ gP r ∨ s = r ∨ ¬ gTn t
  · rw [if_pos h1] at h
    exact absurd neg1 h
  · rw [if_neg h1] at h
    by_cases h2 : ¬ wIn v 1 999 ∨ ¬ wIn c 0 3
    · rw [if_pos h2] at h
      exact absurd neg1 h
    · rw [if_neg h2] at h
      by_cases h3 : W 0 (ix s) 2 = -9 ∨ W 0 (ix s) 0 < iCost (ix c) ∨ ¬ sHeld W s < 3
      · rw [if_pos h3] at h
        exact absurd neg2 h
      · rw [if_neg h3] at h
        by_cases h4 : 10 ≤ W 3 0 5
        · rw [if_pos h4] at h
          exact absurd neg3 h
        · exact ⟨⟨Decidable.by_contra (fun z => h1 (Or.inl z)), Decidable.by_contra (fun z => h2 (Or.inl z)), Decidable.by_contra (fun z => h2 (Or.inr z))⟩, Decidable.by_contra (fun z => h3 (Or.inr (Or.inr z))), h4⟩
theorem wIn_1n {n : Int32} {hi : Nat} (h : hi < 2 ^ 31) (hn : wIn n 1 (nI hi)) : ∃ p : Nat, 0 < p ∧ p ≤ hi ∧ n = nI p := by
  obtain ⟨j, hj, rfl⟩ := nI_of (x := n) (fun z => hn.1 (Int32.lt_trans z (by decide)))
  have h1 := mt (nI_ltI h hj).mpr hn.2
  have h2 := mt (nI_ltI (a := j) (b := 1) hj (by decide)).mpr hn.1
  exact ⟨j, by omega, by omega, rfl⟩
