-- ===== what more holds of every world: the parcels =====
/-- a parcel's state, its words, and the list of its holders -/
def parJ (hr : Nat) (W : Wd) (k : Nat) : Prop := (W 2 k 5 = 0 ∨ W 2 k 5 = 1 ∨ W 2 k 5 = 2) ∧ (W 2 k 5 = 1 → W 2 k 6 = W 2 k 1) ∧ (¬ W 2 k 5 = 0 → W 2 k 8 = -9 ∧ W 2 k 9 = -9) ∧ ∃ hs : Nat, hs ≤ hr ∧ W 2 k 7 = nI hs ∧ ∀ h, hs ≤ h → h ≤ 600 → LU W k h = W 2 k 6
def KP (hr nk : Nat) (W : Wd) : Prop := ∀ k, k < nk → parJ hr W k
section PARS
variable {hr f nt nk sz : Nat} {W W' : Wd}
theorem parJ.eq {hr' k : Nat} (h : parJ hr W k) (e : ∀ j, j < 10 → W' 2 k j = W 2 k j) (hl : ∀ h, h ≤ 600 → LU W' k h = LU W k h) (hh : hr ≤ hr') : parJ hr' W' k := by
  obtain ⟨h1, h2, h3, hs, h4, h5, h6⟩ := h
  unfold parJ
  rw [e 5 (by decide), e 6 (by decide), e 1 (by decide), e 8 (by decide), e 9 (by decide), e 7 (by decide)]
  exact ⟨h1, h2, h3, hs, by omega, h5, fun x a b => (hl x b).trans (h6 x a b)⟩
theorem KP.eq {hr' : Nat} (h : KP hr nk W) (e : ∀ k j, k < nk → j < 10 → W' 2 k j = W 2 k j) (h4 : W' 4 0 0 = W 4 0 0) (h5 : ∀ j, j < ix (W 4 0 0) → W' 5 0 j = W 5 0 j) (hh : hr ≤ hr') : KP hr' nk W' := fun k hk => (h k hk).eq (fun j hj => e k j hk hj) (fun x _ => LU_eq h4 h5 k x) hh
theorem KP.set {a i j : Nat} {v : Int32} (h : KP hr nk W) (ha : a < 2 ∨ a = 3) : KP hr nk (wSet W a i j v) := h.eq (fun _ _ _ _ => wSet_a (by omega)) (wSet_a (by omega)) (fun _ _ => wSet_a (by omega)) (Nat.le_refl _)
theorem LU_setH {k c k' h' : Nat} (hn : W 4 0 0 = nI sz) (h5 : sz < 512) (h3 : W 3 0 0 = nI hr) (h6 : hr ≤ 600) (hk : k < 10) (hc : c < 16) (hk' : k' < 1000) (hh' : h' ≤ 600) : LU (sSetH W k (nI c)) k' h' = if k = k' ∧ hr ≤ h' then nI c else LU W k' h' := by
  unfold sSetH
  rw [h3, LU_note (n := sz) (by rw [wSet_a (by decide), wSet_a (by decide), wSet_a (by decide), wSet_a (by decide)]; exact hn) h5 h6 hk hc hk' hh']
  by_cases z : k = k' ∧ hr ≤ h'
  · rw [if_pos z, if_pos z]
  · rw [if_neg z, if_neg z]
    exact LU_eq (by rw [wSet_a (by decide), wSet_a (by decide), wSet_a (by decide), wSet_a (by decide)]) (fun j _ => by rw [wSet_a (by decide), wSet_a (by decide), wSet_a (by decide), wSet_a (by decide)]) k' h'
theorem sSetH_7 {k : Nat} {h : Int32} : sSetH W k h 2 k 7 = W 3 0 0 := by
  rw [sSetH, sNote_r (by decide) (by decide), wSet_k (by decide), wSet_k (by decide), wSet_same]
theorem sSetH_9 {k : Nat} {h : Int32} : sSetH W k h 2 k 9 = -9 := by
  rw [sSetH, sNote_r (by decide) (by decide), wSet_same]
theorem sSetH_o {k k' j : Nat} {h : Int32} (z : k' ≠ k) : sSetH W k h 2 k' j = W 2 k' j := sSetH_r (by decide) (by decide) (Or.inr (Or.inl z))
theorem parJ.setH {k c : Nat} (hn : W 4 0 0 = nI sz) (h5 : sz < 512) (h3 : W 3 0 0 = nI hr) (h6 : hr ≤ 600) (hk : k < 10) (hc : c < 16) (h0 : W 2 k 5 = 0) : parJ hr (sSetH W k (nI c)) k := by
  have e5 : sSetH W k (nI c) 2 k 5 = 0 := (sSetH_r (by decide) (by decide) (Or.inr (Or.inr (by decide)))).trans h0
  refine ⟨Or.inl e5, fun z => ?_, fun z => absurd e5 z, hr, Nat.le_refl _, sSetH_7.trans h3, fun h a b => ?_⟩
  · rw [e5] at z
    exact absurd z (by decide)
  · rw [LU_setH hn h5 h3 h6 hk hc (by omega) b, if_pos ⟨rfl, a⟩, sSetH_6]
theorem KP.setH {k c : Nat} (h : KP hr nk W) (hn : W 4 0 0 = nI sz) (h5 : sz < 512) (h3 : W 3 0 0 = nI hr) (h6 : hr ≤ 600) (hk : k < nk) (h10 : nk ≤ 10) (hc : c < 16) (h0 : W 2 k 5 = 0) : KP hr nk (sSetH W k (nI c)) := fun k' hk' => by
  by_cases z : k' = k
  · subst z
    exact parJ.setH hn h5 h3 h6 (by omega) hc h0
  · exact (h k' hk').eq (fun j _ => sSetH_o z) (fun x b => by rw [LU_setH hn h5 h3 h6 (by omega) hc (by omega) b, if_neg (fun y => z y.1.symm)]) (Nat.le_refl _)
theorem KP.hov {k : Nat} {x : Int32} (hG : Gd hr f nt nk W) (h : KP hr nk W) (hn : W 4 0 0 = nI sz) (h5 : sz < 512) (hk : k < nk) (hx : isHo x) (h0 : W 2 k 5 = 0) : KP hr nk (sHov W k x) := by
  obtain ⟨c, hc, rfl⟩ := isHo_c hx
  have hb := hG.1.1
  exact KP.setH (h.set (Or.inr rfl)) ((wSet_a (by decide)).trans hn) h5 ((wSet_k (by decide)).trans hG.1.2.1) (by omega) hk (by omega) hc ((wSet_a (by decide)).trans h0)
theorem KP.sett {k : Nat} {t : Int32} (h : KP hr nk W) (hk : k < nk) (h6 : W 2 k 6 = t) (h8 : W 2 k 8 = -9) (h9 : W 2 k 9 = -9) : KP hr nk (sSet W k t) := by
  unfold sSet sPay
  split
  · split
    · exact h
    · exact (((h.set (Or.inl (by decide))).set (Or.inl (by decide))).set (Or.inl (by decide))).set (Or.inr rfl)
  · rename_i z
    split
    · intro k' hk'
      by_cases y : k' = k
      · subst y
        obtain ⟨-, -, -, hs, a, b, c⟩ := h k' hk'
        have e : ∀ j, j ≠ 5 → wSet W 2 k' 5 1 2 k' j = W 2 k' j := fun j hj => wSet_k hj
        unfold parJ
        rw [wSet_same, e 6 (by decide), e 1 (by decide), e 8 (by decide), e 9 (by decide), e 7 (by decide)]
        refine ⟨Or.inr (Or.inl rfl), fun _ => h6.trans (Decidable.not_not.mp z), fun _ => ⟨h8, h9⟩, hs, a, b, fun x p q => ?_⟩
        rw [LU_eq (W := W) (wSet_a (by decide)) (fun _ _ => wSet_a (by decide)) k' x]
        exact c x p q
      · exact (h k' hk').eq (fun j _ => wSet_i y) (fun x _ => LU_eq (wSet_a (by decide)) (fun _ _ => wSet_a (by decide)) k' x) (Nat.le_refl _)
    · exact h
theorem sHov_6 {k : Nat} {x : Int32} : sHov W k x 2 k 6 = x := sSetH_6
theorem sHov_8 {k : Nat} {x : Int32} : sHov W k x 2 k 8 = -9 := sSetH_8
theorem sHov_9 {k : Nat} {x : Int32} : sHov W k x 2 k 9 = -9 := sSetH_9
theorem sHov_o {k k' j : Nat} {x : Int32} (z : k' ≠ k) : sHov W k x 2 k' j = W 2 k' j := (sSetH_o z).trans (wSet_a (by decide))
theorem sHov_h {k : Nat} {x : Int32} : sHov W k x 3 0 2 = W 3 0 2 + 1 := (sSetH_r (by decide) (by decide) (Or.inl (by decide))).trans (wSet_same _ _ _ _ _)
theorem KP.how {k p : Nat} (hG : Gd hr f nt nk W) (h : KP hr nk W) (hn : W 4 0 0 = nI sz) (h5 : sz < 512) (hk : k < nk) (hp : p < 8) (h0 : W 2 k 5 = 0) : KP hr nk (sHow W k (nI p)) := by
  unfold sHow
  split
  · exact (KP.hov hG h hn h5 hk (Or.inl ⟨p, hp, rfl⟩) h0).sett hk sHov_6 sHov_8 sHov_9
  · exact h
/-- a word, of a parcel under way -/
theorem KP.word {k j : Nat} {v : Int32} (h : KP hr nk W) (hj : j = 8 ∨ j = 9) (h0 : W 2 k 5 = 0) : KP hr nk (wSet W 2 k j v) := fun k' hk' => by
  by_cases y : k' = k
  · subst y
    obtain ⟨h1, h2, -, hs, a, b, c⟩ := h k' hk'
    have e : ∀ q, q < 8 → wSet W 2 k' j v 2 k' q = W 2 k' q := fun q hq => wSet_k (by omega)
    unfold parJ
    rw [e 5 (by decide), e 6 (by decide), e 1 (by decide), e 7 (by decide)]
    refine ⟨h1, h2, fun z => absurd h0 z, hs, a, b, fun x p q => ?_⟩
    rw [LU_eq (W := W) (wSet_a (by decide)) (fun _ _ => wSet_a (by decide)) k' x]
    exact c x p q
  · exact (h k' hk').eq (fun j _ => wSet_i y) (fun x _ => LU_eq (wSet_a (by decide)) (fun _ _ => wSet_a (by decide)) k' x) (Nat.le_refl _)
theorem sAddK_o {p B T v q : Int32} {a' i' k' : Nat} (h : (a' ≠ 2 ∨ i' ≠ cK W) ∧ (a' ≠ 0 ∨ k' ≠ 0) ∧ (a' ≠ 3 ∨ (k' ≠ 1 ∧ k' ≠ 5)) ∧ a' ≠ 4 ∧ a' ≠ 5) : sAddK W p B T v q a' i' k' = W a' i' k' := by
  rw [sAddK, sSetH_r h.2.2.2.1 h.2.2.2.2 (by omega)]
  simp only [wSet_r]
  rw [if_neg (by omega), if_neg (by omega), if_neg (by omega), if_neg (by omega), if_neg (by omega), if_neg (by omega), if_neg (by omega), if_neg (by omega), if_neg (by omega)]
theorem KP.post {p : Nat} {B T v q : Int32} (hG : Gd hr f nt nk W) (h : KP hr nk W) (hn : W 4 0 0 = nI sz) (h5 : sz < 512) (h10 : nk < 10) (hp : p < 8) : KP hr (nk + 1) (sAddK W (nI p) B T v q) := by
  have hb := hG.1.1
  have hc := hG.cK
  unfold sAddK
  rw [hc]
  have g4 : ∀ X : Wd, X = wSet (wSet (wSet (wSet (wSet (wSet (wSet (wSet (wSet W 2 nk 0 (nI p)) 2 nk 1 B) 2 nk 2 T) 2 nk 3 v) 2 nk 4 q) 2 nk 5 0) 0 (ix (nI p)) 0 (W 0 (ix (nI p)) 0 - iCost (ix q))) 3 0 1 (W 3 0 1 + iCost (ix q))) 3 0 5 (W 3 0 5 + 1) → KP hr (nk + 1) (sSetH X nk (nI p)) := fun X eX => by
    have e4 : X 4 0 0 = nI sz := by
      rw [eX]
      simp only [wSet_r]
      rw [if_neg (by omega), if_neg (by omega), if_neg (by omega), if_neg (by omega), if_neg (by omega), if_neg (by omega), if_neg (by omega), if_neg (by omega), if_neg (by omega)]
      exact hn
    have e5 : ∀ j, X 5 0 j = W 5 0 j := fun j => by
      rw [eX]
      simp only [wSet_r]
      rw [if_neg (by omega), if_neg (by omega), if_neg (by omega), if_neg (by omega), if_neg (by omega), if_neg (by omega), if_neg (by omega), if_neg (by omega), if_neg (by omega)]
    have e3 : X 3 0 0 = nI hr := by
      rw [eX]
      simp only [wSet_r]
      rw [if_neg (by omega), if_neg (by omega), if_neg (by omega), if_neg (by omega), if_neg (by omega), if_neg (by omega), if_neg (by omega), if_neg (by omega), if_neg (by omega)]
      exact hG.1.2.1
    have e2 : ∀ k j, k < nk → X 2 k j = W 2 k j := fun k j hk => by
      rw [eX]
      simp only [wSet_r]
      rw [if_neg (by omega), if_neg (by omega), if_neg (by omega), if_neg (by omega), if_neg (by omega), if_neg (by omega), if_neg (by omega), if_neg (by omega), if_neg (by omega)]
    have e0 : X 2 nk 5 = 0 := by
      rw [eX, wSet_a (by decide), wSet_a (by decide), wSet_a (by decide), wSet_same]
    intro k hk
    by_cases z : k = nk
    · subst z
      exact parJ.setH e4 h5 e3 (by omega) h10 (by omega) e0
    · have k1 : parJ hr X k := (h k (by omega)).eq (fun j _ => e2 k j (by omega)) (fun x _ => LU_eq (e4.trans hn.symm) (fun j _ => e5 j) k x) (Nat.le_refl _)
      exact k1.eq (fun j _ => sSetH_o z) (fun x b => by rw [LU_setH e4 h5 e3 (by omega) h10 (by omega) (by omega) b, if_neg (fun y => z y.1.symm)]) (Nat.le_refl _)
  exact g4 _ rfl
theorem sLos_o {k a i j : Nat} (h : (a ≠ 0 ∨ (j ≠ 0 ∧ j ≠ 1)) ∧ (a ≠ 3 ∨ j ≠ 1) ∧ (a ≠ 2 ∨ i ≠ k ∨ (j ≠ 5 ∧ j ≠ 8 ∧ j ≠ 9))) : sLos W k a i j = W a i j := by
  rw [sLos, sLoD, wSet_r, if_neg (by omega), wSet_r, if_neg (by omega), wSet_r, if_neg (by omega), wSet_r, if_neg (by omega)]
  unfold sLoC sLoB sLoA
  split <;> split
  · rw [wSet_r, if_neg (by omega)]
  · rw [wSet_r, if_neg (by omega), wSet_r, if_neg (by omega)]
  · rw [wSet_r, if_neg (by omega), wSet_r, if_neg (by omega)]
  · rw [wSet_r, if_neg (by omega), wSet_r, if_neg (by omega), wSet_r, if_neg (by omega)]
theorem KP.los {k : Nat} (h : KP hr nk W) (hk : k < nk) : KP hr nk (sLos W k) := fun k' hk' => by
  have h4 : sLos W k 4 0 0 = W 4 0 0 := sLos_o (by omega)
  have h5 : ∀ j, j < ix (W 4 0 0) → sLos W k 5 0 j = W 5 0 j := fun j _ => sLos_o (by omega)
  by_cases y : k' = k
  · subst y
    obtain ⟨-, -, -, hs, a, b, c⟩ := h k' hk'
    have e5 : sLos W k' 2 k' 5 = 2 := by rw [sLos, sLoD, wSet_k (by decide), wSet_k (by decide), wSet_same]
    have e8 : sLos W k' 2 k' 8 = -9 := by rw [sLos, sLoD, wSet_k (by decide), wSet_same]
    have e9 : sLos W k' 2 k' 9 = -9 := by rw [sLos, sLoD, wSet_same]
    unfold parJ
    rw [e5, e8, e9, sLos_o (j := 6) (by omega), sLos_o (j := 7) (by omega)]
    exact ⟨Or.inr (Or.inr rfl), fun z => absurd z (by decide), fun _ => ⟨rfl, rfl⟩, hs, a, b, fun x p q => (LU_eq h4 h5 k' x).trans (c x p q)⟩
  · exact (h k' hk').eq (fun j _ => sLos_o (by omega)) (fun x _ => LU_eq h4 h5 k' x) (Nat.le_refl _)
theorem KP.hour (h : KP hr nk W) : KP (hr + 1) nk (sHour W) := h.eq (fun _ _ _ _ => sHour_r (by omega)) (sHour_r (by omega)) (fun _ _ => sHour_r (by omega)) (Nat.le_succ _)
end PARS
-- ===== all of it =====
def Jn (hr f nt nk sz : Nat) (W : Wd) : Prop := Gd hr f nt nk W ∧ W 4 0 0 = nI sz ∧ MF f W ∧ TP hr nt W ∧ KP hr nk W
/-- what the holders do in a step: none changes, or one handover more counts (h: by a handover alone) -/
def HSt (h : Prop) (nk : Nat) (W W' : Wd) : Prop := (∀ k, k < nk → W' 2 k 6 = W 2 k 6) ∨ (h ∧ W' 3 0 2 = W 3 0 2 + 1)
section JN
variable {hr f nt nk sz : Nat} {W W' : Wd}
theorem sSet_6 {k k' : Nat} {t : Int32} : sSet W k t 2 k' 6 = W 2 k' 6 := by
  unfold sSet sPay sPay2
  split
  · split
    · rfl
    · rw [wSet_a (by decide), wSet_a (by decide), wSet_a (by decide), wSet_a (by decide)]
  · split
    · exact wSet_k (by decide)
    · rfl
theorem sSet_h {k : Nat} {t : Int32} : sSet W k t 3 0 2 = W 3 0 2 := by
  unfold sSet sPay sPay2
  split
  · split
    · rfl
    · rw [wSet_k (by decide), wSet_a (by decide), wSet_a (by decide), wSet_a (by decide)]
  · split
    · exact wSet_a (by decide)
    · rfl
theorem sSet_t {k i j : Nat} {t : Int32} : sSet W k t 1 i j = W 1 i j := by
  unfold sSet sPay sPay2
  split
  · split
    · rfl
    · rw [wSet_a (by decide), wSet_a (by decide), wSet_a (by decide), wSet_a (by decide)]
  · split
    · exact wSet_a (by decide)
    · rfl
theorem sSet_p {k i j : Nat} {t : Int32} (hj : j ≠ 0 ∧ j ≠ 4) : sSet W k t 0 i j = W 0 i j := by
  unfold sSet sPay sPay2
  split
  · split
    · rfl
    · rw [wSet_a (by decide), wSet_k hj.2, wSet_k hj.1, wSet_k hj.1]
  · split
    · exact wSet_a (by decide)
    · rfl
theorem TP.hov {k : Nat} {x : Int32} (h : TP hr nt W) : TP hr nt (sHov W k x) := h.eq (fun _ _ => sHov_r (by decide) (by decide) (Or.inl (by decide)) (Or.inl (by decide))) (fun _ _ _ _ => sHov_r (by decide) (by decide) (Or.inl (by decide)) (Or.inl (by decide)))
theorem TP.sett {k : Nat} {t : Int32} (h : TP hr nt W) : TP hr nt (sSet W k t) := h.eq (fun _ _ => sSet_p (by decide)) (fun _ _ _ _ => sSet_t)
theorem TP.how {k : Nat} {t : Int32} (h : TP hr nt W) : TP hr nt (sHow W k t) := by
  unfold sHow
  split
  · exact h.hov.sett
  · exact h
theorem TP.set2 {k j : Nat} {v : Int32} (h : TP hr nt W) : TP hr nt (wSet W 2 k j v) := h.eq (fun _ _ => wSet_a (by decide)) (fun _ _ _ _ => wSet_a (by decide))
theorem sHow_H {k : Nat} {t : Int32} : HSt True nk W (sHow W k t) := by
  unfold sHow
  split
  · exact Or.inr ⟨trivial, sSet_h.trans sHov_h⟩
  · exact Or.inl (fun _ _ => rfl)
theorem HSt.word {k j : Nat} {v : Int32} (hj : j ≠ 6) (h : HSt True nk (wSet W 2 k j v) W') : HSt True nk W W' := by
  rcases h with h | h
  · exact Or.inl (fun q hq => (h q hq).trans (wSet_k (Ne.symm hj)))
  · exact Or.inr ⟨trivial, h.2.trans (by rw [wSet_a (by decide)])⟩
-- the calls
theorem Jn.addT {p a b i l e : Nat} (h : Jn hr f nt nk sz W) (h16 : nt < 16) (hp : p < 8) (ha : a < 6) (hb : b < 6) (hab : ¬ a = b) (hi0 : 0 < i) (hi : i ≤ 50) (hl0 : 0 < l) (hl : l ≤ 50) (he : e ≤ 99) (hov : ¬ ovTo W (nI p) (nI (hr + i)) (nI (hr + i + l)) nt = true) : Jn hr f (nt + 1) nk sz (sAddT W (nI p) (nI a) (nI b) (nI i) (nI l) (nI e)) := by
  obtain ⟨hG, hz, hM, hT, hK⟩ := h
  exact ⟨hG.offer h16 hp ha hb hi hl0 hl he, (sAddT_r (by omega) (by omega)).trans hz, hM.eq (fun _ _ => sAddT_r (by omega) (by omega)) (fun _ _ => sAddT_r (by omega) (by omega)) (fun _ _ => sAddT_r (by omega) (by omega)) (sAddT_r (by omega) (by omega)), TP.offer hG hT h16 ha hb hab hi0 hi hl hov, hK.eq (fun _ _ _ _ => sAddT_r (by omega) (by omega)) (sAddT_r (by omega) (by omega)) (fun _ _ => sAddT_r (by omega) (by omega)) (Nat.le_refl _)⟩
theorem Jn.back {n : Nat} (h : Jn hr f nt nk sz W) (h0 : W 1 n 6 = 0) : Jn hr f nt nk sz (wSet W 1 n 6 3) := by
  obtain ⟨hG, hz, hM, hT, hK⟩ := h
  exact ⟨hG.free (Or.inr (Or.inr (Or.inl ⟨rfl, rfl⟩))), (wSet_a (by decide)).trans hz, hM.set1, TP.back hT h0, hK.set (Or.inl (by decide))⟩
theorem Jn.hour (h : Jn hr f nt nk sz W) (h5 : hr + 1 ≤ 500) : Jn (hr + 1) f nt nk sz (sHour W) := by
  obtain ⟨hG, hz, hM, hT, hK⟩ := h
  exact ⟨hG.hour h5, (sHour_r (by omega)).trans hz, hM.hour, TP.hour hG hT h5, hK.hour⟩
theorem Jn.pas (h : Jn hr f nt nk sz W) : ∀ j, hr + j ≤ 500 → Jn (hr + j) f nt nk sz (paTo W j)
  | 0, _ => h
  | j + 1, hj => (Jn.pas h j (by omega)).hour (by omega)
theorem paTo_6 {k : Nat} : ∀ j, paTo W j 2 k 6 = W 2 k 6
  | 0 => rfl
  | j + 1 => (sHour_r (by omega)).trans (paTo_6 j)
theorem Jn.addK {p q v : Nat} {B T : Int32} (h : Jn hr f nt nk sz W) (h10 : nk < 10) (hp : p < 8) (hq4 : q < 4) (hv : v ≤ 999) (h2 : hbN W (nI p) nk ≤ 2) (hc : ¬ W 0 p 0 < iCost q) (h5 : sz < 512) : Jn hr (f + costN q) nt (nk + 1) (sz + 1) (sAddK W (nI p) B T (nI v) (nI q)) := by
  obtain ⟨hG, hz, hM, hT, hK⟩ := h
  refine ⟨hG.post (b := 0) (t := 0) h10 hp hq4 hv h2, ?_, MF.post hG hM hp hq4 hc, hT.eq (fun _ _ => sAddK_o (by omega)) (fun _ _ _ _ => sAddK_o (by omega)), KP.post hG hK hz h5 h10 hp⟩
  rw [sAddK, sSetH]
  refine sNote_4 ?_ h5
  simp only [wSet_r]
  rw [if_neg (by omega), if_neg (by omega), if_neg (by omega), if_neg (by omega), if_neg (by omega), if_neg (by omega), if_neg (by omega), if_neg (by omega), if_neg (by omega), if_neg (by omega), if_neg (by omega), if_neg (by omega), if_neg (by omega)]
  exact hz
theorem sHov_4 {k : Nat} {x : Int32} (hz : W 4 0 0 = nI sz) (h5 : sz < 512) : sHov W k x 4 0 0 = nI (sz + 1) := by
  unfold sHov sSetH
  refine sNote_4 ?_ h5
  rw [wSet_a (by decide), wSet_a (by decide), wSet_a (by decide), wSet_a (by decide), wSet_a (by decide)]
  exact hz
/-- the size is no more than one greater -/
def JnU (hr f nt nk sz : Nat) (W : Wd) : Prop := ∃ sz', sz' ≤ sz + 1 ∧ Jn hr f nt nk sz' W
theorem Jn.how {k p b : Nat} (h : Jn hr f nt nk sz W) (h5 : sz < 512) (hk : k < nk) (hp : p < 8) (hb : b < 8) (eb : W 2 k 0 = nI b) (h2 : hbN W (nI p) nk ≤ 2) (h0 : W 2 k 5 = 0) : JnU hr f nt nk sz (sHow W k (nI p)) := by
  obtain ⟨hG, hz, hM, hT, hK⟩ := h
  have g1 := hG.how hk hp h2
  have g2 := MF.how hG hM hk hp hb eb h2
  have g3 := TP.how (k := k) (t := nI p) hT
  have g4 := KP.how hG hK hz h5 hk hp h0
  have g5 : ∃ sz', sz' ≤ sz + 1 ∧ sHow W k (nI p) 4 0 0 = nI sz' := by
    unfold sHow
    split
    · exact ⟨sz + 1, Nat.le_refl _, Eq.trans sz_set (sHov_4 hz h5)⟩
    · exact ⟨sz, Nat.le_succ _, hz⟩
  obtain ⟨sz', a, b⟩ := g5
  exact ⟨sz', a, g1, b, g2, g3, g4⟩
theorem Jn.gav {k p g b : Nat} (h : Jn hr f nt nk sz W) (h5 : sz < 512) (hk : k < nk) (hp : p < 8) (hg : g < 8) (eg : W 2 k 6 = nI g) (hne : ¬ nI g = nI p) (h2 : hbN W (nI p) nk ≤ 2) (h0 : W 2 k 5 = 0) (hb : b < 8) (eb : W 2 k 0 = nI b) : JnU hr f nt nk sz (sGav W k (nI p)) := by
  have hG := h.1
  have h1 : Jn hr f nt nk sz (wSet W 2 k 8 (nI p)) := ⟨hG.word hp (by rw [eg]; exact lt10 hg) (by rw [eg]; exact fun z => hne z.symm), (wSet_a (by decide)).trans h.2.1, h.2.2.1.set2, h.2.2.2.1.set2, h.2.2.2.2.word (Or.inl rfl) h0⟩
  exact h1.how h5 hk hp hb ((wSet_k (by decide)).trans eb) (by rw [hbN_word (by decide) (by decide)]; exact h2) ((wSet_k (by decide)).trans h0)
theorem Jn.tok {k p b : Nat} (h : Jn hr f nt nk sz W) (h5 : sz < 512) (hk : k < nk) (hp : p < 8) (h2 : hbN W (nI p) nk ≤ 2) (h0 : W 2 k 5 = 0) (hb : b < 8) (eb : W 2 k 0 = nI b) : JnU hr f nt nk sz (sTok W k (nI p)) := by
  have hG := h.1
  have h1 : Jn hr f nt nk sz (wSet W 2 k 9 (nI p)) := ⟨hG.free (Or.inr (Or.inr (Or.inr ⟨rfl, Or.inr (Or.inr (Or.inr rfl))⟩))), (wSet_a (by decide)).trans h.2.1, h.2.2.1.set2, h.2.2.2.1.set2, h.2.2.2.2.word (Or.inr rfl) h0⟩
  exact h1.how h5 hk hp hb ((wSet_k (by decide)).trans eb) (by rw [hbN_word (by decide) (by decide)]; exact h2) ((wSet_k (by decide)).trans h0)
theorem Jn.put {k p : Nat} (h : Jn hr f nt nk sz W) (h5 : sz < 512) (hk : k < nk) (hp : p < 8) (ht : ¬ W 0 p 2 = -9) (h2 : hbN W (10 + W 0 p 2) nk ≤ 2) (h0 : W 2 k 5 = 0) : Jn hr f nt nk (sz + 1) (sPut W p k) := by
  obtain ⟨hG, hz, hM, hT, hK⟩ := h
  exact ⟨hG.put hk hp ht h2, sHov_4 hz h5, hM.hov, hT.hov, KP.hov hG hK hz h5 hk (isHo_l ((hG.2.1 p hp).1.elim (fun z => absurd z.1 ht) (fun z => z.1))) h0⟩
theorem Jn.fet {k p b : Nat} (h : Jn hr f nt nk sz W) (h5 : sz < 512) (hk : k < nk) (hp : p < 8) (h2 : hbN W (nI p) nk ≤ 2) (h0 : W 2 k 5 = 0) (hb : b < 8) (eb : W 2 k 0 = nI b) : Jn hr f nt nk (sz + 1) (sFet W p k) := by
  obtain ⟨hG, hz, hM, hT, hK⟩ := h
  exact ⟨hG.fet hk hp h2, Eq.trans sz_set (sHov_4 hz h5), MF.sett (hG.hov hk (Or.inl ⟨p, hp, rfl⟩) h2) hM.hov hp hb ((sHov_0 (by decide)).trans eb), hT.hov.sett, (KP.hov hG hK hz h5 hk (Or.inl ⟨p, hp, rfl⟩) h0).sett hk sHov_6 sHov_8 sHov_9⟩
theorem Jn.los {k q b : Nat} (h : Jn hr f nt nk sz W) (hk : k < nk) (hq : q ≤ f) (eq : sFund W k = nI q) (hb : b < 8) (eb : W 2 k 0 = nI b) : Jn hr (f - q) nt nk sz (sLos W k) := by
  obtain ⟨hG, hz, hM, hT, hK⟩ := h
  exact ⟨hG.los hk hq eq, (sLos_o (by omega)).trans hz, MF.los hG hM hk hq eq hb eb, hT.eq (fun _ _ => sLos_o (by omega)) (fun _ _ _ _ => sLos_o (by omega)), hK.los hk⟩
/-- a copy -/
theorem Jn.cp {R V : Wd} (h : Jn hr f nt nk sz V) (e : wEq R V) : Jn hr f nt nk sz R := by
  obtain ⟨hG, hz, hM, hT, hK⟩ := h
  obtain ⟨h3, h0, h1, h2, h4, h5⟩ := e.rows hG.cT hG.cK
  exact ⟨hG.cp e, h4.trans hz, hM.eq (fun p hp => h0 p 0 hp (by decide)) (fun p hp => h0 p 1 hp (by decide)) (fun p hp => h0 p 4 hp (by decide)) (h3 3 (by decide)), hT.eq (fun p hp => h0 p 3 hp (by decide)) h1, hK.eq h2 h4 h5 (Nat.le_refl _)⟩
end JN
