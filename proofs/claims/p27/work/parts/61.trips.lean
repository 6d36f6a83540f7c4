-- ===== what more holds of every world: the trips =====
/-- who is on the road is on a trip that is -/
def perJ (nt : Nat) (W : Wd) (p : Nat) : Prop := ∀ t, t < nt → W 0 p 3 = nI t → W 1 t 6 = 1 ∧ W 1 t 0 = nI p
/-- a trip's state goes with the hour; e: done trips are told, g: those that go are told -/
def triH (hr : Nat) (e g : Prop) (W : Wd) (t : Nat) : Prop := ¬ W 1 t 1 = W 1 t 2 ∧ ((W 1 t 6 = 0 ∧ hr ≤ lvN W t ∧ (g → hr < lvN W t)) ∨ (W 1 t 6 = 1 ∧ lvN W t ≤ hr ∧ hr ≤ arN W t ∧ (e → hr < arN W t)) ∨ (W 1 t 6 = 2 ∧ arN W t ≤ hr) ∨ W 1 t 6 = 3)
abbrev triJ (hr : Nat) (W : Wd) (t : Nat) : Prop := triH hr True True W t
/-- a person's trips that are not void don't overlap -/
def ovJ (nt : Nat) (W : Wd) : Prop := ∀ t u, t < nt → u < t → W 1 t 0 = W 1 u 0 → ¬ W 1 t 6 = 3 → ¬ W 1 u 6 = 3 → arN W u ≤ lvN W t ∨ arN W t ≤ lvN W u
def TH (hr nt : Nat) (e g : Nat → Prop) (W : Wd) : Prop := (∀ p, p < 8 → perJ nt W p) ∧ (∀ t, t < nt → triH hr (e t) (g t) W t) ∧ ovJ nt W
abbrev TP (hr nt : Nat) (W : Wd) : Prop := TH hr nt (fun _ => True) (fun _ => True) W
section TRIPS
variable {hr f nt nk : Nat} {W W' : Wd}
theorem triH.eq {hr' t : Nat} {e g e' g' : Prop} (h : triH hr e g W t) (h1 : ∀ j, j < 7 → W' 1 t j = W 1 t j) (e1 : hr' = hr) (e2 : e' → e) (e3 : g' → g) : triH hr' e' g' W' t := by
  subst e1
  unfold triH lvN arN at h ⊢
  rw [h1 1 (by decide), h1 2 (by decide), h1 3 (by decide), h1 4 (by decide), h1 6 (by decide)]
  refine ⟨h.1, ?_⟩
  rcases h.2 with ⟨a, b, c⟩ | ⟨a, b, c, d⟩ | h | h
  · exact Or.inl ⟨a, b, fun z => c (e3 z)⟩
  · exact Or.inr (Or.inl ⟨a, b, c, fun z => d (e2 z)⟩)
  · exact Or.inr (Or.inr (Or.inl h))
  · exact Or.inr (Or.inr (Or.inr h))
theorem TH.eq {e g e' g' : Nat → Prop} (h : TH hr nt e g W) (h3 : ∀ p, p < 8 → W' 0 p 3 = W 0 p 3) (h1 : ∀ t j, t < nt → j < 7 → W' 1 t j = W 1 t j) (e2 : ∀ t, e' t → e t) (e3 : ∀ t, g' t → g t) : TH hr nt e' g' W' := by
  refine ⟨fun p hp t ht et => ?_, fun t ht => (h.2.1 t ht).eq (fun j hj => h1 t j ht hj) rfl (e2 t) (e3 t), fun t u ht hu => ?_⟩
  · rw [h3 p hp] at et
    rw [h1 t 6 ht (by decide), h1 t 0 ht (by decide)]
    exact h.1 p hp t ht et
  · have hu' : u < nt := by omega
    unfold arN lvN
    rw [h1 t 0 ht (by decide), h1 u 0 hu' (by decide), h1 t 6 ht (by decide), h1 u 6 hu' (by decide), h1 t 3 ht (by decide), h1 u 3 hu' (by decide), h1 t 4 ht (by decide), h1 u 4 hu' (by decide)]
    exact h.2.2 t u ht hu
theorem TP.eq (h : TP hr nt W) (h3 : ∀ p, p < 8 → W' 0 p 3 = W 0 p 3) (h1 : ∀ t j, t < nt → j < 7 → W' 1 t j = W 1 t j) : TP hr nt W' := TH.eq h h3 h1 (fun _ z => z) (fun _ z => z)
/-- an offer -/
theorem sAddT_r {p a b i l e : Int32} {a' i' k' : Nat} (h : a' ≠ 1 ∨ i' ≠ cT W) (h' : a' ≠ 3 ∨ k' ≠ 4) : sAddT W p a b i l e a' i' k' = W a' i' k' := by
  simp only [sAddT, wSet_r]
  rw [if_neg (by omega), if_neg (by omega), if_neg (by omega), if_neg (by omega), if_neg (by omega), if_neg (by omega), if_neg (by omega), if_neg (by omega)]
theorem ovTo_no {p lv ar : Int32} : ∀ n, ¬ ovTo W p lv ar n = true → ∀ t, t < n → ¬ (W 1 t 0 = p ∧ opn W t ∧ ovl W t lv ar)
  | 0, _, t, ht => absurd ht (Nat.not_lt_zero _)
  | n + 1, h, t, ht => by
    rw [ovTo, Bool.or_eq_true, decide_eq_true_eq] at h
    by_cases z : t = n
    · subst z
      exact fun q => h (Or.inr q)
    · exact ovTo_no n (fun q => h (Or.inl q)) t (by omega)
theorem Gd.lv (hG : Gd hr f nt nk W) {t : Nat} (ht : t < nt) : W 1 t 3 = nI (lvN W t) ∧ W 1 t 4 = nI (arN W t) ∧ lvN W t < arN W t ∧ arN W t ≤ 600 := ⟨(hG.2.2.1 t ht).2.1, (hG.2.2.1 t ht).2.2.1, (hG.2.2.1 t ht).2.2.2.1, (hG.2.2.1 t ht).2.2.2.2.1⟩
/-- the trip on which a person is, is one of those that are -/
theorem Gd.on3 (hG : Gd hr f nt nk W) {p t : Nat} (hp : p < 8) (ht : t < 600) (e : W 0 p 3 = nI t) : t < nt := by
  rcases (hG.2.1 p hp).1 with ⟨-, t', h1, h2⟩ | ⟨-, h2⟩
  · have hb := hG.1.1
    have : t = t' := (nI_eq (by omega) (by omega)).mp (e.symm.trans h2)
    omega
  · exact absurd (show nI t < 0 by rw [← e, h2]; decide) (nI_pos (by omega))
theorem TP.offer {p a b i l e : Nat} (hG : Gd hr f nt nk W) (h : TP hr nt W) (h16 : nt < 16) (ha : a < 6) (hb : b < 6) (hab : ¬ a = b) (hi0 : 0 < i) (hi : i ≤ 50) (hl : l ≤ 50) (hov : ¬ ovTo W (nI p) (nI (hr + i)) (nI (hr + i + l)) nt = true) : TP hr (nt + 1) (sAddT W (nI p) (nI a) (nI b) (nI i) (nI l) (nI e)) := by
  have hc := hG.cT
  have hq := hG.1.1
  have e0 : ∀ {a' i' k'}, (a' ≠ 1 ∨ i' ≠ nt) ∧ (a' ≠ 3 ∨ k' ≠ 4) → sAddT W (nI p) (nI a) (nI b) (nI i) (nI l) (nI e) a' i' k' = W a' i' k' := fun h => sAddT_r (by rw [hc]; exact h.1) h.2
  have r : ∀ j, j < 7 → sAddT W (nI p) (nI a) (nI b) (nI i) (nI l) (nI e) 1 nt j = (match j with | 0 => nI p | 1 => nI a | 2 => nI b | 3 => nI (hr + i) | 4 => nI (hr + i + l) | 5 => nI e | _ => 0) := fun j hj => by
    rcases (by omega : j = 0 ∨ j = 1 ∨ j = 2 ∨ j = 3 ∨ j = 4 ∨ j = 5 ∨ j = 6) with rfl | rfl | rfl | rfl | rfl | rfl | rfl <;> simp [sAddT, hc, wSet, hG.1.2.1, nI_add]
  have elv : lvN (sAddT W (nI p) (nI a) (nI b) (nI i) (nI l) (nI e)) nt = hr + i := by
    unfold lvN
    rw [r 3 (by decide)]
    exact nI_clamp (by omega)
  have ear : arN (sAddT W (nI p) (nI a) (nI b) (nI i) (nI l) (nI e)) nt = hr + i + l := by
    unfold arN
    rw [r 4 (by decide)]
    exact nI_clamp (by omega)
  refine ⟨fun p' hp' t ht et => ?_, fun t ht => ?_, fun t u ht hu => ?_⟩
  · rw [e0 (by omega)] at et
    have ht2 := hG.on3 hp' (by omega) et
    rw [e0 (by omega), e0 (by omega)]
    exact h.1 p' hp' t ht2 et
  · by_cases z : t = nt
    · subst z
      refine ⟨?_, Or.inl ⟨r 6 (by decide), by rw [elv]; omega, fun _ => by rw [elv]; omega⟩⟩
      rw [r 1 (by decide), r 2 (by decide)]
      exact fun z => hab ((nI_eq (by omega) (by omega)).mp z)
    · exact (h.2.1 t (by omega)).eq (fun j hj => e0 (by omega)) rfl id id
  · by_cases z : t = nt
    · subst z
      intro h1 h2 h3
      rw [r 0 (by decide), e0 (by omega)] at h1
      rw [e0 (by omega)] at h3
      have eu3 : lvN (sAddT W (nI p) (nI a) (nI b) (nI i) (nI l) (nI e)) u = lvN W u := by unfold lvN; rw [e0 (by omega)]
      have eu4 : arN (sAddT W (nI p) (nI a) (nI b) (nI i) (nI l) (nI e)) u = arN W u := by unfold arN; rw [e0 (by omega)]
      rw [elv, ear, eu3, eu4]
      obtain ⟨g3, g4, g5, g6⟩ := hG.lv hu
      have no := ovTo_no _ hov u hu
      have hno : opn W u → arN W u ≤ hr + i ∨ hr + i + l ≤ lvN W u := fun ho => by
        by_cases y : lvN W u < hr + i + l ∧ hr + i < arN W u
        · refine absurd ⟨h1.symm, ho, ?_, ?_⟩ no
          · rw [g3]
            exact nI_lt y.1 (by omega)
          · rw [g4]
            exact nI_lt y.2 (by omega)
        · omega
      rcases (h.2.1 u hu).2 with ⟨q, -⟩ | ⟨q, -⟩ | ⟨q, q2⟩ | q
      · exact hno (Or.inl q)
      · exact hno (Or.inr q)
      · exact Or.inl (by omega)
      · exact absurd q h3
    · have hu' : u < nt := by omega
      unfold arN lvN
      rw [e0 (by omega), e0 (by omega), e0 (by omega), e0 (by omega), e0 (by omega), e0 (by omega), e0 (by omega), e0 (by omega)]
      exact h.2.2 t u (by omega) hu
/-- a trip is taken back -/
theorem TP.back {n : Nat} (h : TP hr nt W) (h0 : W 1 n 6 = 0) : TP hr nt (wSet W 1 n 6 3) := by
  have e0 : ∀ {t j}, t ≠ n ∨ j ≠ 6 → wSet W 1 n 6 3 1 t j = W 1 t j := fun z => z.elim wSet_i wSet_k
  refine ⟨fun p hp t ht et => ?_, fun t ht => ?_, fun t u ht hu h1 h2 h3 => ?_⟩
  · rw [wSet_a (by decide)] at et
    obtain ⟨q1, q2⟩ := h.1 p hp t ht et
    have z : t ≠ n := fun z => by
      rw [z, h0] at q1
      exact absurd q1 (by decide)
    rw [e0 (Or.inl z), e0 (Or.inl z)]
    exact ⟨q1, q2⟩
  · by_cases z : t = n
    · subst z
      refine ⟨?_, Or.inr (Or.inr (Or.inr (wSet_same _ _ _ _ _)))⟩
      rw [e0 (Or.inr (by decide)), e0 (Or.inr (by decide))]
      exact (h.2.1 t ht).1
    · exact (h.2.1 t ht).eq (fun j hj => e0 (Or.inl z)) rfl id id
  · have z1 : t ≠ n := fun z => h2 (by rw [z]; exact wSet_same _ _ _ _ _)
    have z2 : u ≠ n := fun z => h3 (by rw [z]; exact wSet_same _ _ _ _ _)
    rw [e0 (Or.inl z1), e0 (Or.inl z2)] at h1
    rw [e0 (Or.inl z1)] at h2
    rw [e0 (Or.inl z2)] at h3
    unfold arN lvN
    rw [e0 (Or.inl z1), e0 (Or.inl z1), e0 (Or.inl z2), e0 (Or.inl z2)]
    exact h.2.2 t u ht hu h1 h2 h3
-- an hour
theorem triG.p {t : Nat} (h : triG W t) : ∃ p, p < 8 ∧ W 1 t 0 = nI p ∧ ix (W 1 t 0) = p := by
  obtain ⟨p, hp, e⟩ := h.1.1
  exact ⟨p, hp, e, by rw [e]; exact ixP hp⟩
theorem TH.eSt {g : Nat → Prop} {i : Nat} (hG : Gd hr f nt nk W) (h : TH hr nt (fun t => t < i) g W) (hi : i < nt) (hc : eCond W i) : TH hr nt (fun t => t < i + 1) g (eStep W i) := by
  obtain ⟨p0, hp0, ep, ei⟩ := (hG.2.2.1 i hi).p
  have hb := hG.1.1
  have e1 : ∀ {t j}, t ≠ i ∨ j ≠ 6 → eStep W i 1 t j = W 1 t j := fun z => by
    rw [eStep, wSet_a (by decide), wSet_a (by decide)]
    exact z.elim wSet_i wSet_k
  have e6 : eStep W i 1 i 6 = 2 := by rw [eStep, wSet_a (by decide), wSet_a (by decide), wSet_same]
  have ear : arN W i = hr := by
    unfold arN
    rw [hc.2, hG.1.2.1]
    exact nI_clamp (by omega)
  refine ⟨fun p hp t ht et => ?_, fun t ht => ?_, fun t u ht hu => ?_⟩
  · by_cases z : p = p0
    · subst z
      rw [eStep, ei, wSet_same] at et
      exact absurd (show nI t < 0 by rw [← et]; decide) (nI_pos (by omega))
    · have et2 : W 0 p 3 = nI t := by
        rw [eStep, ei, wSet_i z, wSet_i z, wSet_a (by decide)] at et
        exact et
      obtain ⟨q1, q2⟩ := h.1 p hp t ht et2
      have zt : t ≠ i := fun y => z (by
        rw [y, ep] at q2
        exact ((nI_eq (by omega) (by omega)).mp q2).symm)
      rw [e1 (Or.inl zt), e1 (Or.inl zt)]
      exact ⟨q1, q2⟩
  · by_cases z : t = i
    · subst z
      refine ⟨?_, Or.inr (Or.inr (Or.inl ⟨e6, ?_⟩))⟩
      · rw [e1 (Or.inr (by decide)), e1 (Or.inr (by decide))]
        exact (h.2.1 t ht).1
      · unfold arN at ear ⊢
        rw [e1 (Or.inr (by decide)), ear]
        exact Nat.le_refl _
    · exact (h.2.1 t ht).eq (fun j hj => e1 (Or.inl z)) rfl (fun (q : t < i + 1) => by show t < i; omega) id
  · have k := h.2.2 t u ht hu
    have e3 : ∀ v, eStep W i 1 v 6 = 3 ↔ W 1 v 6 = 3 := fun v => by
      by_cases z : v = i
      · subst z
        rw [e6, hc.1]
        decide
      · rw [e1 (Or.inl z)]
    unfold arN lvN at k ⊢
    rw [e3 t, e3 u, e1 (t := t) (j := 0) (Or.inr (by decide)), e1 (t := u) (j := 0) (Or.inr (by decide)), e1 (t := t) (j := 3) (Or.inr (by decide)), e1 (t := t) (j := 4) (Or.inr (by decide)), e1 (t := u) (j := 3) (Or.inr (by decide)), e1 (t := u) (j := 4) (Or.inr (by decide))]
    exact k
theorem TH.eNo {g : Nat → Prop} {i : Nat} (hG : Gd hr f nt nk W) (h : TH hr nt (fun t => t < i) g W) (hi : i < nt) (hc : ¬ eCond W i) : TH hr nt (fun t => t < i + 1) g W := by
  refine ⟨h.1, fun t ht => ?_, h.2.2⟩
  by_cases z : t = i
  · subst z
    have k := h.2.1 t ht
    obtain ⟨g3, g4, g5, g6⟩ := hG.lv ht
    refine ⟨k.1, ?_⟩
    rcases k.2 with q | ⟨a, b, c, -⟩ | q | q
    · exact Or.inl q
    · refine Or.inr (Or.inl ⟨a, b, c, fun _ => ?_⟩)
      have : ¬ arN W t = hr := fun y => hc ⟨a, by rw [g4, y, hG.1.2.1]⟩
      omega
    · exact Or.inr (Or.inr (Or.inl q))
    · exact Or.inr (Or.inr (Or.inr q))
  · exact (h.2.1 t ht).eq (fun _ _ => rfl) rfl (fun (q : t < i + 1) => by show t < i; omega) id
theorem TH.et (hG : Gd hr f nt nk W) (h : TH hr nt (fun _ => False) (fun _ => False) W) : ∀ i, i ≤ nt → TH hr nt (fun t => t < i) (fun _ => False) (etTo W i)
  | 0, _ => TH.eq h (fun _ _ => rfl) (fun _ _ _ _ => rfl) (fun t (q : t < 0) => absurd q (Nat.not_lt_zero _)) (fun _ z => z)
  | i + 1, hi => by
    have k := TH.et hG h i (by omega)
    have kG := hG.et i (by omega)
    rw [etTo]
    split
    · rename_i c
      exact TH.eSt kG k (by omega) c
    · rename_i c
      exact TH.eNo kG k (by omega) c
theorem TH.gSt {i : Nat} (hG : Gd hr f nt nk W) (h : TH hr nt (fun _ => True) (fun t => t < i) W) (hi : i < nt) (hc : gCond W i) : TH hr nt (fun _ => True) (fun t => t < i + 1) (gStep W i) := by
  obtain ⟨p0, hp0, ep, ei⟩ := (hG.2.2.1 i hi).p
  have hb := hG.1.1
  obtain ⟨g3, g4, g5, g6⟩ := hG.lv hi
  have elv : lvN W i = hr := by
    unfold lvN
    rw [hc.2, hG.1.2.1]
    exact nI_clamp (by omega)
  have no : ∀ p t, p < 8 → t < nt → W 0 p 3 = nI t → t ≠ i := fun p t hp ht et y => by
    have q1 := (h.1 p hp t ht et).1
    rw [y, hc.1] at q1
    exact absurd q1 (by decide)
  unfold gStep
  split
  · have e1 : ∀ {t j}, t ≠ i ∨ j ≠ 6 → wSet (wSet (wSet W 1 i 6 1) 0 (ix (W 1 i 0)) 2 (-9)) 0 (ix (W 1 i 0)) 3 (nI i) 1 t j = W 1 t j := fun z => by
      rw [wSet_a (by decide), wSet_a (by decide)]
      exact z.elim wSet_i wSet_k
    have e6 : wSet (wSet (wSet W 1 i 6 1) 0 (ix (W 1 i 0)) 2 (-9)) 0 (ix (W 1 i 0)) 3 (nI i) 1 i 6 = 1 := by rw [wSet_a (by decide), wSet_a (by decide), wSet_same]
    refine ⟨fun p hp t ht et => ?_, fun t ht => ?_, fun t u ht hu => ?_⟩
    · by_cases z : p = p0
      · subst z
        rw [ei, wSet_same] at et
        have zt : i = t := (nI_eq (by omega) (by omega)).mp et
        subst zt
        rw [e6, e1 (Or.inr (by decide))]
        exact ⟨rfl, ep⟩
      · have et2 : W 0 p 3 = nI t := by
          rw [ei, wSet_i z, wSet_i z, wSet_a (by decide)] at et
          exact et
        have zt := no p t hp ht et2
        rw [e1 (Or.inl zt), e1 (Or.inl zt)]
        exact h.1 p hp t ht et2
    · by_cases z : t = i
      · subst z
        refine ⟨?_, Or.inr (Or.inl ⟨e6, ?_⟩)⟩
        · rw [e1 (Or.inr (by decide)), e1 (Or.inr (by decide))]
          exact (h.2.1 t ht).1
        · unfold arN lvN at *
          rw [e1 (Or.inr (by decide)), e1 (Or.inr (by decide))]
          exact ⟨by omega, by omega, fun _ => by omega⟩
      · exact (h.2.1 t ht).eq (fun j hj => e1 (Or.inl z)) rfl id (fun (q : t < i + 1) => by show t < i; omega)
    · have k := h.2.2 t u ht hu
      have e3 : ∀ v, wSet (wSet (wSet W 1 i 6 1) 0 (ix (W 1 i 0)) 2 (-9)) 0 (ix (W 1 i 0)) 3 (nI i) 1 v 6 = 3 ↔ W 1 v 6 = 3 := fun v => by
        by_cases z : v = i
        · subst z
          rw [e6, hc.1]
          decide
        · rw [e1 (Or.inl z)]
      unfold arN lvN at k ⊢
      rw [e3 t, e3 u, e1 (t := t) (j := 0) (Or.inr (by decide)), e1 (t := u) (j := 0) (Or.inr (by decide)), e1 (t := t) (j := 3) (Or.inr (by decide)), e1 (t := t) (j := 4) (Or.inr (by decide)), e1 (t := u) (j := 3) (Or.inr (by decide)), e1 (t := u) (j := 4) (Or.inr (by decide))]
      exact k
  · have e1 : ∀ {t j}, t ≠ i ∨ j ≠ 6 → wSet W 1 i 6 3 1 t j = W 1 t j := fun z => z.elim wSet_i wSet_k
    refine ⟨fun p hp t ht et => ?_, fun t ht => ?_, fun t u ht hu h1 h2 h3 => ?_⟩
    · have et2 : W 0 p 3 = nI t := by
        rw [wSet_a (by decide)] at et
        exact et
      have zt := no p t hp ht et2
      rw [e1 (Or.inl zt), e1 (Or.inl zt)]
      exact h.1 p hp t ht et2
    · by_cases z : t = i
      · subst z
        refine ⟨?_, Or.inr (Or.inr (Or.inr (wSet_same _ _ _ _ _)))⟩
        rw [e1 (Or.inr (by decide)), e1 (Or.inr (by decide))]
        exact (h.2.1 t ht).1
      · exact (h.2.1 t ht).eq (fun j hj => e1 (Or.inl z)) rfl id (fun (q : t < i + 1) => by show t < i; omega)
    · have z1 : t ≠ i := fun z => h2 (by rw [z]; exact wSet_same _ _ _ _ _)
      have z2 : u ≠ i := fun z => h3 (by rw [z]; exact wSet_same _ _ _ _ _)
      rw [e1 (Or.inl z1), e1 (Or.inl z2)] at h1
      rw [e1 (Or.inl z1)] at h2
      rw [e1 (Or.inl z2)] at h3
      unfold arN lvN
      rw [e1 (Or.inl z1), e1 (Or.inl z1), e1 (Or.inl z2), e1 (Or.inl z2)]
      exact h.2.2 t u ht hu h1 h2 h3
theorem TH.gNo {i : Nat} (hG : Gd hr f nt nk W) (h : TH hr nt (fun _ => True) (fun t => t < i) W) (hi : i < nt) (hc : ¬ gCond W i) : TH hr nt (fun _ => True) (fun t => t < i + 1) W := by
  refine ⟨h.1, fun t ht => ?_, h.2.2⟩
  by_cases z : t = i
  · subst z
    have k := h.2.1 t ht
    obtain ⟨g3, g4, g5, g6⟩ := hG.lv ht
    refine ⟨k.1, ?_⟩
    rcases k.2 with ⟨a, b, -⟩ | q | q | q
    · refine Or.inl ⟨a, b, fun _ => ?_⟩
      have : ¬ lvN W t = hr := fun y => hc ⟨a, by rw [g3, y, hG.1.2.1]⟩
      omega
    · exact Or.inr (Or.inl q)
    · exact Or.inr (Or.inr (Or.inl q))
    · exact Or.inr (Or.inr (Or.inr q))
  · exact (h.2.1 t ht).eq (fun _ _ => rfl) rfl id (fun (q : t < i + 1) => by show t < i; omega)
theorem TH.gt (hG : Gd hr f nt nk W) (h : TH hr nt (fun _ => True) (fun _ => False) W) : ∀ i, i ≤ nt → TH hr nt (fun _ => True) (fun t => t < i) (gtTo W i)
  | 0, _ => TH.eq h (fun _ _ => rfl) (fun _ _ _ _ => rfl) (fun _ z => z) (fun t (q : t < 0) => absurd q (Nat.not_lt_zero _))
  | i + 1, hi => by
    have k := TH.gt hG h i (by omega)
    have kG := hG.gt i (by omega)
    rw [gtTo]
    split
    · rename_i c
      exact TH.gSt kG k (by omega) c
    · rename_i c
      exact TH.gNo kG k (by omega) c
theorem Gd.hr1 (hG : Gd hr f nt nk W) (h5 : hr + 1 ≤ 500) : Gd (hr + 1) f nt nk (wSet W 3 0 0 (W 3 0 0 + 1)) := by
  have e : ∀ c i' q, (c ≠ 3 ∨ q ≠ 0) → wSet W 3 0 0 (W 3 0 0 + 1) c i' q = W c i' q := fun c i' q hq => by rw [wSet_r, if_neg (by omega)]
  exact hG.up ⟨⟨h5, hG.1.1.2⟩, by rw [wSet_same, hG.1.2.1, nI_1], (e _ _ _ (by decide)).trans hG.1.2.2.1, (e _ _ _ (by decide)).trans hG.1.2.2.2.1, (e _ _ _ (by decide)).trans hG.1.2.2.2.2⟩ (fun p _ g => g.eq (e _ _ _ (by decide)) (e _ _ _ (by decide)) (e _ _ _ (by decide))) (fun t _ g => g.eq (fun q hq => e _ _ _ (by omega))) (fun k _ g => g.eq (e _ _ _ (by decide)) (e _ _ _ (by decide)) (e _ _ _ (by decide)) (e _ _ _ (by decide)) (e _ _ _ (by decide))) (fun x => by rw [hbN_free (by decide)]; exact hG.2.2.2.2 x)
theorem TP.hour (hG : Gd hr f nt nk W) (h : TP hr nt W) (h5 : hr + 1 ≤ 500) : TP (hr + 1) nt (sHour W) := by
  have hG1 := hG.hr1 h5
  have h0 : TH (hr + 1) nt (fun _ => False) (fun _ => False) (wSet W 3 0 0 (W 3 0 0 + 1)) := by
    refine ⟨fun p hp t ht et => ?_, fun t ht => ?_, fun t u ht hu => ?_⟩
    · rw [wSet_a (by decide)] at et
      rw [wSet_a (by decide), wSet_a (by decide)]
      exact h.1 p hp t ht et
    · have k := h.2.1 t ht
      unfold triH lvN arN at k ⊢
      rw [wSet_a (by decide), wSet_a (by decide), wSet_a (by decide), wSet_a (by decide), wSet_a (by decide)]
      refine ⟨k.1, ?_⟩
      rcases k.2 with ⟨a, b, c⟩ | ⟨a, b, c, d⟩ | ⟨a, b⟩ | q
      · exact Or.inl ⟨a, c trivial, fun z => z.elim⟩
      · exact Or.inr (Or.inl ⟨a, by omega, d trivial, fun z => z.elim⟩)
      · exact Or.inr (Or.inr (Or.inl ⟨a, by omega⟩))
      · exact Or.inr (Or.inr (Or.inr q))
    · have k := h.2.2 t u ht hu
      unfold arN lvN at k ⊢
      rw [wSet_a (by decide), wSet_a (by decide), wSet_a (by decide), wSet_a (by decide), wSet_a (by decide), wSet_a (by decide), wSet_a (by decide), wSet_a (by decide)]
      exact k
  unfold sHour
  rw [hG.cT]
  have k1 := TH.et hG1 h0 nt (Nat.le_refl _)
  have kG := hG1.et nt (Nat.le_refl _)
  have k2 : TH (hr + 1) nt (fun _ => True) (fun _ => False) (etTo (wSet W 3 0 0 (W 3 0 0 + 1)) nt) := ⟨k1.1, fun t ht => (k1.2.1 t ht).eq (fun _ _ => rfl) rfl (fun _ => ht) id, k1.2.2⟩
  have k3 := TH.gt kG k2 nt (Nat.le_refl _)
  exact ⟨k3.1, fun t ht => (k3.2.1 t ht).eq (fun _ _ => rfl) rfl id (fun _ => ht), k3.2.2⟩
-- what an hour leaves
theorem etTo_r {a i k : Nat} (h : (a ≠ 0 ∨ (k ≠ 2 ∧ k ≠ 3)) ∧ (a ≠ 1 ∨ k ≠ 6)) : ∀ n, etTo W n a i k = W a i k
  | 0 => rfl
  | n + 1 => by
    rw [etTo]
    split
    · rw [eStep, wSet_r, if_neg (by omega), wSet_r, if_neg (by omega), wSet_r, if_neg (by omega)]
      exact etTo_r h n
    · exact etTo_r h n
theorem gtTo_r {a i k : Nat} (h : (a ≠ 0 ∨ (k ≠ 2 ∧ k ≠ 3)) ∧ (a ≠ 1 ∨ k ≠ 6)) : ∀ n, gtTo W n a i k = W a i k
  | 0 => rfl
  | n + 1 => by
    rw [gtTo]
    split
    · unfold gStep
      split
      · rw [wSet_r, if_neg (by omega), wSet_r, if_neg (by omega), wSet_r, if_neg (by omega)]
        exact gtTo_r h n
      · rw [wSet_r, if_neg (by omega)]
        exact gtTo_r h n
    · exact gtTo_r h n
theorem sHour_r {a i k : Nat} (h : (a ≠ 0 ∨ (k ≠ 2 ∧ k ≠ 3)) ∧ (a ≠ 1 ∨ k ≠ 6) ∧ (a ≠ 3 ∨ k ≠ 0)) : sHour W a i k = W a i k := by
  rw [sHour, gtTo_r ⟨h.1, h.2.1⟩, etTo_r ⟨h.1, h.2.1⟩, wSet_r, if_neg (by omega)]
theorem MF.hour (h : MF f W) : MF f (sHour W) := h.eq (fun _ _ => sHour_r (by decide)) (fun _ _ => sHour_r (by decide)) (fun _ _ => sHour_r (by decide)) (sHour_r (by decide))
end TRIPS
