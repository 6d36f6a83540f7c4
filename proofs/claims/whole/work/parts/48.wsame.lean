-- ===== ways: the class and the model answer alike =====
section WS
variable {W : Wd} {nt k : Nat}
def cKd (kd l f : Nat) : Nat := if kd = 0 then l + 1 else if kd = 1 then f else 0
theorem cKd_0 {kd s : Nat} : cKd kd 0 (feN W s) = adN W kd s := rfl
theorem cKd_s {kd s l f : Nat} : adN W kd s + cKd kd l f = cKd kd (l + 1) (feN W s + f) := by
  unfold adN cKd
  split
  · omega
  · split <;> omega
theorem wbw_sq {g : Int32} {s : Nat} : ∀ {l s a f}, wbw W nt g l s a f → ∃ t, t < nt ∧ W 1 t 2 = g ∧ arN W t = a ∧ ∀ kd, wsq W nt kd l s t (cKd kd l f)
  | 0, s, a, f, h => by
    obtain ⟨h1, h2, rfl, rfl⟩ := h
    exact ⟨s, h1, h2, rfl, fun kd => ⟨rfl, h1, cKd_0⟩⟩
  | l + 1, s, a, f, h => by
    obtain ⟨h1, h2, u, f', h3, h4, rfl⟩ := h
    obtain ⟨t, a1, a2, a3, a4⟩ := wbw_sq (s := s) h4
    exact ⟨t, a1, a2, a3, fun kd => by
      have := wsq_cons h1 h3 (a4 kd)
      rw [cKd_s] at this
      exact this⟩
theorem sq_wbw (hg : ∀ t, t < nt → trG W t) {g : Int32} {kd : Nat} : ∀ {l s t c}, wsq W nt kd l s t c → W 1 t 2 = g → ∃ l' a f, wbw W nt g l' s a f ∧ l' ≤ l ∧ a ≤ arN W t ∧ (kd = 1 → f ≤ c)
  | 0, s, t, c, h, hd => by
    obtain ⟨rfl, h1, rfl⟩ := h
    exact ⟨0, arN W s, feN W s, ⟨h1, hd, rfl, rfl⟩, Nat.le_refl _, Nat.le_refl _, fun e => by subst e; exact Nat.le_refl _⟩
  | l + 1, s, t, c, h, hd => by
    have ha := wsq_ar hg h
    obtain ⟨u, c', h1, h2, h3, h4, rfl⟩ := wsq_uncons h
    have hf : kd = 1 → feN W s = adN W kd s := fun e => by subst e; rfl
    by_cases z : W 1 s 2 = g
    · exact ⟨0, arN W s, feN W s, ⟨h1, z, rfl, rfl⟩, Nat.zero_le _, ha, fun e => by have := hf e; omega⟩
    · obtain ⟨l', a, f, b1, b2, b3, b4⟩ := sq_wbw hg h4 hd
      exact ⟨l' + 1, a, feN W s + f, ⟨h1, z, u, f, h2, b1, rfl⟩, by omega, b3, fun e => by have := hf e; have := b4 e; omega⟩
theorem n9 {t : Nat} (h : t < 2 ^ 31) : ¬ (-9 : Int32) = nI t := fun z => nI_pos h (by rw [← z]; decide)
theorem wfo_n {fo s : Nat} (hs : fo < 1000) (h : wFo W nt k (nI fo) s) (h16 : nt ≤ 16) : s = fo := by
  obtain ⟨h1, h2, -⟩ := h
  rcases h2 with z | z
  · exact absurd z.symm (n9 (by omega))
  · exact ((nI_eq (by omega) (by omega)).mp z).symm
theorem earliest_same (hg : ∀ t, t < nt → trG W t) (h16 : nt ≤ 16) (hct : cT W = nt) (hne : ¬ yTn W k = W 2 k 2) (Y : Yd) : ∀ q, q < 3 → sEar (ySea W Y k 0) q = eaM W nt k q := by
  intro q hq
  have hF : ∀ {s}, wFo W nt k (-9) s → cau W s (yTn W k) (yHr W k) := fun h => h.2.2
  rcases wclass (c := 0) hg h16 hct (Or.inl rfl) hne Y with ⟨h1, h2⟩ | ⟨x, y, s, ⟨j, l, a, f, j1, j2, j3, j4⟩, hmin, hs1, hs2, e0, e1, e2⟩
  · rw [h2 q]
    have : avTo W (wfb W nt k 0 (-9)) k (-1) nt = 1000000 := by
      rcases Nat.lt_or_ge (avTo W (wfb W nt k 0 (-9)) k (-1) nt) 1000000 with z | z
      · obtain ⟨t, b1, b2, b3⟩ := avTo_at nt z
        obtain ⟨l, s, c1, c2⟩ := wfb_snd b2.1
        obtain ⟨l', a, f, d1, -⟩ := sq_wbw hg c2 b2.2.1
        exact absurd d1 (h1 s c1.1 (hF c1) _ _ _)
      · exact Nat.le_antisymm (avTo_le nt) z
    exact (if_pos this).symm
  · have hx : k1 0 a f = a := rfl
    have hy : k2 0 l a = l + 1 := rfl
    have hxa : x = a := j3.trans hx
    have hyl : y = l + 1 := j4.trans hy
    rw [hxa, hyl] at hmin
    rw [hxa] at hs1 hs2 e0
    rw [hyl] at e1
    have hb := wbw_b hg j2
    obtain ⟨tj, t1, t2, t3, t4⟩ := wbw_sq (s := 0) j2
    have fj : wFo W nt k (-9) j := ⟨wbw_t j2, Or.inl rfl, j1⟩
    have cj := wfb_cmp hg h16 fj (t4 0)
    -- the hour
    have hM : avTo W (wfb W nt k 0 (-9)) k (-1) nt = a := by
      have m1 : avTo W (wfb W nt k 0 (-9)) k (-1) nt ≤ a := by
        have := avTo_min (W := W) (b := wfb W nt k 0 (-9)) (k := k) (t := tj) (ju := -1) ⟨by omega, t2, Or.inl (by decide)⟩ nt t1
        omega
      obtain ⟨t, b1, b2, b3⟩ := avTo_at (W := W) (b := wfb W nt k 0 (-9)) (k := k) (ju := -1) nt (by omega)
      obtain ⟨l2, s2, c1, c2⟩ := wfb_snd b2.1
      obtain ⟨l', a', f', d1, -, d3, -⟩ := sq_wbw hg c2 b2.2.1
      have := hmin s2 l' a' f' (hF c1) d1
      unfold lxl at this
      rw [show k1 0 a' f' = a' from rfl] at this
      omega
    have hn : ¬ avTo W (wfb W nt k 0 (-9)) k (-1) nt = 1000000 := by omega
    rcases (by omega : q = 0 ∨ q = 1 ∨ q = 2) with rfl | rfl | rfl
    · rw [e0]
      refine Eq.trans ?_ (if_neg hn).symm
      show nI a = nI (avTo W (wfb W nt k 0 (-9)) k (-1) nt)
      rw [hM]
    · rw [e1]
      refine Eq.trans ?_ (if_neg hn).symm
      show nI (l + 1) = nI (lsTo W (wfb W nt k 0 (-9)) k (avTo W (wfb W nt k 0 (-9)) k (-1) nt) nt)
      rw [hM]
      have m1 : lsTo W (wfb W nt k 0 (-9)) k a nt ≤ l + 1 := by
        have h3 := lsTo_min (W := W) (b := wfb W nt k 0 (-9)) (k := k) (h := a) (t := tj) ⟨t2, by omega⟩ nt t1
        have h4 : cKd 0 l f = l + 1 := rfl
        omega
      have hl := wsq_len hg h16 (t4 0)
      obtain ⟨t, b1, b2, b3⟩ := lsTo_at (W := W) (b := wfb W nt k 0 (-9)) (k := k) (h := a) nt (by omega)
      obtain ⟨l2, s2, c1, c2⟩ := wfb_snd (W := W) (nt := nt) (k := k) (kd := 0) (fo := -9) (t := t) (by omega)
      obtain ⟨l', a', f', d1, d2, d3, -⟩ := sq_wbw hg c2 b2.1
      have h5 := wsq_0 c2
      have h6 := hmin s2 l' a' f' (hF c1) d1
      unfold lxl at h6
      rw [show k1 0 a' f' = a' from rfl, show k2 0 l' a' = l' + 1 from rfl] at h6
      have : l + 1 = lsTo W (wfb W nt k 0 (-9)) k a nt := by omega
      rw [← this]
    · rw [e2]
      refine Eq.trans ?_ (if_neg hn).symm
      show nI s = fiTo W nt k (avTo W (wfb W nt k 0 (-9)) k (-1) nt) nt
      rw [hM]
      -- from which trips it is there in that hour
      have hA : ∀ i, i < nt → (avTo W (wfb W nt k 2 (nI i)) k (-1) nt = a ↔ (cau W i (yTn W k) (yHr W k) ∧ ∃ l a1 f, wbw W nt (W 2 k 2) l i a1 f ∧ k1 0 a1 f = a)) := fun i hi => by
        constructor
        · intro z
          obtain ⟨t, b1, b2, b3⟩ := avTo_at (W := W) (b := wfb W nt k 2 (nI i)) (k := k) (ju := -1) nt (by omega)
          obtain ⟨l2, s2, c1, c2⟩ := wfb_snd b2.1
          have es := wfo_n (by omega) c1 h16
          subst es
          obtain ⟨l', a', f', d1, -, d3, -⟩ := sq_wbw hg c2 b2.2.1
          have h6 := hmin s2 l' a' f' c1.2.2 d1
          unfold lxl at h6
          rw [show k1 0 a' f' = a' from rfl] at h6
          exact ⟨c1.2.2, l', a', f', d1, by show a' = a; omega⟩
        · rintro ⟨z1, l1, a1, f1, z2, z3⟩
          have z3 : a1 = a := z3
          subst z3
          obtain ⟨ti, u1, u2, u3, u4⟩ := wbw_sq (s := 0) z2
          have fi : wFo W nt k (nI i) i := ⟨hi, Or.inr rfl, z1⟩
          have ci := wfb_cmp hg h16 fi (u4 2)
          have m1 : avTo W (wfb W nt k 2 (nI i)) k (-1) nt ≤ a1 := by
            have := avTo_min (W := W) (b := wfb W nt k 2 (nI i)) (k := k) (t := ti) (ju := -1) ⟨by omega, u2, Or.inl (by decide)⟩ nt u1
            omega
          obtain ⟨t, b1, b2, b3⟩ := avTo_at (W := W) (b := wfb W nt k 2 (nI i)) (k := k) (ju := -1) nt (by omega)
          obtain ⟨l2, s2, c1, c2⟩ := wfb_snd b2.1
          obtain ⟨l', a', f', d1, -, d3, -⟩ := sq_wbw hg c2 b2.2.1
          have h6 := hmin s2 l' a' f' c1.2.2 d1
          unfold lxl at h6
          rw [show k1 0 a' f' = a' from rfl] at h6
          omega
      have hs : s < nt := by
        obtain ⟨-, l1, a1, f1, z2, -⟩ := hs1
        exact wbw_t z2
      have run : ∀ d, d ≤ nt → nt - d ≤ s → nI s = fiTo W nt k a d := by
        intro d
        induction d with
        | zero => intro _ h; omega
        | succ d ih =>
          intro h1 h2
          rw [fiTo]
          by_cases e : nt - (d + 1) = s
          · rw [e, if_pos ((hA s hs).mpr hs1)]
          · rw [if_neg (fun z => hs2 (nt - (d + 1)) (by omega) ((hA _ (by omega)).mp z))]
            exact ih (by omega) (by omega)
      exact run nt (Nat.le_refl _) (by omega)
theorem cheapest_same (hg : ∀ t, t < nt → trG W t) (h16 : nt ≤ 16) (hct : cT W = nt) (hne : ¬ yTn W k = W 2 k 2) (Y : Yd) : ∀ q, q < 2 → sEar (ySea W Y k 1) q = chM W nt k q := by
  intro q hq
  have hF : ∀ {s}, wFo W nt k (-9) s → cau W s (yTn W k) (yHr W k) := fun h => h.2.2
  have k1e : ∀ a f, k1 1 a f = f := fun a f => if_neg (by decide)
  have k2e : ∀ l a, k2 1 l a = a := fun l a => if_neg (by decide)
  rcases wclass (c := 1) hg h16 hct (Or.inr rfl) hne Y with ⟨h1, h2⟩ | ⟨x, y, s, ⟨j, l, a, f, j1, j2, j3, j4⟩, hmin, hs1, hs2, e0, e1, e2⟩
  · rw [h2 q]
    have : lsTo W (wfb W nt k 1 (-9)) k 1000000 nt = 1000000 := by
      rcases Nat.lt_or_ge (lsTo W (wfb W nt k 1 (-9)) k 1000000 nt) 1000000 with z | z
      · obtain ⟨t, b1, b2, b3⟩ := lsTo_at nt z
        obtain ⟨l, s, c1, c2⟩ := wfb_snd (W := W) (nt := nt) (k := k) (kd := 1) (fo := -9) (t := t) (by omega)
        obtain ⟨l', a, f, d1, -⟩ := sq_wbw hg c2 b2.1
        exact absurd d1 (h1 s c1.1 (hF c1) _ _ _)
      · exact Nat.le_antisymm (lsTo_le nt) z
    exact (if_pos this).symm
  · have hxf : x = f := j3.trans (k1e a f)
    have hya : y = a := j4.trans (k2e l a)
    rw [hxf, hya] at hmin
    rw [hxf] at hs1 hs2 e0
    rw [hya] at e1
    have hb := wbw_b hg j2
    obtain ⟨tj, t1, t2, t3, t4⟩ := wbw_sq (s := 0) j2
    have fj : wFo W nt k (-9) j := ⟨wbw_t j2, Or.inl rfl, j1⟩
    have cj := wfb_cmp hg h16 fj (t4 1)
    have cf : cKd 1 l f = f := rfl
    -- no array entry at the goal is below the sum
    have low : ∀ t, t < nt → W 1 t 2 = W 2 k 2 → wfb W nt k 1 (-9) t < 1000000 → f ≤ wfb W nt k 1 (-9) t := fun t ht hd h => by
      obtain ⟨l2, s2, c1, c2⟩ := wfb_snd (W := W) (nt := nt) (k := k) (kd := 1) (fo := -9) (t := t) h
      obtain ⟨l', a', f', d1, d2, d3, d4⟩ := sq_wbw hg c2 hd
      have h6 := hmin s2 l' a' f' (hF c1) d1
      rw [k1e, k2e] at h6
      unfold lxl at h6
      have := d4 rfl
      omega
    have hM : lsTo W (wfb W nt k 1 (-9)) k 1000000 nt = f := by
      have a6 : arN W tj ≤ 1000000 := by omega
      have m1 := lsTo_min (W := W) (b := wfb W nt k 1 (-9)) (k := k) (h := 1000000) (t := tj) ⟨t2, a6⟩ nt t1
      obtain ⟨t, b1, b2, b3⟩ := lsTo_at (W := W) (b := wfb W nt k 1 (-9)) (k := k) (h := 1000000) nt (by omega)
      have := low t b1 b2.1 (by omega)
      omega
    have hn : ¬ lsTo W (wfb W nt k 1 (-9)) k 1000000 nt = 1000000 := by omega
    rcases (by omega : q = 0 ∨ q = 1) with rfl | rfl
    · rw [e0]
      refine Eq.trans ?_ (if_neg hn).symm
      show nI f = nI (lsTo W (wfb W nt k 1 (-9)) k 1000000 nt)
      rw [hM]
    · rw [e1]
      refine Eq.trans ?_ (if_neg hn).symm
      show nI a = nI (avTo W (wfb W nt k 1 (-9)) k (nI (lsTo W (wfb W nt k 1 (-9)) k 1000000 nt)) nt)
      rw [hM]
      have ej : wfb W nt k 1 (-9) tj = f := by
        have := low tj t1 t2 (by omega)
        omega
      have m1 := avTo_min (W := W) (b := wfb W nt k 1 (-9)) (k := k) (t := tj) (ju := nI f) ⟨by omega, t2, Or.inr (by rw [ej])⟩ nt t1
      obtain ⟨t, b1, b2, b3⟩ := avTo_at (W := W) (b := wfb W nt k 1 (-9)) (k := k) (ju := nI f) nt (by omega)
      have ef : wfb W nt k 1 (-9) t = f := by
        rcases b2.2.2 with z | z
        · exact absurd z (nI_pos (by omega))
        · exact (nI_eq (by omega) (by omega)).mp z
      obtain ⟨l2, s2, c1, c2⟩ := wfb_snd b2.1
      obtain ⟨l', a', f', d1, d2, d3, d4⟩ := sq_wbw hg c2 b2.2.1
      have h6 := hmin s2 l' a' f' (hF c1) d1
      rw [k1e, k2e] at h6
      unfold lxl at h6
      have := d4 rfl
      have : a = avTo W (wfb W nt k 1 (-9)) k (nI f) nt := by omega
      rw [← this]
end WS
