-- ===== ways from a trip to the goal: what the class finds =====
section WK
variable {W : Wd} {nt : Nat} {g c : Int32}
/-- a way of l joins from trip t to the goal, there in hour a, for the fees f -/
def wbw (W : Wd) (nt : Nat) (g : Int32) : Nat → Nat → Nat → Nat → Prop
  | 0, t, a, f => t < nt ∧ W 1 t 2 = g ∧ a = arN W t ∧ f = feN W t
  | l + 1, t, a, f => t < nt ∧ ¬ W 1 t 2 = g ∧ ∃ u f', joi W t u ∧ wbw W nt g l u a f' ∧ f = feN W t + f'
theorem wbw_t : ∀ {l t a f}, wbw W nt g l t a f → t < nt
  | 0, _, _, _, h => h.1
  | _ + 1, _, _, _, h => h.1
theorem wbw_b (hg : ∀ t, t < nt → trG W t) : ∀ {l t a f}, wbw W nt g l t a f → arN W t + l ≤ a ∧ a ≤ 600 ∧ f ≤ 99 * (l + 1)
  | 0, t, a, f, h => by
    obtain ⟨h1, -, rfl, rfl⟩ := h
    have h2 := (hg t h1).2.2.2
    have b1 := h2.1
    have b2 := h2.2.2
    omega
  | l + 1, t, a, f, h => by
    obtain ⟨h1, -, u, f', h2, h3, rfl⟩ := h
    have := wbw_b hg h3
    have := joi_ar hg h1 (wbw_t h3) h2
    have := (hg t h1).2.2.2.2.2
    omega
def k1 (c : Int32) (a f : Nat) : Nat := if c = 0 then a else f
def k2 (c : Int32) (l a : Nat) : Nat := if c = 0 then l + 1 else a
def lxl (x y x' y' : Nat) : Prop := x < x' ∨ (x = x' ∧ y ≤ y')
theorem lxl.tr {x y x' y' x2 y2 : Nat} (h : lxl x y x' y') (h2 : lxl x' y' x2 y2) : lxl x y x2 y2 := by unfold lxl at *; omega
theorem lxl.rf {x y : Nat} : lxl x y x y := Or.inr ⟨rfl, Nat.le_refl _⟩
theorem lxl.add {x y x' y' d e : Nat} (h : lxl x y x' y') : lxl (x + d) (y + e) (x' + d) (y' + e) := by unfold lxl at *; omega
def wOp (W : Wd) (nt : Nat) (g c : Int32) (t x y : Nat) : Prop := (∃ l a f, wbw W nt g l t a f ∧ x = k1 c a f ∧ y = k2 c l a) ∧ ∀ l a f, wbw W nt g l t a f → lxl x y (k1 c a f) (k2 c l a)
theorem wOp_b (hg : ∀ t, t < nt → trG W t) {t x y : Nat} (h : wOp W nt g c t x y) : x ≤ 100000 ∧ y ≤ 1000 := by
  obtain ⟨⟨l, a, f, h1, rfl, rfl⟩, -⟩ := h
  have := wbw_b hg h1
  unfold k1 k2
  split <;> omega
def wOK (W : Wd) (nt : Nat) (g c : Int32) (Y : Yd) (t : Nat) : Prop := (¬ Y 2 t = 0 ∧ ∃ x y, Y 3 t = nI x ∧ Y 4 t = nI y ∧ wOp W nt g c t x y) ∨ (Y 2 t = 0 ∧ ∀ l a f, ¬ wbw W nt g l t a f)
theorem wOK.eq {Y Y' : Yd} {t : Nat} (h : wOK W nt g c Y t) (h2 : Y' 2 t = Y 2 t) (h3 : Y' 3 t = Y 3 t) (h4 : Y' 4 t = Y 4 t) : wOK W nt g c Y' t := by
  unfold wOK at h ⊢
  rw [h2, h3, h4]
  exact h
theorem bet_i {Y : Yd} {i j : Nat} : bet Y i j ↔ (Y 3 i).toInt < (Y 3 j).toInt ∨ ((Y 3 i).toInt = (Y 3 j).toInt ∧ (Y 4 i).toInt < (Y 4 j).toInt) := by
  unfold bet
  by_cases h : Y 3 i = Y 3 j
  · rw [if_pos h, h, Int32.lt_iff_toInt_lt]
    omega
  · rw [if_neg h, Int32.lt_iff_toInt_lt]
    have : (Y 3 i).toInt ≠ (Y 3 j).toInt := fun z => h (Int32.toInt_inj.mp z)
    omega
theorem bet_n {Y : Yd} {i j a b x y : Nat} (h1 : Y 3 i = nI a) (h2 : Y 4 i = nI b) (h3 : Y 3 j = nI x) (h4 : Y 4 j = nI y) (ha : a ≤ 100000) (hb : b ≤ 1000) (hx : x ≤ 100000) (hy : y ≤ 1000) : bet Y i j ↔ a < x ∨ (a = x ∧ b < y) := by
  rw [bet_i, h1, h2, h3, h4, nI_toInt (by omega), nI_toInt (by omega), nI_toInt (by omega), nI_toInt (by omega)]
  omega
abbrev wcd (W : Wd) (Y : Yd) (tn hr : Int32) (i : Nat) : Prop := ¬ Y 2 i = 0 ∧ cau W i tn hr
theorem bf_spec {Y : Yd} {tn hr : Int32} : ∀ n, n ≤ 16 → (bfTo W Y tn hr n = -9 ∧ ∀ i, i < n → ¬ wcd W Y tn hr i) ∨ ∃ j, j < n ∧ bfTo W Y tn hr n = nI j ∧ wcd W Y tn hr j ∧ ∀ i, i < n → wcd W Y tn hr i → ¬ bet Y i j
  | 0, _ => Or.inl ⟨rfl, fun i hi => absurd hi (Nat.not_lt_zero i)⟩
  | n + 1, hn => by
    rw [bfTo]
    rcases bf_spec (Y := Y) (tn := tn) (hr := hr) n (by omega) with ⟨h1, h2⟩ | ⟨j, hj, h1, h2, h3⟩
    · by_cases z : wcd W Y tn hr n
      · rw [if_pos ⟨z, Or.inl h1⟩]
        refine Or.inr ⟨n, by omega, rfl, z, fun i hi hc => ?_⟩
        by_cases e : i = n
        · subst e
          rw [bet_i]
          omega
        · exact absurd hc (h2 i (by omega))
      · rw [if_neg (fun q => z q.1)]
        refine Or.inl ⟨h1, fun i hi => ?_⟩
        by_cases e : i = n
        · subst e
          exact z
        · exact h2 i (by omega)
    · have hx : ¬ bfTo W Y tn hr n = -9 := fun z => nI_pos (n := j) (by omega) (by rw [← h1, z]; decide)
      have hi2 : ix (bfTo W Y tn hr n) = j := by rw [h1]; exact ixT (by omega)
      by_cases z : wcd W Y tn hr n ∧ bet Y n j
      · rw [if_pos ⟨z.1, Or.inr (by rw [hi2]; exact z.2)⟩]
        refine Or.inr ⟨n, by omega, rfl, z.1, fun i hi hc => ?_⟩
        by_cases e : i = n
        · subst e
          rw [bet_i]
          omega
        · have a1 := h3 i (by omega) hc
          have a2 := z.2
          rw [bet_i] at a1 a2 ⊢
          omega
      · rw [if_neg (fun q => z ⟨q.1, by rcases q.2 with y | y; exact absurd y hx; rw [hi2] at y; exact y⟩)]
        refine Or.inr ⟨j, by omega, h1, h2, fun i hi hc => ?_⟩
        by_cases e : i = n
        · subst e
          exact fun y => z ⟨hc, y⟩
        · exact h3 i (by omega) hc
theorem ll_spec {Y : Yd} : ∀ n, (∃ i, i ≤ n ∧ Y 1 i = 0) → Y 1 (llTo W Y n) = 0 ∧ ∀ j, j ≤ n → Y 1 j = 0 → ¬ W 1 (llTo W Y n) 3 < W 1 j 3
  | 0, ⟨i, hi, h⟩ => by
    have : i = 0 := by omega
    subst this
    exact ⟨h, fun j hj _ => by
      have : j = 0 := by omega
      subst this
      exact Int32.lt_irrefl⟩
  | n + 1, hx => by
    rw [llTo]
    by_cases ex : ∃ i, i ≤ n ∧ Y 1 i = 0
    · obtain ⟨h1, h2⟩ := ll_spec n ex
      by_cases z : Y 1 (n + 1) = 0 ∧ W 1 (llTo W Y n) 3 < W 1 (n + 1) 3
      · rw [if_pos ⟨z.1, Or.inr z.2⟩]
        refine ⟨z.1, fun j hj hu => ?_⟩
        by_cases e : j = n + 1
        · subst e
          exact Int32.lt_irrefl
        · exact fun y => h2 j (by omega) hu (Int32.lt_trans z.2 y)
      · rw [if_neg (fun q => z ⟨q.1, q.2.resolve_left (fun y => y h1)⟩)]
        refine ⟨h1, fun j hj hu => ?_⟩
        by_cases e : j = n + 1
        · subst e
          exact fun y => z ⟨hu, y⟩
        · exact h2 j (by omega) hu
    · obtain ⟨i, hi, hu⟩ := hx
      have e : i = n + 1 := by
        rcases Nat.lt_or_ge i (n + 1) with y | y
        · exact absurd ⟨i, by omega, hu⟩ ex
        · omega
      subst e
      rw [if_pos ⟨hu, Or.inl (fun y => ex ⟨llTo W Y n, llTo_lt n, y⟩)⟩]
      refine ⟨hu, fun j hj hv => ?_⟩
      by_cases e : j = n + 1
      · subst e
        exact Int32.lt_irrefl
      · exact absurd ⟨j, by omega, hv⟩ ex
/-- how many trips were looked at -/
def lkN (Y : Yd) : Nat → Nat
  | 0 => 0
  | n + 1 => if Y 1 n = 0 then lkN Y n else lkN Y n + 1
theorem lkN_le {Y : Yd} : ∀ n, lkN Y n ≤ n
  | 0 => Nat.le_refl _
  | n + 1 => by
    have := lkN_le (Y := Y) n
    rw [lkN]
    split <;> omega
theorem lkN_eq {Y Y' : Yd} : ∀ n, (∀ i, i < n → (Y' 1 i = 0 ↔ Y 1 i = 0)) → lkN Y' n = lkN Y n
  | 0, _ => rfl
  | n + 1, h => by
    rw [lkN, lkN, lkN_eq n (fun i hi => h i (by omega))]
    by_cases z : Y 1 n = 0
    · rw [if_pos z, if_pos ((h n (by omega)).mpr z)]
    · rw [if_neg z, if_neg (fun y => z ((h n (by omega)).mp y))]
theorem lkN_up {Y Y' : Yd} {t : Nat} (ht : Y 1 t = 0) (ht' : ¬ Y' 1 t = 0) (h : ∀ i, i ≠ t → Y' 1 i = Y 1 i) : ∀ n, t < n → lkN Y' n = lkN Y n + 1
  | 0, hn => absurd hn (Nat.not_lt_zero _)
  | n + 1, hn => by
    rw [lkN, lkN]
    by_cases e : t = n
    · subst e
      rw [if_neg ht', if_pos ht, lkN_eq t (fun i hi => by rw [h i (by omega)])]
    · rw [h n (fun z => e z.symm), lkN_up ht ht' h n (by omega)]
      split <;> rfl
theorem lkN_all {Y : Yd} : ∀ n, (∀ i, i < n → ¬ Y 1 i = 0) ∨ lkN Y n < n
  | 0 => Or.inl (fun i hi => absurd hi (Nat.not_lt_zero i))
  | n + 1 => by
    have := lkN_le (Y := Y) n
    rw [lkN]
    by_cases z : Y 1 n = 0
    · rw [if_pos z]
      exact Or.inr (by omega)
    · rw [if_neg z]
      rcases lkN_all (Y := Y) n with h | h
      · refine Or.inl (fun i hi => ?_)
        by_cases e : i = n
        · subst e
          exact z
        · exact h i (by omega)
      · exact Or.inr (by omega)
theorem lkN_ex {Y : Yd} : ∀ n, lkN Y n < n → ∃ i, i < n ∧ Y 1 i = 0
  | 0, h => absurd h (Nat.not_lt_zero _)
  | n + 1, h => by
    by_cases z : Y 1 n = 0
    · exact ⟨n, by omega, z⟩
    · rw [lkN, if_neg z] at h
      obtain ⟨i, a, b⟩ := lkN_ex (Y := Y) n (by omega)
      exact ⟨i, by omega, b⟩
/-- while the class looks at the trips: n of them done -/
def wWI (W : Wd) (nt : Nat) (g c : Int32) (n : Nat) (Y : Yd) : Prop := (Y 0 5 = g ∧ Y 0 6 = c) ∧ lkN Y nt = n ∧ (∀ i j, i < nt → j < nt → ¬ Y 1 i = 0 → Y 1 j = 0 → lvN W j ≤ lvN W i) ∧ (∀ i, i < nt → ¬ Y 1 i = 0 → wOK W nt g c Y i) ∧ ∀ i, i < nt → Y 1 i = 0 → Y 2 i = 0
theorem wWI.step (hg : ∀ t, t < nt → trG W t) (h16 : nt ≤ 16) (hct : cT W = nt) (hc : c = 0 ∨ c = 1) {n : Nat} {Y : Yd} (h : wWI W nt g c n Y) (hn : n < nt) : wWI W nt g c (n + 1) (yLook W Y (llTo W Y (nt - 1))) := by
  obtain ⟨⟨i1, i2⟩, i3, i4, i5, i6⟩ := h
  obtain ⟨z, hz, hzu⟩ := lkN_ex (Y := Y) nt (by omega)
  obtain ⟨hu, hlat⟩ := ll_spec (W := W) (Y := Y) (nt - 1) ⟨z, by omega, hzu⟩
  have hi : llTo W Y (nt - 1) < nt := by
    have := llTo_lt (W := W) (Y := Y) (nt - 1)
    omega
  generalize llTo W Y (nt - 1) = t at hu hlat hi
  have gt := hg t hi
  -- the latest: all that leave later were looked at
  have hlv : ∀ j, j < nt → Y 1 j = 0 → lvN W j ≤ lvN W t := fun j hj hju => by
    have q := hlat j (by omega) hju
    have b1 := gt.2.2.1
    have b2 := gt.2.2.2.1
    have b3 := (hg j hj).2.2.1
    have b4 := (hg j hj).2.2.2.1
    rw [gt.1, (hg j hj).1] at q
    have := mt (nI_ltI (a := lvN W t) (b := lvN W j) (by omega) (by omega)).mpr q
    omega
  have hnx : ∀ u, u < nt → joi W t u → ¬ Y 1 u = 0 := fun u hu2 hj hq => by
    have := joi_lv hg hi hu2 hj
    have := hlv u hu2 hq
    have := gt.2.2.1
    omega
  -- what stays
  have keep : ∀ Y' : Yd, (Y' 0 5 = Y 0 5 ∧ Y' 0 6 = Y 0 6) → Y' 1 t = 1 → (∀ a j, j ≠ t → a ≠ 0 → Y' a j = Y a j) → wOK W nt g c Y' t → wWI W nt g c (n + 1) Y' := fun Y' k0 k1 k2 k3 => by
    have k1' : ¬ Y' 1 t = 0 := by rw [k1]; decide
    refine ⟨⟨k0.1.trans i1, k0.2.trans i2⟩, by rw [lkN_up hu k1' (fun i hi => k2 1 i hi (by decide)) nt hi, i3], fun i j hi2 hj2 a b => ?_, fun i hi2 a => ?_, fun i hi2 a => ?_⟩
    · have ej : j ≠ t := fun e => k1' (e ▸ b)
      rw [k2 1 j ej (by decide)] at b
      by_cases e : i = t
      · subst e
        exact hlv j hj2 b
      · rw [k2 1 i e (by decide)] at a
        exact i4 i j hi2 hj2 a b
    · by_cases e : i = t
      · subst e
        exact k3
      · rw [k2 1 i e (by decide)] at a
        exact (i5 i hi2 a).eq (k2 2 i e (by decide)) (k2 3 i e (by decide)) (k2 4 i e (by decide))
    · have ej : i ≠ t := fun e => k1' (e ▸ a)
      rw [k2 1 i ej (by decide)] at a
      rw [k2 2 i ej (by decide)]
      exact i6 i hi2 a
  unfold yLook
  rw [hct]
  by_cases hd : W 1 t 2 = Y 0 5
  · rw [if_pos hd]
    refine keep _ ⟨by simp [yLoA, yLk, ySet], by simp [yLoA, yLk, ySet]⟩ (by simp [yLoA, yLk, ySet]) (fun a j h1 h2 => by simp [yLoA, yLk, ySet, h1]) (Or.inl ⟨by simp [yLoA, yLk, ySet], k1 c (arN W t) (feN W t), k2 c 0 (arN W t), ?_, ?_, ⟨0, arN W t, feN W t, ⟨hi, hd.trans i1, rfl, rfl⟩, rfl, rfl⟩, fun l a f hw => ?_⟩)
    · have : yLoA W Y t 3 t = if Y 0 6 = 0 then W 1 t 4 else W 1 t 5 := by simp [yLoA, yLk, ySet]
      rw [this, i2, k1]
      split
      · exact gt.2.1
      · exact gt.2.2.2.2.1
    · have : yLoA W Y t 4 t = if Y 0 6 = 0 then 1 else W 1 t 4 := by simp [yLoA, yLk, ySet]
      rw [this, i2, k2]
      split
      · rfl
      · exact gt.2.1
    · cases l with
      | zero =>
        obtain ⟨-, -, rfl, rfl⟩ := hw
        exact lxl.rf
      | succ l => exact absurd (hd.trans i1) hw.2.1
  · rw [if_neg hd]
    have hd' : ¬ W 1 t 2 = g := fun z => hd (z.trans i1.symm)
    have e2 : ∀ a j, a ≠ 1 → yLk W Y t a j = Y a j := fun a j ha => ySet_a ha
    rcases bf_spec (W := W) (Y := yLk W Y t) (tn := W 1 t 2) (hr := W 1 t 4) nt h16 with ⟨h1, h2⟩ | ⟨j, hj, h1, h2, h3⟩
    · rw [if_pos h1]
      refine keep _ ⟨e2 0 5 (by decide), e2 0 6 (by decide)⟩ (ySet_at) (fun a j h1 h2 => ?_) (Or.inr ⟨(e2 2 t (by decide)).trans (i6 t hi hu), fun l a f hw => ?_⟩)
      · by_cases e : a = 1
        · subst e
          exact ySet_k h1
        · exact e2 a j e
      · cases l with
        | zero => exact hd' hw.2.1
        | succ l =>
          obtain ⟨-, -, u, f', b1, b2, rfl⟩ := hw
          have hut := wbw_t b2
          rcases i5 u hut (hnx u hut b1) with ⟨q1, -⟩ | ⟨-, q2⟩
          · exact h2 u hut ⟨by rw [e2 2 u (by decide)]; exact q1, b1⟩
          · exact q2 _ _ _ b2
    · have hx : ¬ bfTo W (yLk W Y t) (W 1 t 2) (W 1 t 4) nt = -9 := fun z => nI_pos (n := j) (by omega) (by rw [← h1, z]; decide)
      rw [if_neg hx, h1, ixT (show j < 16 by omega)]
      have h2 : wcd W Y (W 1 t 2) (W 1 t 4) j := ⟨fun z => h2.1 ((e2 2 j (by decide)).trans z), h2.2⟩
      have hjl : ¬ Y 1 j = 0 := fun z => h2.1 (i6 j hj z)
      obtain ⟨q1, x, y, ex, ey, hop⟩ := (i5 j hj hjl).resolve_right (fun z => h2.1 z.1)
      have hbx := wOp_b hg hop
      refine keep _ ⟨by simp [yLoB, yLk, ySet], by simp [yLoB, yLk, ySet]⟩ (by simp [yLoB, yLk, ySet]) (fun a j h1 h2 => by simp [yLoB, yLk, ySet, h1]) (Or.inl ⟨by simp [yLoB, yLk, ySet], x + (if c = 0 then 0 else feN W t), y + (if c = 0 then 1 else 0), ?_, ?_, ?_, fun l a f hw => ?_⟩)
      · have : yLoB W Y t j 3 t = Y 3 j + if Y 0 6 = 0 then 0 else W 1 t 5 := by simp [yLoB, yLk, ySet]
        rw [this, i2, ex]
        split
        · exact Int32.add_zero _
        · rw [gt.2.2.2.2.1, nI_add]
      · have : yLoB W Y t j 4 t = Y 4 j + if Y 0 6 = 0 then 1 else 0 := by simp [yLoB, yLk, ySet]
        rw [this, i2, ey]
        split
        · exact nI_1 y
        · exact Int32.add_zero _
      · obtain ⟨l, a, f, b1, rfl, rfl⟩ := hop.1
        refine ⟨l + 1, a, feN W t + f, ⟨hi, hd', j, f, h2.2, b1, rfl⟩, ?_, ?_⟩
        · unfold k1
          split <;> omega
        · unfold k2
          split <;> omega
      · cases l with
        | zero => exact absurd hw.2.1 hd'
        | succ l =>
          obtain ⟨-, -, u, f', b1, b2, rfl⟩ := hw
          have hut := wbw_t b2
          rcases i5 u hut (hnx u hut b1) with ⟨q1, xu, yu, eu, ev, hou⟩ | ⟨-, q2⟩
          · have hbu := wOp_b hg hou
            have nb := h3 u hut ⟨by rw [e2 2 u (by decide)]; exact q1, b1⟩
            rw [bet_n (a := xu) (b := yu) (x := x) (y := y) ((e2 3 u (by decide)).trans eu) ((e2 4 u (by decide)).trans ev) ((e2 3 j (by decide)).trans ex) ((e2 4 j (by decide)).trans ey) hbu.1 hbu.2 hbx.1 hbx.2] at nb
            have l1 : lxl x y xu yu := by unfold lxl; omega
            have := (l1.tr (hou.2 l a f' b2)).add (d := if c = 0 then 0 else feN W t) (e := if c = 0 then 1 else 0)
            have e1 : k1 c a (feN W t + f') = k1 c a f' + (if c = 0 then 0 else feN W t) := by unfold k1; split <;> omega
            have e3 : k2 c (l + 1) a = k2 c l a + (if c = 0 then 1 else 0) := by unfold k2; split <;> omega
            rw [e1, e3]
            exact this
          · exact absurd b2 (q2 _ _ _)
theorem yClr_r {Y : Yd} : ∀ n, (∀ a j, a ≠ 1 → a ≠ 2 → yClr Y n a j = Y a j) ∧ ∀ j, j < n → yClr Y n 1 j = 0 ∧ yClr Y n 2 j = 0
  | 0 => ⟨fun _ _ _ _ => rfl, fun j hj => absurd hj (Nat.not_lt_zero j)⟩
  | n + 1 => by
    obtain ⟨h1, h2⟩ := yClr_r (Y := Y) n
    refine ⟨fun a j ha hb => ?_, fun j hj => ?_⟩
    · rw [yClr, ySet_a hb, ySet_a ha, h1 a j ha hb]
    · rw [yClr]
      by_cases e : j = n
      · subst e
        exact ⟨(ySet_a (by decide)).trans ySet_at, ySet_at⟩
      · exact ⟨((ySet_a (by decide)).trans (ySet_k e)).trans (h2 j (by omega)).1, ((ySet_k e).trans (ySet_a (by decide))).trans (h2 j (by omega)).2⟩
theorem lkN_0 {Y : Yd} : ∀ n, (∀ i, i < n → Y 1 i = 0) → lkN Y n = 0
  | 0, _ => rfl
  | n + 1, h => by rw [lkN, if_pos (h n (by omega)), lkN_0 n (fun i hi => h i (by omega))]
theorem wWI.all (hg : ∀ t, t < nt → trG W t) (h16 : nt ≤ 16) (hct : cT W = nt) (hc : c = 0 ∨ c = 1) {Y : Yd} (h5 : Y 0 5 = g) (h6 : Y 0 6 = c) : ∀ n, n ≤ nt → wWI W nt g c n (yAll W (yClr Y nt) n)
  | 0, _ => by
    obtain ⟨h1, h2⟩ := yClr_r (Y := Y) nt
    exact ⟨⟨(h1 0 5 (by decide) (by decide)).trans h5, (h1 0 6 (by decide) (by decide)).trans h6⟩, lkN_0 nt (fun i hi => (h2 i hi).1), fun i j hi hj a => absurd (h2 i hi).1 a, fun i hi a => absurd (h2 i hi).1 a, fun i hi _ => (h2 i hi).2⟩
  | n + 1, hn => by
    have := (wWI.all hg h16 hct hc h5 h6 n (by omega)).step hg h16 hct hc (by omega)
    rw [yAll, hct]
    exact this
/-- all trips looked at: what stands is right -/
theorem wWI.end_ {Y : Yd} (h : wWI W nt g c nt Y) : ∀ i, i < nt → wOK W nt g c Y i := fun i hi => by
  rcases lkN_all (Y := Y) nt with z | z
  · exact h.2.2.2.1 i hi (z i hi)
  · exact absurd h.2.1 (by omega)
theorem yb_r {tn hr : Int32} : ∀ n (Y : Yd), (∀ q, q ≠ 3 → ybTo W Y tn hr n 0 q = Y 0 q) ∧ ((∀ i, i < n → ¬ ybC W Y tn hr i) → ybTo W Y tn hr n 0 3 = Y 0 3) ∧ ∀ s, s < n → ybC W Y tn hr s → (∀ i, i < s → ¬ ybC W Y tn hr i) → ybTo W Y tn hr n 0 3 = nI s
  | 0, Y => ⟨fun _ _ => rfl, fun _ => rfl, fun s hs => absurd hs (Nat.not_lt_zero s)⟩
  | n + 1, Y => by
    rw [ybTo]
    by_cases z : ybC W Y tn hr n
    · rw [if_pos z]
      have e : ∀ i, ybC W (ySet Y 0 3 (nI n)) tn hr i ↔ ybC W Y tn hr i := fun i => by
        unfold ybC
        rw [ySet_a (show (2 : Nat) ≠ 0 by decide), ySet_a (show (3 : Nat) ≠ 0 by decide), ySet_k (show (1 : Nat) ≠ 3 by decide)]
      obtain ⟨h1, h2, h3⟩ := yb_r (tn := tn) (hr := hr) n (ySet Y 0 3 (nI n))
      refine ⟨fun q hq => (h1 q hq).trans (ySet_k hq), fun hx => absurd z (hx n (by omega)), fun s hs hc hx => ?_⟩
      by_cases es : s = n
      · subst es
        rw [h2 (fun i hi => by rw [e]; exact hx i hi), ySet_at]
      · exact h3 s (by omega) ((e s).mpr hc) (fun i hi => by rw [e]; exact hx i hi)
    · rw [if_neg z]
      obtain ⟨h1, h2, h3⟩ := yb_r (tn := tn) (hr := hr) n Y
      refine ⟨h1, fun hx => h2 (fun i hi => hx i (by omega)), fun s hs hc hx => ?_⟩
      by_cases es : s = n
      · subst es
        exact absurd hc z
      · exact h3 s (by omega) hc hx
/-- what the class answers, not being there -/
theorem wclass (hg : ∀ t, t < nt → trG W t) (h16 : nt ≤ 16) (hct : cT W = nt) (hc : c = 0 ∨ c = 1) {k : Nat} (hne : ¬ yTn W k = W 2 k 2) (Y : Yd) :
    ((∀ s, s < nt → cau W s (yTn W k) (yHr W k) → ∀ l a f, ¬ wbw W nt (W 2 k 2) l s a f) ∧ ∀ q, sEar (ySea W Y k c) q = -9) ∨
    ∃ x y s : Nat, (∃ j l a f, cau W j (yTn W k) (yHr W k) ∧ wbw W nt (W 2 k 2) l j a f ∧ x = k1 c a f ∧ y = k2 c l a) ∧ (∀ i l a f, cau W i (yTn W k) (yHr W k) → wbw W nt (W 2 k 2) l i a f → lxl x y (k1 c a f) (k2 c l a)) ∧
      (cau W s (yTn W k) (yHr W k) ∧ ∃ l a f, wbw W nt (W 2 k 2) l s a f ∧ k1 c a f = x) ∧ (∀ i, i < s → ¬ (cau W i (yTn W k) (yHr W k) ∧ ∃ l a f, wbw W nt (W 2 k 2) l i a f ∧ k1 c a f = x)) ∧ sEar (ySea W Y k c) 0 = nI x ∧ sEar (ySea W Y k c) 1 = nI y ∧ sEar (ySea W Y k c) 2 = nI s := by
  have hI := (wWI.all (g := W 2 k 2) (c := c) hg h16 hct hc (Y := yIn W Y k c) (by simp [yIn, ySet]) (by simp [yIn, ySet]) nt (Nat.le_refl _)).end_
  have eS : ySea W Y k c = yBeg W (yAll W (yClr (yIn W Y k c) nt) nt) (yTn W k) (yHr W k) := by rw [ySea, if_neg hne, hct]
  rw [eS]
  generalize yAll W (yClr (yIn W Y k c) nt) nt = Z at hI
  unfold yBeg
  rw [hct]
  rcases bf_spec (W := W) (Y := Z) (tn := yTn W k) (hr := yHr W k) nt h16 with ⟨h1, h2⟩ | ⟨j, hj, h1, h2, h3⟩
  · rw [if_pos h1]
    refine Or.inl ⟨fun s hs hf l a f hw => ?_, fun q => if_pos (by rw [yBeF, ySet_at]; exact bz_0 (fun z => z rfl))⟩
    rcases hI s hs with ⟨q1, -⟩ | ⟨-, q2⟩
    · exact h2 s hs ⟨q1, hf⟩
    · exact q2 _ _ _ hw
  · have hx : ¬ bfTo W Z (yTn W k) (yHr W k) nt = -9 := fun z => nI_pos (n := j) (by omega) (by rw [← h1, z]; decide)
    rw [if_neg hx, h1, ixT (show j < 16 by omega)]
    obtain ⟨-, x, y, ex, ey, hop⟩ := (hI j hj).resolve_right (fun z => h2.1 z.1)
    have hbx := wOp_b hg hop
    -- all others are no better
    have hmin : ∀ i l a f, cau W i (yTn W k) (yHr W k) → wbw W nt (W 2 k 2) l i a f → lxl x y (k1 c a f) (k2 c l a) := fun i l a f hf hw => by
      rcases hI i (wbw_t hw) with ⟨q1, xu, yu, eu, ev, hou⟩ | ⟨-, q2⟩
      · have hbu := wOp_b hg hou
        have nb := h3 i (wbw_t hw) ⟨q1, hf⟩
        rw [bet_n (a := xu) (b := yu) (x := x) (y := y) eu ev ex ey hbu.1 hbu.2 hbx.1 hbx.2] at nb
        have l1 : lxl x y xu yu := by unfold lxl; omega
        exact l1.tr (hou.2 l a f hw)
      · exact absurd hw (q2 _ _ _)
    -- the scalars
    have z0 : ∀ q, q < 3 → yBeG Z (nI j) 0 q = (match q with | 0 => 1 | 1 => nI x | _ => nI y) := fun q hq => by
      rcases (by omega : q = 0 ∨ q = 1 ∨ q = 2) with rfl | rfl | rfl
      · simp only [yBeG, yBeF, ySet_r]
        simp
        exact bz_1 (fun z => nI_pos (n := j) (by omega) (by rw [z]; decide))
      · simp only [yBeG, yBeF, ySet_r]
        simp
        rw [show ix (nI j) = j from ixT (by omega), ex]
      · simp only [yBeG, yBeF, ySet_r]
        simp
        rw [show ix (nI j) = j from ixT (by omega), ey]
    have z3 : yBeG Z (nI j) 0 3 = nI j := ySet_at
    have zr : ∀ a i, a ≠ 0 → yBeG Z (nI j) a i = Z a i := fun a i ha => by rw [yBeG, ySet_a ha, ySet_a ha, ySet_a ha, yBeF, ySet_a ha]
    obtain ⟨b1, b2, b3⟩ := yb_r (W := W) (tn := yTn W k) (hr := yHr W k) j (yBeG Z (nI j))
    -- which trips begin a way with the least
    have hC : ∀ i, i < nt → (ybC W (yBeG Z (nI j)) (yTn W k) (yHr W k) i ↔ (cau W i (yTn W k) (yHr W k) ∧ ∃ l a f, wbw W nt (W 2 k 2) l i a f ∧ k1 c a f = x)) := fun i hi => by
      unfold ybC
      rw [zr 2 i (by decide), zr 3 i (by decide), show yBeG Z (nI j) 0 1 = nI x from z0 1 (by decide)]
      constructor
      · rintro ⟨⟨q1, q2⟩, q3⟩
        obtain ⟨-, xu, yu, eu, ev, hou⟩ := (hI i hi).resolve_right (fun z => q1 z.1)
        have hbu := wOp_b hg hou
        have : xu = x := (nI_eq (by omega) (by omega)).mp (eu.symm.trans q3)
        subst this
        obtain ⟨l, a, f, w1, w2, -⟩ := hou.1
        exact ⟨q2, l, a, f, w1, w2.symm⟩
      · rintro ⟨q2, l, a, f, w1, w2⟩
        rcases hI i hi with ⟨q1, xu, yu, eu, ev, hou⟩ | ⟨-, q2⟩
        · refine ⟨⟨q1, q2⟩, ?_⟩
          have m1 := hou.2 l a f w1
          obtain ⟨l', a', f', v1, v2, v3⟩ := hou.1
          have m2 := hmin i l' a' f' q2 v1
          rw [← v2, ← v3] at m2
          rw [w2] at m1
          have : xu = x := by unfold lxl at m1 m2; omega
          rw [eu, this]
        · exact absurd w1 (q2 _ _ _)
    have a0 : ¬ ybTo W (yBeG Z (nI j)) (yTn W k) (yHr W k) j 0 0 = 0 := by
      rw [b1 0 (by decide), show yBeG Z (nI j) 0 0 = 1 from z0 0 (by decide)]
      decide
    obtain ⟨l, a, f, w1, w2, w3⟩ := hop.1
    have hj0 : cau W j (yTn W k) (yHr W k) ∧ ∃ l a f, wbw W nt (W 2 k 2) l j a f ∧ k1 c a f = x := ⟨h2.2, l, a, f, w1, w2.symm⟩
    -- the smallest
    obtain ⟨s, s1, s2⟩ := pk_least (fun i => cau W i (yTn W k) (yHr W k) ∧ ∃ l a f, wbw W nt (W 2 k 2) l i a f ∧ k1 c a f = x) ⟨j, hj0⟩
    refine Or.inr ⟨x, y, s, ⟨j, l, a, f, h2.2, w1, w2, w3⟩, hmin, s1, s2, ?_, ?_, ?_⟩
    · rw [sEar_0 a0, b1 1 (by decide)]
      exact z0 1 (by decide)
    · rw [sEar_1 a0, b1 2 (by decide)]
      exact z0 2 (by decide)
    · rw [sEar_2 a0]
      have hsj : s ≤ j := by
        rcases Nat.lt_or_ge j s with q | q
        · exact absurd hj0 (s2 j q)
        · exact q
      by_cases e : s = j
      · subst e
        rw [b2 (fun i hi q => s2 i hi ((hC i (by omega)).mp q)), z3]
      · exact b3 s (by omega) ((hC s (by omega)).mpr s1) (fun i hi q => s2 i hi ((hC i (by omega)).mp q))
end WK
