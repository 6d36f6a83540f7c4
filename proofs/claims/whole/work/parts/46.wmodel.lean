-- ===== ways as sequences of trips: what the model finds =====
section WM
variable {W : Wd} {nt : Nat}
theorem joi_lv (hg : ∀ t, t < nt → trG W t) {u t : Nat} (hu : u < nt) (ht : t < nt) (h : joi W u t) : arN W u ≤ lvN W t := by
  have g1 := hg u hu
  have g2 := hg t ht
  have h3 := h.2.2
  have b1 := g2.2.2.1
  have b2 := g2.2.2.2.1
  have b3 := g1.2.2.2.1
  rw [g1.2.1, g2.1] at h3
  have := mt (nI_ltI (a := lvN W t) (b := arN W u) (by omega) (by omega)).mpr h3
  omega
theorem joi_ar (hg : ∀ t, t < nt → trG W t) {u t : Nat} (hu : u < nt) (ht : t < nt) (h : joi W u t) : arN W u < arN W t := by
  have := joi_lv hg hu ht h
  have := (hg t ht).2.2.1
  omega
/-- l joins lead from trip s to trip t, at the cost c -/
def wsq (W : Wd) (nt kd : Nat) : Nat → Nat → Nat → Nat → Prop
  | 0, s, t, c => s = t ∧ s < nt ∧ c = adN W kd s
  | l + 1, s, t, c => ∃ u c', wsq W nt kd l s u c' ∧ joi W u t ∧ t < nt ∧ c = c' + adN W kd t
theorem wsq_t {kd : Nat} : ∀ {l s t c}, wsq W nt kd l s t c → s < nt ∧ t < nt
  | 0, _, _, _, h => ⟨h.2.1, h.1 ▸ h.2.1⟩
  | l + 1, _, _, _, h => by
    obtain ⟨u, c', h1, -, h2, -⟩ := h
    exact ⟨(wsq_t h1).1, h2⟩
theorem wsq_cons {kd s u : Nat} (hs : s < nt) (hj : joi W s u) : ∀ {l t c}, wsq W nt kd l u t c → wsq W nt kd (l + 1) s t (adN W kd s + c)
  | 0, t, c, h => by
    obtain ⟨rfl, h1, rfl⟩ := h
    exact ⟨s, adN W kd s, ⟨rfl, hs, rfl⟩, hj, h1, rfl⟩
  | l + 1, t, c, h => by
    obtain ⟨v, c', h1, h2, h3, rfl⟩ := h
    exact ⟨v, adN W kd s + c', wsq_cons hs hj h1, h2, h3, by omega⟩
theorem wsq_uncons {kd s : Nat} : ∀ {l t c}, wsq W nt kd (l + 1) s t c → ∃ u c', s < nt ∧ joi W s u ∧ u < nt ∧ wsq W nt kd l u t c' ∧ c = adN W kd s + c'
  | 0, t, c, h => by
    obtain ⟨u, c', ⟨rfl, h1, rfl⟩, h2, h3, rfl⟩ := h
    exact ⟨t, adN W kd t, h1, h2, h3, ⟨rfl, h3, rfl⟩, rfl⟩
  | l + 1, t, c, h => by
    obtain ⟨v, c', h1, h2, h3, rfl⟩ := h
    obtain ⟨u, c2, a1, a2, a3, a4, rfl⟩ := wsq_uncons h1
    exact ⟨u, c2 + adN W kd t, a1, a2, a3, ⟨v, c2, a4, h2, h3, rfl⟩, by omega⟩
theorem wsq_ar (hg : ∀ t, t < nt → trG W t) {kd s : Nat} : ∀ {l t c}, wsq W nt kd l s t c → arN W s ≤ arN W t
  | 0, t, c, h => by rw [h.1]; exact Nat.le_refl _
  | l + 1, t, c, h => by
    obtain ⟨u, c', h1, h2, h3, -⟩ := h
    have := wsq_ar hg h1
    have := joi_ar hg (wsq_t h1).2 h3 h2
    omega
theorem wsq_0 {s : Nat} : ∀ {l t c}, wsq W nt 0 l s t c → c = l + 1
  | 0, t, c, h => h.2.2
  | l + 1, t, c, h => by
    obtain ⟨u, c', h1, -, -, rfl⟩ := h
    rw [wsq_0 h1]
    rfl
/-- how many trips arrive before an hour -/
def cnB (W : Wd) (x : Nat) : Nat → Nat
  | 0 => 0
  | n + 1 => if arN W n < x then cnB W x n + 1 else cnB W x n
theorem cnB_le {x : Nat} : ∀ n, cnB W x n ≤ n
  | 0 => Nat.le_refl _
  | n + 1 => by
    have := cnB_le (x := x) n
    rw [cnB]
    split <;> omega
theorem cnB_mono {x y : Nat} (h : x ≤ y) : ∀ n, cnB W x n ≤ cnB W y n
  | 0 => Nat.le_refl _
  | n + 1 => by
    have := cnB_mono h n
    rw [cnB, cnB]
    split <;> split <;> omega
theorem cnB_lt {x y u : Nat} (h : x ≤ y) (hx : ¬ arN W u < x) (hy : arN W u < y) : ∀ n, u < n → cnB W x n < cnB W y n
  | 0, hu => absurd hu (Nat.not_lt_zero _)
  | n + 1, hu => by
    rw [cnB, cnB]
    by_cases e : u = n
    · subst e
      have := cnB_mono (W := W) h u
      rw [if_neg hx, if_pos hy]
      omega
    · have := cnB_lt h hx hy n (by omega)
      split <;> split <;> omega
theorem cnB_n {x t : Nat} (h : ¬ arN W t < x) : ∀ n, t < n → cnB W x n < n
  | 0, ht => absurd ht (Nat.not_lt_zero _)
  | n + 1, ht => by
    rw [cnB]
    by_cases e : t = n
    · subst e
      have := cnB_le (W := W) (x := x) t
      rw [if_neg h]
      omega
    · have := cnB_n h n (by omega)
      split <;> omega
theorem wsq_rank (hg : ∀ t, t < nt → trG W t) {kd s : Nat} : ∀ {l t c}, wsq W nt kd l s t c → l ≤ cnB W (arN W t) nt
  | 0, t, c, h => Nat.zero_le _
  | l + 1, t, c, h => by
    obtain ⟨u, c', h1, h2, h3, -⟩ := h
    have := wsq_rank hg h1
    have ha := joi_ar hg (wsq_t h1).2 h3 h2
    have := cnB_lt (W := W) (Nat.le_of_lt ha) (Nat.lt_irrefl _) ha nt (wsq_t h1).2
    omega
theorem wsq_len (hg : ∀ t, t < nt → trG W t) (h16 : nt ≤ 16) {kd s l t c : Nat} (h : wsq W nt kd l s t c) : l ≤ 15 := by
  have h1 := wsq_rank hg h
  have h2 := cnB_n (W := W) (Nat.lt_irrefl (arN W t)) nt (wsq_t h).2
  omega
theorem wsq_c (hg : ∀ t, t < nt → trG W t) {kd s : Nat} : ∀ {l t c}, wsq W nt kd l s t c → c ≤ 99 * (l + 1)
  | 0, t, c, h => by
    obtain ⟨-, h1, rfl⟩ := h
    have := adN_le (kd := kd) (hg s h1)
    omega
  | l + 1, t, c, h => by
    obtain ⟨u, c', h1, h2, h3, rfl⟩ := h
    have := wsq_c hg h1
    have := adN_le (kd := kd) (hg t h3)
    omega
-- the rounds
theorem wrx_le {kd t n j : Nat} {b : Nat → Nat} : wrx W kd b t n j ≤ b j := by
  unfold wrx
  split
  · rename_i h
    show (if j = n then _ else b j) ≤ b j
    split
    · rename_i e
      subst e
      omega
    · exact Nat.le_refl _
  · exact Nat.le_refl _
theorem wrx_ed {kd t n : Nat} {b : Nat → Nat} (hb : b t < 1000000) (hj : joi W t n) : wrx W kd b t n n ≤ b t + adN W kd n := by
  unfold wrx
  split
  · show (if n = n then _ else b n) ≤ _
    rw [if_pos rfl]
    exact Nat.le_refl _
  · rename_i h
    rcases Nat.lt_or_ge (b t + adN W kd n) (b n) with z | z
    · exact absurd ⟨hb, hj, z⟩ h
    · exact z
theorem wrA_le {kd t : Nat} {b : Nat → Nat} : ∀ n j, wrA W kd b t n j ≤ b j
  | 0, _ => Nat.le_refl _
  | n + 1, j => Nat.le_trans wrx_le (wrA_le n j)
theorem wrA_ed {kd t i : Nat} {b : Nat → Nat} (hb : b t < 1000000) (hj : joi W t i) : ∀ n, i < n → wrA W kd b t n i ≤ b t + adN W kd i
  | 0, h => absurd h (Nat.not_lt_zero _)
  | n + 1, h => by
    by_cases e : i = n
    · subst e
      have h1 := wrA_le (W := W) (kd := kd) (t := t) (b := b) i t
      have h2 := wrx_ed (W := W) (kd := kd) (t := t) (n := i) (b := wrA W kd b t i) (by omega) hj
      have : wrA W kd b t (i + 1) i ≤ wrA W kd b t i t + adN W kd i := h2
      omega
    · exact Nat.le_trans wrx_le (wrA_ed hb hj n (by omega))
theorem wrB_le {kd : Nat} {b : Nat → Nat} : ∀ t j, wrB W nt kd b t j ≤ b j
  | 0, _ => Nat.le_refl _
  | t + 1, j => Nat.le_trans (wrA_le nt j) (wrB_le t j)
theorem wrB_ed {kd u i : Nat} {b : Nat → Nat} (hb : b u < 1000000) (hj : joi W u i) (hi : i < nt) : ∀ t, u < t → wrB W nt kd b t i ≤ b u + adN W kd i
  | 0, h => absurd h (Nat.not_lt_zero _)
  | t + 1, h => by
    by_cases e : u = t
    · subst e
      have h1 := wrB_le (W := W) (nt := nt) (kd := kd) (b := b) u u
      have h2 := wrA_ed (W := W) (kd := kd) (t := u) (b := wrB W nt kd b u) (by omega) hj nt hi
      have : wrB W nt kd b (u + 1) i ≤ wrB W nt kd b u u + adN W kd i := h2
      omega
    · exact Nat.le_trans (wrA_le nt i) (wrB_ed hb hj hi t (by omega))
abbrev wFo (W : Wd) (nt k : Nat) (fo : Int32) (t : Nat) : Prop := t < nt ∧ (fo = -9 ∨ fo = nI t) ∧ cau W t (yTn W k) (yHr W k)
/-- what stands in the array is the cost of a sequence -/
def wSnd (W : Wd) (nt k kd : Nat) (fo : Int32) (b : Nat → Nat) : Prop := ∀ t, b t < 1000000 → ∃ l s, wFo W nt k fo s ∧ wsq W nt kd l s t (b t)
theorem wSnd.ini {k kd : Nat} {fo : Int32} : wSnd W nt k kd fo (wini W nt k kd fo) := fun t h => by
  unfold wini at h ⊢
  by_cases z : t < nt ∧ (fo = -9 ∨ fo = nI t) ∧ cau W t (yTn W k) (yHr W k)
  · rw [if_pos z]
    exact ⟨0, t, z, rfl, z.1, rfl⟩
  · rw [if_neg z] at h
    exact absurd h (Nat.lt_irrefl _)
theorem wSnd.x {k kd t n : Nat} {fo : Int32} {b : Nat → Nat} (h : wSnd W nt k kd fo b) (hn : n < nt) : wSnd W nt k kd fo (wrx W kd b t n) := by
  unfold wrx
  split
  · rename_i z
    intro j hj
    by_cases e : j = n
    · subst e
      obtain ⟨l, s, h1, h2⟩ := h t z.1
      exact ⟨l + 1, s, h1, t, b t, h2, z.2.1, hn, if_pos rfl⟩
    · have e2 : (if j = n then b t + adN W kd n else b j) = b j := if_neg e
      have hj' : b j < 1000000 := by rw [← e2]; exact hj
      obtain ⟨l, s, h1, h2⟩ := h j hj'
      exact ⟨l, s, h1, by show wsq W nt kd l s j (if j = n then b t + adN W kd n else b j); rw [e2]; exact h2⟩
  · exact h
theorem wSnd.a {k kd t : Nat} {fo : Int32} {b : Nat → Nat} (h : wSnd W nt k kd fo b) : ∀ n, n ≤ nt → wSnd W nt k kd fo (wrA W kd b t n)
  | 0, _ => h
  | n + 1, hn => (h.a n (by omega)).x (by omega)
theorem wSnd.b {k kd : Nat} {fo : Int32} {b : Nat → Nat} (h : wSnd W nt k kd fo b) : ∀ t, wSnd W nt k kd fo (wrB W nt kd b t)
  | 0 => h
  | t + 1 => (h.b t).a nt (Nat.le_refl _)
theorem wSnd.c {k kd : Nat} {fo : Int32} {b : Nat → Nat} (h : wSnd W nt k kd fo b) : ∀ r, wSnd W nt k kd fo (wrC W nt kd b r)
  | 0 => h
  | r + 1 => (h.c r).b nt
/-- no sequence of so many joins costs less -/
def wCmp (W : Wd) (nt k kd : Nat) (fo : Int32) (r : Nat) (b : Nat → Nat) : Prop := ∀ l s t c, l ≤ r → wFo W nt k fo s → wsq W nt kd l s t c → b t ≤ c
theorem wCmp.c (hg : ∀ t, t < nt → trG W t) (h16 : nt ≤ 16) {k kd : Nat} {fo : Int32} : ∀ r, wCmp W nt k kd fo r (wrC W nt kd (wini W nt k kd fo) r)
  | 0 => fun l s t c hl hs hq => by
    have : l = 0 := by omega
    subst this
    obtain ⟨rfl, -, rfl⟩ := hq
    exact Nat.le_of_eq (if_pos hs)
  | r + 1 => fun l s t c hl hs hq => by
    have ih := wCmp.c hg h16 (k := k) (kd := kd) (fo := fo) r
    by_cases e : l ≤ r
    · exact Nat.le_trans (wrB_le nt t) (ih l s t c e hs hq)
    · obtain ⟨l', rfl⟩ : ∃ l', l = l' + 1 := ⟨l - 1, by omega⟩
      obtain ⟨u, c', h1, h2, h3, rfl⟩ := hq
      have h4 := ih l' s u c' (by omega) hs h1
      have h5 := wsq_c hg h1
      have h6 := wsq_len hg h16 h1
      have := wrB_ed (W := W) (nt := nt) (kd := kd) (u := u) (i := t) (b := wrC W nt kd (wini W nt k kd fo) r) (by omega) h2 h3 nt (wsq_t h1).2
      have e2 : wrC W nt kd (wini W nt k kd fo) (r + 1) t ≤ wrC W nt kd (wini W nt k kd fo) r u + adN W kd t := this
      omega
theorem wfb_snd {k kd t : Nat} {fo : Int32} (h : wfb W nt k kd fo t < 1000000) : ∃ l s, wFo W nt k fo s ∧ wsq W nt kd l s t (wfb W nt k kd fo t) := wSnd.ini.c 16 t h
theorem wfb_cmp (hg : ∀ t, t < nt → trG W t) (h16 : nt ≤ 16) {k kd l s t c : Nat} {fo : Int32} (hs : wFo W nt k fo s) (h : wsq W nt kd l s t c) : wfb W nt k kd fo t ≤ c ∧ c < 1000000 := by
  have h1 := wsq_len hg h16 h
  have h2 := wsq_c hg h
  exact ⟨wCmp.c hg h16 16 l s t c (by omega) hs h, by omega⟩
-- least and earliest over the array
theorem avTo_at {b : Nat → Nat} {k : Nat} {ju : Int32} : ∀ n, avTo W b k ju n < 1000000 → ∃ t, t < n ∧ (b t < 1000000 ∧ W 1 t 2 = W 2 k 2 ∧ (ju < 0 ∨ nI (b t) = ju)) ∧ arN W t = avTo W b k ju n
  | 0, h => absurd h (Nat.lt_irrefl _)
  | n + 1, h => by
    rw [avTo] at h ⊢
    split at h
    · rename_i z
      rw [if_pos z]
      exact ⟨n, by omega, z.1, rfl⟩
    · rename_i z
      rw [if_neg z]
      obtain ⟨t, a1, a2, a3⟩ := avTo_at n h
      exact ⟨t, by omega, a2, a3⟩
theorem avTo_min {b : Nat → Nat} {k t : Nat} {ju : Int32} (h : b t < 1000000 ∧ W 1 t 2 = W 2 k 2 ∧ (ju < 0 ∨ nI (b t) = ju)) : ∀ n, t < n → avTo W b k ju n ≤ arN W t
  | 0, ht => absurd ht (Nat.not_lt_zero _)
  | n + 1, ht => by
    rw [avTo]
    by_cases e : t = n
    · subst e
      split
      · exact Nat.le_refl _
      · rename_i z
        rcases Nat.lt_or_ge (arN W t) (avTo W b k ju t) with y | y
        · exact absurd ⟨h, y⟩ z
        · exact y
    · have := avTo_min h n (by omega)
      split
      · rename_i z
        omega
      · exact this
theorem lsTo_at {b : Nat → Nat} {k h : Nat} : ∀ n, lsTo W b k h n < 1000000 → ∃ t, t < n ∧ (W 1 t 2 = W 2 k 2 ∧ arN W t ≤ h) ∧ b t = lsTo W b k h n
  | 0, z => absurd z (Nat.lt_irrefl _)
  | n + 1, z => by
    rw [lsTo] at z ⊢
    split at z
    · rename_i y
      rw [if_pos y]
      exact ⟨n, by omega, y.1, rfl⟩
    · rename_i y
      rw [if_neg y]
      obtain ⟨t, a1, a2, a3⟩ := lsTo_at n z
      exact ⟨t, by omega, a2, a3⟩
theorem lsTo_min {b : Nat → Nat} {k h t : Nat} (z : W 1 t 2 = W 2 k 2 ∧ arN W t ≤ h) : ∀ n, t < n → lsTo W b k h n ≤ b t
  | 0, ht => absurd ht (Nat.not_lt_zero _)
  | n + 1, ht => by
    rw [lsTo]
    by_cases e : t = n
    · subst e
      split
      · exact Nat.le_refl _
      · rename_i y
        rcases Nat.lt_or_ge (b t) (lsTo W b k h t) with x | x
        · exact absurd ⟨z, x⟩ y
        · exact x
    · have : lsTo W b k h n ≤ b t := lsTo_min z n (by omega)
      split
      · rename_i y
        omega
      · exact this
end WM
