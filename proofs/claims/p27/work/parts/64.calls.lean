-- ===== the calls that the law makes, as values =====
abbrev Cl : Type := Nat × (Nat → Int32)
def ar (l : List Int32) : Nat → Int32 := fun j => l.getD j 0
def aF (W : Wd) (fl : Nat → Int32) (c : Cl) : Int32 := match c.1 with
  | 0 => sOfF W (c.2 0) (c.2 1) (c.2 2) (c.2 3) (c.2 4) (c.2 5)
  | 1 => sPoF W (c.2 0) (c.2 1) (c.2 2) (c.2 3) (c.2 4)
  | 2 => sHoF W (c.2 0) (c.2 1) (c.2 2)
  | 3 => sHoF W (c.2 2) (c.2 1) (c.2 0)
  | 4 => sPuF W (c.2 0) (c.2 1)
  | 5 => sFeF W (c.2 0) (c.2 1)
  | 6 => sPaF W (c.2 0)
  | 7 => sClF W (c.2 0)
  | 8 => sTbF W (c.2 0)
  | _ => if ¬ wIn (c.2 0) 0 1 then -1 else if fl (ix (c.2 0)) = 0 then -2 else 0
def aV (W : Wd) (Wr : Nat → Wd) (c : Cl) : Int32 := match c.1 with
  | 0 => W 3 0 4
  | 1 => W 3 0 5
  | 2 => bz (fit (wSet W 2 (ix (c.2 1)) 8 (c.2 2)) (ix (c.2 1)))
  | 3 => bz (fit (wSet W 2 (ix (c.2 1)) 9 (c.2 0)) (ix (c.2 1)))
  | 4 => sHeld (sPut W (ix (c.2 0)) (ix (c.2 1))) (10 + W 0 (ix (c.2 0)) 2)
  | 5 => sHeld (sFet W (ix (c.2 0)) (ix (c.2 1))) (10 + sFet W (ix (c.2 0)) (ix (c.2 1)) 0 (ix (c.2 0)) 2)
  | 6 => pcTo W (ix (c.2 0))
  | 7 => sFund W (ix (c.2 0)) + sHoP W (ix (c.2 0)) + sNaP W (ix (c.2 0))
  | 8 => W 1 (ix (c.2 0)) 3
  | _ => Wr (ix (c.2 0)) 3 0 0
def aN (W : Wd) (Wr : Nat → Wd) (c : Cl) : Wd := match c.1 with
  | 0 => sAddT W (c.2 0) (c.2 1) (c.2 2) (c.2 3) (c.2 4) (c.2 5)
  | 1 => sAddK W (c.2 0) (c.2 1) (c.2 2) (c.2 3) (c.2 4)
  | 2 => sGav W (ix (c.2 1)) (c.2 2)
  | 3 => sTok W (ix (c.2 1)) (c.2 0)
  | 4 => sPut W (ix (c.2 0)) (ix (c.2 1))
  | 5 => sFet W (ix (c.2 0)) (ix (c.2 1))
  | 6 => paTo W (ix (c.2 0))
  | 7 => sLos W (ix (c.2 0))
  | 8 => wSet W 1 (ix (c.2 0)) 6 3
  | _ => sCopy W (Wr (ix (c.2 0)))
def JB (B : Nat) (W : Wd) : Prop := ∃ hr f nt nk sz : Nat, Jn hr f nt nk sz W ∧ sz ≤ B
theorem JB.up {B B' : Nat} {W : Wd} (h : JB B W) (hb : B ≤ B') : JB B' W := by
  obtain ⟨hr, f, nt, nk, sz, h1, h2⟩ := h
  exact ⟨hr, f, nt, nk, sz, h1, Nat.le_trans h2 hb⟩
theorem JB.cp {B : Nat} {R V : Wd} (h : JB B V) (e : wEq R V) : JB B R := by
  obtain ⟨hr, f, nt, nk, sz, h1, h2⟩ := h
  exact ⟨hr, f, nt, nk, sz, h1.cp e, h2⟩
theorem JB.good {B : Nat} {W : Wd} (h : JB B W) (hb : B ≤ 512) : wGood W := by
  obtain ⟨hr, f, nt, nk, sz, h1, h2⟩ := h
  exact Gd.good h1.1 h1.2.1 (by omega)
/-- the slots: each is empty, or holds a world like the present one -/
def SlB (B : Nat) (fl : Nat → Int32) (Wr : Nat → Wd) : Prop := ∀ i, i < 2 → fl i = 0 ∨ (fl i = 1 ∧ JB B (Wr i))
section CALLS
variable {hr f nt nk sz B : Nat} {W : Wd}
-- what each call's tests leave
theorem z_offer {p x y i l e : Int32} (h : Jn hr f nt nk sz W) (z : ¬ sOfF W p x y i l e < 0) : nt < 16 ∧ Jn hr f (nt + 1) nk sz (sAddT W p x y i l e) := by
  have g := h.1
  obtain ⟨⟨h1, h2, h3, h4⟩, ⟨h5, h6, h7⟩, h8⟩ := sOfF_ge z
  have hov : ¬ sOvl W p (W 3 0 0 + i) (W 3 0 0 + i + l) := fun q => z (by
    unfold sOfF
    rw [if_neg (fun y => y.elim (fun y => y h1) (fun y => y.elim (fun y => y h2) (fun y => y.elim (fun y => y h3) h4))), if_neg (fun y => y.elim (fun y => y h5) (fun y => y.elim (fun y => y h6) (fun y => y h7))), if_pos q]
    decide)
  obtain ⟨p', hp, e1⟩ := gP_is h1
  obtain ⟨x', hx, e2⟩ := gTn_is h2
  obtain ⟨y', hy, e3⟩ := gTn_is h3
  obtain ⟨i', hi0, hi, e4⟩ := wIn_1n (hi := 50) (by decide) h5
  obtain ⟨l', hl0, hl, e5⟩ := wIn_1n (hi := 50) (by decide) h6
  obtain ⟨e', he, e6⟩ := wIn_nI (hi := 99) (by decide) h7
  have h16 : nt < 16 := by
    rw [g.1.2.2.2.1] at h8
    have := mt (nI_leI (a := 16) (b := nt) (by decide) (by have := g.1.1; omega)).mpr h8
    omega
  subst e1 e2 e3 e4 e5 e6
  unfold sOvl at hov
  rw [g.1.2.1, nI_add, nI_add, g.cT] at hov
  exact ⟨h16, h.addT h16 hp hx hy (fun q => h4 (by rw [q])) hi0 hi hl0 hl (by omega) hov⟩
theorem z_back {n : Int32} (h : Jn hr f nt nk sz W) (z : ¬ sTbF W n < 0) : ∃ t, t < nt ∧ t < 16 ∧ n = nI t ∧ ix n = t ∧ Jn hr f nt nk sz (wSet W 1 t 6 3) := by
  have hb := h.1.1.1
  obtain ⟨t, ht, e1, e2⟩ := h.1.tn (sTbF_ge z)
  have h0 : W 1 t 6 = 0 := Decidable.by_contra (fun y => z (by
    unfold sTbF
    rw [if_neg (Decidable.not_not.mpr (sTbF_ge z)), e2, if_neg y]
    decide))
  exact ⟨t, ht, by omega, e1, e2, h.back h0⟩
theorem z_pass {n : Int32} (h : Jn hr f nt nk sz W) (z : ¬ sPaF W n < 0) : ∃ k : Nat, k ≤ 24 ∧ n = nI k ∧ ix n = k ∧ hr + k ≤ 500 ∧ Jn (hr + k) f nt nk sz (paTo W k) := by
  obtain ⟨h1, h2⟩ := sPaF_ge z
  obtain ⟨k, h0, hk, ek⟩ := wIn_1n (hi := 24) (by decide) h1
  have hb := h.1.1.1
  have h5 : hr + k ≤ 500 := by
    rw [ek, h.1.1.2.1, nI_add] at h2
    have := mt (nI_ltI (a := 500) (b := hr + k) (by decide) (by omega)).mpr h2
    omega
  exact ⟨k, hk, ek, by rw [ek]; exact nI_clamp (by omega), h5, h.pas k h5⟩
theorem z_post {x r u v w : Int32} (h : Jn hr f nt nk sz W) (h5' : sz < 512) (z : ¬ sPoF W x r u v w < 0) : ∃ p q : Nat, (p < 8 ∧ q < 4) ∧ x = nI p ∧ w = nI q ∧ nk < 10 ∧ Jn hr (f + costN q) nt (nk + 1) (sz + 1) (sAddK W (nI p) r u v (nI q)) := by
  have g := h.1
  obtain ⟨⟨h1, h2, h3⟩, h4, h5⟩ := sPoF_ge z
  obtain ⟨p, hp, ep⟩ := gP_is h1
  obtain ⟨q, hq, eq⟩ := wIn_nI (hi := 3) (by decide) h3
  obtain ⟨v', v0, hv, ev⟩ := wIn_1n (hi := 999) (by decide) h2
  have h10 : nk < 10 := by
    rw [g.1.2.2.2.2] at h5
    have := mt (nI_leI (a := 10) (b := nk) (by decide) (by have := g.1.1; omega)).mpr h5
    omega
  have hc : ¬ W 0 p 0 < iCost q := fun y => z (by
    unfold sPoF
    have a1 : ¬ (¬ gP x ∨ ¬ gP r ∨ x = r ∨ ¬ gTn u) := fun s => z (by
      unfold sPoF
      rw [if_pos s]
      decide)
    rw [if_neg a1, if_neg (fun y => y.elim (fun y => y h2) (fun y => y h3)), if_pos (Or.inr (Or.inl (by rw [ep, eq, ixP hp, show ix (nI q) = q from cl4 hq]; exact y)))]
    decide)
  rw [ep] at h4
  refine ⟨p, q, ⟨hp, hq⟩, ep, eq, h10, ?_⟩
  rw [ev]
  exact h.addK h10 hp hq hv (g.h2 (Int32.not_le.mpr h4)) hc h5'
theorem z_gave {x n y : Int32} (h : Jn hr f nt nk sz W) (h5' : sz < 512) (z : ¬ sHoF W x n y < 0) : ∃ q k p b : Nat, (k < 10 ∧ p < 8 ∧ b < 8 ∧ W 2 k 0 = nI b) ∧ k < nk ∧ x = nI q ∧ n = nI k ∧ ix n = k ∧ y = nI p ∧ JnU hr f nt nk sz (sGav W k (nI p)) := by
  have g := h.1
  have hb := g.1.1
  obtain ⟨⟨h1, h2, h3, h4⟩, h5, h6, h7⟩ := sHoF_ge z
  obtain ⟨p, hp, ep⟩ := gP_is h3
  obtain ⟨q, hq, eq⟩ := gP_is h1
  obtain ⟨k, hk, ek, ei⟩ := g.kn h2
  obtain ⟨b, hb8, eb⟩ := (g.2.2.2.1 k hk).1
  rw [ei] at h5
  rw [eq] at h4 h5
  rw [ep] at h4 h7
  exact ⟨q, k, p, b, ⟨by omega, hp, hb8, eb⟩, hk, eq, ek, ei, ep, h.gav h5' hk hp hq h5.2 h4 (g.h2 h7) h5.1 hb8 eb⟩
theorem z_took {x n y : Int32} (h : Jn hr f nt nk sz W) (h5' : sz < 512) (z : ¬ sHoF W y n x < 0) : ∃ q k p b : Nat, (k < 10 ∧ p < 8 ∧ b < 8 ∧ W 2 k 0 = nI b) ∧ k < nk ∧ y = nI q ∧ n = nI k ∧ ix n = k ∧ x = nI p ∧ JnU hr f nt nk sz (sTok W k (nI p)) := by
  have g := h.1
  have hb := g.1.1
  obtain ⟨⟨h1, h2, h3, h4⟩, h5, h6, h7⟩ := sHoF_ge z
  obtain ⟨p, hp, ep⟩ := gP_is h3
  obtain ⟨q, hq, eq⟩ := gP_is h1
  obtain ⟨k, hk, ek, ei⟩ := g.kn h2
  obtain ⟨b, hb8, eb⟩ := (g.2.2.2.1 k hk).1
  rw [ei] at h5
  rw [ep] at h7
  exact ⟨q, k, p, b, ⟨by omega, hp, hb8, eb⟩, hk, eq, ek, ei, ep, h.tok h5' hk hp (g.h2 h7) h5.1 hb8 eb⟩
theorem z_putIn {x n : Int32} (h : Jn hr f nt nk sz W) (h5' : sz < 512) (z : ¬ sPuF W x n < 0) : ∃ k p : Nat, (k < 10 ∧ p < 8) ∧ k < nk ∧ n = nI k ∧ ix n = k ∧ x = nI p ∧ ix x = p ∧ Jn hr f nt nk (sz + 1) (sPut W p k) := by
  have g := h.1
  have hb := g.1.1
  obtain ⟨⟨h1, h2⟩, h5, h6, h7⟩ := sPuF_ge z
  obtain ⟨p, hp, ep, ej⟩ := gP_x h1
  obtain ⟨k, hk, ek, ei⟩ := g.kn h2
  rw [ei] at h5
  rw [ej] at h6 h7
  exact ⟨k, p, ⟨by omega, hp⟩, hk, ek, ei, ep, ej, h.put h5' hk hp h6 (g.h2 h7) h5.1⟩
theorem z_fetch {x n : Int32} (h : Jn hr f nt nk sz W) (h5' : sz < 512) (z : ¬ sFeF W x n < 0) : ∃ k p b : Nat, (k < 10 ∧ p < 8 ∧ b < 8 ∧ W 2 k 0 = nI b) ∧ k < nk ∧ n = nI k ∧ ix n = k ∧ x = nI p ∧ ix x = p ∧ Jn hr f nt nk (sz + 1) (sFet W p k) := by
  have g := h.1
  have hb := g.1.1
  obtain ⟨⟨h1, h2⟩, h6, h5, h7⟩ := sFeF_ge z
  obtain ⟨p, hp, ep, ej⟩ := gP_x h1
  obtain ⟨k, hk, ek, ei⟩ := g.kn h2
  obtain ⟨b, hb8, eb⟩ := (g.2.2.2.1 k hk).1
  rw [ei] at h5
  rw [ep] at h7
  exact ⟨k, p, b, ⟨by omega, hp, hb8, eb⟩, hk, ek, ei, ep, ej, h.fet h5' hk hp (g.h2 h7) h5.1 hb8 eb⟩
theorem z_claim {n : Int32} (h : Jn hr f nt nk sz W) (z : ¬ sClF W n < 0) : ∃ k b q : Nat, (k < 10 ∧ b < 8 ∧ W 2 k 0 = nI b) ∧ k < nk ∧ n = nI k ∧ ix n = k ∧ q ≤ f ∧ Jn hr (f - q) nt nk sz (sLos W k) := by
  have g := h.1
  have hb := g.1.1
  obtain ⟨k, hk, ek, ei⟩ := g.kn (sClF_ge z)
  obtain ⟨b, hb8, eb⟩ := (g.2.2.2.1 k hk).1
  obtain ⟨-, -, -, -, ⟨q, c5, c6⟩, -⟩ := g.cl hk
  exact ⟨k, b, q, ⟨by omega, hb8, eb⟩, hk, ek, ei, c5, h.los hk c5 c6 hb8 eb⟩
theorem pcTo_n (hG : Gd hr f nt nk W) : ∀ j, ∃ c : Nat, c ≤ 16 * j ∧ pcTo W j = nI c
  | 0 => ⟨0, Nat.le_refl _, rfl⟩
  | j + 1 => by
    obtain ⟨c, h1, e1⟩ := pcTo_n hG j
    obtain ⟨d, h2, e2⟩ := ecTo_n (W := wSet (paTo W j) 3 0 0 (paTo W j 3 0 0 + 1)) (cT W)
    have := hG.cT
    have := hG.1.1
    exact ⟨c + d, by omega, by rw [pcTo, e1, e2, nI_add]⟩
theorem los_nn {k : Nat} (h : Jn hr f nt nk sz W) (hk : k < nk) : ¬ sFund W k + sHoP W k + sNaP W k < 0 := by
  have g := h.1
  have hb := g.1.1
  obtain ⟨q, v, q1, -, -, eq, -⟩ := g.fund hk
  obtain ⟨g0, g1, g2, -, -, -, -⟩ := g.2.2.2.1 k hk
  obtain ⟨⟨x0, ex0, hx0⟩, y0, ey0, hy0⟩ := g.owe hk
  obtain ⟨⟨S, hs, hm⟩, -⟩ := h.2.2.1
  have a1 : ∃ x : Nat, x ≤ 1120 ∧ sHoP W k = nI x := by
    by_cases z : 10 ≤ W 2 k 6
    · exact ⟨0, by omega, if_pos z⟩
    · obtain ⟨p, hp, ep⟩ := ho_10 g1 (Int32.not_le.mp z)
      obtain ⟨d, hd, ed, -⟩ := hm.dep hp
      have := hx0 p d hp ep ed (by omega)
      exact ⟨x0, by omega, ex0⟩
  have a2 : ∃ y : Nat, y ≤ 1120 ∧ sNaP W k = nI y := by
    by_cases z : W 2 k 8 = -9
    · exact ⟨0, by omega, if_pos z⟩
    · obtain ⟨p, hp, ep⟩ := g2 z
      obtain ⟨d, hd, ed, -⟩ := hm.dep hp
      have := hy0 p d hp ep ed (by omega)
      exact ⟨y0, by omega, ey0⟩
  obtain ⟨x, hx, ex⟩ := a1
  obtain ⟨y, hy, ey⟩ := a2
  rw [eq, ex, ey, nI_add, nI_add]
  exact nI_pos (by omega)
/-- a call that is no error: all holds again -/
theorem a_ok {fl : Nat → Int32} {Wr : Nat → Wd} {c : Cl} (h : Jn hr f nt nk sz W) (hz : sz ≤ B) (hB : B < 512) (hS : SlB B fl Wr) (hF : ¬ aF W fl c < 0) : ∃ hr' f' nt' nk' sz', Jn hr' f' nt' nk' sz' (aN W Wr c) ∧ sz' ≤ B + 1 ∧ ¬ aV W Wr c < 0 ∧ (c.1 < 9 → nk ≤ nk' ∧ HSt (2 ≤ c.1 ∧ c.1 ≤ 5) nk W (aN W Wr c)) := by
  obtain ⟨q, x⟩ := c
  have hb := h.1.1.1
  unfold aF at hF
  unfold aV aN
  match q, hF with
  | 0, hF =>
    obtain ⟨h1, h2⟩ := z_offer h hF
    refine ⟨_, _, _, _, _, h2, by omega, ?_, fun _ => ⟨Nat.le_refl _, Or.inl (fun k hk => sAddT_r (by omega) (by omega))⟩⟩
    show ¬ W 3 0 4 < 0
    rw [h.1.1.2.2.2.1]
    exact nI_pos (by omega)
  | 1, hF =>
    obtain ⟨p, q, ⟨hp, hq⟩, e1, e2, h10, h2⟩ := z_post h (by omega) hF
    refine ⟨_, _, _, _, _, by rw [← e1, ← e2] at h2; exact h2, by omega, ?_, fun _ => ⟨Nat.le_succ _, Or.inl (fun k hk => sAddK_o (by rw [h.1.cK]; omega))⟩⟩
    show ¬ W 3 0 5 < 0
    rw [h.1.1.2.2.2.2]
    exact nI_pos (by omega)
  | 2, hF =>
    obtain ⟨q, k, p, b, hh, hk, e1, e2, e3, e4, sz', h1, h2⟩ := z_gave h (by omega) hF
    refine ⟨_, _, _, _, sz', by rw [← e3, ← e4] at h2; exact h2, by omega, bz_nn, fun _ => ⟨Nat.le_refl _, ?_⟩⟩
    rcases (HSt.word (by decide) sHow_H : HSt True nk W (sGav W (ix (x 1)) (x 2))) with z | z
    · exact Or.inl z
    · exact Or.inr ⟨⟨Nat.le_of_ble_eq_true rfl, Nat.le_of_ble_eq_true rfl⟩, z.2⟩
  | 3, hF =>
    obtain ⟨q, k, p, b, hh, hk, e1, e2, e3, e4, sz', h1, h2⟩ := z_took h (by omega) hF
    refine ⟨_, _, _, _, sz', by rw [← e3, ← e4] at h2; exact h2, by omega, bz_nn, fun _ => ⟨Nat.le_refl _, ?_⟩⟩
    rcases (HSt.word (by decide) sHow_H : HSt True nk W (sTok W (ix (x 1)) (x 0))) with z | z
    · exact Or.inl z
    · exact Or.inr ⟨⟨Nat.le_of_ble_eq_true rfl, Nat.le_of_ble_eq_true rfl⟩, z.2⟩
  | 4, hF =>
    obtain ⟨k, p, hh, hk, e1, e2, e3, e4, h2⟩ := z_putIn h (by omega) hF
    refine ⟨_, _, _, _, _, by rw [← e2, ← e4] at h2; exact h2, by omega, ?_, fun _ => ⟨Nat.le_refl _, Or.inr ⟨⟨Nat.le_of_ble_eq_true rfl, Nat.le_of_ble_eq_true rfl⟩, sHov_h⟩⟩⟩
    rw [← e2, ← e4] at h2
    exact h2.1.held_nn _
  | 5, hF =>
    obtain ⟨k, p, b, hh, hk, e1, e2, e3, e4, h2⟩ := z_fetch h (by omega) hF
    rw [← e2, ← e4] at h2
    refine ⟨_, _, _, _, _, h2, by omega, h2.1.held_nn _, fun _ => ⟨Nat.le_refl _, Or.inr ⟨⟨Nat.le_of_ble_eq_true rfl, Nat.le_of_ble_eq_true rfl⟩, ?_⟩⟩⟩
    exact sSet_h.trans sHov_h
  | 6, hF =>
    obtain ⟨k, hk, e1, e2, h5, h2⟩ := z_pass h hF
    obtain ⟨c, hc, ec⟩ := pcTo_n h.1 k
    rw [← e2] at h2 ec
    refine ⟨_, _, _, _, _, h2, by omega, ?_, fun _ => ⟨Nat.le_refl _, Or.inl (fun _ _ => paTo_6 _)⟩⟩
    show ¬ pcTo W (ix (x 0)) < 0
    rw [ec]
    exact nI_pos (by omega)
  | 7, hF =>
    obtain ⟨k, b, q, hh, hk, e1, e2, hq, h2⟩ := z_claim h hF
    rw [← e2] at h2
    refine ⟨_, _, _, _, _, h2, by omega, ?_, fun _ => ⟨Nat.le_refl _, Or.inl (fun _ _ => sLos_o (by omega))⟩⟩
    show ¬ sFund W (ix (x 0)) + sHoP W (ix (x 0)) + sNaP W (ix (x 0)) < 0
    rw [e2]
    exact los_nn h hk
  | 8, hF =>
    obtain ⟨t, ht, h16, e1, e2, h2⟩ := z_back h hF
    rw [← e2] at h2
    refine ⟨_, _, _, _, _, h2, by omega, ?_, fun _ => ⟨Nat.le_refl _, Or.inl (fun _ _ => wSet_a (by decide))⟩⟩
    show ¬ W 1 (ix (x 0)) 3 < 0
    obtain ⟨a1, -, a3, a4⟩ := h.1.lv ht
    rw [e2, a1]
    exact nI_pos (by omega)
  | n + 9, hF =>
    have hF' : ¬ (if ¬ wIn (x 0) 0 1 then -1 else if fl (ix (x 0)) = 0 then (-2 : Int32) else 0) < 0 := hF
    have hw : wIn (x 0) 0 1 := Decidable.by_contra (fun y => hF' (by rw [if_pos y]; decide))
    obtain ⟨i, hi, e1⟩ := wIn_nI (hi := 1) (by decide) hw
    have ei : ix (x 0) = i := by rw [e1]; exact nI_clamp (by omega)
    have h0 : ¬ fl i = 0 := fun y => hF' (by rw [if_neg (Decidable.not_not.mpr hw), ei, if_pos y]; decide)
    obtain ⟨hr', f', nt', nk', sz', g1, g2⟩ := ((hS i hi).resolve_left h0).2
    refine ⟨hr', f', nt', nk', sz', ?_, by omega, ?_, fun y => absurd y (by show ¬ n + 9 < 9; omega)⟩
    · show Jn hr' f' nt' nk' sz' (sCopy W (Wr (ix (x 0))))
      rw [ei]
      exact g1.cp (sCopy_eq _ _)
    · show ¬ Wr (ix (x 0)) 3 0 0 < 0
      have := g1.1.1.1
      rw [ei, g1.1.1.2.1]
      exact nI_pos (by omega)
theorem aF_9 {fl : Nat → Int32} {c : Cl} : ¬ aF W fl c = -9 := by
  unfold aF
  split
  · unfold sOfF; repeat' split
    all_goals decide
  · unfold sPoF; repeat' split
    all_goals decide
  · unfold sHoF; repeat' split
    all_goals decide
  · unfold sHoF; repeat' split
    all_goals decide
  · unfold sPuF; repeat' split
    all_goals decide
  · unfold sFeF; repeat' split
    all_goals decide
  · unfold sPaF; repeat' split
    all_goals decide
  · unfold sClF; repeat' split
    all_goals decide
  · unfold sTbF; repeat' split
    all_goals decide
  · repeat' split
    all_goals decide
/-- the answer -/
def aA (W : Wd) (fl : Nat → Int32) (Wr : Nat → Wd) (c : Cl) : Int32 := foR (aF W fl c) (aV W Wr c)
/-- on a copy: the same test, the same answer -/
theorem a_same {R V : Wd} {fl fl' : Nat → Int32} {Wr Wr' : Nat → Wd} {c : Cl} (h : Jn hr f nt nk sz V) (hz : sz < 512) (e : wEq R V) (hf : ∀ i, i < 2 → fl' i = fl i ∧ (fl i = 1 → wEq (Wr' i) (Wr i))) (hb : ∀ i, i < 2 → fl i = 0 ∨ fl i = 1) : aF R fl' c = aF V fl c ∧ (¬ aF V fl c < 0 → aV R Wr' c = aV V Wr c) := by
  have s := e.sf h.1
  have g := h.1
  obtain ⟨q, x⟩ := c
  unfold aF aV
  match q with
  | 0 => exact ⟨s.of g, fun _ => s.1 4 (by decide)⟩
  | 1 => exact ⟨s.po g, fun _ => s.1 5 (by decide)⟩
  | 2 =>
    refine ⟨s.ho g, fun z => ?_⟩
    obtain ⟨q, k, p, b, hh, hk, e1, e2, e3, e4, -⟩ := z_gave h hz z
    show bz (fit (wSet R 2 (ix (x 1)) 8 (x 2)) (ix (x 1))) = bz (fit (wSet V 2 (ix (x 1)) 8 (x 2)) (ix (x 1)))
    rw [e3]
    exact s.fi8 hk
  | 3 =>
    refine ⟨s.ho g, fun z => ?_⟩
    obtain ⟨q, k, p, b, hh, hk, e1, e2, e3, e4, -⟩ := z_took h hz z
    show bz (fit (wSet R 2 (ix (x 1)) 9 (x 0)) (ix (x 1))) = bz (fit (wSet V 2 (ix (x 1)) 9 (x 0)) (ix (x 1)))
    rw [e3]
    exact s.fi9 hk
  | 4 =>
    refine ⟨s.pu g, fun z => ?_⟩
    obtain ⟨k, p, hh, hk, e1, e2, e3, e4, -⟩ := z_putIn h hz z
    show sHeld (sPut R (ix (x 0)) (ix (x 1))) (10 + R 0 (ix (x 0)) 2) = sHeld (sPut V (ix (x 0)) (ix (x 1))) (10 + V 0 (ix (x 0)) 2)
    rw [e2, e4]
    exact s.put g hk hh.2
  | 5 =>
    refine ⟨s.fe g, fun z => ?_⟩
    obtain ⟨k, p, b, hh, hk, e1, e2, e3, e4, -⟩ := z_fetch h hz z
    show sHeld (sFet R (ix (x 0)) (ix (x 1))) (10 + sFet R (ix (x 0)) (ix (x 1)) 0 (ix (x 0)) 2) = sHeld (sFet V (ix (x 0)) (ix (x 1))) (10 + sFet V (ix (x 0)) (ix (x 1)) 0 (ix (x 0)) 2)
    rw [e2, e4]
    exact s.fet g hk hh.2.1
  | 6 =>
    refine ⟨s.pa, fun z => ?_⟩
    obtain ⟨k, hk, e1, e2, h5, -⟩ := z_pass h z
    show pcTo R (ix (x 0)) = pcTo V (ix (x 0))
    rw [e2]
    exact (s.pas g k h5).2
  | 7 =>
    refine ⟨s.cl g, fun z => ?_⟩
    obtain ⟨k, b, q, hh, hk, e1, e2, -⟩ := z_claim h z
    show sFund R (ix (x 0)) + sHoP R (ix (x 0)) + sNaP R (ix (x 0)) = sFund V (ix (x 0)) + sHoP V (ix (x 0)) + sNaP V (ix (x 0))
    rw [e2]
    exact s.los g hk
  | 8 =>
    refine ⟨s.tb g, fun z => ?_⟩
    obtain ⟨t, ht, h16, e1, e2, -⟩ := z_back h z
    show R 1 (ix (x 0)) 3 = V 1 (ix (x 0)) 3
    rw [e2]
    exact s.2.2.1 t 3 ht (by decide)
  | n + 9 =>
    show (if ¬ wIn (x 0) 0 1 then -1 else if fl' (ix (x 0)) = 0 then (-2 : Int32) else 0) = (if ¬ wIn (x 0) 0 1 then -1 else if fl (ix (x 0)) = 0 then (-2 : Int32) else 0) ∧ (¬ (if ¬ wIn (x 0) 0 1 then -1 else if fl (ix (x 0)) = 0 then (-2 : Int32) else 0) < 0 → Wr' (ix (x 0)) 3 0 0 = Wr (ix (x 0)) 3 0 0)
    by_cases hw : wIn (x 0) 0 1
    · obtain ⟨i, hi, e1⟩ := wIn_nI (hi := 1) (by decide) hw
      have ei : ix (x 0) = i := by rw [e1]; exact nI_clamp (by omega)
      obtain ⟨a1, a2⟩ := hf i hi
      rw [if_neg (Decidable.not_not.mpr hw), if_neg (Decidable.not_not.mpr hw), ei, a1]
      refine ⟨rfl, fun z => ?_⟩
      have h0 : ¬ fl i = 0 := fun y => z (by rw [if_pos y]; decide)
      exact (a2 ((hb i hi).resolve_left h0)).1 0 (by decide)
    · rw [if_pos hw, if_pos hw]
      exact ⟨rfl, fun z => absurd (by decide) z⟩
end CALLS
