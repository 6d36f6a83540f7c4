-- ===== the calls that the law makes, carried out =====
/-- what holds of an object's present state and of its slots -/
def IvD (B : Nat) (D : OD) : Prop := JB B D.1.1 ∧ SlB B D.1.2.2.1 D.1.2.2.2
abbrev dF (D : OD) (c : Cl) : Int32 := aF D.1.1 D.1.2.2.1 c
abbrev dV (D : OD) (c : Cl) : Int32 := aV D.1.1 D.1.2.2.2 c
abbrev dN (D : OD) (c : Cl) : Wd := aN D.1.1 D.1.2.2.2 c
abbrev dA (D : OD) (c : Cl) : Int32 := aA D.1.1 D.1.2.2.1 D.1.2.2.2 c
def CallQ (G : xG) (t : xA) (own : Nat → Nat) (a : Nat) (D : OD) (c : Cl) : Option Value → xA → Prop := fun r t1 => r = some (.int (dA D c)) ∧ ((dF D c < 0 ∧ t1 = t) ∨ (¬ dF D c < 0 ∧ ∃ (own1 : Nat → Nat) (H1 : HD), Ob G t1 own1 a ((dN D c, D.1.2), H1, D.2.2) ∧ KeptH D.2.1 D.1 H1 ∧ Did t t1 own own1 clsT 123 2437))
section DOES
variable {G : xG} {t : xA} {own : Nat → Nat} {a B : Nat} {D : OD}
theorem ca_mk {M : xM} {As : List Value} {c : Cl} (hF : dF D c < 0 → xMe G M As t (nuQ t (dF D c))) (hV : ¬ dF D c < 0 → xMe G M As t (MuQ G t own a D (dV D c) (dN D c))) : xMe G M As t (CallQ G t own a D c) := by
  by_cases z : dF D c < 0
  · exact (hF z).mono (fun r t1 q => ⟨by rw [q.1]; show _ = some (Value.int (foR _ _)); rw [foR_f z], Or.inl ⟨z, q.2⟩⟩)
  · exact (hV z).mono (fun r t1 q => ⟨by rw [q.1]; show _ = some (Value.int (foR _ _)); rw [foR_o z], Or.inr ⟨z, q.2⟩⟩)
theorem ca_offer (h : Ob G t own a D) (hJ : IvD B D) (hB : B < 512) (p x y i l e : Int32) : xMe G MX9_offer [.ref a, .int p, .int x, .int y, .int i, .int l, .int e] t (CallQ G t own a D (0, ar [p, x, y, i, l, e])) := by
  obtain ⟨⟨hr, f, nt, nk, sz, j1, j2⟩, -⟩ := hJ
  exact ca_mk (c := (0, ar [p, x, y, i, l, e])) (fun z => c_offerF h z) (fun z => by
    obtain ⟨h1, h2⟩ := z_offer (p := p) (x := x) (y := y) (i := i) (l := l) (e := e) j1 z
    exact c_offer h (by rw [j1.1.cT]; exact h1) z (Gd.good h2.1 h2.2.1 (by omega)))
theorem ca_post (h : Ob G t own a D) (hJ : IvD B D) (hB : B < 512) (x r u v w : Int32) : xMe G MX9_post [.ref a, .int x, .int r, .int u, .int v, .int w] t (CallQ G t own a D (1, ar [x, r, u, v, w])) := by
  obtain ⟨⟨hr, f, nt, nk, sz, j1, j2⟩, -⟩ := hJ
  exact ca_mk (c := (1, ar [x, r, u, v, w])) (fun z => c_postF h z) (fun z => by
    obtain ⟨p, q, ⟨hp, hq⟩, e1, e2, h10, h2⟩ := z_post (x := x) (r := r) (u := u) (v := v) (w := w) j1 (by omega) z
    subst e1 e2
    exact c_post h hp hq (by rw [j1.1.cK]; exact h10) z (Gd.good h2.1 h2.2.1 (by omega)))
theorem ca_gave (h : Ob G t own a D) (hJ : IvD B D) (hB : B < 512) (x n y : Int32) : xMe G MX9_gave [.ref a, .int x, .int n, .int y] t (CallQ G t own a D (2, ar [x, n, y])) := by
  obtain ⟨⟨hr, f, nt, nk, sz, j1, j2⟩, -⟩ := hJ
  exact ca_mk (c := (2, ar [x, n, y])) (fun z => c_gaveF h z) (fun z => by
    obtain ⟨q, k, p, b, ⟨k10, hp, hb, eb⟩, hk, e1, e2, e3, e4, sz', h1, h2⟩ := z_gave (x := x) (n := n) (y := y) j1 (by omega) z
    have g := c_gave h (k := k) (p := p) (q := q) k10 hp hb eb (by rw [← e1, ← e2, ← e4]; exact z) (Gd.good h2.1 h2.2.1 (by omega))
    rw [← e1, ← e2, ← e4] at g
    have e : MuQ G t own a D (bz (fit (wSet D.1.1 2 k 8 y) k)) (sGav D.1.1 k y) = MuQ G t own a D (dV D (2, ar [x, n, y])) (dN D (2, ar [x, n, y])) := by
      show _ = MuQ G t own a D (bz (fit (wSet D.1.1 2 (ix n) 8 y) (ix n))) (sGav D.1.1 (ix n) y)
      rw [e3]
    rw [e] at g
    exact g)
theorem ca_took (h : Ob G t own a D) (hJ : IvD B D) (hB : B < 512) (x n y : Int32) : xMe G MX9_took [.ref a, .int x, .int n, .int y] t (CallQ G t own a D (3, ar [x, n, y])) := by
  obtain ⟨⟨hr, f, nt, nk, sz, j1, j2⟩, -⟩ := hJ
  exact ca_mk (c := (3, ar [x, n, y])) (fun z => c_tookF h z) (fun z => by
    obtain ⟨q, k, p, b, ⟨k10, hp, hb, eb⟩, hk, e1, e2, e3, e4, sz', h1, h2⟩ := z_took (x := x) (n := n) (y := y) j1 (by omega) z
    have g := c_took h (k := k) (p := p) (q := q) k10 hp hb eb (by rw [← e1, ← e2, ← e4]; exact z) (Gd.good h2.1 h2.2.1 (by omega))
    rw [← e1, ← e2, ← e4] at g
    have e : MuQ G t own a D (bz (fit (wSet D.1.1 2 k 9 x) k)) (sTok D.1.1 k x) = MuQ G t own a D (dV D (3, ar [x, n, y])) (dN D (3, ar [x, n, y])) := by
      show _ = MuQ G t own a D (bz (fit (wSet D.1.1 2 (ix n) 9 x) (ix n))) (sTok D.1.1 (ix n) x)
      rw [e3]
    rw [e] at g
    exact g)
theorem ca_putIn (h : Ob G t own a D) (hJ : IvD B D) (hB : B < 512) (x n : Int32) : xMe G MX9_putIn [.ref a, .int x, .int n] t (CallQ G t own a D (4, ar [x, n])) := by
  obtain ⟨⟨hr, f, nt, nk, sz, j1, j2⟩, -⟩ := hJ
  exact ca_mk (c := (4, ar [x, n])) (fun z => c_putInF h z) (fun z => by
    obtain ⟨k, p, ⟨k10, hp⟩, hk, e1, e2, e3, e4, h2⟩ := z_putIn (x := x) (n := n) j1 (by omega) z
    have g := c_putIn h (k := k) (p := p) k10 hp (by rw [← e1, ← e3]; exact z) (Gd.good h2.1 h2.2.1 (by omega))
    rw [← e1, ← e3] at g
    have e : MuQ G t own a D (sHeld (sPut D.1.1 p k) (10 + D.1.1 0 p 2)) (sPut D.1.1 p k) = MuQ G t own a D (dV D (4, ar [x, n])) (dN D (4, ar [x, n])) := by
      show _ = MuQ G t own a D (sHeld (sPut D.1.1 (ix x) (ix n)) (10 + D.1.1 0 (ix x) 2)) (sPut D.1.1 (ix x) (ix n))
      rw [e2, e4]
    rw [e] at g
    exact g)
theorem ca_fetch (h : Ob G t own a D) (hJ : IvD B D) (hB : B < 512) (x n : Int32) : xMe G MX9_fetch [.ref a, .int x, .int n] t (CallQ G t own a D (5, ar [x, n])) := by
  obtain ⟨⟨hr, f, nt, nk, sz, j1, j2⟩, -⟩ := hJ
  exact ca_mk (c := (5, ar [x, n])) (fun z => c_fetchF h z) (fun z => by
    obtain ⟨k, p, b, ⟨k10, hp, hb, eb⟩, hk, e1, e2, e3, e4, h2⟩ := z_fetch (x := x) (n := n) j1 (by omega) z
    have g := c_fetch h (k := k) (p := p) k10 hp hb eb (by rw [← e1, ← e3]; exact z) (Gd.good h2.1 h2.2.1 (by omega))
    rw [← e1, ← e3] at g
    have e : MuQ G t own a D (sHeld (sFet D.1.1 p k) (10 + sFet D.1.1 p k 0 p 2)) (sFet D.1.1 p k) = MuQ G t own a D (dV D (5, ar [x, n])) (dN D (5, ar [x, n])) := by
      show _ = MuQ G t own a D (sHeld (sFet D.1.1 (ix x) (ix n)) (10 + sFet D.1.1 (ix x) (ix n) 0 (ix x) 2)) (sFet D.1.1 (ix x) (ix n))
      rw [e2, e4]
    rw [e] at g
    exact g)
theorem ca_pass (h : Ob G t own a D) (hJ : IvD B D) (hB : B < 512) (n : Int32) : xMe G MX9_pass [.ref a, .int n] t (CallQ G t own a D (6, ar [n])) := by
  obtain ⟨⟨hr, f, nt, nk, sz, j1, j2⟩, -⟩ := hJ
  exact ca_mk (c := (6, ar [n])) (fun z => c_passF h z) (fun z => by
    obtain ⟨k, hk, e1, e2, h5, h2⟩ := z_pass (n := n) j1 z
    have g := c_pass h (n := k) (by omega) (fun u hu => (j1.1.2.2.1 u (by rw [j1.1.cT] at hu; exact hu)).1.1) (by rw [← e1]; exact z) (Gd.good h2.1 h2.2.1 (by omega))
    rw [← e1] at g
    have e : MuQ G t own a D (pcTo D.1.1 k) (paTo D.1.1 k) = MuQ G t own a D (dV D (6, ar [n])) (dN D (6, ar [n])) := by
      show _ = MuQ G t own a D (pcTo D.1.1 (ix n)) (paTo D.1.1 (ix n))
      rw [e2]
    rw [e] at g
    exact g)
theorem ca_claim (h : Ob G t own a D) (hJ : IvD B D) (hB : B < 512) (n : Int32) : xMe G MX9_claim [.ref a, .int n] t (CallQ G t own a D (7, ar [n])) := by
  obtain ⟨⟨hr, f, nt, nk, sz, j1, j2⟩, -⟩ := hJ
  exact ca_mk (c := (7, ar [n])) (fun z => c_claimF h z) (fun z => by
    obtain ⟨k, b, q, ⟨k10, hb, eb⟩, hk, e1, e2, hq, h2⟩ := z_claim (n := n) j1 z
    obtain ⟨c1, c2, c3, -⟩ := j1.1.cl hk
    have g := c_claim h (k := k) k10 c1 c2 c3 hb eb (by rw [← e1]; exact z) (Gd.good h2.1 h2.2.1 (by omega))
    rw [← e1] at g
    have e : MuQ G t own a D (sFund D.1.1 k + sHoP D.1.1 k + sNaP D.1.1 k) (sLos D.1.1 k) = MuQ G t own a D (dV D (7, ar [n])) (dN D (7, ar [n])) := by
      show _ = MuQ G t own a D (sFund D.1.1 (ix n) + sHoP D.1.1 (ix n) + sNaP D.1.1 (ix n)) (sLos D.1.1 (ix n))
      rw [e2]
    rw [e] at g
    exact g)
theorem ca_takeBack (h : Ob G t own a D) (hJ : IvD B D) (hB : B < 512) (n : Int32) : xMe G MX9_takeBack [.ref a, .int n] t (CallQ G t own a D (8, ar [n])) := by
  obtain ⟨⟨hr, f, nt, nk, sz, j1, j2⟩, -⟩ := hJ
  exact ca_mk (c := (8, ar [n])) (fun z => c_takeBackF h z) (fun z => by
    obtain ⟨k, hk, h16, e1, e2, h2⟩ := z_back (n := n) j1 z
    have g := c_takeBack h (n := k) h16 (by rw [← e1]; exact z) (Gd.good h2.1 h2.2.1 (by omega))
    rw [← e1] at g
    have e : MuQ G t own a D (D.1.1 1 k 3) (wSet D.1.1 1 k 6 3) = MuQ G t own a D (dV D (8, ar [n])) (dN D (8, ar [n])) := by
      show _ = MuQ G t own a D (D.1.1 1 (ix n) 3) (wSet D.1.1 1 (ix n) 6 3)
      rw [e2]
    rw [e] at g
    exact g)
theorem ca_restore (h : Ob G t own a D) (hJ : IvD B D) (hB : B < 512) (n : Int32) : xMe G MX9_restore [.ref a, .int n] t (CallQ G t own a D (9, ar [n])) := by
  by_cases hq : wIn n 0 1
  · obtain ⟨i, hi, rfl⟩ := wIn_nI (hi := 1) (by decide) hq
    have ei : ix (nI i) = i := nI_clamp (by omega)
    by_cases h0 : D.1.2.2.1 i = 0
    · have e : dF D (9, ar [nI i]) = -2 := by
        show (if ¬ wIn (nI i) 0 1 then -1 else if D.1.2.2.1 (ix (nI i)) = 0 then (-2 : Int32) else 0) = -2
        rw [if_neg (Decidable.not_not.mpr hq), ei, if_pos h0]
      exact ca_mk (c := (9, ar [nI i])) (fun _ => by rw [e]; exact c_restoreN h hi h0) (fun z => absurd (by rw [e]; decide) z)
    · have e : dF D (9, ar [nI i]) = 0 := by
        show (if ¬ wIn (nI i) 0 1 then -1 else if D.1.2.2.1 (ix (nI i)) = 0 then (-2 : Int32) else 0) = 0
        rw [if_neg (Decidable.not_not.mpr hq), ei, if_neg h0]
      refine ca_mk (c := (9, ar [nI i])) (fun z => absurd z (by rw [e]; decide)) (fun _ => ?_)
      have g := c_restore h hi h0 (((hJ.2 i hi).resolve_left h0).2.cp (sCopy_eq D.1.1 (D.1.2.2.2 i)) |>.good (by omega))
      have ev : sCopy D.1.1 (D.1.2.2.2 i) 3 0 0 = D.1.2.2.2 i 3 0 0 := (sCopy_eq D.1.1 (D.1.2.2.2 i)).1 0 (by decide)
      rw [ev] at g
      have e2 : MuQ G t own a D (D.1.2.2.2 i 3 0 0) (sCopy D.1.1 (D.1.2.2.2 i)) = MuQ G t own a D (dV D (9, ar [nI i])) (dN D (9, ar [nI i])) := by
        show _ = MuQ G t own a D (D.1.2.2.2 (ix (nI i)) 3 0 0) (sCopy D.1.1 (D.1.2.2.2 (ix (nI i))))
        rw [ei]
      rw [e2] at g
      exact g
  · have e : dF D (9, ar [n]) = -1 := by
      show (if ¬ wIn n 0 1 then -1 else if D.1.2.2.1 (ix n) = 0 then (-2 : Int32) else 0) = -1
      rw [if_pos hq]
    exact ca_mk (c := (9, ar [n])) (fun _ => by rw [e]; exact c_restoreF h hq) (fun z => absurd (by rw [e]; decide) z)
-- the looks, with any parcel's number up to the first that isn't there
/-- what is told of a parcel -/
def prA (W : Wd) (k q : Nat) : Int32 := if k < cK W then sPar W k q else -1
theorem JB.hh (h : JB B D.1.1) {k : Nat} (hk : k < cK D.1.1) : D.1.1 2 k 6 < 10 → isP (D.1.1 2 k 6) := by
  obtain ⟨hr, f, nt, nk, sz, j1, j2⟩ := h
  rw [j1.1.cK] at hk
  exact ho_10 (j1.1.2.2.2.1 k hk).2.1
theorem g_parcel (h : Ob G t own a D) (hJ : IvD B D) {k q : Nat} (hk : k < 12) (hq : q < 11) : xMe G MX9_parcel [.ref a, .int (nI k), .int (nI q)] t (nuQ t (prA D.1.1 k q)) := by
  have hK := h.hK
  have hK1 := hK.1
  unfold prA
  by_cases z : k < cK D.1.1
  · rw [if_pos z]
    exact c_parcel h ⟨nI_pos (by omega), by rw [hK.2]; exact nI_ge z (by omega)⟩ (by omega) hq (hJ.1.hh z)
  · rw [if_neg z]
    exact c_parcelF h (Or.inl (fun y => y.2 (by rw [hK.2]; exact nI_le (by omega) (by omega))))
end DOES
