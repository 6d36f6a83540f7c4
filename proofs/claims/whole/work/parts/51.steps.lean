-- ===== a call of both: the deeds =====
theorem RelO.vf {c : Nat} {D : OD} {V V' : Vd} (h : RelO c D V) (e1 : V'.1 = V.1) (e2 : V'.2.1 = V.2.1) (e3 : V'.2.2 0 2 = V.2.2 0 2) (e4 : V'.2.2 0 4 = V.2.2 0 4) (e5 : V'.2.2 1 = V.2.2 1) : RelO c D V' := ⟨h.1, by rw [e1]; exact h.2.1, HRel.cg h.2.2.1 e3 e2, TRel.cg h.2.2.2 e4 e5⟩
section STEP
variable {G : xG} {MC MM : xM} {As : List Value} {t : xA} {own : Nat → Nat} {a m c : Nat} {D : OD} {V : Vd}
theorem step_nu (hS : Sys G t own a m c D V) {v : Int32} (hC : xMe G MC (.ref a :: As) t (nuQ t v)) (hM : ∀ s : xA, mI G MM (.ref m :: As) s m V v V) : StepQ G MC MM As a m c t :=
  step_mk hS (PC := fun D1 => D1 = D) (PM := fun V' => V' = V) (cv_nu hS.1 hC) hM (fun D1 V' e1 e2 => by rw [e1, e2]; exact RelO.nx hS.2.2)
theorem step_nt (hS : Sys G t own a m c D V) {v : Int32} (hC : xMe G MC (.ref a :: As) t (nuQ t v)) (hM : ∀ s : xA, mMe G MM (.ref m :: As) s m V (fun r V' => r = some (.int v) ∧ tF V V')) : StepQ G MC MM As a m c t :=
  step_mk hS (PC := fun D1 => D1 = D) (PM := fun V' => tF V V') (cv_nu hS.1 hC) hM (fun D1 V' e1 e2 => by rw [e1]; exact RelO.nx (RelO.vf hS.2.2 e2.1 e2.2.1 e2.2.2.1 e2.2.2.2.1 e2.2.2.2.2))
theorem step_ya (hS : Sys G t own a m c D V) {v : Int32} (hC : xMe G MC (.ref a :: As) t (YaQ G t own a D v)) (hM : ∀ s : xA, mMe G MM (.ref m :: As) s m V (fun r V' => r = some (.int v) ∧ bF V V')) : StepQ G MC MM As a m c t :=
  step_mk hS (PC := fun D1 => ∃ Y1 : Yd, D1 = (D.1, D.2.1, D.2.2.1, Y1)) (PM := fun V' => bF V V')
    (hC.mono (fun r t1 q => by
      obtain ⟨e, Y1, h1, h2⟩ := q
      exact ⟨e, own, _, h1, Did.mono h2 (fun _ z => z) (by decide) (by decide), Y1, rfl⟩)) hM
    (fun D1 V' q e2 => by
      obtain ⟨Y1, e1⟩ := q
      rw [e1]
      have k := RelO.nx (RelO.vf hS.2.2 e2.1 e2.2.1 (congrFun (e2.2.2 0 (by decide)) 2) (congrFun (e2.2.2 0 (by decide)) 4) (e2.2.2 1 (by decide)))
      exact ⟨k.1, k.2.1, k.2.2.1, k.2.2.2⟩)
theorem step_mu (hS : Sys G t own a m c D V) (hc : c ≤ 511) {F v : Int32} {W' : Wd} {P : Vd → Prop}
    (hF : F < 0 → xMe G MC (.ref a :: As) t (nuQ t F)) (hV : ¬ F < 0 → xMe G MC (.ref a :: As) t (MuQ G t own a D v W'))
    (hM : ∀ s : xA, mMe G MM (.ref m :: As) s m V (OutQ F v P V))
    (hP : ¬ F < 0 → ∀ V', P V' → ∃ hr f nt nk : Nat, Ch (mRec V D.2.1.2.1) hr f nt nk W' V' ∧ Gd hr f nt nk W') (hz : szO D.1.1 W') : StepQ G MC MM As a m c t := by
  by_cases h : F < 0
  · exact step_mk hS (PC := fun D1 => D1 = D) (PM := fun V' => V' = V) (cv_nu hS.1 (hF h)) (fun s => xE.mono (hM s) (fun r t1 q => by
      obtain ⟨V', q1, q2⟩ := q
      exact ⟨V', q1, q2.1 h⟩)) (fun D1 V' e1 e2 => by rw [e1, e2]; exact RelO.nx hS.2.2)
  · refine step_mk hS (PC := fun D1 => ∃ H1, D1 = ((W', D.1.2), H1, D.2.2) ∧ KeptH D.2.1 D.1 H1) (PM := P) (cv_mu (hV h)) (fun s => xE.mono (hM s) (fun r t1 q => by
      obtain ⟨V', q1, q2⟩ := q
      exact ⟨V', q1, q2.2 h⟩)) (fun D1 V' q1 q2 => ?_)
    obtain ⟨H1, e1, e2⟩ := q1
    obtain ⟨hr, f, nt, nk, g1, g2⟩ := hP h V' q2
    obtain ⟨hr0, f0, nt0, nk0, sz, R, g, ez, lz⟩ := hS.2.2.2.1.1
    have hle := hS.2.2.1
    obtain ⟨sz', a1, a2, a3⟩ := hz sz (by omega) ez
    rw [e1]
    exact RelO.act hS.2.2 g1 g2 a3 (by omega) e2
theorem st_offer (hS : Sys G t own a m c D V) (hc : c ≤ 511) (p x y i l e : Int32) : StepQ G MX9_offer MX10_offer [.int p, .int x, .int y, .int i, .int l, .int e] a m c t := by
  obtain ⟨hr, f, nt, nk, sz, R, g, ez, lz⟩ := hS.2.2.2.1.1
  have hg : ¬ sOfF D.1.1 p x y i l e < 0 → nt < 16 ∧ Gd hr f (nt + 1) nk (sAddT D.1.1 p x y i l e) := fun z => by
    obtain ⟨⟨h1, h2, h3, h4⟩, ⟨h5, h6, h7⟩, h8⟩ := sOfF_ge z
    obtain ⟨p', hp, e1⟩ := gP_is h1
    obtain ⟨x', hx, e2⟩ := gTn_is h2
    obtain ⟨y', hy, e3⟩ := gTn_is h3
    obtain ⟨i', hi0, hi, e4⟩ := wIn_1n (hi := 50) (by decide) h5
    obtain ⟨l', hl0, hl, e5⟩ := wIn_1n (hi := 50) (by decide) h6
    obtain ⟨e', he, e6⟩ := wIn_nI (hi := 99) (by decide) h7
    have h16 : nt < 16 := by
      rw [g.1.2.2.2.1] at h8
      have := mt (nI_leI (a := 16) (b := nt) (by decide) (by have := g.1.1; omega)).mpr h8
      omega
    rw [e1, e2, e3, e4, e5, e6]
    exact ⟨h16, g.offer h16 hp hx hy hi hl0 hl (by omega)⟩
  exact step_mu hS hc (v := D.1.1 3 0 4) (W' := sAddT D.1.1 p x y i l e) (fun z => c_offerF hS.1 z) (fun z => c_offer hS.1 (by rw [g.cT]; exact (hg z).1) z (Gd.good (hg z).2 (Eq.trans sz_addT ez) (by omega))) (fun s => m_offer R hS.2.2.2.2.1.1.1 hS.2.2.2.2.1.1.2.1 p x y i l e) (fun z V' q => ⟨_, _, _, _, q, (hg z).2⟩) sz_addT.o
theorem st_takeBack (hS : Sys G t own a m c D V) (hc : c ≤ 511) (n : Int32) : StepQ G MX9_takeBack MX10_takeBack [.int n] a m c t := by
  obtain ⟨hr, f, nt, nk, sz, R, g, ez, lz⟩ := hS.2.2.2.1.1
  have hg : ∀ k, Gd hr f nt nk (wSet D.1.1 1 k 6 3) := fun k => g.free (Or.inr (Or.inr (Or.inl ⟨rfl, rfl⟩)))
  exact step_mu hS hc (v := D.1.1 1 (ix n) 3) (W' := wSet D.1.1 1 (ix n) 6 3) (fun z => c_takeBackF hS.1 z) (fun z => by
    obtain ⟨k, hk, h16, ek⟩ := tP_is hS.1.hT (sTbF_ge z)
    subst ek
    rw [show ix (nI k) = k from ixT h16]
    exact c_takeBack hS.1 h16 z (Gd.good (hg k) (Eq.trans (szS.set (by decide)) ez) (by omega))) (fun s => m_takeBack R hS.2.2.2.2.1.1.1 hS.2.2.2.2.1.1.2.1 n) (fun z V' q => ⟨_, _, _, _, q, hg _⟩) (szS.set (by decide)).o
theorem st_pass (hS : Sys G t own a m c D V) (hc : c ≤ 511) (n : Int32) : StepQ G MX9_pass MX10_pass [.int n] a m c t := by
  obtain ⟨hr, f, nt, nk, sz, R, g, ez, lz⟩ := hS.2.2.2.1.1
  have hg : ¬ sPaF D.1.1 n < 0 → ∃ k : Nat, k < 1000 ∧ n = nI k ∧ ix n = k ∧ Gd (hr + k) f nt nk (paTo D.1.1 k) := fun z => by
    obtain ⟨h1, h2⟩ := sPaF_ge z
    obtain ⟨k, h0, hk, ek⟩ := wIn_1n (hi := 24) (by decide) h1
    refine ⟨k, by omega, ek, by rw [ek]; exact nI_clamp (by omega), g.pas k ?_⟩
    rw [ek, g.1.2.1, nI_add] at h2
    have := mt (nI_ltI (a := 500) (b := hr + k) (by decide) (by have := g.1.1; omega)).mpr h2
    omega
  exact step_mu hS hc (v := pcTo D.1.1 (ix n)) (W' := paTo D.1.1 (ix n)) (fun z => c_passF hS.1 z) (fun z => by
    obtain ⟨k, hk, ek, ei, hG⟩ := hg z
    rw [ei, ek]
    exact c_pass hS.1 hk (fun u hu => (g.2.2.1 u (by rw [g.cT] at hu; exact hu)).1.1) (by rw [← ek]; exact z) (Gd.good hG (Eq.trans (sz_pas k) ez) (by omega))) (fun s => m_pass R hS.2.2.2.2.1.1.1 hS.2.2.2.2.1.1.2.1 (fun u hu => (g.2.2.1 u hu).1.1) n) (fun z V' q => by
    obtain ⟨k, hk, ek, ei, hG⟩ := hg z
    rw [ei] at q ⊢
    exact ⟨_, _, _, _, q, hG⟩) (sz_pas _).o
theorem st_gave (hS : Sys G t own a m c D V) (hc : c ≤ 511) (x n y : Int32) : StepQ G MX9_gave MX10_gave [.int x, .int n, .int y] a m c t := by
  obtain ⟨hr, f, nt, nk, sz, R, g, ez, lz⟩ := hS.2.2.2.1.1
  have hle := hS.2.2.1
  have hg : ¬ sHoF D.1.1 x n y < 0 → ∃ q k p b : Nat, (k < 10 ∧ p < 8 ∧ b < 8 ∧ D.1.1 2 k 0 = nI b) ∧ x = nI q ∧ n = nI k ∧ ix n = k ∧ y = nI p ∧ Gd hr f nt nk (sGav D.1.1 k (nI p)) := fun z => by
    obtain ⟨⟨h1, h2, h3, h4⟩, h5, h6, h7⟩ := sHoF_ge z
    obtain ⟨p, hp, ep⟩ := gP_is h3
    obtain ⟨q, hq, eq⟩ := gP_is h1
    obtain ⟨k, hk, h10, ek⟩ := kP_is hS.1.hK h2
    rw [g.cK] at hk
    obtain ⟨b, hb, eb⟩ := (g.2.2.2.1 k hk).1
    have ei : ix n = k := by rw [ek]; exact clK h10
    rw [ei] at h5
    rw [eq] at h4 h5
    rw [ep] at h4 h7
    exact ⟨q, k, p, b, ⟨h10, hp, hb, eb⟩, eq, ek, ei, ep, g.gav hk hp hq h5.2 h4 (g.h2 h7)⟩
  exact step_mu hS hc (v := bz (fit (wSet D.1.1 2 (ix n) 8 y) (ix n))) (W' := sGav D.1.1 (ix n) y) (fun z => c_gaveF hS.1 z) (fun z => by
    obtain ⟨q, k, p, b, ⟨h10, hp, hb, eb⟩, eq, ek, ei, ep, hG⟩ := hg z
    obtain ⟨sz', a1, a2, a3⟩ := sz_gav (k := k) (t := nI p) sz (by omega) ez
    rw [eq, ek, ep] at z
    rw [ei, eq, ek, ep]
    exact c_gave hS.1 h10 hp hb eb z (Gd.good hG a3 a1)) (fun s => m_gave R hS.2.2.2.2.1.1.1 hS.2.2.2.2.1.1.2.1 g.1.1.1 ez (by omega) (fun k hk => (g.2.2.2.1 k hk).1) x n y) (fun z V' q => by
    obtain ⟨_, k, p, b, -, -, ek, ei, ep, hG⟩ := hg z
    rw [ei, ep] at q ⊢
    exact ⟨_, _, _, _, q, hG⟩) sz_gav
theorem st_took (hS : Sys G t own a m c D V) (hc : c ≤ 511) (x n y : Int32) : StepQ G MX9_took MX10_took [.int x, .int n, .int y] a m c t := by
  obtain ⟨hr, f, nt, nk, sz, R, g, ez, lz⟩ := hS.2.2.2.1.1
  have hle := hS.2.2.1
  have hg : ¬ sHoF D.1.1 y n x < 0 → ∃ q k p b : Nat, (k < 10 ∧ p < 8 ∧ b < 8 ∧ D.1.1 2 k 0 = nI b) ∧ y = nI q ∧ n = nI k ∧ ix n = k ∧ x = nI p ∧ Gd hr f nt nk (sTok D.1.1 k (nI p)) := fun z => by
    obtain ⟨⟨h1, h2, h3, h4⟩, h5, h6, h7⟩ := sHoF_ge z
    obtain ⟨p, hp, ep⟩ := gP_is h3
    obtain ⟨q, hq, eq⟩ := gP_is h1
    obtain ⟨k, hk, h10, ek⟩ := kP_is hS.1.hK h2
    rw [g.cK] at hk
    obtain ⟨b, hb, eb⟩ := (g.2.2.2.1 k hk).1
    have ei : ix n = k := by rw [ek]; exact clK h10
    rw [ep] at h7
    exact ⟨q, k, p, b, ⟨h10, hp, hb, eb⟩, eq, ek, ei, ep, g.tok hk hp (g.h2 h7)⟩
  exact step_mu hS hc (v := bz (fit (wSet D.1.1 2 (ix n) 9 x) (ix n))) (W' := sTok D.1.1 (ix n) x) (fun z => c_tookF hS.1 z) (fun z => by
    obtain ⟨q, k, p, b, ⟨h10, hp, hb, eb⟩, eq, ek, ei, ep, hG⟩ := hg z
    obtain ⟨sz', a1, a2, a3⟩ := sz_tok (k := k) (t := nI p) sz (by omega) ez
    rw [eq, ek, ep] at z
    rw [ei, eq, ek, ep]
    exact c_took hS.1 h10 hp hb eb z (Gd.good hG a3 a1)) (fun s => m_took R hS.2.2.2.2.1.1.1 hS.2.2.2.2.1.1.2.1 g.1.1.1 ez (by omega) (fun k hk => (g.2.2.2.1 k hk).1) x n y) (fun z V' q => by
    obtain ⟨_, k, p, b, -, -, ek, ei, ep, hG⟩ := hg z
    rw [ei, ep] at q ⊢
    exact ⟨_, _, _, _, q, hG⟩) sz_tok
theorem st_putIn (hS : Sys G t own a m c D V) (hc : c ≤ 511) (x n : Int32) : StepQ G MX9_putIn MX10_putIn [.int x, .int n] a m c t := by
  obtain ⟨hr, f, nt, nk, sz, R, g, ez, lz⟩ := hS.2.2.2.1.1
  have hle := hS.2.2.1
  have hg : ¬ sPuF D.1.1 x n < 0 → ∃ k p : Nat, (k < 10 ∧ p < 8) ∧ n = nI k ∧ ix n = k ∧ x = nI p ∧ ix x = p ∧ Gd hr f nt nk (sPut D.1.1 p k) := fun z => by
    obtain ⟨⟨h1, h2⟩, h5, h6, h7⟩ := sPuF_ge z
    obtain ⟨p, hp, ep⟩ := gP_is h1
    obtain ⟨k, hk, h10, ek⟩ := kP_is hS.1.hK h2
    rw [g.cK] at hk
    have ei : ix n = k := by rw [ek]; exact clK h10
    have ej : ix x = p := by rw [ep]; exact ixP hp
    rw [ej] at h6 h7
    exact ⟨k, p, ⟨h10, hp⟩, ek, ei, ep, ej, g.put hk hp h6 (g.h2 h7)⟩
  exact step_mu hS hc (v := sHeld (sPut D.1.1 (ix x) (ix n)) (10 + D.1.1 0 (ix x) 2)) (W' := sPut D.1.1 (ix x) (ix n)) (fun z => c_putInF hS.1 z) (fun z => by
    obtain ⟨k, p, ⟨h10, hp⟩, ek, ei, ep, ej, hG⟩ := hg z
    obtain ⟨sz', a1, a2, a3⟩ := sz_hov (k := k) (h := 10 + D.1.1 0 p 2) sz (by omega) ez
    rw [ek, ep] at z
    rw [ei, ej, ek, ep]
    exact c_putIn hS.1 h10 hp z (Gd.good hG a3 a1)) (fun s => m_putIn R hS.2.2.2.2.1.1.1 hS.2.2.2.2.1.1.2.1 g.1.1.1 ez (by omega) (fun k hk => (g.2.2.2.1 k hk).1) g.h3 (fun p hp hne => ((g.2.1 p hp).1.resolve_left (fun z => hne z.1)).1) x n) (fun z V' q => by
    obtain ⟨k, p, -, ek, ei, ep, ej, hG⟩ := hg z
    rw [ei, ej] at q ⊢
    exact ⟨_, _, _, _, q, hG⟩) sz_hov
theorem st_fetch (hS : Sys G t own a m c D V) (hc : c ≤ 511) (x n : Int32) : StepQ G MX9_fetch MX10_fetch [.int x, .int n] a m c t := by
  obtain ⟨hr, f, nt, nk, sz, R, g, ez, lz⟩ := hS.2.2.2.1.1
  have hle := hS.2.2.1
  have hg : ¬ sFeF D.1.1 x n < 0 → ∃ k p b : Nat, (k < 10 ∧ p < 8 ∧ b < 8 ∧ D.1.1 2 k 0 = nI b) ∧ n = nI k ∧ ix n = k ∧ x = nI p ∧ ix x = p ∧ Gd hr f nt nk (sFet D.1.1 p k) := fun z => by
    obtain ⟨⟨h1, h2⟩, h6, h5, h7⟩ := sFeF_ge z
    obtain ⟨p, hp, ep⟩ := gP_is h1
    obtain ⟨k, hk, h10, ek⟩ := kP_is hS.1.hK h2
    rw [g.cK] at hk
    obtain ⟨b, hb, eb⟩ := (g.2.2.2.1 k hk).1
    have ei : ix n = k := by rw [ek]; exact clK h10
    have ej : ix x = p := by rw [ep]; exact ixP hp
    rw [ep] at h7
    exact ⟨k, p, b, ⟨h10, hp, hb, eb⟩, ek, ei, ep, ej, g.fet hk hp (g.h2 h7)⟩
  exact step_mu hS hc (v := sHeld (sFet D.1.1 (ix x) (ix n)) (10 + sFet D.1.1 (ix x) (ix n) 0 (ix x) 2)) (W' := sFet D.1.1 (ix x) (ix n)) (fun z => c_fetchF hS.1 z) (fun z => by
    obtain ⟨k, p, b, ⟨h10, hp, hb, eb⟩, ek, ei, ep, ej, hG⟩ := hg z
    obtain ⟨sz', a1, a2, a3⟩ := (sz_hov.s sz_set : szO D.1.1 (sFet D.1.1 p k)) sz (by omega) ez
    rw [ek, ep] at z
    rw [ei, ej, ek, ep]
    exact c_fetch hS.1 h10 hp hb eb z (Gd.good hG a3 a1)) (fun s => m_fetch R hS.2.2.2.2.1.1.1 hS.2.2.2.2.1.1.2.1 g.1.1.1 ez (by omega) (fun k hk => (g.2.2.2.1 k hk).1) x n) (fun z V' q => by
    obtain ⟨k, p, b, -, ek, ei, ep, ej, hG⟩ := hg z
    rw [ei, ej] at q ⊢
    exact ⟨_, _, _, _, q, hG⟩) (sz_hov.s sz_set)
theorem st_claim (hS : Sys G t own a m c D V) (hc : c ≤ 511) (n : Int32) : StepQ G MX9_claim MX10_claim [.int n] a m c t := by
  obtain ⟨hr, f, nt, nk, sz, R, g, ez, lz⟩ := hS.2.2.2.1.1
  have hle := hS.2.2.1
  have hg : ¬ sClF D.1.1 n < 0 → ∃ k b : Nat, (k < 10 ∧ b < 8 ∧ D.1.1 2 k 0 = nI b) ∧ k < nk ∧ n = nI k ∧ ix n = k := fun z => by
    obtain ⟨k, hk, h10, ek⟩ := kP_is hS.1.hK (sClF_ge z)
    rw [g.cK] at hk
    obtain ⟨b, hb, eb⟩ := (g.2.2.2.1 k hk).1
    exact ⟨k, b, ⟨h10, hb, eb⟩, hk, ek, by rw [ek]; exact clK h10⟩
  exact step_mu hS hc (v := sFund D.1.1 (ix n) + sHoP D.1.1 (ix n) + sNaP D.1.1 (ix n)) (W' := sLos D.1.1 (ix n)) (fun z => c_claimF hS.1 z) (fun z => by
    obtain ⟨k, b, ⟨h10, hb, eb⟩, hk, ek, ei⟩ := hg z
    obtain ⟨c1, c2, c3, c4, ⟨q, c5, c6⟩, -⟩ := g.cl hk
    rw [ek] at z
    rw [ei, ek]
    exact c_claim hS.1 h10 c1 c2 c3 hb eb z (Gd.good (g.los hk c5 c6) (Eq.trans sz_los ez) (by omega))) (fun s => m_claim R hS.2.2.2.2.1.1.1 hS.2.2.2.2.1.1.2.1 (by have := g.1.1; omega) (fun k hk => g.cl hk) n) (fun z V' q => by
    obtain ⟨k, b, -, hk, ek, ei⟩ := hg z
    obtain ⟨d, q1, q2, q3⟩ := q
    rw [ei] at q2 q3 ⊢
    exact ⟨_, _, _, _, q3, g.los hk q1 q2⟩) sz_los.o
theorem st_post (hS : Sys G t own a m c D V) (hc : c ≤ 511) (x r u v w : Int32) : StepQ G MX9_post MX10_post [.int x, .int r, .int u, .int v, .int w] a m c t := by
  obtain ⟨hr, f, nt, nk, sz, R, g, ez, lz⟩ := hS.2.2.2.1.1
  have hle := hS.2.2.1
  have hg : ¬ sPoF D.1.1 x r u v w < 0 → ∃ p q : Nat, (p < 8 ∧ q < 4) ∧ x = nI p ∧ w = nI q ∧ ix w = q ∧ nk < 10 ∧ Gd hr (f + costN q) nt (nk + 1) (sAddK D.1.1 (nI p) r u v (nI q)) := fun z => by
    obtain ⟨⟨h1, h2, h3⟩, h4, h5⟩ := sPoF_ge z
    obtain ⟨p, hp, ep⟩ := gP_is h1
    obtain ⟨q, hq, eq⟩ := wIn_nI (hi := 3) (by decide) h3
    obtain ⟨v', v0, hv, ev⟩ := wIn_1n (hi := 999) (by decide) h2
    have h10 : nk < 10 := by
      rw [g.1.2.2.2.2] at h5
      have := mt (nI_leI (a := 10) (b := nk) (by decide) (by have := g.1.1; omega)).mpr h5
      omega
    rw [ep] at h4
    refine ⟨p, q, ⟨hp, hq⟩, ep, eq, by rw [eq]; exact nI_clamp (by omega), h10, ?_⟩
    rw [ev]
    exact g.post (b := 0) (t := 0) h10 hp hq hv (g.h2 (Int32.not_le.mpr h4))
  exact step_mu hS hc (v := D.1.1 3 0 5) (W' := sAddK D.1.1 x r u v w) (fun z => c_postF hS.1 z) (fun z => by
    obtain ⟨p, q, ⟨hp, hq⟩, ep, eq, ei, h10, hG⟩ := hg z
    obtain ⟨sz', a1, a2, a3⟩ := sz_addK (a := nI p) (b := r) (t := u) (v := v) (c := nI q) sz (by omega) ez
    rw [ep, eq] at z
    rw [ep, eq]
    exact c_post hS.1 hp hq (by rw [g.cK]; exact h10) z (Gd.good hG a3 a1)) (fun s => m_post R hS.2.2.2.2.1.1.1 hS.2.2.2.2.1.1.2.1 g.h3 (by have := g.1.1; omega) g.1.1.1 ez (by omega) x r u v w) (fun z V' q => by
    obtain ⟨p, q', -, ep, eq, ei, h10, hG⟩ := hg z
    rw [ei, ep, eq] at q
    rw [ep, eq]
    exact ⟨_, _, _, _, q, hG⟩) sz_addK
theorem st_undo (hS : Sys G t own a m c D V) : StepQ G MX9_undo MX10_undo [] a m c t := by
  have hs := hS.2.2.2.2.1.1.1
  have h5 := hS.2.2.2.2.1.1.2.1
  have hup : c - D.2.2.1.1 ≤ c + 1 - D.2.2.1.1 := by omega
  match hk : D.2.1.2.1 with
  | 0 => exact step_nu hS (c_undoF hS.1 hk) (fun s => m_undoF (by rw [hs, hk]; rfl))
  | k + 1 =>
    obtain ⟨u1, ⟨σ, u2⟩, u3⟩ := HRel.undo hS.2.2.2.2.1 hk
    refine step_mk hS (PC := fun D1 => ∃ S1 : SD, D1 = (S1, ((D.2.1.1 + 4) % 5, k, D.2.1.2.2), D.2.2) ∧ wEq S1.1 (hSt D.2.1 D.2.1.1).1 ∧ ∀ i, i < 2 → S1.2.2.1 i = (hSt D.2.1 D.2.1.1).2.2.1 i ∧ ((hSt D.2.1 D.2.1.1).2.2.1 i = 1 → wEq (S1.2.2.2 i) ((hSt D.2.1 D.2.1.1).2.2.2 i))) (PM := fun V' => V' = (unA V.1 V.2.1 (k * 1766) 1766, V.2.1, ySet V.2.2 0 2 (nI k)))
      ((c_undo hS.1 hk u2).mono (fun r t1 q => ?_)) (fun s => m_undo (by omega) (by rw [hs, hk])) (fun D1 V' q1 q2 => ?_)
    · obtain ⟨e, own1, S1, q1, q2, q3, q4⟩ := q
      exact ⟨e, own1, _, q1, Did.mono q4 (fun _ z => z) (by decide) (by decide), S1, rfl, q2, q3⟩
    · obtain ⟨S1, e1, e2, e3⟩ := q1
      rw [e1, q2]
      exact ⟨Nat.le_succ_of_le hS.2.2.1, SRel.cp (SRel.up (SRel.cg u1 (fun j hj => if_pos hj)) hup) e2 e3, HRel.up (u3 _ rfl (show (ySet V.2.2 0 2 (nI k)) 0 2 = nI k from ySet_at)) hup, TRel.cg hS.2.2.2.2.2 (show (ySet V.2.2 0 2 (nI k)) 0 4 = V.2.2 0 4 from ySet_k (by decide)) (show (ySet V.2.2 0 2 (nI k)) 1 = V.2.2 1 from yR_set (by decide))⟩
theorem st_take (hS : Sys G t own a m c D V) (q : Int32) : StepQ G MX9_take MX10_take [.int q] a m c t := by
  by_cases hq : wIn q 0 1
  · obtain ⟨i, hi, rfl⟩ := wIn_nI (hi := 1) (by decide) hq
    have hi : i < 2 := hi
    obtain ⟨hr, f, nt, nk, sz, R, g, ez, lz⟩ := hS.2.2.2.1.1
    have hup : c - D.2.2.1.1 ≤ c + 1 - D.2.2.1.1 := by omega
    have ev : (V.1 0).toInt32 = D.1.1 3 0 0 := (RH.m (V := V) R).O (k := 0) (by decide)
    refine step_mk hS (v := D.1.1 3 0 0) (PC := fun D1 => ∃ (H1 : HD) (rw1 : Nat → Option Nat) (R1 : Wd), D1 = ((D.1.1, rw1, upd D.1.2.2.1 i 1, up1 D.1.2.2.2 i (sCopy R1 D.1.1)), H1, D.2.2) ∧ KeptH D.2.1 D.1 H1) (PM := fun V' => V' = (tkA V.1 (588 + 589 * i) 588, (mRec V D.2.1.2.1).2))
      ((c_take hS.1 hi).mono (fun r t1 q => ?_)) (fun s => ?_) (fun D1 V' q1 q2 => ?_)
    · obtain ⟨e, own1, H1, rw1, R1, q1, q2, q3⟩ := q
      exact ⟨e, own1, _, q1, q3, H1, rw1, R1, rfl, q2⟩
    · have k := m_take (G := G) (s := s) (m := m) hi hS.2.2.2.2.1.1.1 hS.2.2.2.2.1.1.2.1
      rw [ev] at k
      exact k
    · obtain ⟨H1, rw1, R1, e1, e2⟩ := q1
      rw [e1, q2]
      refine ⟨Nat.le_succ_of_le hS.2.2.1, ⟨WRel.cg (WRel.up hS.2.2.2.1.1 hup) (fun j hj => (if_neg (by omega)).trans (if_neg (by omega))), fun i' hi' => ?_⟩, HRel.kept (HRel.up hS.2.2.2.2.1 hup) (SRel.up hS.2.2.2.1 hup) e2 rfl rfl, TRel.cg hS.2.2.2.2.2 (mRec_0 (by decide)) (mRec_r (by decide))⟩
      by_cases z : i' = i
      · subst z
        refine Or.inr ⟨upd_at, (if_neg (by omega)).trans (if_pos rfl), ?_⟩
        have k := WRel.cp (WRel.up hS.2.2.2.1.1 hup) (sCopy_eq R1 D.1.1)
        rw [← (if_pos rfl : up1 D.1.2.2.2 i' (sCopy R1 D.1.1) i' = sCopy R1 D.1.1)] at k
        refine WRel.cg k (fun j hj => ?_)
        refine (if_pos (by omega)).trans ?_
        rw [show 588 + 589 * i' + 1 + j - (588 + 589 * i' + 1) = j by omega]
      · have k := SlR.cg (SlR.up (hS.2.2.2.1.2 i' hi') hup) (N' := tkA V.1 (588 + 589 * i) 588) (fun j h1 h2 => (if_neg (by omega)).trans (if_neg (by omega)))
        have e3 : upd D.1.2.2.1 i 1 i' = D.1.2.2.1 i' := upd_ne z
        have e4 : up1 D.1.2.2.2 i (sCopy R1 D.1.1) i' = D.1.2.2.2 i' := if_neg z
        unfold SlR at k ⊢
        show (upd D.1.2.2.1 i 1 i' = 0 ∧ _) ∨ (upd D.1.2.2.1 i 1 i' = 1 ∧ _ ∧ WRel _ (up1 D.1.2.2.2 i (sCopy R1 D.1.1) i') _)
        rw [e3, e4]
        exact k
  · exact step_nu hS (c_takeF hS.1 hq) (fun s => m_takeF hq)
theorem st_restore (hS : Sys G t own a m c D V) (hc : c ≤ 511) (q : Int32) : StepQ G MX9_restore MX10_restore [.int q] a m c t := by
  by_cases hq : wIn q 0 1
  · obtain ⟨i, hi, rfl⟩ := wIn_nI (hi := 1) (by decide) hq
    have hi : i < 2 := hi
    have hup : c - D.2.2.1.1 ≤ c + 1 - D.2.2.1.1 := by omega
    rcases hS.2.2.2.1.2 i hi with ⟨f0, n0⟩ | ⟨f1, n1, wr⟩
    · exact step_nu hS (c_restoreN hS.1 hi f0) (fun s => m_restoreN hi n0)
    · have hle := hS.2.2.1
      have h0 : ¬ D.1.2.2.1 i = 0 := by rw [f1]; decide
      have h1 : ¬ V.1 (588 + 589 * i) = 0 := by rw [n1]; decide
      have wc := WRel.cp wr (sCopy_eq D.1.1 (D.1.2.2.2 i))
      obtain ⟨hr, f, nt, nk, sz, R, g, ez, lz⟩ := wc
      have ev : (V.1 (588 + 589 * i + 1)).toInt32 = sCopy D.1.1 (D.1.2.2.2 i) 3 0 0 := (RH.m (V := ((fun j => V.1 (588 + 589 * i + 1 + j)), V.2)) R).O (k := 0) (by decide)
      refine step_mk hS (PC := fun D1 => ∃ H1, D1 = ((sCopy D.1.1 (D.1.2.2.2 i), D.1.2), H1, D.2.2) ∧ KeptH D.2.1 D.1 H1) (PM := fun V' => V' = (unA V.1 V.1 (588 + 589 * i + 1) 588, (mRec V D.2.1.2.1).2))
        (cv_mu (c_restore hS.1 hi h0 (Gd.good g ez (by omega)))) (fun s => ?_) (fun D1 V' q1 q2 => ?_)
      · have k := m_restore (G := G) (s := s) (m := m) hi h1 hS.2.2.2.2.1.1.1 hS.2.2.2.2.1.1.2.1
        rw [ev] at k
        exact k
      · obtain ⟨H1, e1, e2⟩ := q1
        rw [e1, q2]
        refine ⟨Nat.le_succ_of_le hS.2.2.1, ⟨WRel.cg (WRel.up (WRel.cp wr (sCopy_eq D.1.1 (D.1.2.2.2 i))) hup) (fun j hj => if_pos hj), fun i' hi' => ?_⟩, HRel.kept (HRel.up hS.2.2.2.2.1 hup) (SRel.up hS.2.2.2.1 hup) e2 rfl rfl, TRel.cg hS.2.2.2.2.2 (mRec_0 (by decide)) (mRec_r (by decide))⟩
        exact SlR.cg (SlR.up (hS.2.2.2.1.2 i' hi') hup) (fun j h1 h2 => if_neg (by omega))
  · exact step_nu hS (c_restoreF hS.1 hq) (fun s => m_restoreF hq)
end STEP
