-- ===== snapshots; undo; the text =====
def TkQ (G : xG) (t : xA) (own : Nat → Nat) (a : Nat) (D : OD) (i : Nat) : Option Value → xA → Prop := fun r t1 => r = some (.int (D.1.1 3 0 0)) ∧ ∃ (own1 : Nat → Nat) (H1 : HD) (rw1 : Nat → Option Nat) (R : Wd), Ob G t1 own1 a ((D.1.1, rw1, upd D.1.2.2.1 i 1, up1 D.1.2.2.2 i (sCopy R D.1.1)), H1, D.2.2) ∧ KeptH D.2.1 D.1 H1 ∧ Did t t1 own own1 clsT 163 3247
def UnQ (G : xG) (t : xA) (own : Nat → Nat) (a : Nat) (D : OD) (k : Nat) : Option Value → xA → Prop := fun r t1 => r = some (.int (nI k)) ∧ ∃ (own1 : Nat → Nat) (S1 : SD), Ob G t1 own1 a (S1, ((D.2.1.1 + 4) % 5, k, D.2.1.2.2), D.2.2) ∧ wEq S1.1 (D.2.1.2.2.2.1 D.2.1.1) ∧ (∀ i, i < 2 → S1.2.2.1 i = D.2.1.2.2.2.2.2.1 D.2.1.1 i ∧ (D.2.1.2.2.2.2.2.1 D.2.1.1 i = 1 → wEq (S1.2.2.2 i) (D.2.1.2.2.2.2.2.2 D.2.1.1 i))) ∧ Did t t1 own own1 clsT 80 1620
def TeQ (G : xG) (t : xA) (own : Nat → Nat) (a : Nat) (D : OD) (v : Int32) (X : Nat × (Nat → Int32)) : Option Value → xA → Prop := fun r t1 => r = some (.int v) ∧ Ob G t1 own a (D.1, D.2.1, X, D.2.2.2) ∧ Did t t1 own own clsT 0 0
theorem tgS {j : Nat} : tgR j = 10 * (j + 2) := rfl
theorem ob_fill {G : xG} {t1 t2 : xA} {own1 own2 : Nat → Nat} {a i : Nat} {D : OD} {S : SD} (q1 : Ob G t1 own1 a D) (hi : i < 2) (p1 : StD G t2 own2 10 (a + 1) S) (p3 : Did t1 t2 own1 own2 (fun q => q = 10 ∨ q = 10 + 1 + i) 40 810) : Ob G t2 own2 a (S, D.2) :=
  ⟨p3.ob (by omega) q1.1, p1, p3.hs ⟨by omega, fun j _ => ⟨by rw [tgS]; omega, by rw [tgS]; omega, by rw [tgS]; omega⟩⟩ q1.2.2.1, p3.tx (by omega) q1.1.2.2 q1.2.2.2.1, p3.yx (by omega) q1.1.2.2 q1.2.2.2.2⟩
theorem c_takeF {G : xG} {t : xA} {own : Nat → Nat} {a : Nat} {D : OD} (h : Ob G t own a D) {q : Int32} (hF : ¬ wIn q 0 1) : xMe G MX9_take [.ref a, .int q] t (nuQ t (-1)) := by
  refine x_iload_n (k := 0) rfl rfl ?_
  refine x_iconst (v := 0) (k := 1) rfl (by decide) ?_
  refine x_iconst (v := 1) (k := 2) rfl (by decide) ?_
  refine x_sD (k := 3) rfl (by rfl) (c_isWithin _ _ _) okX9_isWithin viX9_isWithin mlRX9_106 ⟨Nat.le_of_ble_eq_true rfl, Nat.le_of_ble_eq_true rfl⟩ (by exact Nat.le_of_ble_eq_true rfl) rfl (by exact Nat.le_of_ble_eq_true rfl) ?_
  refine x_if_ne (tgt := 11) (k := 4) rfl (by decide) (fun c6 => absurd (bz_ne0 c6) hF) (fun c6 => ?_)
  refine x_iconst (v := -1) (k := 5) rfl (by decide) ?_
  exact x_irD (k := 6) rfl rfl rfl rfl
theorem c_take {G : xG} {t : xA} {own : Nat → Nat} {a : Nat} {D : OD} (h : Ob G t own a D) {i : Nat} (hi : i < 2) : xMe G MX9_take [.ref a, .int (nI i)] t (TkQ G t own a D i) := by
  refine x_iload_n (k := 0) rfl rfl ?_
  refine x_iconst (v := 0) (k := 1) rfl (by decide) ?_
  refine x_iconst (v := 1) (k := 2) rfl (by decide) ?_
  refine x_sD (k := 3) rfl (by rfl) (c_isWithin _ _ _) okX9_isWithin viX9_isWithin mlRX9_106 ⟨Nat.le_of_ble_eq_true rfl, Nat.le_of_ble_eq_true rfl⟩ (by exact Nat.le_of_ble_eq_true rfl) rfl (by exact Nat.le_of_ble_eq_true rfl) ?_
  refine x_if_ne (tgt := 11) (k := 4) rfl (by decide) (fun c6 => ?_) (fun c6 => absurd ⟨nI_pos (by omega), nI_nlt (a := 1) (b := i) (by omega) (by omega)⟩ (bz_eq0 c6))
  refine x_aload_n (k := 7) rfl rfl ?_
  refine x_get (k := 8) rfl flRX9_24 h.1.1 rfl ?_
  refine x_aload_n (k := 9) rfl rfl ?_
  refine x_get (k := 10) rfl flRX9_10 h.1.1 rfl ?_
  refine x_cX (ci := 0) (k := 11) rfl (by rfl) (keep_Ob h) okX0_keep viX0_keep mlRX9_50 ⟨Nat.le_of_ble_eq_true rfl, Nat.le_of_ble_eq_true rfl⟩ (by exact Nat.le_of_ble_eq_true rfl) rfl rfl h.2.2.1.1.1 (by exact Nat.le_of_ble_eq_true rfl) ?_
  intro r1 t1 h1
  obtain ⟨rfl, own1, H1, q1, q2, q3⟩ := h1
  refine x_aload_n (k := 12) rfl rfl ?_
  refine x_get (k := 13) rfl flRX9_10 q1.1.1 rfl ?_
  refine x_iload_n (k := 14) rfl rfl ?_
  refine x_aload_n (k := 15) rfl rfl ?_
  refine x_get (k := 16) rfl flRX9_20 q1.1.1 rfl ?_
  refine x_cX (ci := 4) (k := 17) rfl (by rfl) (fill_St q1.2.1 hi q1.W q1.own10 (by omega) (by have := q1.1.2.2; omega) (fun k hk => by omega) q1.2.1.2.2.2.1) okX4_fillSlot viX4_fillSlot mlRX9_110 ⟨Nat.le_of_ble_eq_true rfl, Nat.le_of_ble_eq_true rfl⟩ (by exact Nat.le_of_ble_eq_true rfl) rfl rfl q1.2.1.1.1 (by exact Nat.le_of_ble_eq_true rfl) ?_
  intro r2 t2 h2
  obtain ⟨rfl, own2, rw2, R, p1, p2, p3⟩ := h2
  have q5 : Ob G t2 own2 a ((D.1.1, rw2, upd D.1.2.2.1 i 1, up1 D.1.2.2.2 i (sCopy R D.1.1)), H1, D.2.2) := ob_fill (S := (D.1.1, rw2, upd D.1.2.2.1 i 1, up1 D.1.2.2.2 i (sCopy R D.1.1))) q1 hi p1 p3
  refine x_aload_n (k := 18) rfl rfl ?_
  refine x_get (k := 19) rfl flRX9_20 q5.1.1 rfl ?_
  refine x_get (v := .int (D.1.1 3 0 0)) (k := 20) rfl flRX9_114 (isW_0 p2) rfl ?_
  exact x_iret (k := 21) rfl rfl rfl ⟨rfl, own2, H1, rw2, R, q5, q2, q3.tr p3 (fun _ h => h) (fun q h => by show q ≠ 3; omega) (by omega) (by omega)⟩
theorem c_restoreF {G : xG} {t : xA} {own : Nat → Nat} {a : Nat} {D : OD} (h : Ob G t own a D) {q : Int32} (hF : ¬ wIn q 0 1) : xMe G MX9_restore [.ref a, .int q] t (nuQ t (-1)) := by
  refine x_iload_n (k := 0) rfl rfl ?_
  refine x_iconst (v := 0) (k := 1) rfl (by decide) ?_
  refine x_iconst (v := 1) (k := 2) rfl (by decide) ?_
  refine x_sD (k := 3) rfl (by rfl) (c_isWithin _ _ _) okX9_isWithin viX9_isWithin mlRX9_106 ⟨Nat.le_of_ble_eq_true rfl, Nat.le_of_ble_eq_true rfl⟩ (by exact Nat.le_of_ble_eq_true rfl) rfl (by exact Nat.le_of_ble_eq_true rfl) ?_
  refine x_if_ne (tgt := 11) (k := 4) rfl (by decide) (fun c6 => absurd (bz_ne0 c6) hF) (fun c6 => ?_)
  refine x_iconst (v := -1) (k := 5) rfl (by decide) ?_
  exact x_irD (k := 6) rfl rfl rfl rfl
theorem c_restoreN {G : xG} {t : xA} {own : Nat → Nat} {a : Nat} {D : OD} (h : Ob G t own a D) {i : Nat} (hi : i < 2) (hf : D.1.2.2.1 i = 0) : xMe G MX9_restore [.ref a, .int (nI i)] t (nuQ t (-2)) := by
  refine x_iload_n (k := 0) rfl rfl ?_
  refine x_iconst (v := 0) (k := 1) rfl (by decide) ?_
  refine x_iconst (v := 1) (k := 2) rfl (by decide) ?_
  refine x_sD (k := 3) rfl (by rfl) (c_isWithin _ _ _) okX9_isWithin viX9_isWithin mlRX9_106 ⟨Nat.le_of_ble_eq_true rfl, Nat.le_of_ble_eq_true rfl⟩ (by exact Nat.le_of_ble_eq_true rfl) rfl (by exact Nat.le_of_ble_eq_true rfl) ?_
  refine x_if_ne (tgt := 11) (k := 4) rfl (by decide) (fun c6 => ?_) (fun c6 => absurd ⟨nI_pos (by omega), nI_nlt (a := 1) (b := i) (by omega) (by omega)⟩ (bz_eq0 c6))
  refine x_aload_n (k := 7) rfl rfl ?_
  refine x_get (k := 8) rfl flRX9_10 h.1.1 rfl ?_
  refine x_iload_n (k := 9) rfl rfl ?_
  refine x_cVv (ci := 4) (k := 10) rfl (by rfl) (c_snapN h.2.1.1.1 h.2.1.1.2.2.1 h.2.1.1.2.2.2 hi hf) okX4_snapshotIn viX4_snapshotIn mlRX9_118 ⟨Nat.le_of_ble_eq_true rfl, Nat.le_of_ble_eq_true rfl⟩ (by exact Nat.le_of_ble_eq_true rfl) rfl rfl h.2.1.1.1 (by exact Nat.le_of_ble_eq_true rfl) ?_
  refine x_astore_nN (k := 11) rfl (by decide) ?_
  refine x_aload_nN (k := 12) rfl rfl ?_
  refine x_ifnonnullN (k := 13) rfl ?_
  refine x_bipush (v := -2) (k := 14) rfl (by decide) ?_
  exact x_irD (k := 15) rfl rfl rfl rfl
theorem c_restore {G : xG} {t : xA} {own : Nat → Nat} {a : Nat} {D : OD} (h : Ob G t own a D) {i : Nat} (hi : i < 2) (hf : ¬ D.1.2.2.1 i = 0) (hg : wGood (sCopy D.1.1 (D.1.2.2.2 i))) : xMe G MX9_restore [.ref a, .int (nI i)] t (MuQ G t own a D (sCopy D.1.1 (D.1.2.2.2 i) 3 0 0) (sCopy D.1.1 (D.1.2.2.2 i))) := by
  have hf1 : D.1.2.2.1 i = 1 := (h.2.1.2.2.2.2 i hi).1.resolve_left hf
  obtain ⟨r, hr⟩ := (h.2.1.2.2.2.2 i hi).2.1 hf1
  refine x_iload_n (k := 0) rfl rfl ?_
  refine x_iconst (v := 0) (k := 1) rfl (by decide) ?_
  refine x_iconst (v := 1) (k := 2) rfl (by decide) ?_
  refine x_sD (k := 3) rfl (by rfl) (c_isWithin _ _ _) okX9_isWithin viX9_isWithin mlRX9_106 ⟨Nat.le_of_ble_eq_true rfl, Nat.le_of_ble_eq_true rfl⟩ (by exact Nat.le_of_ble_eq_true rfl) rfl (by exact Nat.le_of_ble_eq_true rfl) ?_
  refine x_if_ne (tgt := 11) (k := 4) rfl (by decide) (fun c6 => ?_) (fun c6 => absurd ⟨nI_pos (by omega), nI_nlt (a := 1) (b := i) (by omega) (by omega)⟩ (bz_eq0 c6))
  refine x_aload_n (k := 7) rfl rfl ?_
  refine x_get (k := 8) rfl flRX9_10 h.1.1 rfl ?_
  refine x_iload_n (k := 9) rfl rfl ?_
  refine x_cVv (ci := 4) (k := 10) rfl (by rfl) (c_snapR h.2.1.1.1 h.2.1.1.2.2.1 h.2.1.1.2.2.2 hi hf hr) okX4_snapshotIn viX4_snapshotIn mlRX9_118 ⟨Nat.le_of_ble_eq_true rfl, Nat.le_of_ble_eq_true rfl⟩ (by exact Nat.le_of_ble_eq_true rfl) rfl rfl h.2.1.1.1 (by exact Nat.le_of_ble_eq_true rfl) ?_
  refine x_astore_n (k := 11) rfl (by decide) ?_
  refine x_aload_n (k := 12) rfl rfl ?_
  refine x_ifnonnull (tgt := 27) (k := 13) rfl (by decide) ?_
  refine x_aload_n (k := 16) rfl rfl ?_
  refine x_get (k := 17) rfl flRX9_24 h.1.1 rfl ?_
  refine x_aload_n (k := 18) rfl rfl ?_
  refine x_get (k := 19) rfl flRX9_10 h.1.1 rfl ?_
  refine x_cX (ci := 0) (k := 20) rfl (by rfl) (keep_Ob h) okX0_keep viX0_keep mlRX9_50 ⟨Nat.le_of_ble_eq_true rfl, Nat.le_of_ble_eq_true rfl⟩ (by exact Nat.le_of_ble_eq_true rfl) rfl rfl h.2.2.1.1.1 (by exact Nat.le_of_ble_eq_true rfl) ?_
  intro r1 t1 h1
  obtain ⟨rfl, own1, H1, q1, q2, q3⟩ := h1
  obtain ⟨p1, p2, p3, p4⟩ := (q1.2.1.2.2.2.2 i hi).2.2 r hr
  have p5 := p4 hf1
  refine x_aload_n (k := 21) rfl rfl ?_
  refine x_get (k := 22) rfl flRX9_20 q1.1.1 rfl ?_
  refine x_aload_n (k := 23) rfl rfl ?_
  refine x_cV (ci := 8) (k := 24) rfl (by rfl) (wV_at q1.W (c_copyW (dj_own p2 q1.own10 (by omega)) p1 p5.2.1 p5.1 p5.2.2)) okX8_copyFrom viX8_copyFrom mlRX9_122 ⟨Nat.le_of_ble_eq_true rfl, Nat.le_of_ble_eq_true rfl⟩ (by exact Nat.le_of_ble_eq_true rfl) rfl rfl (isW_0 q1.W) (by exact Nat.le_of_ble_eq_true rfl) ?_
  refine x_aload_n (k := 25) rfl rfl ?_
  refine x_get (k := 26) rfl flRX9_20 (q1.setW hg).1.1.1 rfl ?_
  refine x_get (v := .int (sCopy D.1.1 (D.1.2.2.2 i) 3 0 0)) (k := 27) rfl flRX9_114 (isW_0 isW_set) rfl ?_
  exact x_iret (k := 28) rfl rfl rfl (MuQ.mk q1 q2 q3 hg)
theorem c_undoF {G : xG} {t : xA} {own : Nat → Nat} {a : Nat} {D : OD} (h : Ob G t own a D) (h0 : D.2.1.2.1 = 0) : xMe G MX9_undo [.ref a] t (nuQ t (-2)) := by
  have hc := h.2.2.1.1.1
  rw [h0] at hc
  refine x_aload_n (k := 0) rfl rfl ?_
  refine x_get (k := 1) rfl flRX9_24 h.1.1 rfl ?_
  refine x_cVv (ci := 0) (k := 2) rfl (by rfl) (c_remN hc) okX0_removeLatest viX0_removeLatest mlRX9_125 ⟨Nat.le_of_ble_eq_true rfl, Nat.le_of_ble_eq_true rfl⟩ (by exact Nat.le_of_ble_eq_true rfl) rfl rfl h.2.2.1.1.1 (by exact Nat.le_of_ble_eq_true rfl) ?_
  refine x_astore_nN (k := 3) rfl (by decide) ?_
  refine x_aload_nN (k := 4) rfl rfl ?_
  refine x_ifnonnullN (k := 5) rfl ?_
  refine x_bipush (v := -2) (k := 6) rfl (by decide) ?_
  exact x_irD (k := 7) rfl rfl rfl rfl
theorem c_undo {G : xG} {t : xA} {own : Nat → Nat} {a : Nat} {D : OD} (h : Ob G t own a D) {k σ : Nat} (hk : D.2.1.2.1 = k + 1) (hr : D.2.1.2.2.1 D.2.1.1 = some σ) : xMe G MX9_undo [.ref a] t (UnQ G t own a D k) := by
  obtain ⟨⟨c0, c1⟩, ho, ⟨hn, hk5⟩, hR⟩ := h.2.2.1
  have c0' := c0
  rw [hk] at c0'
  have hd : Did t (aUp (aUp t (a + 44) (eO 0 (hsF (a + 44) ((D.2.1.1 + 4) % 5) (k + 1)))) (a + 44) (eO 0 (hsF (a + 44) ((D.2.1.1 + 4) % 5) k))) own own (fun q => q = 2) 0 0 :=
    ⟨fun q hq hn => by rw [aUp_ne (fun e => hn (by rw [e]; exact ho.1)), aUp_ne (fun e => hn (by rw [e]; exact ho.1))], fun _ _ => rfl, Nat.le_refl _, Nat.le_refl _, Nat.le_refl _, Nat.le_refl _⟩
  have hs1 := hd.st ⟨by decide, by decide, by decide⟩ h.2.1
  have hs2 := hd.st ⟨by rw [tgS]; omega, by rw [tgS]; omega, by rw [tgS]; omega⟩ (hR D.2.1.1 hn σ hr)
  have ho1 := hd.ob (by decide) h.1
  have cA : ∀ e, (aUp (aUp t (a + 44) (eO 0 (hsF (a + 44) ((D.2.1.1 + 4) % 5) (k + 1)))) (a + 44) e).1 (a + 44) = some e := fun e => aUp_at
  have cB : (aUp (aUp t (a + 44) (eO 0 (hsF (a + 44) ((D.2.1.1 + 4) % 5) (k + 1)))) (a + 44) (eO 0 (hsF (a + 44) ((D.2.1.1 + 4) % 5) k))).1 (a + 44 + 1) = t.1 (a + 44 + 1) := by rw [aUp_ne (by omega), aUp_ne (by omega)]
  refine x_aload_n (k := 0) rfl rfl ?_
  refine x_get (k := 1) rfl flRX9_24 h.1.1 rfl ?_
  refine x_cVv (ci := 0) (k := 2) rfl (by rfl) (c_rem c0' c1 hn (by omega) hr) okX0_removeLatest viX0_removeLatest mlRX9_125 ⟨Nat.le_of_ble_eq_true rfl, Nat.le_of_ble_eq_true rfl⟩ (by exact Nat.le_of_ble_eq_true rfl) rfl rfl h.2.2.1.1.1 (by exact Nat.le_of_ble_eq_true rfl) ?_
  have cA := cA (eO 0 (hsF (a + 44) ((D.2.1.1 + 4) % 5) k))
  generalize aUp (aUp t (a + 44) (eO 0 (hsF (a + 44) ((D.2.1.1 + 4) % 5) (k + 1)))) (a + 44) (eO 0 (hsF (a + 44) ((D.2.1.1 + 4) % 5) k)) = t1 at hd hs1 hs2 ho1 cA cB ⊢
  refine x_astore_n (k := 3) rfl (by decide) ?_
  refine x_aload_n (k := 4) rfl rfl ?_
  refine x_ifnonnull (tgt := 15) (k := 5) rfl (by decide) ?_
  refine x_aload_n (k := 8) rfl rfl ?_
  refine x_get (k := 9) rfl flRX9_10 ho1.1 rfl ?_
  refine x_aload_n (k := 10) rfl rfl ?_
  refine x_cX (ci := 4) (k := 11) rfl (by rfl) (c_cpS (by rw [tgS]; unfold tgA; omega) hs1 hs2) okX4_copyFrom viX4_copyFrom mlRX9_129 ⟨Nat.le_of_ble_eq_true rfl, Nat.le_of_ble_eq_true rfl⟩ (by exact Nat.le_of_ble_eq_true rfl) rfl rfl hs1.1.1 (by exact Nat.le_of_ble_eq_true rfl) ?_
  intro r2 t2 h2
  obtain ⟨rfl, own2, W1, rw1, fl1, Wr1, k1, k2, k3, k4⟩ := h2
  have ho2 := k4.ob (by unfold tg3; omega) ho1
  have dd := hd.tr k4 (T2 := clsT) (c2 := 80) (m2 := 1620) (fun q z => by show q ≠ 3; omega) (fun q z => by unfold tg3 at z; show q ≠ 3; omega) (by omega) (by omega)
  have e0 : t2.1 (a + 44) = some (eO 0 (hsF (a + 44) ((D.2.1.1 + 4) % 5) k)) := (k4.at (by have := ho1.2.2; omega) ho.1 (by unfold tg3; omega)).trans cA
  have e1 : t2.1 (a + 44 + 1) = some (eR G 8 5 D.2.1.2.2.1) := ((k4.at (by have := ho1.2.2; omega) ho.2.1 (by unfold tg3; omega)).trans cB).trans c1
  refine x_aload_n (k := 12) rfl rfl ?_
  refine x_get (k := 13) rfl flRX9_24 ho2.1 rfl ?_
  refine x_get (k := 14) rfl flRX9_131 e0 rfl ?_
  refine x_iret (k := 15) rfl rfl rfl ⟨rfl, own2, (W1, rw1, fl1, Wr1), ⟨ho2, k1, ⟨⟨e0, e1⟩, ⟨(dd.2.1 _ (by have := h.1.2.2; omega)).trans ho.1, (dd.2.1 _ (by have := h.1.2.2; omega)).trans ho.2.1, by have := ho2.2.2; omega⟩, ⟨Nat.mod_lt _ (by decide), by show k ≤ 5; omega⟩, fun j hj σ' hr' => k4.st (by unfold tg3; rw [tgS]; omega) (hd.st (by rw [tgS]; omega) (hR j hj σ' hr'))⟩, k4.tx (by unfold tg3; omega) ho1.2.2 (hd.tx (by decide) h.1.2.2 h.2.2.2.1), k4.yx (by unfold tg3; omega) ho1.2.2 (hd.yx (by decide) h.1.2.2 h.2.2.2.2)⟩, k2, k3, dd⟩
theorem i2c_c : ∀ c : Nat, c < 256 → ((nI c).toUInt32 % 65536).toInt32 = nI c := by decide +kernel
theorem ob_text {G : xG} {t t1 : xA} {own : Nat → Nat} {a : Nat} {D : OD} (h : Ob G t own a D) {X : Nat × (Nat → Int32)} (hd : Did t t1 own own (fun q => q = 5) 0 0) (hx : TxOk G t1 (a + 46) X.1 X.2) : Ob G t1 own a (D.1, D.2.1, X, D.2.2.2) ∧ Did t t1 own own clsT 0 0 :=
  ⟨⟨hd.ob (by decide) h.1, hd.st (by decide) h.2.1, hd.hs ⟨by decide, fun j _ => ⟨by rw [tgS]; omega, by rw [tgS]; omega, by rw [tgS]; omega⟩⟩ h.2.2.1, ⟨hx, h.2.2.2.1.2⟩, hd.yx (by decide) h.1.2.2 h.2.2.2.2⟩, hd.mono (fun q z => by show q ≠ 3; omega) (Nat.le_refl _) (Nat.le_refl _)⟩