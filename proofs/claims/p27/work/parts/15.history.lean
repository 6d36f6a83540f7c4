-- ===== one State copied into another; a new State; the history; the text =====
section XC3
variable {G : xG} {M M' : xM} {pc : Nat} {ls : List (Nat × Value)} {st stk Ar : List Value} {s : xA} {Q : Option Value → xA → Prop}
theorem x_cVv {s1 : xA} {v : Value} {k idx n a ci : Nat} {fs : List Value} (hk : (mIn M)[k]? = some (pc, .invokevirtual idx, 3)) (hs : stk = Ar.reverse ++ .ref a :: st) (hb : xMe G M' (.ref a :: Ar) s (fun r s2 => r = some v ∧ s2 = s1)) (ho : xOk M' n) (hv : xVi (mY M')) (hw : Cond.methodLink (mOwn M) idx (mY M') ∈ gW) (hR : xRm M M') (hlen : (lg_sl (.ref a :: Ar)).length ≤ mNL M') (hn : Ar.length = n) (hc : (vwCl[ci]?).map (fun q => q.1) = some (mY M').cls) (hh : s.1 a = some (eO ci fs)) (hst : (st.map fun v => v.category).sum ≤ 8) (kk : xE G M (pc + 3) ls (v :: st) s1 Q) : xE G M pc ls stk s Q :=
  x_callV hk ho hv hw hR hlen hn hc hh hst hs hb (fun r s2 h => by rw [h.1, h.2]; exact kk)
end XC3
theorem St1.unfill {G : xG} {t : xA} {own : Nat → Nat} {τ σ i : Nat} {W : Wd} {rw : Nat → Option Nat} {fl : Nat → Int32} {Wr : Nat → Wd} (h : St1 G t own τ σ W rw fl Wr) : St1 G (aUp t (σ + 42) (eZ G 2 (upd fl i 0))) own τ σ W rw (upd fl i 0) Wr ∧ Did t (aUp t (σ + 42) (eZ G 2 (upd fl i 0))) own own (fun a => a = τ) 0 0 := by
  obtain ⟨⟨c0, c1, c2, c3⟩, h1, h2, h3, h4⟩ := h
  refine ⟨⟨⟨(aUp_ne (by omega)).trans c0, isW_kept c1 (fun k h => aUp_ne (by omega)), (aUp_ne (by omega)).trans c2, aUp_at⟩, h1, h2, h3, fun j hj => ?_⟩, fun q hq hn => aUp_ne (fun e => hn (by rw [e]; exact h1 42 (by omega))), fun _ _ => rfl, Nat.le_refl _, Nat.le_refl _, Nat.le_refl _, Nat.le_refl _⟩
  obtain ⟨g1, g2, g3⟩ := h4 j hj
  have hk : ∀ r, rw j = some r → isW G (aUp t (σ + 42) (eZ G 2 (upd fl i 0))) r (Wr j) := fun r hr => by
    obtain ⟨p1, p2, p3, p4⟩ := g3 r hr
    have ho := out_own h1 p2 (by omega)
    exact isW_kept p1 (fun k h => aUp_ne (by omega))
  by_cases e : j = i
  · subst e
    have e0 : upd fl j 0 j = 0 := if_pos rfl
    rw [e0]
    exact ⟨Or.inl rfl, fun h => absurd h (by decide), fun r hr => ⟨hk r hr, (g3 r hr).2.1, (g3 r hr).2.2.1, fun h => absurd h (by decide)⟩⟩
  · have e0 : upd fl i 0 j = fl j := if_neg e
    rw [e0]
    exact ⟨g1, g2, fun r hr => ⟨hk r hr, (g3 r hr).2.1, (g3 r hr).2.2.1, (g3 r hr).2.2.2⟩⟩
theorem upd_at {f : Nat → Int32} {i : Nat} {x : Int32} : upd f i x i = x := if_pos rfl
theorem upd_ne {f : Nat → Int32} {i j : Nat} {x : Int32} (h : j ≠ i) : upd f i x j = f j := if_neg h
/-- two States' tags are apart -/
def tgA (τ τ' : Nat) : Prop := τ + 2 < τ' ∨ τ' + 2 < τ
abbrev tg3 (τ : Nat) : Nat → Prop := fun a => a = τ ∨ a = τ + 1 ∨ a = τ + 2
def StQ (G : xG) (t : xA) (own : Nat → Nat) (τ σ : Nat) (W' : Wd) (fl' : Nat → Int32) (Wr' : Nat → Wd) (c m : Nat) : Option Value → xA → Prop := fun r t1 => r = none ∧ ∃ (own1 : Nat → Nat) (W1 : Wd) (rw1 : Nat → Option Nat) (fl1 : Nat → Int32) (Wr1 : Nat → Wd), St1 G t1 own1 τ σ W1 rw1 fl1 Wr1 ∧ wEq W1 W' ∧ (∀ i, i < 2 → fl1 i = fl' i ∧ (fl' i = 1 → wEq (Wr1 i) (Wr' i))) ∧ Did t t1 own own1 (tg3 τ) c m

theorem l_cpS0 {G : xG} {t : xA} {σ σ' i : Nat} {rw' : Nat → Option Nat} {fl fl' : Nat → Int32} {Q : Option Value → xA → Prop} (hi : i < 2) (hz : fl' i = 0) (b0 : t.1 σ' = some (eO 4 (stF σ'))) (b2 : t.1 (σ' + 41) = some (eR G 7 2 rw')) (b3 : t.1 (σ' + 42) = some (eZ G 2 fl')) (c0 : t.1 σ = some (eO 4 (stF σ))) (c3 : t.1 (σ + 42) = some (eZ G 2 fl)) (kk : xE G MX4_copyFrom 13 [(0, .ref σ), (1, .ref σ'), (2, .int (nI (i + 1))), (3, .null)] [] (aUp t (σ + 42) (eZ G 2 (upd fl i 0))) Q) : xE G MX4_copyFrom 20 [(0, .ref σ), (1, .ref σ'), (2, .int (nI i))] [.int (nI i), .ref σ'] t Q := by
  refine x_cVv (ci := 4) (k := 12) rfl (by rfl) (c_snapN b0 b2 b3 hi hz) okX4_snapshotIn viX4_snapshotIn mlRX4_30 ⟨Nat.le_of_ble_eq_true rfl, Nat.le_of_ble_eq_true rfl⟩ (by exact Nat.le_of_ble_eq_true rfl) rfl rfl b0 (by exact Nat.le_of_ble_eq_true rfl) ?_
  refine x_astore_nN (k := 13) rfl (by decide) ?_
  refine x_aload_n (k := 14) rfl rfl ?_
  refine x_get (k := 15) rfl flRX4_22 c0 rfl ?_
  refine x_iload_n (k := 16) rfl rfl ?_
  refine x_iconst (v := 0) (k := 17) rfl (by decide) ?_
  refine z_put (k := 18) rfl c3 rfl hi (by decide) nar0 ?_
  refine x_aload_nN (k := 19) rfl rfl ?_
  refine x_ifnullN (tgt := 41) (k := 20) rfl (by decide) ?_
  refine x_iinc (k := 25) rfl rfl (nI_1 i) (by decide) ?_
  refine x_goto (tgt := 13) (k := 26) rfl (by decide) ?_
  exact kk
theorem l_cpS1 {G : xG} {t : xA} {σ σ' i : Nat} {rw' : Nat → Option Nat} {fl fl' : Nat → Int32} {Q : Option Value → xA → Prop} (hi : i < 2) {r : Nat} {Q' : Option Value → xA → Prop} (hz : ¬ fl' i = 0) (hr : rw' i = some r) (b0 : t.1 σ' = some (eO 4 (stF σ'))) (b2 : t.1 (σ' + 41) = some (eR G 7 2 rw')) (b3 : t.1 (σ' + 42) = some (eZ G 2 fl')) (c0 : t.1 σ = some (eO 4 (stF σ))) (c3 : t.1 (σ + 42) = some (eZ G 2 fl)) (hf : xMe G MX4_fillSlot [.ref σ, .int (nI i), .ref r] (aUp t (σ + 42) (eZ G 2 (upd fl i 0))) Q') (kk : ∀ q t1, Q' q t1 → q = none ∧ xE G MX4_copyFrom 13 [(0, .ref σ), (1, .ref σ'), (2, .int (nI (i + 1))), (3, .ref r)] [] t1 Q) : xE G MX4_copyFrom 20 [(0, .ref σ), (1, .ref σ'), (2, .int (nI i))] [.int (nI i), .ref σ'] t Q := by
  refine x_cVv (ci := 4) (k := 12) rfl (by rfl) (c_snapR b0 b2 b3 hi hz hr) okX4_snapshotIn viX4_snapshotIn mlRX4_30 ⟨Nat.le_of_ble_eq_true rfl, Nat.le_of_ble_eq_true rfl⟩ (by exact Nat.le_of_ble_eq_true rfl) rfl rfl b0 (by exact Nat.le_of_ble_eq_true rfl) ?_
  refine x_astore_n (k := 13) rfl (by decide) ?_
  refine x_aload_n (k := 14) rfl rfl ?_
  refine x_get (k := 15) rfl flRX4_22 c0 rfl ?_
  refine x_iload_n (k := 16) rfl rfl ?_
  refine x_iconst (v := 0) (k := 17) rfl (by decide) ?_
  refine z_put (k := 18) rfl c3 rfl hi (by decide) nar0 ?_
  refine x_aload_n (k := 19) rfl rfl ?_
  refine x_ifnull (k := 20) rfl ?_
  refine x_aload_n (k := 21) rfl rfl ?_
  refine x_iload_n (k := 22) rfl rfl ?_
  refine x_aload_n (k := 23) rfl rfl ?_
  refine x_cX (ci := 4) (k := 24) rfl (by rfl) (hf) okX4_fillSlot viX4_fillSlot mlRX4_34 ⟨Nat.le_of_ble_eq_true rfl, Nat.le_of_ble_eq_true rfl⟩ (by exact Nat.le_of_ble_eq_true rfl) rfl rfl ((aUp_ne (by omega)).trans c0) (by exact Nat.le_of_ble_eq_true rfl) ?_
  intro q1 t1 hq1
  obtain rfl := (kk q1 t1 hq1).1
  refine x_iinc (k := 25) rfl rfl (nI_1 i) (by decide) ?_
  refine x_goto (tgt := 13) (k := 26) rfl (by decide) ?_
  exact (kk _ t1 hq1).2
theorem l_cpS {G : xG} {t0 : xA} {own0 : Nat → Nat} {τ τ' σ σ' : Nat} {W' : Wd} {rw' : Nat → Option Nat} {fl' : Nat → Int32} {Wr' : Nat → Wd} (hA : tgA τ τ') : ∀ (d i : Nat) (t : xA) (own : Nat → Nat) (W : Wd) (rw : Nat → Option Nat) (fl : Nat → Int32) (Wr : Nat → Wd) (ls : List (Nat × Value)), 2 - i < d → i ≤ 2 → St1 G t own τ σ W rw fl Wr → St1 G t own τ' σ' W' rw' fl' Wr' → wEq W W' → (∀ j, j < i → fl j = fl' j ∧ (fl' j = 1 → wEq (Wr j) (Wr' j))) → Did t0 t own0 own (tg3 τ) (40 * i) (810 * i) → ls.lookup 0 = some (.ref σ) → ls.lookup 1 = some (.ref σ') → ls.lookup 2 = some (.int (nI i)) → xE G MX4_copyFrom 13 ls [] t (StQ G t0 own0 τ σ W' fl' Wr' 80 1620) := by
  intro d
  induction d with
  | zero =>
    intro i t own W rw fl Wr ls hd
    exact absurd hd (Nat.not_lt_zero _)
  | succ d ih =>
    intro i t own W rw fl Wr ls hd hi hs hs' hW hr hD g0 g1 g2
    refine x_sub (ls' := [(0, .ref σ), (1, .ref σ'), (2, .int (nI i))]) (by simp [*]) ?_
    refine x_iload_n (k := 7) rfl rfl ?_
    refine x_iconst (v := 2) (k := 8) rfl (by decide) ?_
    refine x_icmp_ge (tgt := 47) (k := 9) rfl (by decide) (fun c15 => ?_) (fun c15 => ?_)
    · have e : i = 2 := by
        have := (le_nI nI2 (by omega) (by omega)).mp c15
        omega
      subst e
      exact x_ret (k := 27) rfl rfl ⟨rfl, own, W, rw, fl, Wr, hs, hW, hr, hD⟩
    · have hin : i < 2 := by
        have := mt (le_nI nI2 (by omega) (by omega)).mpr c15
        omega
      refine x_aload_n (k := 10) rfl rfl ?_
      refine x_iload_n (k := 11) rfl rfl ?_
      obtain ⟨q1, q2⟩ := St1.unfill (i := i) hs
      have hs2 := q2.st (by unfold tgA at hA; omega) hs'
      obtain ⟨⟨c0, c1, c2, c3⟩, h1, h2, h3, h4⟩ := hs
      obtain ⟨⟨b0, b1, b2, b3⟩, f1, f2, f3, f4⟩ := hs'
      by_cases hz : fl' i = 0
      · exact l_cpS0 hin hz b0 b2 b3 c0 c3 (ih (i + 1) _ own W rw (upd fl i 0) Wr _ (by omega) (by omega) q1 hs2 hW (fun j hj => by
          by_cases e : j = i
          · subst e
            exact ⟨upd_at.trans hz.symm, fun h => absurd (hz.symm.trans h) (by decide)⟩
          · rw [upd_ne e]
            exact hr j (by omega)) (hD.tr q2 (fun _ h => h) (fun _ h => Or.inl h) (by omega) (by omega)) rfl rfl rfl)
      · have hz1 : fl' i = 1 := (f4 i hin).1.resolve_left hz
        obtain ⟨r, hr1⟩ := (f4 i hin).2.1 hz1
        obtain ⟨p1, p2, p3, p4⟩ := (hs2.2.2.2.2 i hin).2.2 r hr1
        have ho := out_own h1 p2 (by unfold tgA at hA; omega)
        refine l_cpS1 hin hz hr1 b0 b2 b3 c0 c3 (fill_St q1 hin p1 p2 (by unfold tgA at hA; omega) p3 (fun k hk => ⟨by omega, by omega⟩) (p4 hz1)) (fun q t1 hq => ?_)
        obtain ⟨rfl, own1, rw1, R, k1, k2, k3⟩ := hq
        refine ⟨rfl, ?_⟩
        refine ih (i + 1) t1 own1 W rw1 _ _ _ (by omega) (by omega) k1 (k3.st (by unfold tgA at hA; omega) hs2) hW (fun j hj => ?_) ((hD.tr q2 (c2 := 40 * i) (m2 := 810 * i) (fun _ h => h) (fun _ h => Or.inl h) (by omega) (by omega)).tr k3 (fun _ h => h) (fun a h => by have := hin; unfold tg3; omega) (by omega) (by omega)) rfl rfl rfl
        by_cases e : j = i
        · subst e
          refine ⟨upd_at.trans hz1.symm, fun _ => ?_⟩
          rw [up1, if_pos rfl]
          exact sCopy_eq _ _
        · rw [upd_ne e, upd_ne e, up1, if_neg e]
          exact hr j (by omega)
theorem c_cpS {G : xG} {t : xA} {own : Nat → Nat} {τ τ' σ σ' : Nat} {W W' : Wd} {rw rw' : Nat → Option Nat} {fl fl' : Nat → Int32} {Wr Wr' : Nat → Wd} (hA : tgA τ τ') (hs : St1 G t own τ σ W rw fl Wr) (hs' : St1 G t own τ' σ' W' rw' fl' Wr') : xMe G MX4_copyFrom [.ref σ, .ref σ'] t (StQ G t own τ σ W' fl' Wr' 80 1620) := by
  obtain ⟨⟨c0, c1, c2, c3⟩, h1, h2, h3, h4⟩ := id hs
  obtain ⟨⟨b0, b1, b2, b3⟩, f1, f2, f3, f4⟩ := id hs'
  have m1 : ∀ k, k < 40 → own (σ + 1 + k) = τ := fun k h => by have := h1 (1 + k) (by omega); rw [← Nat.add_assoc] at this; exact this
  have m2 : ∀ k, k < 40 → own (σ' + 1 + k) = τ' := fun k h => by have := f1 (1 + k) (by omega); rw [← Nat.add_assoc] at this; exact this
  have hj : dj (σ' + 1) (σ + 1) := dj_own m2 m1 (by unfold tgA at hA; omega)
  have hD : Did t (setW G t (σ + 1) (sCopy W W')) own own (tg3 τ) 0 0 := ⟨fun q hq hn => setW_out (by
    by_cases a : q < σ + 1
    · exact Or.inl a
    · by_cases b : σ + 1 + 40 ≤ q
      · exact Or.inr b
      · exact absurd (Or.inl (by have := m1 (q - (σ + 1)) (by omega); rw [show σ + 1 + (q - (σ + 1)) = q by omega] at this; exact this)) hn), fun _ _ => rfl, Nat.le_refl _, Nat.le_refl _, Nat.le_refl _, Nat.le_refl _⟩
  have hs1 : St1 G (setW G t (σ + 1) (sCopy W W')) own τ σ (sCopy W W') rw fl Wr := by
    refine ⟨⟨(setW_out (by omega)).trans c0, isW_set, (setW_out (by omega)).trans c2, (setW_out (by omega)).trans c3⟩, h1, h2, (sCopy_eq W W').good f3, fun i hi => ⟨(h4 i hi).1, (h4 i hi).2.1, fun r hr => ?_⟩⟩
    obtain ⟨p1, p2, p3, p4⟩ := (h4 i hi).2.2 r hr
    have ho := out_own h1 p2 (by omega)
    exact ⟨isW_kept p1 (fun k h => setW_out (by omega)), p2, p3, p4⟩
  have hs2 := hD.st (by unfold tgA at hA; unfold tg3; omega) hs' 
  refine x_aload_n (k := 0) rfl rfl ?_
  refine x_get (k := 1) rfl flRX4_12 c0 rfl ?_
  refine x_aload_n (k := 2) rfl rfl ?_
  refine x_get (k := 3) rfl flRX4_12 b0 rfl ?_
  refine x_cV (ci := 8) (k := 4) rfl (by rfl) (wV_at c1 (c_copyW hj b1 f3.2.1 f3.1 f3.2.2)) okX8_copyFrom viX8_copyFrom mlRX4_26 ⟨Nat.le_of_ble_eq_true rfl, Nat.le_of_ble_eq_true rfl⟩ (by exact Nat.le_of_ble_eq_true rfl) rfl rfl (isW_0 c1) (by exact Nat.le_of_ble_eq_true rfl) ?_
  refine x_iconst (v := 0) (k := 5) rfl (by decide) ?_
  refine x_istore_n (k := 6) rfl (by decide) ?_
  exact l_cpS hA 3 0 _ own (sCopy W W') rw fl Wr _ (by omega) (by omega) hs1 hs2 (sCopy_eq W W') (fun j h => absurd h (Nat.not_lt_zero _)) hD rfl rfl rfl
