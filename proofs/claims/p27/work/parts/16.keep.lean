-- ===== a new State; the history =====
section XC4
variable {G : xG} {M M' : xM} {pc : Nat} {ls : List (Nat × Value)} {st stk Ar : List Value} {s : xA} {Q Q' : Option Value → xA → Prop}
theorem x_cIX {k idx n a : Nat} (hk : (mIn M)[k]? = some (pc, .invokespecial idx, 3)) (hs : stk = Ar.reverse ++ .ref a :: st) (hb : xMe G M' (.ref a :: Ar) s Q') (ho : xOk M' n) (h1 : (mY M').name = "<init>") (h2 : mRt M' = none) (hv : Cond.instanceMethod (mY M') ∈ gW) (hw : Cond.methodLink (mOwn M) idx (mY M') ∈ gW) (hR : xRm M M') (hlen : (lg_sl (.ref a :: Ar)).length ≤ mNL M') (hn : Ar.length = n) (hst : (st.map fun v => v.category).sum ≤ 8) (kk : ∀ (r : Option Value) (s1 : xA), Q' r s1 → xE G M (pc + 3) ls (r.toList ++ st) s1 Q) : xE G M pc ls stk s Q :=
  x_callI hk ho h1 h2 hv hw hR hlen hn hst hs hb kk
theorem x_cINX {k idx n a : Nat} (hk : (mIn M)[k]? = some (pc, .invokespecial idx, 3)) (hs : stk = Ar.reverse ++ .ref a :: st) (hb : xMe G M' (.ref a :: Ar) s Q') (ho : xOk M' n) (h1 : (mY M').name = "<init>") (h2 : mRt M' = none) (hv : Cond.instanceMethod (mY M') ∈ gW) (hw : (mOwn M, idx, mY M') ∈ nestM) (hR : xRm M M') (hlen : (lg_sl (.ref a :: Ar)).length ≤ mNL M') (hn : Ar.length = n) (hst : (st.map fun v => v.category).sum ≤ 8) (kk : ∀ (r : Option Value) (s1 : xA), Q' r s1 → xE G M (pc + 3) ls (r.toList ++ st) s1 Q) : xE G M pc ls stk s Q :=
  x_callIN hk ho h1 h2 hv hw hR hlen hn hst hs hb kk
end XC4
theorem W0_good : wGood W0 := ⟨⟨by decide, by decide⟩, ⟨by decide, by decide⟩, 0, by decide, by decide⟩
def sZ : List Value := [.null, .null, .null]
/-- a State just made -/
def mkS (G : xG) (t : xA) : xA := aUp (aNew (aUp (aNew (aUp (mkW G (aNew t 3 (eO 4 sZ))) t.2.1 (eO 4 [.ref (t.2.1 + 1), .null, .null])) 2 (eR G 7 2 (fun _ => none))) t.2.1 (eO 4 [.ref (t.2.1 + 1), .ref (t.2.1 + 41), .null])) 2 (eZ G 2 (fun _ => 0))) t.2.1 (eO 4 (stF t.2.1))
theorem mkS_n {G : xG} {t : xA} : (mkS G t).2.1 = t.2.1 + 43 ∧ (mkS G t).2.2 = t.2.2 + 817 := ⟨rfl, rfl⟩
theorem mkS_lo {G : xG} {t : xA} {q : Nat} (h : q < t.2.1) : (mkS G t).1 q = t.1 q := by
  have e : (mkS G t).1 q = (mkW G (aNew t 3 (eO 4 sZ))).1 q := by
    unfold mkS
    rw [aUp_ne (by omega), aNew_ne (by show q ≠ t.2.1 + 1 + 40 + 1; omega), aUp_ne (by omega), aNew_ne (by show q ≠ t.2.1 + 1 + 40; omega), aUp_ne (by omega)]
  rw [e, mkW_at (by show q < t.2.1 + 1; omega), aNew_ne (by omega)]
theorem mkS_w {G : xG} {t : xA} : isW G (mkS G t) (t.2.1 + 1) W0 := by
  intro k hk
  have e : (mkS G t).1 (t.2.1 + 1 + k) = (mkW G (aNew t 3 (eO 4 sZ))).1 (t.2.1 + 1 + k) := by
    unfold mkS
    rw [aUp_ne (by omega), aNew_ne (by show t.2.1 + 1 + k ≠ t.2.1 + 1 + 40 + 1; omega), aUp_ne (by omega), aNew_ne (by show t.2.1 + 1 + k ≠ t.2.1 + 1 + 40; omega), aUp_ne (by omega)]
  rw [e]
  exact mkW_is (t := aNew t 3 (eO 4 sZ)) k hk
theorem mkS_41 {G : xG} {t : xA} : (mkS G t).1 (t.2.1 + 41) = some (eR G 7 2 (fun _ => none)) := by
  unfold mkS
  rw [aUp_ne (by omega), aNew_ne (by show t.2.1 + 41 ≠ t.2.1 + 1 + 40 + 1; omega), aUp_ne (by omega)]
  exact aNew_at
theorem mkS_42 {G : xG} {t : xA} : (mkS G t).1 (t.2.1 + 42) = some (eZ G 2 (fun _ => 0)) := by
  unfold mkS
  rw [aUp_ne (by omega)]
  exact aNew_at
theorem mkS_St {G : xG} {t : xA} {own : Nat → Nat} {τ : Nat} : St1 G (mkS G t) (owN own t.2.1 τ) τ t.2.1 W0 (fun _ => none) (fun _ => 0) (fun _ => W0) :=
  ⟨⟨aUp_at, mkS_w, mkS_41, mkS_42⟩, fun k h => owN_ge (by omega), by rw [mkS_n.1]; exact Nat.le_refl _, W0_good, fun i hi => ⟨Or.inl rfl, fun h => absurd (show (0 : Int32) = 1 from h) (by decide), fun r hr => by cases hr⟩⟩
theorem mkS_did {G : xG} {t : xA} {own : Nat → Nat} {τ : Nat} : Did t (mkS G t) own (owN own t.2.1 τ) (fun _ => False) 43 817 := ⟨fun q hq _ => mkS_lo hq, fun q hq => owN_lt hq, by rw [mkS_n.1]; omega, by rw [mkS_n.1]; exact Nat.le_refl _, by rw [mkS_n.2]; omega, by rw [mkS_n.2]; exact Nat.le_refl _⟩

theorem c_newS {G : xG} {t : xA} : xV G MX4_init [.ref t.2.1] (aNew t 3 (eO 4 sZ)) (mkS G t) := by
  refine x_aload_n (k := 0) rfl rfl ?_
  refine x_obj (k := 1) rfl mlRX4_3 wObj1 wObj2 (by exact Nat.le_of_ble_eq_true rfl) (by exact Nat.le_of_ble_eq_true rfl) ?_
  refine x_aload_n (k := 2) rfl rfl ?_
  refine x_new (ci := 8) (fs := wZ) (k := 3) rfl rfl clRX4_9 wn8 wi_RX8 tyX8 tyX8_ok (fun j hj => by have hj : j < 10 := hj; rcases (show j = 0 ∨ j = 1 ∨ j = 2 ∨ j = 3 ∨ j = 4 ∨ j = 5 ∨ j = 6 ∨ j = 7 ∨ j = 8 ∨ j = 9 by omega) with rfl | rfl | rfl | rfl | rfl | rfl | rfl | rfl | rfl | rfl <;> rfl) ?_
  refine x_dup (k := 4) rfl rfl ?_
  refine x_cI (k := 5) rfl (by rfl) (c_initW (w := t.2.1 + 1) aNew_at rfl) okX8_init rfl rfl viX8_init mlRX4_11 ⟨Nat.le_of_ble_eq_true rfl, Nat.le_of_ble_eq_true rfl⟩ (by exact Nat.le_of_ble_eq_true rfl) rfl (by exact Nat.le_of_ble_eq_true rfl) ?_
  refine x_st (s2 := mkW G (aNew t 3 (eO 4 sZ))) rfl ?_
  refine x_putF (k := 6) rfl flRX4_12 ft4_0 rfl rfl (fs := sZ) (by rw [mkW_at (by show t.2.1 < t.2.1 + 1; omega)]; exact aNew_at) (by exact Nat.le_of_ble_eq_true rfl) rfl rfl ?_
  refine x_aload_n (k := 7) rfl rfl ?_
  refine x_iconst (v := 2) (k := 8) rfl (by decide) ?_
  refine x_anew (C0 := RX8) (t := 7) (N := 2) (k := 9) rfl (by simp [nestC]) clRX4_9 rfl (by decide) (by decide) (by decide) ?_
  refine x_putF (k := 10) rfl flRX4_18 ft4_1 rfl rfl (fs := [.ref (t.2.1 + 1), .null, .null]) (by rw [aNew_ne (by show t.2.1 ≠ t.2.1 + 1 + 40; omega)]; exact aUp_at) (by exact Nat.le_of_ble_eq_true rfl) rfl rfl ?_
  refine x_aload_n (k := 11) rfl rfl ?_
  refine x_iconst (v := 2) (k := 12) rfl (by decide) ?_
  refine x_newa (t := 3) (a0 := (2, .inl (fun _ => 0))) (N := 2) (k := 13) rfl rfl wa_boolean rfl (fun _ => rfl) (by decide) (by decide) (by decide) ?_
  refine x_putF (k := 14) rfl flRX4_22 ft4_2 rfl rfl (fs := [.ref (t.2.1 + 1), .ref (t.2.1 + 41), .null]) (by rw [aNew_ne (by show t.2.1 ≠ t.2.1 + 1 + 40 + 1; omega)]; exact aUp_at) (by exact Nat.le_of_ble_eq_true rfl) rfl rfl ?_
  exact x_rD (k := 15) rfl rfl rfl
/-- the history: its object at h, the ring behind it -/
def hsF (h nw kp : Nat) : List Value := [.ref (h + 1), .int (nI nw), .int (nI kp)]
theorem mod5 {n : Nat} (h : n < 100) : (nI n + 1 - (nI n + 1) / 5 * 5 : Int32) = nI ((n + 1) % 5) := by
  rw [nI_1]
  exact pk_rem (a := n + 1) (d := 5) (by omega) (by decide) (by decide)
theorem min5 {n : Nat} (h : n ≤ 5) : (if (5 : Int32) < nI n + 1 then 5 else nI n + 1) = nI (min (n + 1) 5) := by
  rcases (by omega : n = 0 ∨ n = 1 ∨ n = 2 ∨ n = 3 ∨ n = 4 ∨ n = 5) with rfl | rfl | rfl | rfl | rfl | rfl <;> decide
theorem l_keep40 {G : xG} {t : xA} {h nw kp σ : Nat} {ring : Nat → Option Nat} {Q Q' : Option Value → xA → Prop} {a : Nat} (c0 : t.1 h = some (eO 0 (hsF h nw kp))) (c1 : t.1 (h + 1) = some (eR G 8 5 ring)) (hn : nw < 5) (hk : kp ≤ 5) (hr : ring nw = some σ) (cs : t.1 σ = some (eO 4 (stF σ))) (hb : xMe G MX4_copyFrom [.ref σ, .ref a] t Q') (hq : ∀ r t1, Q' r t1 → r = none ∧ t1.1 h = t.1 h ∧ Q none (aUp t1 h (eO 0 (hsF h nw (min (kp + 1) 5))))) (ls : List (Nat × Value)) (g0 : ls.lookup 0 = some (.ref h)) (g1 : ls.lookup 1 = some (.ref a)) : xE G MX0_keep 40 ls [] t Q := by
  refine x_sub (ls' := [(0, .ref h), (1, .ref a)]) (by simp [*]) ?_
  refine x_aload_n (k := 22) rfl rfl ?_
  refine x_get (k := 23) rfl flRX0_11 c0 rfl ?_
  refine x_aload_n (k := 24) rfl rfl ?_
  refine x_get (k := 25) rfl flRX0_17 c0 rfl ?_
  refine s_at (t := 8) (k := 26) rfl rfl c1 rfl hn (by decide) hr ?_
  refine x_aload_n (k := 27) rfl rfl ?_
  refine x_cX (ci := 4) (k := 28) rfl (by rfl) (hb) okX4_copyFrom viX4_copyFrom mlRX0_22 ⟨Nat.le_of_ble_eq_true rfl, Nat.le_of_ble_eq_true rfl⟩ (by exact Nat.le_of_ble_eq_true rfl) rfl rfl cs (by exact Nat.le_of_ble_eq_true rfl) ?_
  intro r t1 h1
  obtain ⟨e1, e2, e3⟩ := hq r t1 h1
  subst e1
  refine x_aload_n (k := 29) rfl rfl ?_
  refine x_aload_n (k := 30) rfl rfl ?_
  refine x_get (k := 31) rfl flRX0_26 (e2.trans c0) rfl ?_
  refine x_iconst (v := 1) (k := 32) rfl (by decide) ?_
  refine x_iadd (k := 33) rfl ?_
  refine x_iconst (v := 5) (k := 34) rfl (by decide) ?_
  refine x_min (k := 35) rfl mlRX0_29 wMin1 wMin2 wMin3 (by exact Nat.le_of_ble_eq_true rfl) (by exact Nat.le_of_ble_eq_true rfl) ?_
  refine x_top (min5 hk) ?_
  refine x_put (k := 36) rfl flRX0_26 ft0_2 (e2.trans c0) (by exact Nat.le_of_ble_eq_true rfl) rfl rfl ?_
  exact x_ret (k := 37) rfl rfl e3
/-- the tags of the ring's row j -/
abbrev tgR (j : Nat) : Nat := 10 * (j + 2)
/-- the history and what it keeps: the object at h, the ring; a row of the ring that is there is a State -/
def HsOk (G : xG) (t : xA) (own : Nat → Nat) (h nw kp : Nat) (ring : Nat → Option Nat) (RW : Nat → Wd) (Rrw : Nat → Nat → Option Nat) (Rfl : Nat → Nat → Int32) (RWr : Nat → Nat → Wd) : Prop :=
  (t.1 h = some (eO 0 (hsF h nw kp)) ∧ t.1 (h + 1) = some (eR G 8 5 ring)) ∧ (own h = 2 ∧ own (h + 1) = 2 ∧ h + 2 ≤ t.2.1) ∧ (nw < 5 ∧ kp ≤ 5) ∧ ∀ j, j < 5 → ∀ σ, ring j = some σ → St1 G t own (tgR j) σ (RW j) (Rrw j) (Rfl j) (RWr j)
def upW {α : Type} (f : Nat → α) (j : Nat) (v : α) : Nat → α := fun i => if i = j then v else f i
theorem upW_at {α : Type} {f : Nat → α} {j : Nat} {v : α} : upW f j v j = v := if_pos rfl
theorem upW_ne {α : Type} {f : Nat → α} {j i : Nat} {v : α} (h : i ≠ j) : upW f j v i = f i := if_neg h
theorem va_upR {f : Nat → Option Nat} {i r : Nat} (h : f i = some r) : va_up f i (some r) = f := by
  funext q
  unfold va_up
  split
  · rename_i e
    rw [e, h]
  · rfl
/-- what keep() leaves behind -/
def KpQ (G : xG) (t : xA) (own : Nat → Nat) (h nw kp : Nat) (ring : Nat → Option Nat) (RW : Nat → Wd) (Rrw : Nat → Nat → Option Nat) (Rfl : Nat → Nat → Int32) (RWr : Nat → Nat → Wd) (W : Wd) (fl : Nat → Int32) (Wr : Nat → Wd) : Option Value → xA → Prop := fun r t1 => r = none ∧
  ∃ (own1 : Nat → Nat) (σ : Nat) (W1 : Wd) (rw1 : Nat → Option Nat) (fl1 : Nat → Int32) (Wr1 : Nat → Wd), HsOk G t1 own1 h ((nw + 1) % 5) (min (kp + 1) 5) (va_up ring ((nw + 1) % 5) (some σ)) (upW RW ((nw + 1) % 5) W1) (upW Rrw ((nw + 1) % 5) rw1) (upW Rfl ((nw + 1) % 5) fl1) (upW RWr ((nw + 1) % 5) Wr1) ∧ wEq W1 W ∧ (∀ i, i < 2 → fl1 i = fl i ∧ (fl i = 1 → wEq (Wr1 i) (Wr i))) ∧ Did t t1 own own1 (fun a => a = 2 ∨ tg3 (tgR ((nw + 1) % 5)) a) 123 2437
theorem l_keepA {G : xG} {t : xA} {own : Nat → Nat} {h nw kp : Nat} {ring : Nat → Option Nat} {RW : Nat → Wd} {Rrw : Nat → Nat → Option Nat} {Rfl : Nat → Nat → Int32} {RWr : Nat → Nat → Wd} {a : Nat} {W : Wd} {rw : Nat → Option Nat} {fl : Nat → Int32} {Wr : Nat → Wd} {m σ : Nat} {W0' : Wd} {rw0 : Nat → Option Nat} {fl0 : Nat → Int32} {Wr0 : Nat → Wd} (hm : m < 5) (hk : kp ≤ 5)
    (c0 : t.1 h = some (eO 0 (hsF h m kp))) (c1 : t.1 (h + 1) = some (eR G 8 5 (va_up ring m (some σ)))) (ho : own h = 2 ∧ own (h + 1) = 2 ∧ h + 2 ≤ t.2.1) (hR : ∀ j, j < 5 → j ≠ m → ∀ σ', ring j = some σ' → St1 G t own (tgR j) σ' (RW j) (Rrw j) (Rfl j) (RWr j))
    (hs : St1 G t own (tgR m) σ W0' rw0 fl0 Wr0) (hp : St1 G t own 10 a W rw fl Wr) {t0 : xA} {own0 : Nat → Nat} (hD : Did t0 t own0 own (fun a => a = 2 ∨ tg3 (tgR m) a) 43 817) (hw : (nw + 1) % 5 = m) (ls : List (Nat × Value)) (g0 : ls.lookup 0 = some (.ref h)) (g1 : ls.lookup 1 = some (.ref a)) :
    xE G MX0_keep 40 ls [] t (KpQ G t0 own0 h nw kp ring RW Rrw Rfl RWr W fl Wr) := by
  have hA : tgA (tgR m) 10 := by unfold tgA tgR; omega
  refine l_keep40 c0 c1 hm hk (if_pos rfl) hs.1.1 (c_cpS hA hs hp) (fun r t1 hq => ?_) ls g0 g1
  obtain ⟨rfl, own1, W1, rw1, fl1, Wr1, k1, k2, k3, k4⟩ := hq
  have e0 : t1.1 h = t.1 h := k4.1 h (by omega) (by rw [ho.1]; unfold tgR; omega)
  have e1 : t1.1 (h + 1) = t.1 (h + 1) := k4.1 (h + 1) (by omega) (by rw [ho.2.1]; unfold tgR; omega)
  have f0 : own1 h = 2 := (k4.2.1 h (by omega)).trans ho.1
  have f1 : own1 (h + 1) = 2 := (k4.2.1 (h + 1) (by omega)).trans ho.2.1
  have n1 : t.2.1 ≤ t1.2.1 := k4.2.2.1
  have hU : Did t1 (aUp t1 h (eO 0 (hsF h m (min (kp + 1) 5)))) own1 own1 (fun a => a = 2) 0 0 := ⟨fun q hq hn => aUp_ne (fun e => hn (by rw [e]; exact f0)), fun _ _ => rfl, Nat.le_refl _, Nat.le_refl _, Nat.le_refl _, Nat.le_refl _⟩
  refine ⟨rfl, e0, rfl, own1, σ, W1, rw1, fl1, Wr1, ?_, k2, k3, ?_⟩
  · rw [hw]
    refine ⟨⟨aUp_at, (aUp_ne (by omega)).trans (e1.trans c1)⟩, ⟨f0, f1, by show h + 2 ≤ t1.2.1; omega⟩, ⟨hm, by omega⟩, fun j hj σ' hr => ?_⟩
    by_cases e : j = m
    · subst e
      have : some σ = some σ' := (if_pos rfl : va_up ring j (some σ) j = some σ).symm.trans hr
      cases this
      rw [upW_at, upW_at, upW_at, upW_at]
      exact hU.st (by unfold tgR; omega) k1
    · have hr' : ring j = some σ' := (if_neg e : va_up ring m (some σ) j = ring j).symm.trans hr
      rw [upW_ne e, upW_ne e, upW_ne e, upW_ne e]
      exact hU.st (by unfold tgR; omega) (k4.st (by unfold tgR tg3; omega) (hR j hj e σ' hr'))
  · rw [hw]
    exact (hD.tr k4 (c2 := 123) (m2 := 2437) (fun _ h => h) (fun _ h => Or.inr h) (by omega) (by omega)).tr hU (fun _ h => h) (fun _ h => Or.inl h) (by omega) (by omega)
theorem l_keepN {G : xG} {own : Nat → Nat} {h nw kp : Nat} {ring : Nat → Option Nat} {RW : Nat → Wd} {Rrw : Nat → Nat → Option Nat} {Rfl : Nat → Nat → Int32} {RWr : Nat → Nat → Wd} {a : Nat} {W : Wd} {rw : Nat → Option Nat} {fl : Nat → Int32} {Wr : Nat → Wd} {t0 : xA} (hm : (nw + 1) % 5 < 5) (hk : kp ≤ 5) (ho : own h = 2 ∧ own (h + 1) = 2 ∧ h + 2 ≤ t0.2.1) (hU : Did t0 (aUp t0 h (eO 0 (hsF h ((nw + 1) % 5) kp))) own own (fun a => a = 2) 0 0)
    (hR1 : ∀ j, j < 5 → ∀ σ', ring j = some σ' → St1 G (aUp t0 h (eO 0 (hsF h ((nw + 1) % 5) kp))) own (tgR j) σ' (RW j) (Rrw j) (Rfl j) (RWr j)) (hp1 : St1 G (aUp t0 h (eO 0 (hsF h ((nw + 1) % 5) kp))) own 10 a W rw fl Wr) (c1 : t0.1 (h + 1) = some (eR G 8 5 ring)) (ls : List (Nat × Value)) (g0 : ls.lookup 0 = some (.ref h)) (g1 : ls.lookup 1 = some (.ref a)) :
    xE G MX0_keep 40 ls [] (aUp (mkS G (aUp t0 h (eO 0 (hsF h ((nw + 1) % 5) kp)))) (h + 1) (eR G 8 5 (va_up ring ((nw + 1) % 5) (some t0.2.1)))) (KpQ G t0 own h nw kp ring RW Rrw Rfl RWr W fl Wr) := by
  have hD := mkS_did (G := G) (t := aUp t0 h (eO 0 (hsF h ((nw + 1) % 5) kp))) (own := own) (τ := tgR ((nw + 1) % 5))
  have hlt : h + 1 < (aUp t0 h (eO 0 (hsF h ((nw + 1) % 5) kp))).2.1 := by show h + 1 < t0.2.1; omega
  have o2 : owN own (aUp t0 h (eO 0 (hsF h ((nw + 1) % 5) kp))).2.1 (tgR ((nw + 1) % 5)) (h + 1) = 2 := (owN_lt hlt).trans ho.2.1
  have hV : Did (mkS G (aUp t0 h (eO 0 (hsF h ((nw + 1) % 5) kp)))) (aUp (mkS G (aUp t0 h (eO 0 (hsF h ((nw + 1) % 5) kp)))) (h + 1) (eR G 8 5 (va_up ring ((nw + 1) % 5) (some t0.2.1)))) (owN own (aUp t0 h (eO 0 (hsF h ((nw + 1) % 5) kp))).2.1 (tgR ((nw + 1) % 5))) (owN own (aUp t0 h (eO 0 (hsF h ((nw + 1) % 5) kp))).2.1 (tgR ((nw + 1) % 5))) (fun a => a = 2) 0 0 :=
    ⟨fun q hq hn => aUp_ne (fun e => hn (by rw [e]; exact o2)), fun _ _ => rfl, Nat.le_refl _, Nat.le_refl _, Nat.le_refl _, Nat.le_refl _⟩
  refine l_keepA (W0' := W0) (rw0 := fun _ => none) (fl0 := fun _ => 0) (Wr0 := fun _ => W0) hm hk ?_ aUp_at ⟨(owN_lt (by omega)).trans ho.1, o2, ?_⟩ (fun j hj _ σ' hr => hV.st (by unfold tgR; omega) (hD.st (by simp) (hR1 j hj σ' hr))) (hV.st (by unfold tgR; omega) mkS_St) (hV.st (by omega) (hD.st (by simp) hp1)) ((hU.tr hD (T2 := fun a => a = 2 ∨ tg3 (tgR ((nw + 1) % 5)) a) (c2 := 43) (m2 := 817) (fun _ h => Or.inl h) (fun _ h => h.elim) (by omega) (by omega)).tr hV (fun _ h => h) (fun _ h => Or.inl h) (by omega) (by omega)) rfl ls g0 g1
  · rw [aUp_ne (by omega), mkS_lo (by omega)]
    exact aUp_at
  · show h + 2 ≤ (mkS G (aUp t0 h (eO 0 (hsF h ((nw + 1) % 5) kp)))).2.1
    rw [mkS_n.1]
    show h + 2 ≤ t0.2.1 + 43
    omega
theorem c_keep {G : xG} {t : xA} {own : Nat → Nat} {h nw kp : Nat} {ring : Nat → Option Nat} {RW : Nat → Wd} {Rrw : Nat → Nat → Option Nat} {Rfl : Nat → Nat → Int32} {RWr : Nat → Nat → Wd} {a : Nat} {W : Wd} {rw : Nat → Option Nat} {fl : Nat → Int32} {Wr : Nat → Wd} (hH : HsOk G t own h nw kp ring RW Rrw Rfl RWr) (hp : St1 G t own 10 a W rw fl Wr) : xMe G MX0_keep [.ref h, .ref a] t (KpQ G t own h nw kp ring RW Rrw Rfl RWr W fl Wr) := by
  obtain ⟨⟨c0, c1⟩, ho, ⟨hn, hk⟩, hR⟩ := hH
  have hm : (nw + 1) % 5 < 5 := Nat.mod_lt _ (by decide)
  have hU : Did t (aUp t h (eO 0 (hsF h ((nw + 1) % 5) kp))) own own (fun a => a = 2) 0 0 := ⟨fun q hq hn => aUp_ne (fun e => hn (by rw [e]; exact ho.1)), fun _ _ => rfl, Nat.le_refl _, Nat.le_refl _, Nat.le_refl _, Nat.le_refl _⟩
  have hR1 : ∀ j, j < 5 → ∀ σ', ring j = some σ' → St1 G (aUp t h (eO 0 (hsF h ((nw + 1) % 5) kp))) own (tgR j) σ' (RW j) (Rrw j) (Rfl j) (RWr j) := fun j hj σ' hr => hU.st (by unfold tgR; omega) (hR j hj σ' hr)
  have hp1 := hU.st (by omega) hp
  cases hr : ring ((nw + 1) % 5) with
  | some σ =>
    refine x_aload_n (k := 0) rfl rfl ?_
    refine x_aload_n (k := 1) rfl rfl ?_
    refine x_get (k := 2) rfl flRX0_17 c0 rfl ?_
    refine x_iconst (v := 1) (k := 3) rfl (by decide) ?_
    refine x_iadd (k := 4) rfl ?_
    refine x_iconst (v := 5) (k := 5) rfl (by decide) ?_
    refine x_irem (k := 6) rfl (by decide) ?_
    refine x_top (mod5 (by omega)) ?_
    refine x_put (k := 7) rfl flRX0_17 ft0_1 c0 (by exact Nat.le_of_ble_eq_true rfl) rfl rfl ?_
    refine x_aload_n (k := 8) rfl rfl ?_
    refine x_get (k := 9) rfl flRX0_11 aUp_at rfl ?_
    refine x_aload_n (k := 10) rfl rfl ?_
    refine x_get (k := 11) rfl flRX0_17 aUp_at rfl ?_
    refine s_at (t := 8) (k := 12) rfl rfl ((aUp_ne (by omega)).trans c1) rfl hm (by decide) hr ?_
    refine x_ifnonnull (tgt := 40) (k := 13) rfl (by decide) ?_
    exact l_keepA hm hk aUp_at ((aUp_ne (by omega)).trans (c1.trans (by rw [va_upR hr]))) ho (fun j hj _ => hR1 j hj) (hR1 _ hm σ hr) hp1 (hU.tr (Did.rf (c := 43) (m := 817)) (T2 := fun a => a = 2 ∨ tg3 (tgR ((nw + 1) % 5)) a) (c2 := 43) (m2 := 817) (fun _ h => Or.inl h) (fun _ h => h) (by omega) (by omega)) rfl _ rfl rfl
  | none =>
    refine x_aload_n (k := 0) rfl rfl ?_
    refine x_aload_n (k := 1) rfl rfl ?_
    refine x_get (k := 2) rfl flRX0_17 c0 rfl ?_
    refine x_iconst (v := 1) (k := 3) rfl (by decide) ?_
    refine x_iadd (k := 4) rfl ?_
    refine x_iconst (v := 5) (k := 5) rfl (by decide) ?_
    refine x_irem (k := 6) rfl (by decide) ?_
    refine x_top (mod5 (by omega)) ?_
    refine x_put (k := 7) rfl flRX0_17 ft0_1 c0 (by exact Nat.le_of_ble_eq_true rfl) rfl rfl ?_
    refine x_aload_n (k := 8) rfl rfl ?_
    refine x_get (k := 9) rfl flRX0_11 aUp_at rfl ?_
    refine x_aload_n (k := 10) rfl rfl ?_
    refine x_get (k := 11) rfl flRX0_17 aUp_at rfl ?_
    refine s_at (t := 8) (k := 12) rfl rfl ((aUp_ne (by omega)).trans c1) rfl hm (by decide) hr ?_
    refine x_ifnonnullN (k := 13) rfl ?_
    refine x_aload_n (k := 14) rfl rfl ?_
    refine x_get (k := 15) rfl flRX0_11 aUp_at rfl ?_
    refine x_aload_n (k := 16) rfl rfl ?_
    refine x_get (k := 17) rfl flRX0_17 aUp_at rfl ?_
    refine x_new (ci := 4) (fs := sZ) (k := 18) rfl rfl clRX0_9 wn4 wi_RX4 tyX4 tyX4_ok (fun j hj => by have hj : j < 3 := hj; rcases (show j = 0 ∨ j = 1 ∨ j = 2 by omega) with rfl | rfl | rfl <;> rfl) ?_
    refine x_dup (k := 19) rfl rfl ?_
    refine x_cIN (k := 20) rfl (by rfl) (c_newS) okX4_init rfl rfl viX4_init nlRX0_21 ⟨Nat.le_of_ble_eq_true rfl, Nat.le_of_ble_eq_true rfl⟩ (by exact Nat.le_of_ble_eq_true rfl) rfl (by exact Nat.le_of_ble_eq_true rfl) ?_
    refine x_aast (t := 8) (ci := 4) (k := 21) rfl rfl rfl ((mkS_lo (by show h + 1 < t.2.1; omega)).trans ((aUp_ne (by omega)).trans c1)) aUp_at (vp_inN rfl hm (by decide)) ?_
    rw [show (nI ((nw + 1) % 5)).toNatClampNeg = (nw + 1) % 5 from nI_clamp (by omega)]
    exact l_keepN (h := h) hm hk ho hU hR1 hp1 c1 _ rfl rfl
