-- ===== a State: its world, its two rows =====
def wEq (R V : Wd) : Prop := (∀ k, k < 6 → R 3 0 k = V 3 0 k) ∧ (∀ i k, i < 8 → k < 5 → R 0 i k = V 0 i k) ∧ (∀ i k, i < cT V → k < 7 → R 1 i k = V 1 i k) ∧ (∀ i k, i < cK V → k < 10 → R 2 i k = V 2 i k) ∧ R 4 0 0 = V 4 0 0 ∧ ∀ j, j < ix (V 4 0 0) → R 5 0 j = V 5 0 j
theorem wEnt_a {W : Wd} {g : Nat → Int32} {a i k : Nat} (h : a ≠ 5) : wEnt W g a i k = W a i k := by simp [wEnt, h]
theorem sCopy_eq (W V : Wd) : wEq (sCopy W V) V := by
  refine ⟨fun k hk => ?_, fun i k hi hk => ?_, fun i k hi hk => ?_, fun i k hi hk => ?_, ?_, fun j hj => ?_⟩
  · rw [sCopy, cpH, wEnt_a (by decide), wSet_a (by decide), cp4, cpRows_a (by decide), cp3, cpRows_a (by decide), cp2, cpRows_a (by decide), cp1, cpRow_in 6 hk]
  · rw [sCopy, cpH, wEnt_a (by decide), wSet_a (by decide), cp4, cpRows_a (by decide), cp3, cpRows_a (by decide), cp2, cpRows_in hk 8 hi]
  · rw [sCopy, cpH, wEnt_a (by decide), wSet_a (by decide), cp4, cpRows_a (by decide), cp3, cpRows_in hk _ hi]
  · rw [sCopy, cpH, wEnt_a (by decide), wSet_a (by decide), cp4, cpRows_in hk _ hi]
  · rw [sCopy, cpH, wEnt_a (by decide), wSet_same]
  · have e : sCopy W V 5 0 j = va_cpy (fun j => V 5 0 j) (fun j => (cp4 W V (cK V)) 5 0 j) 0 0 (ix (V 4 0 0)) j := by simp [sCopy, cpH, wEnt]
    rw [e, pk_cpy_in (Nat.zero_le _) (by omega)]
    simp
def wGood (W : Wd) : Prop := hT W ∧ hK W ∧ iOk W
theorem wEq.good {R V : Wd} (h : wEq R V) (hg : wGood V) : wGood R := by
  obtain ⟨h1, h2, h3, h4, h5, h6⟩ := h
  obtain ⟨g1, g2, n, g3, g4⟩ := hg
  have e1 : cT R = cT V := by rw [cT, cT, h1 4 (by decide)]
  have e2 : cK R = cK V := by rw [cK, cK, h1 5 (by decide)]
  exact ⟨⟨by rw [e1]; exact g1.1, by rw [e1, h1 4 (by decide)]; exact g1.2⟩, ⟨by rw [e2]; exact g2.1, by rw [e2, h1 5 (by decide)]; exact g2.2⟩, n, g3, h5.trans g4⟩
def stF (σ : Nat) : List Value := [.ref (σ + 1), .ref (σ + 41), .ref (σ + 42)]
theorem isW_self {G : xG} {t : xA} {w : Nat} {W : Wd} (h : isW G t w W) : setW G t w W = t := by
  refine Prod.ext (funext fun q => ?_) rfl
  show (if w ≤ q ∧ q < w + 40 then some (wCell G w W (q - w)) else t.1 q) = t.1 q
  split
  · rename_i hq
    have := h (q - w) (by omega)
    rw [show w + (q - w) = q by omega] at this
    exact this.symm
  · rfl
theorem isW_set {G : xG} {t : xA} {w : Nat} {W : Wd} : isW G (setW G t w W) w W := fun _ hk => setW_in hk
theorem isW_0 {G : xG} {t : xA} {w : Nat} {W : Wd} (h : isW G t w W) : t.1 w = some (eO 8 (fW W w)) := by
  have := h 0 (by omega)
  rw [wC_0] at this
  exact this
theorem isW_kept {G : xG} {t t1 : xA} {w : Nat} {W : Wd} (h : isW G t w W) (hk : ∀ k, k < 40 → t1.1 (w + k) = t.1 (w + k)) : isW G t1 w W := fun k h1 => (hk k h1).trans (h k h1)
theorem wV_at {G : xG} {M : xM} {As : List Value} {t : xA} {w : Nat} {W W' : Wd} (hW : isW G t w W) (h : wV G M As t w W W') : xV G M As t (setW G t w W') := by
  have h1 : xMe G M As (setW G t w W) _ := h
  rw [isW_self hW] at h1
  exact h1.mono (fun r s1 q => by
    obtain ⟨W1, e, q1, q2⟩ := q
    exact ⟨q1, by rw [e, q2]⟩)
theorem wI_at {G : xG} {M : xM} {As : List Value} {t : xA} {w : Nat} {W W' : Wd} {v : Int32} (hW : isW G t w W) (h : wI G M As t w W v W') : xMe G M As t (fun r s1 => r = some (.int v) ∧ s1 = setW G t w W') := by
  have h1 : xMe G M As (setW G t w W) _ := h
  rw [isW_self hW] at h1
  exact h1.mono (fun r s1 q => by
    obtain ⟨W1, e, q1, q2⟩ := q
    exact ⟨q1, by rw [e, q2]⟩)
theorem wI_lk {G : xG} {M : xM} {As : List Value} {t : xA} {w : Nat} {W : Wd} {v : Int32} (hW : isW G t w W) (h : wI G M As t w W v W) : xMe G M As t (fun r s1 => r = some (.int v) ∧ s1 = t) := (wI_at hW h).mono (fun r s1 q => ⟨q.1, by rw [q.2, isW_self hW]⟩)
section XC2
variable {G : xG} {M M' : xM} {pc : Nat} {ls : List (Nat × Value)} {st stk Ar : List Value} {s : xA} {Q : Option Value → xA → Prop}
theorem x_cV {s1 : xA} {k idx n a ci : Nat} {fs : List Value} (hk : (mIn M)[k]? = some (pc, .invokevirtual idx, 3)) (hs : stk = Ar.reverse ++ .ref a :: st) (hb : xV G M' (.ref a :: Ar) s s1) (ho : xOk M' n) (hv : xVi (mY M')) (hw : Cond.methodLink (mOwn M) idx (mY M') ∈ gW) (hR : xRm M M') (hlen : (lg_sl (.ref a :: Ar)).length ≤ mNL M') (hn : Ar.length = n) (hc : (vwCl[ci]?).map (fun q => q.1) = some (mY M').cls) (hh : s.1 a = some (eO ci fs)) (hst : (st.map fun v => v.category).sum ≤ 8) (kk : xE G M (pc + 3) ls st s1 Q) : xE G M pc ls stk s Q :=
  x_callV hk ho hv hw hR hlen hn hc hh hst hs hb (fun r s2 h => by rw [h.1, h.2]; exact kk)
theorem x_cVI {s1 : xA} {v : Int32} {k idx n a ci : Nat} {fs : List Value} (hk : (mIn M)[k]? = some (pc, .invokevirtual idx, 3)) (hs : stk = Ar.reverse ++ .ref a :: st) (hb : xMe G M' (.ref a :: Ar) s (fun r s2 => r = some (.int v) ∧ s2 = s1)) (ho : xOk M' n) (hv : xVi (mY M')) (hw : Cond.methodLink (mOwn M) idx (mY M') ∈ gW) (hR : xRm M M') (hlen : (lg_sl (.ref a :: Ar)).length ≤ mNL M') (hn : Ar.length = n) (hc : (vwCl[ci]?).map (fun q => q.1) = some (mY M').cls) (hh : s.1 a = some (eO ci fs)) (hst : (st.map fun v => v.category).sum ≤ 8) (kk : xE G M (pc + 3) ls (.int v :: st) s1 Q) : xE G M pc ls stk s Q :=
  x_callV hk ho hv hw hR hlen hn hc hh hst hs hb (fun r s2 h => by rw [h.1, h.2]; exact kk)
/-- a call of any end -/
theorem x_cX {Q' : Option Value → xA → Prop} {k idx n a ci : Nat} {fs : List Value} (hk : (mIn M)[k]? = some (pc, .invokevirtual idx, 3)) (hs : stk = Ar.reverse ++ .ref a :: st) (hb : xMe G M' (.ref a :: Ar) s Q') (ho : xOk M' n) (hv : xVi (mY M')) (hw : Cond.methodLink (mOwn M) idx (mY M') ∈ gW) (hR : xRm M M') (hlen : (lg_sl (.ref a :: Ar)).length ≤ mNL M') (hn : Ar.length = n) (hc : (vwCl[ci]?).map (fun q => q.1) = some (mY M').cls) (hh : s.1 a = some (eO ci fs)) (hst : (st.map fun v => v.category).sum ≤ 8) (kk : ∀ (r : Option Value) (s1 : xA), Q' r s1 → xE G M (pc + 3) ls (r.toList ++ st) s1 Q) : xE G M pc ls stk s Q :=
  x_callV hk ho hv hw hR hlen hn hc hh hst hs hb kk
theorem s_at {k p a n t : Nat} {C0 : String} {f : Nat → Option Nat} {v : Option Nat} {i : Int32} (hk : (mIn M)[k]? = some (pc, .aaload, 1)) (ht : (gT G)[t]? = some (gc G t, .object C0)) (hh : s.1 a = some (eR G t n f)) (hi : i = nI p) (hp : p < n) (hn : n < 2 ^ 31) (hv : f p = v) (kk : xE G M (pc + 1) ls (va_rf v :: st) s Q) : xE G M pc ls (.int i :: .ref a :: st) s Q :=
  x_aald hk ht hh (vp_inN hi hp hn) (by rw [clampN hi hp hn, hv]; exact kk)
theorem z_at {k p a n : Nat} {f : Nat → Int32} {v : Int32} {i : Int32} (hk : (mIn M)[k]? = some (pc, .baload, 1)) (hh : s.1 a = some (eZ G n f)) (hi : i = nI p) (hp : p < n) (hn : n < 2 ^ 31) (hv : f p = v) (kk : xE G M (pc + 1) ls (.int v :: st) s Q) : xE G M pc ls (.int i :: .ref a :: st) s Q :=
  x_zald hk hh (vp_inN hi hp hn) (by rw [clampN hi hp hn, hv]; exact kk)
theorem z_put {k p a n : Nat} {f : Nat → Int32} {i x : Int32} (hk : (mIn M)[k]? = some (pc, .bastore, 1)) (hh : s.1 a = some (eZ G n f)) (hi : i = nI p) (hp : p < n) (hn : n < 2 ^ 31) (hx : vp_nar .boolean x = x) (kk : xE G M (pc + 1) ls st (aUp s a (eZ G n (upd f p x))) Q) : xE G M pc ls (.int x :: .int i :: .ref a :: st) s Q :=
  x_zast hk hh (vp_inN hi hp hn) (by rw [clampN hi hp hn, hx]; exact kk)
end XC2
theorem nar0 : vp_nar .boolean 0 = 0 := by decide
theorem nar1 : vp_nar .boolean 1 = 1 := by decide
theorem setW_n {G : xG} {t : xA} {w : Nat} {W : Wd} : (setW G t w W).2 = t.2 := rfl

theorem c_snapN {G : xG} {t : xA} {σ i : Nat} {rw : Nat → Option Nat} {fl : Nat → Int32} (c0 : t.1 σ = some (eO 4 (stF σ))) (c1 : t.1 (σ + 41) = some (eR G 7 2 rw)) (c2 : t.1 (σ + 42) = some (eZ G 2 fl)) (hi : i < 2) (h : fl i = 0) : xMe G MX4_snapshotIn [.ref σ, .int (nI i)] t (fun r s1 => r = some .null ∧ s1 = t) := by
  refine x_aload_n (k := 0) rfl rfl ?_
  refine x_get (k := 1) rfl flRX4_22 c0 rfl ?_
  refine x_iload_n (k := 2) rfl rfl ?_
  refine z_at (k := 3) rfl c2 rfl hi (by decide) h ?_
  refine x_if_eq (tgt := 18) (k := 4) rfl (by decide) (fun c6 => ?_) (fun c6 => absurd rfl c6)
  refine x_null (k := 10) rfl ?_
  exact x_aret (k := 11) rfl rfl (Or.inl ⟨_, rfl⟩) (Or.inl rfl) ⟨rfl, rfl⟩
theorem c_snapR {G : xG} {t : xA} {σ i : Nat} {rw : Nat → Option Nat} {fl : Nat → Int32} (c0 : t.1 σ = some (eO 4 (stF σ))) (c1 : t.1 (σ + 41) = some (eR G 7 2 rw)) (c2 : t.1 (σ + 42) = some (eZ G 2 fl)) {r : Nat} (hi : i < 2) (h : ¬ fl i = 0) (hr : rw i = some r) : xMe G MX4_snapshotIn [.ref σ, .int (nI i)] t (fun q s1 => q = some (.ref r) ∧ s1 = t) := by
  refine x_aload_n (k := 0) rfl rfl ?_
  refine x_get (k := 1) rfl flRX4_22 c0 rfl ?_
  refine x_iload_n (k := 2) rfl rfl ?_
  refine z_at (k := 3) rfl c2 rfl hi (by decide) rfl ?_
  refine x_if_eq (tgt := 18) (k := 4) rfl (by decide) (fun c6 => absurd c6 h) (fun c6 => ?_)
  refine x_aload_n (k := 5) rfl rfl ?_
  refine x_get (k := 6) rfl flRX4_18 c0 rfl ?_
  refine x_iload_n (k := 7) rfl rfl ?_
  refine s_at (t := 7) (k := 8) rfl rfl c1 rfl hi (by decide) hr ?_
  refine x_goto (tgt := 19) (k := 9) rfl (by decide) ?_
  exact x_aret (k := 11) rfl rfl (Or.inl ⟨_, rfl⟩) (Or.inr ⟨_, rfl⟩) ⟨rfl, rfl⟩
def fcTo (fl : Nat → Int32) : Nat → Int32
  | 0 => 0
  | n + 1 => if fl n = 0 then fcTo fl n else fcTo fl n + 1
theorem nI2 : (2 : Int32) = nI 2 := rfl
theorem l_filled {G : xG} {t : xA} {σ : Nat} {fl : Nat → Int32} (c0 : t.1 σ = some (eO 4 (stF σ))) (c2 : t.1 (σ + 42) = some (eZ G 2 fl)) : ∀ (d i : Nat) (v : Int32) (ls : List (Nat × Value)), 2 - i < d → i ≤ 2 → v = fcTo fl i → ls.lookup 0 = some (.ref σ) → ls.lookup 1 = some (.int v) → ls.lookup 2 = some (.int (nI i)) → xE G MX4_filledSlots 4 ls [] t (fun r s1 => r = some (.int (fcTo fl 2)) ∧ s1 = t) := by
  intro d
  induction d with
  | zero =>
    intro i v ls hd hi hv g0 g1 g2
    exact absurd hd (Nat.not_lt_zero _)
  | succ d ih =>
    intro i v ls hd hi hv g0 g1 g2
    refine x_sub (ls' := [(0, .ref σ), (1, .int v), (2, .int (nI i))]) (by simp [*]) ?_
    refine x_iload_n (k := 4) rfl rfl ?_
    refine x_iconst (v := 2) (k := 5) rfl (by decide) ?_
    refine x_icmp_ge (tgt := 27) (k := 6) rfl (by decide) (fun c6 => ?_) (fun c6 => ?_)
    · have e : i = 2 := by
        have := (le_nI nI2 (by omega) (by omega)).mp c6
        omega
      rw [e] at hv
      refine x_iload_n (k := 15) rfl rfl ?_
      exact x_irD (k := 16) rfl rfl rfl hv
    · have hin : i < 2 := by
        have := mt (le_nI nI2 (by omega) (by omega)).mpr c6
        omega
      refine x_aload_n (k := 7) rfl rfl ?_
      refine x_get (k := 8) rfl flRX4_22 c0 rfl ?_
      refine x_iload_n (k := 9) rfl rfl ?_
      refine z_at (k := 10) rfl c2 rfl hin (by decide) rfl ?_
      refine x_if_eq (tgt := 21) (k := 11) rfl (by decide) (fun c15 => ?_) (fun c15 => ?_)
      · refine x_iinc (k := 13) rfl rfl (nI_1 i) (by decide) ?_
        refine x_goto (tgt := 4) (k := 14) rfl (by decide) ?_
        exact ih (i + 1) _ _ (by omega) (by omega) (by rw [fcTo]; first | (rw [if_pos c15, hv]; done) | (rw [if_neg c15, hv]; done)) rfl rfl rfl
      · refine x_iinc (k := 12) rfl rfl (show _ = v + 1 from rfl) (by decide) ?_
        refine x_iinc (k := 13) rfl rfl (nI_1 i) (by decide) ?_
        refine x_goto (tgt := 4) (k := 14) rfl (by decide) ?_
        exact ih (i + 1) _ _ (by omega) (by omega) (by rw [fcTo]; first | (rw [if_pos c15, hv]; done) | (rw [if_neg c15, hv]; done)) rfl rfl rfl
theorem c_filled {G : xG} {t : xA} {σ : Nat} {fl : Nat → Int32} (c0 : t.1 σ = some (eO 4 (stF σ))) (c2 : t.1 (σ + 42) = some (eZ G 2 fl)) : xMe G MX4_filledSlots [.ref σ] t (fun r s1 => r = some (.int (fcTo fl 2)) ∧ s1 = t) := by
  refine x_iconst (v := 0) (k := 0) rfl (by decide) ?_
  refine x_istore_n (k := 1) rfl (by decide) ?_
  refine x_iconst (v := 0) (k := 2) rfl (by decide) ?_
  refine x_istore_n (k := 3) rfl (by decide) ?_
  exact l_filled c0 c2 3 0 0 _ (by omega) (by omega) rfl rfl rfl rfl
theorem l_fill {G : xG} {t : xA} {σ i : Nat} {rw : Nat → Option Nat} {fl : Nat → Int32} {r v : Nat} {R V : Wd} (c0 : t.1 σ = some (eO 4 (stF σ))) (c1 : t.1 (σ + 41) = some (eR G 7 2 rw)) (c2 : t.1 (σ + 42) = some (eZ G 2 fl)) (hi : i < 2) (hr : rw i = some r) (hR : isW G t r R) (hV : isW G t v V) (hj : dj v r) (hσ : σ + 43 ≤ r ∨ r + 40 ≤ σ) (hg : wGood V) (ls : List (Nat × Value)) (g0 : ls.lookup 0 = some (.ref σ)) (g1 : ls.lookup 1 = some (.int (nI i))) (g2 : ls.lookup 2 = some (.ref v)) : xE G MX4_fillSlot 22 ls [] t (fun q t1 => q = none ∧ t1 = aUp (setW G t r (sCopy R V)) (σ + 42) (eZ G 2 (upd fl i 1))) := by
  refine x_sub (ls' := [(0, .ref σ), (1, .int (nI i)), (2, .ref v)]) (by simp [*]) ?_
  refine x_aload_n (k := 12) rfl rfl ?_
  refine x_get (k := 13) rfl flRX4_18 c0 rfl ?_
  refine x_iload_n (k := 14) rfl rfl ?_
  refine s_at (t := 7) (k := 15) rfl rfl c1 rfl hi (by decide) hr ?_
  refine x_aload_n (k := 16) rfl rfl ?_
  refine x_cV (ci := 8) (k := 17) rfl (by rfl) (wV_at hR (c_copyW hj hV hg.2.1 hg.1 hg.2.2)) okX8_copyFrom viX8_copyFrom mlRX4_26 ⟨Nat.le_of_ble_eq_true rfl, Nat.le_of_ble_eq_true rfl⟩ (by exact Nat.le_of_ble_eq_true rfl) rfl rfl (isW_0 hR) (by exact Nat.le_of_ble_eq_true rfl) ?_
  refine x_aload_n (k := 18) rfl rfl ?_
  refine x_get (k := 19) rfl flRX4_22 (by rw [setW_out (by omega)]; exact c0) rfl ?_
  refine x_iload_n (k := 20) rfl rfl ?_
  refine x_iconst (v := 1) (k := 21) rfl (by decide) ?_
  refine z_put (k := 22) rfl (by rw [setW_out (by omega)]; exact c2) rfl hi (by decide) nar1 ?_
  exact x_rD (k := 23) rfl rfl rfl
theorem c_fillR {G : xG} {t : xA} {σ i : Nat} {rw : Nat → Option Nat} {fl : Nat → Int32} {r v : Nat} {R V : Wd} (c0 : t.1 σ = some (eO 4 (stF σ))) (c1 : t.1 (σ + 41) = some (eR G 7 2 rw)) (c2 : t.1 (σ + 42) = some (eZ G 2 fl)) (hi : i < 2) (hr : rw i = some r) (hR : isW G t r R) (hV : isW G t v V) (hj : dj v r) (hσ : σ + 43 ≤ r ∨ r + 40 ≤ σ) (hg : wGood V) : xV G MX4_fillSlot [.ref σ, .int (nI i), .ref v] t (aUp (setW G t r (sCopy R V)) (σ + 42) (eZ G 2 (upd fl i 1))) := by
  refine x_aload_n (k := 0) rfl rfl ?_
  refine x_get (k := 1) rfl flRX4_18 c0 rfl ?_
  refine x_iload_n (k := 2) rfl rfl ?_
  refine s_at (t := 7) (k := 3) rfl rfl c1 rfl hi (by decide) hr ?_
  refine x_ifnonnull (tgt := 22) (k := 4) rfl (by decide) ?_
  exact l_fill c0 c1 c2 hi hr hR hV hj hσ hg _ rfl rfl rfl
/-- a row made anew -/
def mkW (G : xG) (t : xA) : xA := ((setW G (aNew t 10 (eO 8 wZ)) t.2.1 W0).1, t.2.1 + 40, t.2.2 + 10 + 800)
theorem mkW_at {G : xG} {t : xA} {q : Nat} (h : q < t.2.1) : (mkW G t).1 q = t.1 q := by
  show (setW G (aNew t 10 (eO 8 wZ)) t.2.1 W0).1 q = t.1 q
  rw [setW_out (Or.inl h), aNew_ne (by omega)]
theorem mkW_is {G : xG} {t : xA} : isW G (mkW G t) t.2.1 W0 := fun k hk => setW_in (s := aNew t 10 (eO 8 wZ)) hk
theorem c_fillN {G : xG} {t : xA} {σ i : Nat} {rw : Nat → Option Nat} {fl : Nat → Int32} {v : Nat} {V : Wd} (c0 : t.1 σ = some (eO 4 (stF σ))) (c1 : t.1 (σ + 41) = some (eR G 7 2 rw)) (c2 : t.1 (σ + 42) = some (eZ G 2 fl)) (hi : i < 2) (hr : rw i = none) (hV : isW G t v V) (hv1 : ∀ k, k < 40 → v + k ≠ σ + 41) (hn : σ + 43 ≤ t.2.1) (hn2 : v + 40 ≤ t.2.1) (hg : wGood V) : xV G MX4_fillSlot [.ref σ, .int (nI i), .ref v] t (aUp (setW G (aUp (mkW G t) (σ + 41) (eR G 7 2 (va_up rw i (some t.2.1)))) t.2.1 (sCopy W0 V)) (σ + 42) (eZ G 2 (upd fl i 1))) := by
  refine x_aload_n (k := 0) rfl rfl ?_
  refine x_get (k := 1) rfl flRX4_18 c0 rfl ?_
  refine x_iload_n (k := 2) rfl rfl ?_
  refine s_at (t := 7) (k := 3) rfl rfl c1 rfl hi (by decide) hr ?_
  refine x_ifnonnullN (k := 4) rfl ?_
  refine x_aload_n (k := 5) rfl rfl ?_
  refine x_get (k := 6) rfl flRX4_18 c0 rfl ?_
  refine x_iload_n (k := 7) rfl rfl ?_
  refine x_new (ci := 8) (fs := wZ) (k := 8) rfl rfl clRX4_9 wn8 wi_RX8 tyX8 tyX8_ok (fun j hj => by have hj : j < 10 := hj; rcases (show j = 0 ∨ j = 1 ∨ j = 2 ∨ j = 3 ∨ j = 4 ∨ j = 5 ∨ j = 6 ∨ j = 7 ∨ j = 8 ∨ j = 9 by omega) with rfl | rfl | rfl | rfl | rfl | rfl | rfl | rfl | rfl | rfl <;> rfl) ?_
  refine x_dup (k := 9) rfl rfl ?_
  refine x_cI (k := 10) rfl (by rfl) (c_initW (w := t.2.1) aNew_at rfl) okX8_init rfl rfl viX8_init mlRX4_11 ⟨Nat.le_of_ble_eq_true rfl, Nat.le_of_ble_eq_true rfl⟩ (by exact Nat.le_of_ble_eq_true rfl) rfl (by exact Nat.le_of_ble_eq_true rfl) ?_
  refine x_st (s2 := mkW G t) rfl ?_
  refine x_aast (t := 7) (ci := 8) (k := 11) rfl rfl rfl (by rw [mkW_at (by omega)]; exact c1) (isW_0 mkW_is) (vp_inN rfl hi (by decide)) ?_
  rw [show (nI i).toNatClampNeg = i from nI_clamp (by omega)]
  exact l_fill (by rw [aUp_ne (by omega), mkW_at (by omega)]; exact c0) aUp_at (by rw [aUp_ne (by omega), mkW_at (by omega)]; exact c2) hi (by simp [va_up]) (isW_kept mkW_is (fun k hk => aUp_ne (by omega))) (isW_kept hV (fun k hk => by rw [aUp_ne (hv1 k hk), mkW_at (by omega)])) (Or.inl hn2) (Or.inl hn) hg _ rfl rfl rfl
-- ===== one State, with tags: which cells are whose =====
def St1 (G : xG) (t : xA) (own : Nat → Nat) (τ σ : Nat) (W : Wd) (rw : Nat → Option Nat) (fl : Nat → Int32) (Wr : Nat → Wd) : Prop :=
  (t.1 σ = some (eO 4 (stF σ)) ∧ isW G t (σ + 1) W ∧ t.1 (σ + 41) = some (eR G 7 2 rw) ∧ t.1 (σ + 42) = some (eZ G 2 fl)) ∧ (∀ k, k < 43 → own (σ + k) = τ) ∧ σ + 43 ≤ t.2.1 ∧ wGood W ∧
  ∀ i, i < 2 → (fl i = 0 ∨ fl i = 1) ∧ (fl i = 1 → ∃ r, rw i = some r) ∧ ∀ r, rw i = some r → isW G t r (Wr i) ∧ (∀ k, k < 40 → own (r + k) = τ + 1 + i) ∧ r + 40 ≤ t.2.1 ∧ (fl i = 1 → wGood (Wr i))
theorem St1.kept {G : xG} {t t1 : xA} {own own1 : Nat → Nat} {τ σ : Nat} {W : Wd} {rw : Nat → Option Nat} {fl : Nat → Int32} {Wr : Nat → Wd} (h : St1 G t own τ σ W rw fl Wr) (hk : ∀ q, q < t.2.1 → (own q = τ ∨ own q = τ + 1 ∨ own q = τ + 2) → t1.1 q = t.1 q) (hn : t.2.1 ≤ t1.2.1) (ho : ∀ q, q < t.2.1 → own1 q = own q) : St1 G t1 own1 τ σ W rw fl Wr := by
  obtain ⟨⟨c0, c1, c2, c3⟩, h1, h2, h3, h4⟩ := h
  have kk : ∀ k, k < 43 → t1.1 (σ + k) = t.1 (σ + k) := fun k h => hk _ (by omega) (Or.inl (h1 k h))
  refine ⟨⟨(kk 0 (by omega)).trans c0, isW_kept c1 (fun k h => ?_), (kk 41 (by omega)).trans c2, (kk 42 (by omega)).trans c3⟩, fun k h => (ho _ (by omega)).trans (h1 k h), by omega, h3, fun i hi => ⟨(h4 i hi).1, (h4 i hi).2.1, fun r hr => ?_⟩⟩
  · have := kk (1 + k) (by omega)
    rw [← Nat.add_assoc] at this
    exact this
  · obtain ⟨g1, g2, g3, g4⟩ := (h4 i hi).2.2 r hr
    refine ⟨isW_kept g1 (fun k h => hk _ (by omega) ?_), fun k h => (ho _ (by omega)).trans (g2 k h), by omega, g4⟩
    rw [g2 k h]
    omega
theorem dj_own {own : Nat → Nat} {a b τ υ : Nat} (h1 : ∀ k, k < 40 → own (a + k) = τ) (h2 : ∀ k, k < 40 → own (b + k) = υ) (h : τ ≠ υ) : dj a b := by
  unfold dj
  by_cases h3 : a + 40 ≤ b
  · exact Or.inl h3
  · by_cases h4 : b + 40 ≤ a
    · exact Or.inr h4
    · exfalso
      rcases Nat.le_total a b with h5 | h5
      · have e1 := h1 (b - a) (by omega)
        have e2 := h2 0 (by omega)
        rw [show a + (b - a) = b by omega] at e1
        exact h (e1.symm.trans e2)
      · have e1 := h1 0 (by omega)
        have e2 := h2 (a - b) (by omega)
        rw [show b + (a - b) = a by omega] at e2
        exact h (e1.symm.trans e2)
theorem out_own {own : Nat → Nat} {σ r τ υ : Nat} (h1 : ∀ k, k < 43 → own (σ + k) = τ) (h2 : ∀ k, k < 40 → own (r + k) = υ) (h : τ ≠ υ) : σ + 43 ≤ r ∨ r + 40 ≤ σ := by
  by_cases h3 : σ + 43 ≤ r
  · exact Or.inl h3
  · by_cases h4 : r + 40 ≤ σ
    · exact Or.inr h4
    · exfalso
      rcases Nat.le_total σ r with h5 | h5
      · have e1 := h1 (r - σ) (by omega)
        have e2 := h2 0 (by omega)
        rw [show σ + (r - σ) = r by omega] at e1
        exact h (e1.symm.trans e2)
      · have e1 := h1 0 (by omega)
        have e2 := h2 (σ - r) (by omega)
        rw [show r + (σ - r) = σ by omega] at e2
        exact h (e1.symm.trans e2)
/-- what a call did: it made at most c cells of m slots, and changed of the old ones only such with a tag of T -/
def Did (t t1 : xA) (own own1 : Nat → Nat) (T : Nat → Prop) (c m : Nat) : Prop := (∀ q, q < t.2.1 → ¬ T (own q) → t1.1 q = t.1 q) ∧ (∀ q, q < t.2.1 → own1 q = own q) ∧ t.2.1 ≤ t1.2.1 ∧ t1.2.1 ≤ t.2.1 + c ∧ t.2.2 ≤ t1.2.2 ∧ t1.2.2 ≤ t.2.2 + m
theorem Did.tr {t t1 t2 : xA} {own own1 own2 : Nat → Nat} {T T' T2 : Nat → Prop} {c m c' m' c2 m2 : Nat} (h : Did t t1 own own1 T c m) (h' : Did t1 t2 own1 own2 T' c' m') (hT : ∀ q, T q → T2 q) (hT' : ∀ q, T' q → T2 q) (hc : c + c' ≤ c2) (hm : m + m' ≤ m2) : Did t t2 own own2 T2 c2 m2 := by
  obtain ⟨a1, a2, a3, a4, a5, a6⟩ := h
  obtain ⟨b1, b2, b3, b4, b5, b6⟩ := h'
  refine ⟨fun q hq hn => ?_, fun q hq => ?_, by omega, by omega, by omega, by omega⟩
  · rw [b1 q (by omega) (fun z => hn (by rw [a2 q hq] at z; exact hT' _ z)), a1 q hq (fun z => hn (hT _ z))]
  · rw [b2 q (by omega), a2 q hq]
theorem Did.rf {t : xA} {own : Nat → Nat} {T : Nat → Prop} {c m : Nat} : Did t t own own T c m := ⟨fun _ _ _ => rfl, fun _ _ => rfl, Nat.le_refl _, by omega, Nat.le_refl _, by omega⟩
theorem Did.st {G : xG} {t t1 : xA} {own own1 : Nat → Nat} {T : Nat → Prop} {c m τ σ : Nat} {W : Wd} {rw : Nat → Option Nat} {fl : Nat → Int32} {Wr : Nat → Wd} (h : Did t t1 own own1 T c m) (hT : ¬ T τ ∧ ¬ T (τ + 1) ∧ ¬ T (τ + 2)) (hs : St1 G t own τ σ W rw fl Wr) : St1 G t1 own1 τ σ W rw fl Wr :=
  hs.kept (fun q hq ho => h.1 q hq (by rcases ho with e | e | e <;> rw [e] <;> first | exact hT.1 | exact hT.2.1 | exact hT.2.2)) h.2.2.1 h.2.1

def owN (own : Nat → Nat) (n τ : Nat) : Nat → Nat := fun q => if q < n then own q else τ
theorem owN_lt {own : Nat → Nat} {n τ q : Nat} (h : q < n) : owN own n τ q = own q := if_pos h
theorem owN_ge {own : Nat → Nat} {n τ q : Nat} (h : ¬ q < n) : owN own n τ q = τ := if_neg h
def up1 (Wr : Nat → Wd) (i : Nat) (V : Wd) : Nat → Wd := fun j => if j = i then V else Wr j
theorem fill_St {G : xG} {t : xA} {own : Nat → Nat} {τ σ i v υ : Nat} {W V : Wd} {rw : Nat → Option Nat} {fl : Nat → Int32} {Wr : Nat → Wd} (hs : St1 G t own τ σ W rw fl Wr) (hi : i < 2) (hV : isW G t v V) (hv : ∀ k, k < 40 → own (v + k) = υ) (hne : υ ≠ τ + 1 + i) (hn2 : v + 40 ≤ t.2.1) (hv1 : ∀ k, k < 40 → v + k ≠ σ + 41 ∧ v + k ≠ σ + 42) (hg : wGood V) :
    xMe G MX4_fillSlot [.ref σ, .int (nI i), .ref v] t (fun q t1 => q = none ∧ ∃ (own1 : Nat → Nat) (rw1 : Nat → Option Nat) (R : Wd), St1 G t1 own1 τ σ W rw1 (upd fl i 1) (up1 Wr i (sCopy R V)) ∧ isW G t1 v V ∧ Did t t1 own own1 (fun a => a = τ ∨ a = τ + 1 + i) 40 810) := by
  obtain ⟨⟨c0, c1, c2, c3⟩, h1, h2, h3, h4⟩ := hs
  have hgC : ∀ R, wGood (sCopy R V) := fun R => (sCopy_eq R V).good hg
  have hfl : ∀ j, j < 2 → ¬ j = i → upd fl i 1 j = fl j := fun j _ h => if_neg h
  have ht0 : t.2.1 < t.2.1 + 1 := Nat.lt_succ_self _
  cases hr : rw i with
  | some r =>
    obtain ⟨g1, g2, g3, g4⟩ := (h4 i hi).2.2 r hr
    have ho := out_own h1 g2 (by omega)
    have hj := dj_own hv g2 hne
    refine (c_fillR c0 c2 c3 hi hr g1 hV hj ho hg).mono (fun q t1 hq => ⟨hq.1, own, rw, Wr i, ?_, ?_, ?_⟩)
    · rw [hq.2]
      have hk : ∀ q, (q < r ∨ r + 40 ≤ q) → q ≠ σ + 42 → (aUp (setW G t r (sCopy (Wr i) V)) (σ + 42) (eZ G 2 (upd fl i 1))).1 q = t.1 q := fun q a b => by rw [aUp_ne b, setW_out a]
      refine ⟨⟨(hk σ (by omega) (by omega)).trans c0, isW_kept c1 (fun k h => hk _ (by omega) (by omega)), (hk _ (by omega) (by omega)).trans c2, aUp_at⟩, h1, h2, h3, fun j hj2 => ?_⟩
      by_cases e : j = i
      · subst e
        refine ⟨Or.inr (if_pos rfl), fun _ => ⟨r, hr⟩, fun r' hr' => ?_⟩
        rw [hr] at hr'
        cases hr'
        refine ⟨?_, g2, g3, fun _ => by rw [up1, if_pos rfl]; exact hgC _⟩
        rw [up1, if_pos rfl]
        exact isW_kept isW_set (fun k h => aUp_ne (by omega))
      · rw [hfl j hj2 e]
        refine ⟨(h4 j hj2).1, (h4 j hj2).2.1, fun r' hr' => ?_⟩
        obtain ⟨p1, p2, p3, p4⟩ := (h4 j hj2).2.2 r' hr'
        have ho' := out_own h1 p2 (by omega)
        have hj' := dj_own p2 g2 (by omega)
        rw [up1, if_neg e]
        unfold dj at hj'
        exact ⟨isW_kept p1 (fun k h => hk _ (by omega) (by omega)), p2, p3, p4⟩
    · rw [hq.2]
      unfold dj at hj
      exact isW_kept hV (fun k h => by rw [aUp_ne (hv1 k h).2, setW_out (by omega)])
    · rw [hq.2]
      refine ⟨fun q hq2 hn => ?_, fun _ _ => rfl, Nat.le_refl _, by show t.2.1 ≤ t.2.1 + 40; omega, Nat.le_refl _, by show t.2.2 ≤ t.2.2 + 810; omega⟩
      have e42 : q ≠ σ + 42 := fun e => hn (Or.inl (by rw [e]; exact h1 42 (by omega)))
      rw [aUp_ne e42, setW_out]
      by_cases a : q < r
      · exact Or.inl a
      · by_cases b : r + 40 ≤ q
        · exact Or.inr b
        · exact absurd (Or.inr (by have := g2 (q - r) (by omega); rw [show r + (q - r) = q by omega] at this; exact this)) hn
  | none =>
    refine (c_fillN c0 c2 c3 hi hr hV (fun k h => (hv1 k h).1) h2 hn2 hg).mono (fun q t1 hq => ⟨hq.1, owN own t.2.1 (τ + 1 + i), va_up rw i (some t.2.1), W0, ?_, ?_, ?_⟩)
    · rw [hq.2]
      have hk : ∀ q, q < t.2.1 → q ≠ σ + 41 → q ≠ σ + 42 → (aUp (setW G (aUp (mkW G t) (σ + 41) (eR G 7 2 (va_up rw i (some t.2.1)))) t.2.1 (sCopy W0 V)) (σ + 42) (eZ G 2 (upd fl i 1))).1 q = t.1 q := fun q a b c => by rw [aUp_ne c, setW_out (Or.inl a), aUp_ne b, mkW_at a]
      refine ⟨⟨(hk σ (by omega) (by omega) (by omega)).trans c0, isW_kept c1 (fun k h => hk _ (by omega) (by omega) (by omega)), by rw [aUp_ne (by omega), setW_out (Or.inl (by omega)), aUp_at], aUp_at⟩, fun k h => (owN_lt (by omega)).trans (h1 k h), by show σ + 43 ≤ t.2.1 + 40; omega, h3, fun j hj2 => ?_⟩
      by_cases e : j = i
      · subst e
        refine ⟨Or.inr (if_pos rfl), fun _ => ⟨t.2.1, if_pos rfl⟩, fun r' hr' => ?_⟩
        have hr2 : some t.2.1 = some r' := by rw [← hr']; exact (if_pos rfl).symm
        cases hr2
        refine ⟨?_, fun k h => owN_ge (by omega), by show t.2.1 + 40 ≤ t.2.1 + 40; omega, fun _ => by rw [up1, if_pos rfl]; exact hgC _⟩
        rw [up1, if_pos rfl]
        exact isW_kept isW_set (fun k h => aUp_ne (by omega))
      · rw [hfl j hj2 e]
        have er : va_up rw i (some t.2.1) j = rw j := if_neg e
        refine ⟨(h4 j hj2).1, fun h => by rw [er]; exact (h4 j hj2).2.1 h, fun r' hr' => ?_⟩
        rw [er] at hr'
        obtain ⟨p1, p2, p3, p4⟩ := (h4 j hj2).2.2 r' hr'
        have ho' := out_own h1 p2 (by omega)
        rw [up1, if_neg e]
        exact ⟨isW_kept p1 (fun k h => hk _ (by omega) (by omega) (by omega)), fun k h => (owN_lt (by omega)).trans (p2 k h), by show r' + 40 ≤ t.2.1 + 40; omega, p4⟩
    · rw [hq.2]
      exact isW_kept hV (fun k h => by rw [aUp_ne (hv1 k h).2, setW_out (Or.inl (by omega)), aUp_ne (hv1 k h).1, mkW_at (by omega)])
    · rw [hq.2]
      refine ⟨fun q hq2 hn => ?_, fun q hq2 => owN_lt hq2, by show t.2.1 ≤ t.2.1 + 40; omega, Nat.le_refl _, by show t.2.2 ≤ t.2.2 + 10 + 800; omega, Nat.le_refl _⟩
      have e42 : q ≠ σ + 42 := fun e => hn (Or.inl (by rw [e]; exact h1 42 (by omega)))
      have e41 : q ≠ σ + 41 := fun e => hn (Or.inl (by rw [e]; exact h1 41 (by omega)))
      rw [aUp_ne e42, setW_out (Or.inl hq2), aUp_ne e41, mkW_at hq2]
