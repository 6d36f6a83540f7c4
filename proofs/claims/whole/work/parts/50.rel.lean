-- ===== class and model: one state =====
def WRel (B : Nat) (W : Wd) (N : Nat → Int64) : Prop := ∃ hr f nt nk sz : Nat, RF hr f nt nk W N ∧ Gd hr f nt nk W ∧ W 4 0 0 = nI sz ∧ sz ≤ B
theorem WRel.up {B B' : Nat} {W : Wd} {N : Nat → Int64} (h : WRel B W N) (hb : B ≤ B') : WRel B' W N := by
  obtain ⟨hr, f, nt, nk, sz, h1, h2, h3, h4⟩ := h
  exact ⟨hr, f, nt, nk, sz, h1, h2, h3, Nat.le_trans h4 hb⟩
theorem WRel.cp {B : Nat} {R W : Wd} {N : Nat → Int64} (h : WRel B W N) (he : wEq R W) : WRel B R N := by
  obtain ⟨hr, f, nt, nk, sz, h1, h2, h3, h4⟩ := h
  exact ⟨hr, f, nt, nk, sz, RF.cp h1 he, Gd.cp h2 he, Eq.trans he.2.2.2.2.1 h3, h4⟩
theorem WRel.cg {B : Nat} {W : Wd} {N N' : Nat → Int64} (h : WRel B W N) (hN : ∀ j, j < 588 → N' j = N j) : WRel B W N' := by
  obtain ⟨hr, f, nt, nk, sz, h1, h2, h3, h4⟩ := h
  exact ⟨hr, f, nt, nk, sz, RF.cg h1 h2.1.1.1 hN, h2, h3, h4⟩
theorem WRel.good {B : Nat} {W : Wd} {N : Nat → Int64} (h : WRel B W N) (hB : B ≤ 512) : wGood W := by
  obtain ⟨hr, f, nt, nk, sz, h1, h2, h3, h4⟩ := h
  exact Gd.good h2 h3 (by omega)
def SlR (B : Nat) (S : SD) (N : Nat → Int64) (i : Nat) : Prop := (S.2.2.1 i = 0 ∧ N (588 + 589 * i) = 0) ∨ (S.2.2.1 i = 1 ∧ N (588 + 589 * i) = 1 ∧ WRel B (S.2.2.2 i) (fun j => N (588 + 589 * i + 1 + j)))
def SRel (B : Nat) (S : SD) (N : Nat → Int64) : Prop := WRel B S.1 N ∧ ∀ i, i < 2 → SlR B S N i
theorem SlR.up {B B' i : Nat} {S : SD} {N : Nat → Int64} (h : SlR B S N i) (hb : B ≤ B') : SlR B' S N i := h.imp id (fun z => ⟨z.1, z.2.1, WRel.up z.2.2 hb⟩)
theorem SRel.up {B B' : Nat} {S : SD} {N : Nat → Int64} (h : SRel B S N) (hb : B ≤ B') : SRel B' S N := ⟨WRel.up h.1 hb, fun i hi => SlR.up (h.2 i hi) hb⟩
theorem SlR.cg {B i : Nat} {S : SD} {N N' : Nat → Int64} (h : SlR B S N i) (hN : ∀ j, 588 + 589 * i ≤ j → j < 588 + 589 * i + 589 → N' j = N j) : SlR B S N' i := by
  rcases h with ⟨h1, h2⟩ | ⟨h1, h2, h3⟩
  · exact Or.inl ⟨h1, (hN _ (by omega) (by omega)).trans h2⟩
  · exact Or.inr ⟨h1, (hN _ (by omega) (by omega)).trans h2, WRel.cg h3 (fun j hj => hN _ (by omega) (by omega))⟩
theorem SRel.cg {B : Nat} {S : SD} {N N' : Nat → Int64} (h : SRel B S N) (hN : ∀ j, j < 1766 → N' j = N j) : SRel B S N' := ⟨WRel.cg h.1 (fun j hj => hN j (by omega)), fun i hi => SlR.cg (h.2 i hi) (fun j h1 h2 => hN j (by omega))⟩
theorem SRel.cp {B : Nat} {S S' : SD} {N : Nat → Int64} (h : SRel B S N) (h1 : wEq S'.1 S.1) (h2 : ∀ i, i < 2 → S'.2.2.1 i = S.2.2.1 i ∧ (S.2.2.1 i = 1 → wEq (S'.2.2.2 i) (S.2.2.2 i))) : SRel B S' N := by
  refine ⟨WRel.cp h.1 h1, fun i hi => ?_⟩
  obtain ⟨e1, e2⟩ := h2 i hi
  rcases h.2 i hi with ⟨a1, a2⟩ | ⟨a1, a2, a3⟩
  · exact Or.inl ⟨e1.trans a1, a2⟩
  · exact Or.inr ⟨e1.trans a1, a2, WRel.cp a3 (e2 a1)⟩
/-- which row of the ring is the j-th of what is kept -/
def hIx (nw kp j : Nat) : Nat := (nw + 6 + j - kp) % 5
def hSt (H : HD) (i : Nat) : SD := (H.2.2.2.1 i, H.2.2.2.2.1 i, H.2.2.2.2.2.1 i, H.2.2.2.2.2.2 i)
def HRel (B : Nat) (H : HD) (V : Vd) : Prop := (V.2.2 0 2 = nI H.2.1 ∧ H.2.1 ≤ 5 ∧ H.1 < 5) ∧ ∀ j, j < H.2.1 → (∃ σ, H.2.2.1 (hIx H.1 H.2.1 j) = some σ) ∧ SRel B (hSt H (hIx H.1 H.2.1 j)) (fun x => V.2.1 (j * 1766 + x))
theorem HRel.up {B B' : Nat} {H : HD} {V : Vd} (h : HRel B H V) (hb : B ≤ B') : HRel B' H V := ⟨h.1, fun j hj => ⟨(h.2 j hj).1, SRel.up (h.2 j hj).2 hb⟩⟩
theorem HRel.cg {B : Nat} {H : HD} {V V' : Vd} (h : HRel B H V) (h1 : V'.2.2 0 2 = V.2.2 0 2) (h2 : V'.2.1 = V.2.1) : HRel B H V' := ⟨⟨h1.trans h.1.1, h.1.2⟩, fun j hj => by rw [h2]; exact h.2 j hj⟩
theorem HRel.kept {B : Nat} {H H1 : HD} {S : SD} {V V' : Vd} (hH : HRel B H V) (hS : SRel B S V.1) (hK : KeptH H S H1) (h1 : V'.2.2 0 2 = (mRec V H.2.1).2.2 0 2) (h2 : V'.2.1 = (mRec V H.2.1).2.1) : HRel B H1 V' := by
  obtain ⟨σ, W1, rw1, fl1, Wr1, rfl, e1, e2⟩ := hK
  obtain ⟨nw, kp, ring, RW, Rrw, Rfl, RWr⟩ := H
  obtain ⟨⟨g1, g2, g3⟩, g4⟩ := hH
  have g2 : kp ≤ 5 := g2
  have g3 : nw < 5 := g3
  have hnew : SRel B (W1, rw1, fl1, Wr1) V.1 := SRel.cp hS e1 e2
  refine ⟨⟨h1.trans mRec_st, Nat.min_le_right _ _, Nat.mod_lt _ (by decide)⟩, fun j hj => ?_⟩
  have hj : j < min (kp + 1) 5 := hj
  show (∃ σ', va_up ring ((nw + 1) % 5) (some σ) (hIx ((nw + 1) % 5) (min (kp + 1) 5) j) = some σ') ∧ SRel B (upW RW ((nw + 1) % 5) W1 (hIx ((nw + 1) % 5) (min (kp + 1) 5) j), upW Rrw ((nw + 1) % 5) rw1 (hIx ((nw + 1) % 5) (min (kp + 1) 5) j), upW Rfl ((nw + 1) % 5) fl1 (hIx ((nw + 1) % 5) (min (kp + 1) 5) j), upW RWr ((nw + 1) % 5) Wr1 (hIx ((nw + 1) % 5) (min (kp + 1) 5) j)) (fun x => V'.2.1 (j * 1766 + x))
  have eK : V'.2.1 = rcK kp V.2.1 V.1 := h2
  rw [eK]
  by_cases h5 : kp = 5
  · subst h5
    have em : min (5 + 1) 5 = 5 := by decide
    rw [em] at hj ⊢
    by_cases hn : j = 4
    · subst hn
      have ei : hIx ((nw + 1) % 5) 5 4 = (nw + 1) % 5 := by unfold hIx; omega
      rw [ei, upW_at, upW_at, upW_at, upW_at]
      refine ⟨⟨σ, if_pos rfl⟩, SRel.cg hnew (fun x hx => ?_)⟩
      rw [rcK, if_pos rfl, rcB, if_pos (by omega), show 4 * 1766 + x - 4 * 1766 = x by omega]
    · have ei : hIx ((nw + 1) % 5) 5 j = hIx nw 5 (j + 1) := by unfold hIx; omega
      have ne : hIx nw 5 (j + 1) ≠ (nw + 1) % 5 := by unfold hIx; omega
      rw [ei, upW_ne ne, upW_ne ne, upW_ne ne, upW_ne ne]
      obtain ⟨⟨σ', q1⟩, q2⟩ := g4 (j + 1) (show j + 1 < 5 by omega)
      refine ⟨⟨σ', (if_neg ne).trans q1⟩, SRel.cg q2 (fun x hx => ?_)⟩
      rw [rcK, if_pos rfl, rcB, if_neg (by omega), rcA, if_pos (by omega), show j * 1766 + x + 1766 = (j + 1) * 1766 + x by omega]
  · have em : min (kp + 1) 5 = kp + 1 := by omega
    rw [em] at hj ⊢
    by_cases hn : j = kp
    · subst hn
      have ei : hIx ((nw + 1) % 5) (j + 1) j = (nw + 1) % 5 := by unfold hIx; omega
      rw [ei, upW_at, upW_at, upW_at, upW_at]
      refine ⟨⟨σ, if_pos rfl⟩, SRel.cg hnew (fun x hx => ?_)⟩
      rw [rcK, if_neg h5, rcB, if_pos (by omega), show j * 1766 + x - j * 1766 = x by omega]
    · have ei : hIx ((nw + 1) % 5) (kp + 1) j = hIx nw kp j := by unfold hIx; omega
      have ne : hIx nw kp j ≠ (nw + 1) % 5 := by unfold hIx; omega
      rw [ei, upW_ne ne, upW_ne ne, upW_ne ne, upW_ne ne]
      obtain ⟨⟨σ', q1⟩, q2⟩ := g4 j (show j < kp by omega)
      refine ⟨⟨σ', (if_neg ne).trans q1⟩, SRel.cg q2 (fun x hx => ?_)⟩
      have : j * 1766 + x < kp * 1766 := by
        have : (j + 1) * 1766 ≤ kp * 1766 := Nat.mul_le_mul_right _ (by omega)
        omega
      rw [rcK, if_neg h5, rcB, if_neg (by omega)]
theorem HRel.undo {B k : Nat} {H : HD} {V : Vd} (hH : HRel B H V) (hk : H.2.1 = k + 1) : SRel B (hSt H H.1) (fun x => V.2.1 (k * 1766 + x)) ∧ (∃ σ, H.2.2.1 H.1 = some σ) ∧ ∀ V' : Vd, V'.2.1 = V.2.1 → V'.2.2 0 2 = nI k → HRel B ((H.1 + 4) % 5, k, H.2.2) V' := by
  obtain ⟨nw, kp, ring, RW, Rrw, Rfl, RWr⟩ := H
  obtain ⟨⟨g1, g2, g3⟩, g4⟩ := hH
  have hk : kp = k + 1 := hk
  subst hk
  have g2 : k + 1 ≤ 5 := g2
  have g3 : nw < 5 := g3
  obtain ⟨q1, q2⟩ := g4 k (Nat.lt_succ_self _)
  have ei : hIx nw (k + 1) k = nw := by unfold hIx; omega
  have q1 : ∃ σ, ring (hIx nw (k + 1) k) = some σ := q1
  have q2 : SRel B (hSt (nw, k + 1, ring, RW, Rrw, Rfl, RWr) (hIx nw (k + 1) k)) (fun x => V.2.1 (k * 1766 + x)) := q2
  rw [ei] at q1 q2
  refine ⟨q2, q1, fun V' h1 h2 => ⟨⟨h2, show k ≤ 5 by omega, Nat.mod_lt _ (by decide)⟩, fun j hj => ?_⟩⟩
  have hj : j < k := hj
  show (∃ σ', ring (hIx ((nw + 4) % 5) k j) = some σ') ∧ SRel B (hSt (nw, k + 1, ring, RW, Rrw, Rfl, RWr) (hIx ((nw + 4) % 5) k j)) (fun x => V'.2.1 (j * 1766 + x))
  have ej : hIx ((nw + 4) % 5) k j = hIx nw (k + 1) j := by unfold hIx; omega
  rw [ej, h1]
  exact g4 j (show j < k + 1 by omega)
def TRel (T : Nat × (Nat → Int32)) (V : Vd) : Prop := (T.1 ≤ 80 ∧ V.2.2 0 4 = nI T.1) ∧ ∀ k, k < T.1 → V.2.2 1 k = T.2 k ∧ ∃ ch : Nat, ch < 256 ∧ T.2 k = nI ch
theorem TRel.cg {T : Nat × (Nat → Int32)} {V V' : Vd} (h : TRel T V) (h1 : V'.2.2 0 4 = V.2.2 0 4) (h2 : V'.2.2 1 = V.2.2 1) : TRel T V' := ⟨⟨h.1.1, h1.trans h.1.2⟩, fun k hk => by rw [h2]; exact h.2 k hk⟩
theorem TRel.tx {T : Nat × (Nat → Int32)} {V : Vd} (h : TRel T V) : TxM T.1 V := ⟨h.1.1, h.1.2, fun k hk => by
  obtain ⟨a, ch, b, c⟩ := h.2 k hk
  exact ⟨ch, b, a.trans c⟩⟩
/-- the class's state and the model's are the same, c calls made -/
def RelO (c : Nat) (D : OD) (V : Vd) : Prop := D.2.2.1.1 ≤ c ∧ SRel (c - D.2.2.1.1) D.1 V.1 ∧ HRel (c - D.2.2.1.1) D.2.1 V ∧ TRel D.2.2.1 V
theorem RelO.nx {c : Nat} {D : OD} {V : Vd} (h : RelO c D V) : RelO (c + 1) D V := ⟨Nat.le_succ_of_le h.1, SRel.up h.2.1 (by omega), HRel.up h.2.2.1 (by omega), h.2.2.2⟩
theorem RelO.act {c hr f nt nk sz : Nat} {D : OD} {V V' : Vd} {W' : Wd} {H1 : HD} (h : RelO c D V) (hc : Ch (mRec V D.2.1.2.1) hr f nt nk W' V') (hG : Gd hr f nt nk W') (hz : W' 4 0 0 = nI sz) (hsz : sz ≤ c + 1 - D.2.2.1.1) (hK : KeptH D.2.1 D.1 H1) : RelO (c + 1) ((W', D.1.2), H1, D.2.2) V' := by
  obtain ⟨h1, h2, h3, h4⟩ := h
  refine ⟨Nat.le_succ_of_le h1, ⟨⟨hr, f, nt, nk, sz, hc.2.2, hG, hz, hsz⟩, fun i hi => ?_⟩, ?_, ?_⟩
  · exact SlR.cg (SlR.up (h2.2 i hi) (show c - D.2.2.1.1 ≤ c + 1 - D.2.2.1.1 by omega)) (fun j a b => hc.2.1 j (by omega))
  · exact HRel.kept (HRel.up h3 (show c - D.2.2.1.1 ≤ c + 1 - D.2.2.1.1 by omega)) (SRel.up h2 (show c - D.2.2.1.1 ≤ c + 1 - D.2.2.1.1 by omega)) hK (by rw [hc.1]) (by rw [hc.1])
  · exact TRel.cg h4 (by rw [hc.1]; exact mRec_0 (by decide)) (by rw [hc.1]; exact mRec_r (by decide))
-- both in one heap
def isM (G : xG) (t : xA) (own : Nat → Nat) (m : Nat) (V : Vd) : Prop := (∀ k, k < 6 → t.1 (m + k) = some (mCell G m V k) ∧ own (m + k) = 3) ∧ m + 6 ≤ t.2.1
theorem isM.self {G : xG} {t : xA} {own : Nat → Nat} {m : Nat} {V : Vd} (h : isM G t own m V) : setM G t m V = t := by
  refine Prod.ext (funext fun q => ?_) rfl
  show (if m ≤ q ∧ q < m + 6 then some (mCell G m V (q - m)) else t.1 q) = t.1 q
  by_cases z : m ≤ q ∧ q < m + 6
  · rw [if_pos z]
    have := (h.1 (q - m) (by omega)).1
    rw [show m + (q - m) = q by omega] at this
    exact this.symm
  · rw [if_neg z]
theorem isM.kept {G : xG} {t t1 : xA} {own own1 : Nat → Nat} {m c k : Nat} {V : Vd} (h : isM G t own m V) (hd : Did t t1 own own1 clsT c k) : isM G t1 own1 m V := by
  have hz := h.2
  refine ⟨fun j hj => ⟨(Did.at hd (τ := 3) (by omega) (h.1 j hj).2 (fun z => z rfl)).trans (h.1 j hj).1, (hd.2.1 _ (by omega)).trans (h.1 j hj).2⟩, Nat.le_trans hz hd.2.2.1⟩
theorem isM.set {G : xG} {t : xA} {own : Nat → Nat} {m : Nat} {V : Vd} (V' : Vd) (h : isM G t own m V) : isM G (setM G t m V') own m V' ∧ Did t (setM G t m V') own own (fun a => a = 3) 0 0 := by
  refine ⟨⟨fun k hk => ⟨setM_in hk, (h.1 k hk).2⟩, h.2⟩, fun q hq hT => setM_out (Decidable.by_contra (fun z => hT ?_)), fun _ _ => rfl, Nat.le_refl _, Nat.le_refl _, Nat.le_refl _, Nat.le_refl _⟩
  have := (h.1 (q - m) (by omega)).2
  rw [show m + (q - m) = q by omega] at this
  exact this
def Sys (G : xG) (t : xA) (own : Nat → Nat) (a m c : Nat) (D : OD) (V : Vd) : Prop := Ob G t own a D ∧ isM G t own m V ∧ RelO c D V
/-- a call of both, in a system with c calls made: one answer, and again a system -/
def StepQ (G : xG) (MC MM : xM) (As : List Value) (a m c : Nat) (t : xA) : Prop := xMe G MC (.ref a :: As) t (fun r t1 => ∃ v : Int32, r = some (.int v) ∧ (t.2.1 ≤ t1.2.1 ∧ t1.2.1 ≤ t.2.1 + 163 ∧ t.2.2 ≤ t1.2.2 ∧ t1.2.2 ≤ t.2.2 + 3247) ∧ (∃ fs, t1.1 m = some (eO 10 fs)) ∧
  xMe G MM (.ref m :: As) t1 (fun r2 t2 => r2 = some (.int v) ∧ t2.2 = t1.2 ∧ ∃ (own2 : Nat → Nat) (D2 : OD) (V2 : Vd), Sys G t2 own2 a m (c + 1) D2 V2))
theorem step_mk {G : xG} {MC MM : xM} {As : List Value} {a m c : Nat} {t : xA} {own : Nat → Nat} {D : OD} {V : Vd} (hS : Sys G t own a m c D V) {v : Int32} {PC : OD → Prop} {PM : Vd → Prop}
    (hC : xMe G MC (.ref a :: As) t (fun r t1 => r = some (.int v) ∧ ∃ (own1 : Nat → Nat) (D1 : OD), Ob G t1 own1 a D1 ∧ Did t t1 own own1 clsT 163 3247 ∧ PC D1))
    (hM : ∀ s : xA, mMe G MM (.ref m :: As) s m V (fun r V' => r = some (.int v) ∧ PM V')) (hR : ∀ D1 V', PC D1 → PM V' → RelO (c + 1) D1 V') : StepQ G MC MM As a m c t := by
  refine hC.mono (fun r t1 q => ?_)
  obtain ⟨e, own1, D1, h1, h2, h3⟩ := q
  have hm := isM.kept hS.2.1 h2
  refine ⟨v, e, ⟨h2.2.2.1, h2.2.2.2.1, h2.2.2.2.2.1, h2.2.2.2.2.2⟩, ⟨_, (hm.1 0 (by decide)).1⟩, ?_⟩
  have k := hM t1
  unfold mMe at k
  rw [isM.self hm] at k
  refine xE.mono k (fun r2 t2 q2 => ?_)
  obtain ⟨V2, e2, e3, h4⟩ := q2
  obtain ⟨s1, s2⟩ := isM.set V2 hm
  rw [e2]
  exact ⟨e3, rfl, own1, D1, V2, Ob.kept h1 s2 (fun _ z => z), s1, hR D1 V2 h3 h4⟩
section CONV
variable {G : xG} {t : xA} {own : Nat → Nat} {a : Nat} {D : OD} {v : Int32} {M : xM} {As : List Value}
theorem cv_nu (h : Ob G t own a D) (hC : xMe G M (.ref a :: As) t (nuQ t v)) : xMe G M (.ref a :: As) t (fun r t1 => r = some (.int v) ∧ ∃ (own1 : Nat → Nat) (D1 : OD), Ob G t1 own1 a D1 ∧ Did t t1 own own1 clsT 163 3247 ∧ D1 = D) :=
  hC.mono (fun r t1 q => ⟨q.1, own, D, q.2 ▸ h, q.2 ▸ Did.rf, rfl⟩)
theorem cv_mu {W' : Wd} (hC : xMe G M (.ref a :: As) t (MuQ G t own a D v W')) : xMe G M (.ref a :: As) t (fun r t1 => r = some (.int v) ∧ ∃ (own1 : Nat → Nat) (D1 : OD), Ob G t1 own1 a D1 ∧ Did t t1 own own1 clsT 163 3247 ∧ ∃ H1, D1 = ((W', D.1.2), H1, D.2.2) ∧ KeptH D.2.1 D.1 H1) :=
  hC.mono (fun r t1 q => by
    obtain ⟨e, own1, H1, h1, h2, h3⟩ := q
    exact ⟨e, own1, _, h1, Did.mono h3 (fun _ z => z) (by decide) (by decide), H1, rfl, h2⟩)
end CONV
